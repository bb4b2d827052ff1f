/-! THE CONSTRUCTORS -/
def rm_X1_init : Room := { frames := 1, cells := 0, slots := 0, locals := 20 }
theorem hi_X1_init : yX1_init.cls ≠ "java/lang/invoke/MethodHandle" ∧ yX1_init.cls ≠ "java/lang/invoke/VarHandle" ∧ (parseMethodDescriptor yX1_init.desc).map (fun d => d.parameters.length) = some 0 := by decide +kernel
set_option maxRecDepth 100000 in
set_option maxHeartbeats 4000000 in
theorem c_X1_init (g : KG) (B0 : Nat) (l : Launch) (a z : Nat) : Mt g B0 l yX1_init cX1_init 1 none rm_X1_init [.ref a] nF (fun H => H.size = z) none (fun H => H.size = z) 0 0 := by
  refine Mt_of RX1 (by decide) rfl [(0, .ref a)] rfl (Nat.le_of_ble_eq_true rfl) ?_
  intro pr e s m args below meth c C hr hin hd
  refine y_aload_n C 0 dX1_init_0 rfl rfl ?_
  refine y_objInit C q76 q7 q8 (Nat.le_of_ble_eq_true rfl) (Nat.le_of_ble_eq_true rfl) dX1_init_1 ?_
  exact y_vret C hr hd dX1_init_4
def rm_X0_init : Room := { frames := 1, cells := 1, slots := 60, locals := 20 }
theorem hi_X0_init : yX0_init.cls ≠ "java/lang/invoke/MethodHandle" ∧ yX0_init.cls ≠ "java/lang/invoke/VarHandle" ∧ (parseMethodDescriptor yX0_init.desc).map (fun d => d.parameters.length) = some 0 := by decide +kernel
set_option maxRecDepth 100000 in
set_option maxHeartbeats 4000000 in
theorem c_X0_init (g : KG) (B0 : Nat) (l : Launch) (a : Nat) : Mt g B0 l yX0_init cX0_init 1 none rm_X0_init [.ref a] (fun q => a ≤ q) (fun H => H.size = a + 1 ∧ cA1 g a (.inr (0, [.int 0, .null])) H) none (fun H => H.size = a + 2) 1 60 := by
  refine Mt_of RX0 (by decide) rfl [(0, .ref a)] rfl (Nat.le_of_ble_eq_true rfl) ?_
  intro pr e s m args below meth c C hr hin hd
  obtain ⟨hz, c0⟩ := hd
  refine y_aload_n C 0 dX0_init_0 rfl rfl ?_
  refine y_objInit C q88 q7 q8 (Nat.le_of_ble_eq_true rfl) (Nat.le_of_ble_eq_true rfl) dX0_init_1 ?_
  refine y_aload_n C 0 dX0_init_4 rfl rfl ?_
  refine y_iconst C (0) dX0_init_5 (by decide) ?_
  refine y_put0 C c0 (by show _ ≤ _; omega) 0 (by decide) q89 rfl rfl (ty := .int) (by decide +kernel) rfl rfl (Nat.le_of_ble_eq_true rfl) dX0_init_6 (fun H c0 ow1 zw1 => ?_)
  have hz := zw1.trans hz
  have c0 : cA1 g a (.inr (0, [.int (0 : Int32), .null])) H := c0
  refine y_aload_n C 0 dX0_init_9 rfl rfl ?_
  refine y_bipush C (60) dX0_init_10 (by decide) ?_
  refine y_newac C (N' := 60) q90 (by decide) (by decide) (Nat.le_of_ble_eq_true rfl) (Nat.le_of_ble_eq_true rfl) (Nat.le_of_ble_eq_true rfl) dX0_init_12 hz (fun H hnw zn on => ?_)
  have c0 := va_at.kept c0 (on _ (by omega))
  have hz : H.size = a + 2 := zn
  have c1 := hnw
  refine y_put0F C c0 (by show _ ≤ _; omega) 1 (by decide) q91 rfl rfl (hin rfl) rfl (ty := (.array .char)) (by decide +kernel) rfl rfl (Nat.le_of_ble_eq_true rfl) dX0_init_14 (fun H c0 ow1 zw1 => ?_)
  have c1 := va_at.kept c1 (ow1 _ (by omega))
  have hz := zw1.trans hz
  have c0 : cA1 g a (.inr (0, [.int (0 : Int32), .ref (a + 1)])) H := c0
  exact y_vret C hr hz dX0_init_17
def rm_X5_init : Room := { frames := 1, cells := 7, slots := 60, locals := 20 }
theorem hi_X5_init : yX5_init.cls ≠ "java/lang/invoke/MethodHandle" ∧ yX5_init.cls ≠ "java/lang/invoke/VarHandle" ∧ (parseMethodDescriptor yX5_init.desc).map (fun d => d.parameters.length) = some 0 := by decide +kernel
set_option maxRecDepth 100000 in
set_option maxHeartbeats 4000000 in
theorem c_X5_init (g : KG) (B0 : Nat) (l : Launch) (a : Nat) : Mt g B0 l yX5_init cX5_init 1 none rm_X5_init [.ref (a + 3)] (fun q => a + 3 ≤ q) (fun H => H.size = a + 4 ∧ cA1 g (a + 3) (.inr (5, [.null, .null, .null, .null, .int 0, .null, .null, .null])) H) none (fun H => H.size = a + 11 ∧ dks g a dNew 3 11 H) 7 60 := by
  refine Mt_of RX5 (by decide) rfl [(0, .ref (a + 3))] rfl (Nat.le_of_ble_eq_true rfl) ?_
  intro pr e s m args below meth c C hr hin hd
  obtain ⟨hz, c3⟩ := hd
  refine y_aload_n C 0 dX5_init_0 rfl rfl ?_
  refine y_objInit C q52 q7 q8 (Nat.le_of_ble_eq_true rfl) (Nat.le_of_ble_eq_true rfl) dX5_init_1 ?_
  refine y_aload_n C 0 dX5_init_4 rfl rfl ?_
  refine y_bipush C (6) dX5_init_5 (by decide) ?_
  refine y_newai C (N' := 6) q35 (by decide) (by decide) (Nat.le_of_ble_eq_true rfl) (Nat.le_of_ble_eq_true rfl) (Nat.le_of_ble_eq_true rfl) dX5_init_7 hz (fun H hnw zn on => ?_)
  have c3 := va_at.kept c3 (on _ (by omega))
  have hz : H.size = a + 5 := zn
  have c4 := hnw
  refine y_dup C dX5_init_9 rfl ?_
  refine y_iconst C (0) dX5_init_10 (by decide) ?_
  refine y_bipush C (100) dX5_init_11 (by decide) ?_
  refine y_iast C c4 (by show _ ≤ _; omega) 0 rfl (by decide) (by decide) dX5_init_13 (fun H c4 ow1 zw1 => ?_)
  have c3 := va_at.kept c3 (ow1 _ (by omega))
  have hz := zw1.trans hz
  refine y_dup C dX5_init_14 rfl ?_
  refine y_iconst C (1) dX5_init_15 (by decide) ?_
  refine y_bipush C (100) dX5_init_16 (by decide) ?_
  refine y_iast C c4 (by show _ ≤ _; omega) 1 rfl (by decide) (by decide) dX5_init_18 (fun H c4 ow1 zw1 => ?_)
  have c3 := va_at.kept c3 (ow1 _ (by omega))
  have hz := zw1.trans hz
  refine y_dup C dX5_init_19 rfl ?_
  refine y_iconst C (2) dX5_init_20 (by decide) ?_
  refine y_bipush C (100) dX5_init_21 (by decide) ?_
  refine y_iast C c4 (by show _ ≤ _; omega) 2 rfl (by decide) (by decide) dX5_init_23 (fun H c4 ow1 zw1 => ?_)
  have c3 := va_at.kept c3 (ow1 _ (by omega))
  have hz := zw1.trans hz
  refine y_dup C dX5_init_24 rfl ?_
  refine y_iconst C (3) dX5_init_25 (by decide) ?_
  refine y_bipush C (100) dX5_init_26 (by decide) ?_
  refine y_iast C c4 (by show _ ≤ _; omega) 3 rfl (by decide) (by decide) dX5_init_28 (fun H c4 ow1 zw1 => ?_)
  have c3 := va_at.kept c3 (ow1 _ (by omega))
  have hz := zw1.trans hz
  refine y_dup C dX5_init_29 rfl ?_
  refine y_iconst C (4) dX5_init_30 (by decide) ?_
  refine y_bipush C (100) dX5_init_31 (by decide) ?_
  refine y_iast C c4 (by show _ ≤ _; omega) 4 rfl (by decide) (by decide) dX5_init_33 (fun H c4 ow1 zw1 => ?_)
  have c3 := va_at.kept c3 (ow1 _ (by omega))
  have hz := zw1.trans hz
  refine y_dup C dX5_init_34 rfl ?_
  refine y_iconst C (5) dX5_init_35 (by decide) ?_
  refine y_bipush C (100) dX5_init_36 (by decide) ?_
  refine y_iast C c4 (by show _ ≤ _; omega) 5 rfl (by decide) (by decide) dX5_init_38 (fun H c4 ow1 zw1 => ?_)
  have c3 := va_at.kept c3 (ow1 _ (by omega))
  have hz := zw1.trans hz
  refine y_put5F C c3 (by show _ ≤ _; omega) 0 (by decide) q53 rfl rfl (hin rfl) rfl (ty := (.array .int)) (by decide +kernel) rfl rfl (Nat.le_of_ble_eq_true rfl) dX5_init_39 (fun H c3 ow1 zw1 => ?_)
  have c4 := va_at.kept c4 (ow1 _ (by omega))
  have hz := zw1.trans hz
  have c3 : cA1 g (a + 3) (.inr (5, [.ref (a + 4), .null, .null, .null, .int 0, .null, .null, .null])) H := c3
  refine y_aload_n C 0 dX5_init_42 rfl rfl ?_
  refine y_bipush C (6) dX5_init_43 (by decide) ?_
  refine y_newai C (N' := 6) q35 (by decide) (by decide) (Nat.le_of_ble_eq_true rfl) (Nat.le_of_ble_eq_true rfl) (Nat.le_of_ble_eq_true rfl) dX5_init_45 hz (fun H hnw zn on => ?_)
  have c3 := va_at.kept c3 (on _ (by omega))
  have c4 := va_at.kept c4 (on _ (by omega))
  have hz : H.size = a + 6 := zn
  have c5 := hnw
  refine y_dup C dX5_init_47 rfl ?_
  refine y_iconst C (0) dX5_init_48 (by decide) ?_
  refine y_iconst C (2) dX5_init_49 (by decide) ?_
  refine y_iast C c5 (by show _ ≤ _; omega) 0 rfl (by decide) (by decide) dX5_init_50 (fun H c5 ow1 zw1 => ?_)
  have c3 := va_at.kept c3 (ow1 _ (by omega))
  have c4 := va_at.kept c4 (ow1 _ (by omega))
  have hz := zw1.trans hz
  refine y_dup C dX5_init_51 rfl ?_
  refine y_iconst C (1) dX5_init_52 (by decide) ?_
  refine y_iconst C (2) dX5_init_53 (by decide) ?_
  refine y_iast C c5 (by show _ ≤ _; omega) 1 rfl (by decide) (by decide) dX5_init_54 (fun H c5 ow1 zw1 => ?_)
  have c3 := va_at.kept c3 (ow1 _ (by omega))
  have c4 := va_at.kept c4 (ow1 _ (by omega))
  have hz := zw1.trans hz
  refine y_dup C dX5_init_55 rfl ?_
  refine y_iconst C (2) dX5_init_56 (by decide) ?_
  refine y_iconst C (2) dX5_init_57 (by decide) ?_
  refine y_iast C c5 (by show _ ≤ _; omega) 2 rfl (by decide) (by decide) dX5_init_58 (fun H c5 ow1 zw1 => ?_)
  have c3 := va_at.kept c3 (ow1 _ (by omega))
  have c4 := va_at.kept c4 (ow1 _ (by omega))
  have hz := zw1.trans hz
  refine y_dup C dX5_init_59 rfl ?_
  refine y_iconst C (3) dX5_init_60 (by decide) ?_
  refine y_iconst C (2) dX5_init_61 (by decide) ?_
  refine y_iast C c5 (by show _ ≤ _; omega) 3 rfl (by decide) (by decide) dX5_init_62 (fun H c5 ow1 zw1 => ?_)
  have c3 := va_at.kept c3 (ow1 _ (by omega))
  have c4 := va_at.kept c4 (ow1 _ (by omega))
  have hz := zw1.trans hz
  refine y_dup C dX5_init_63 rfl ?_
  refine y_iconst C (4) dX5_init_64 (by decide) ?_
  refine y_iconst C (2) dX5_init_65 (by decide) ?_
  refine y_iast C c5 (by show _ ≤ _; omega) 4 rfl (by decide) (by decide) dX5_init_66 (fun H c5 ow1 zw1 => ?_)
  have c3 := va_at.kept c3 (ow1 _ (by omega))
  have c4 := va_at.kept c4 (ow1 _ (by omega))
  have hz := zw1.trans hz
  refine y_dup C dX5_init_67 rfl ?_
  refine y_iconst C (5) dX5_init_68 (by decide) ?_
  refine y_iconst C (2) dX5_init_69 (by decide) ?_
  refine y_iast C c5 (by show _ ≤ _; omega) 5 rfl (by decide) (by decide) dX5_init_70 (fun H c5 ow1 zw1 => ?_)
  have c3 := va_at.kept c3 (ow1 _ (by omega))
  have c4 := va_at.kept c4 (ow1 _ (by omega))
  have hz := zw1.trans hz
  refine y_put5F C c3 (by show _ ≤ _; omega) 1 (by decide) q54 rfl rfl (hin rfl) rfl (ty := (.array .int)) (by decide +kernel) rfl rfl (Nat.le_of_ble_eq_true rfl) dX5_init_71 (fun H c3 ow1 zw1 => ?_)
  have c4 := va_at.kept c4 (ow1 _ (by omega))
  have c5 := va_at.kept c5 (ow1 _ (by omega))
  have hz := zw1.trans hz
  have c3 : cA1 g (a + 3) (.inr (5, [.ref (a + 4), .ref (a + 5), .null, .null, .int 0, .null, .null, .null])) H := c3
  refine y_aload_n C 0 dX5_init_74 rfl rfl ?_
  refine y_bipush C (6) dX5_init_75 (by decide) ?_
  refine y_newai C (N' := 6) q35 (by decide) (by decide) (Nat.le_of_ble_eq_true rfl) (Nat.le_of_ble_eq_true rfl) (Nat.le_of_ble_eq_true rfl) dX5_init_77 hz (fun H hnw zn on => ?_)
  have c3 := va_at.kept c3 (on _ (by omega))
  have c4 := va_at.kept c4 (on _ (by omega))
  have c5 := va_at.kept c5 (on _ (by omega))
  have hz : H.size = a + 7 := zn
  have c6 := hnw
  refine y_put5F C c3 (by show _ ≤ _; omega) 2 (by decide) q55 rfl rfl (hin rfl) rfl (ty := (.array .int)) (by decide +kernel) rfl rfl (Nat.le_of_ble_eq_true rfl) dX5_init_79 (fun H c3 ow1 zw1 => ?_)
  have c4 := va_at.kept c4 (ow1 _ (by omega))
  have c5 := va_at.kept c5 (ow1 _ (by omega))
  have c6 := va_at.kept c6 (ow1 _ (by omega))
  have hz := zw1.trans hz
  have c3 : cA1 g (a + 3) (.inr (5, [.ref (a + 4), .ref (a + 5), .ref (a + 6), .null, .int 0, .null, .null, .null])) H := c3
  refine y_aload_n C 0 dX5_init_82 rfl rfl ?_
  refine y_bipush C (6) dX5_init_83 (by decide) ?_
  refine y_newai C (N' := 6) q35 (by decide) (by decide) (Nat.le_of_ble_eq_true rfl) (Nat.le_of_ble_eq_true rfl) (Nat.le_of_ble_eq_true rfl) dX5_init_85 hz (fun H hnw zn on => ?_)
  have c3 := va_at.kept c3 (on _ (by omega))
  have c4 := va_at.kept c4 (on _ (by omega))
  have c5 := va_at.kept c5 (on _ (by omega))
  have c6 := va_at.kept c6 (on _ (by omega))
  have hz : H.size = a + 8 := zn
  have c7 := hnw
  refine y_put5F C c3 (by show _ ≤ _; omega) 3 (by decide) q56 rfl rfl (hin rfl) rfl (ty := (.array .int)) (by decide +kernel) rfl rfl (Nat.le_of_ble_eq_true rfl) dX5_init_87 (fun H c3 ow1 zw1 => ?_)
  have c4 := va_at.kept c4 (ow1 _ (by omega))
  have c5 := va_at.kept c5 (ow1 _ (by omega))
  have c6 := va_at.kept c6 (ow1 _ (by omega))
  have c7 := va_at.kept c7 (ow1 _ (by omega))
  have hz := zw1.trans hz
  have c3 : cA1 g (a + 3) (.inr (5, [.ref (a + 4), .ref (a + 5), .ref (a + 6), .ref (a + 7), .int 0, .null, .null, .null])) H := c3
  refine y_aload_n C 0 dX5_init_90 rfl rfl ?_
  refine y_iconst C (0) dX5_init_91 (by decide) ?_
  refine y_put5 C c3 (by show _ ≤ _; omega) 4 (by decide) q57 rfl rfl (ty := .int) (by decide +kernel) rfl rfl (Nat.le_of_ble_eq_true rfl) dX5_init_92 (fun H c3 ow1 zw1 => ?_)
  have c4 := va_at.kept c4 (ow1 _ (by omega))
  have c5 := va_at.kept c5 (ow1 _ (by omega))
  have c6 := va_at.kept c6 (ow1 _ (by omega))
  have c7 := va_at.kept c7 (ow1 _ (by omega))
  have hz := zw1.trans hz
  have c3 : cA1 g (a + 3) (.inr (5, [.ref (a + 4), .ref (a + 5), .ref (a + 6), .ref (a + 7), .int (0 : Int32), .null, .null, .null])) H := c3
  refine y_aload_n C 0 dX5_init_95 rfl rfl ?_
  refine y_bipush C (12) dX5_init_96 (by decide) ?_
  refine y_newai C (N' := 12) q35 (by decide) (by decide) (Nat.le_of_ble_eq_true rfl) (Nat.le_of_ble_eq_true rfl) (Nat.le_of_ble_eq_true rfl) dX5_init_98 hz (fun H hnw zn on => ?_)
  have c3 := va_at.kept c3 (on _ (by omega))
  have c4 := va_at.kept c4 (on _ (by omega))
  have c5 := va_at.kept c5 (on _ (by omega))
  have c6 := va_at.kept c6 (on _ (by omega))
  have c7 := va_at.kept c7 (on _ (by omega))
  have hz : H.size = a + 9 := zn
  have c8 := hnw
  refine y_put5F C c3 (by show _ ≤ _; omega) 5 (by decide) q58 rfl rfl (hin rfl) rfl (ty := (.array .int)) (by decide +kernel) rfl rfl (Nat.le_of_ble_eq_true rfl) dX5_init_100 (fun H c3 ow1 zw1 => ?_)
  have c4 := va_at.kept c4 (ow1 _ (by omega))
  have c5 := va_at.kept c5 (ow1 _ (by omega))
  have c6 := va_at.kept c6 (ow1 _ (by omega))
  have c7 := va_at.kept c7 (ow1 _ (by omega))
  have c8 := va_at.kept c8 (ow1 _ (by omega))
  have hz := zw1.trans hz
  have c3 : cA1 g (a + 3) (.inr (5, [.ref (a + 4), .ref (a + 5), .ref (a + 6), .ref (a + 7), .int (0 : Int32), .ref (a + 8), .null, .null])) H := c3
  refine y_aload_n C 0 dX5_init_103 rfl rfl ?_
  refine y_bipush C (12) dX5_init_104 (by decide) ?_
  refine y_newai C (N' := 12) q35 (by decide) (by decide) (Nat.le_of_ble_eq_true rfl) (Nat.le_of_ble_eq_true rfl) (Nat.le_of_ble_eq_true rfl) dX5_init_106 hz (fun H hnw zn on => ?_)
  have c3 := va_at.kept c3 (on _ (by omega))
  have c4 := va_at.kept c4 (on _ (by omega))
  have c5 := va_at.kept c5 (on _ (by omega))
  have c6 := va_at.kept c6 (on _ (by omega))
  have c7 := va_at.kept c7 (on _ (by omega))
  have c8 := va_at.kept c8 (on _ (by omega))
  have hz : H.size = a + 10 := zn
  have c9 := hnw
  refine y_put5F C c3 (by show _ ≤ _; omega) 6 (by decide) q59 rfl rfl (hin rfl) rfl (ty := (.array .int)) (by decide +kernel) rfl rfl (Nat.le_of_ble_eq_true rfl) dX5_init_108 (fun H c3 ow1 zw1 => ?_)
  have c4 := va_at.kept c4 (ow1 _ (by omega))
  have c5 := va_at.kept c5 (ow1 _ (by omega))
  have c6 := va_at.kept c6 (ow1 _ (by omega))
  have c7 := va_at.kept c7 (ow1 _ (by omega))
  have c8 := va_at.kept c8 (ow1 _ (by omega))
  have c9 := va_at.kept c9 (ow1 _ (by omega))
  have hz := zw1.trans hz
  have c3 : cA1 g (a + 3) (.inr (5, [.ref (a + 4), .ref (a + 5), .ref (a + 6), .ref (a + 7), .int (0 : Int32), .ref (a + 8), .ref (a + 9), .null])) H := c3
  refine y_aload_n C 0 dX5_init_111 rfl rfl ?_
  refine y_bipush C (12) dX5_init_112 (by decide) ?_
  refine y_newai C (N' := 12) q35 (by decide) (by decide) (Nat.le_of_ble_eq_true rfl) (Nat.le_of_ble_eq_true rfl) (Nat.le_of_ble_eq_true rfl) dX5_init_114 hz (fun H hnw zn on => ?_)
  have c3 := va_at.kept c3 (on _ (by omega))
  have c4 := va_at.kept c4 (on _ (by omega))
  have c5 := va_at.kept c5 (on _ (by omega))
  have c6 := va_at.kept c6 (on _ (by omega))
  have c7 := va_at.kept c7 (on _ (by omega))
  have c8 := va_at.kept c8 (on _ (by omega))
  have c9 := va_at.kept c9 (on _ (by omega))
  have hz : H.size = a + 11 := zn
  have c10 := hnw
  refine y_put5F C c3 (by show _ ≤ _; omega) 7 (by decide) q60 rfl rfl (hin rfl) rfl (ty := (.array .int)) (by decide +kernel) rfl rfl (Nat.le_of_ble_eq_true rfl) dX5_init_116 (fun H c3 ow1 zw1 => ?_)
  have c4 := va_at.kept c4 (ow1 _ (by omega))
  have c5 := va_at.kept c5 (ow1 _ (by omega))
  have c6 := va_at.kept c6 (ow1 _ (by omega))
  have c7 := va_at.kept c7 (ow1 _ (by omega))
  have c8 := va_at.kept c8 (ow1 _ (by omega))
  have c9 := va_at.kept c9 (ow1 _ (by omega))
  have c10 := va_at.kept c10 (ow1 _ (by omega))
  have hz := zw1.trans hz
  have c3 : cA1 g (a + 3) (.inr (5, [.ref (a + 4), .ref (a + 5), .ref (a + 6), .ref (a + 7), .int (0 : Int32), .ref (a + 8), .ref (a + 9), .ref (a + 10)])) H := c3
  exact y_vret C hr ⟨hz, fun i h1 h2 => match i, h1, h2 with | 3, _, _ => c3 | 4, _, _ => cA1i_same c4 (lt6 ⟨rfl, rfl, rfl, rfl, rfl, rfl⟩) | 5, _, _ => cA1i_same c5 (lt6 ⟨rfl, rfl, rfl, rfl, rfl, rfl⟩) | 6, _, _ => c6 | 7, _, _ => c7 | 8, _, _ => c8 | 9, _, _ => c9 | 10, _, _ => c10 | 0, h1, _ => absurd h1 (by omega) | 1, h1, _ => absurd h1 (by omega) | 2, h1, _ => absurd h1 (by omega) | n + 11, _, h2 => absurd h2 (by omega)⟩ dX5_init_119
def rm_X4_init : Room := { frames := 1, cells := 8, slots := 160, locals := 20 }
theorem hi_X4_init : yX4_init.cls ≠ "java/lang/invoke/MethodHandle" ∧ yX4_init.cls ≠ "java/lang/invoke/VarHandle" ∧ (parseMethodDescriptor yX4_init.desc).map (fun d => d.parameters.length) = some 0 := by decide +kernel
set_option maxRecDepth 100000 in
set_option maxHeartbeats 4000000 in
theorem c_X4_init (g : KG) (B0 : Nat) (l : Launch) (a : Nat) : Mt g B0 l yX4_init cX4_init 1 none rm_X4_init [.ref (a + 11)] (fun q => a + 11 ≤ q) (fun H => H.size = a + 12 ∧ cA1 g (a + 11) (.inr (4, [.int 0, .null, .null, .null, .null, .null, .null, .null, .null])) H) none (fun H => H.size = a + 20 ∧ dks g a dNew 11 20 H) 8 160 := by
  refine Mt_of RX4 (by decide) rfl [(0, .ref (a + 11))] rfl (Nat.le_of_ble_eq_true rfl) ?_
  intro pr e s m args below meth c C hr hin hd
  obtain ⟨hz, c11⟩ := hd
  refine y_aload_n C 0 dX4_init_0 rfl rfl ?_
  refine y_objInit C q64 q7 q8 (Nat.le_of_ble_eq_true rfl) (Nat.le_of_ble_eq_true rfl) dX4_init_1 ?_
  refine y_aload_n C 0 dX4_init_4 rfl rfl ?_
  refine y_iconst C (0) dX4_init_5 (by decide) ?_
  refine y_put4 C c11 (by show _ ≤ _; omega) 0 (by decide) q65 rfl rfl (ty := .int) (by decide +kernel) rfl rfl (Nat.le_of_ble_eq_true rfl) dX4_init_6 (fun H c11 ow1 zw1 => ?_)
  have hz := zw1.trans hz
  have c11 : cA1 g (a + 11) (.inr (4, [.int (0 : Int32), .null, .null, .null, .null, .null, .null, .null, .null])) H := c11
  refine y_aload_n C 0 dX4_init_9 rfl rfl ?_
  refine y_bipush C (20) dX4_init_10 (by decide) ?_
  refine y_newai C (N' := 20) q35 (by decide) (by decide) (Nat.le_of_ble_eq_true rfl) (Nat.le_of_ble_eq_true rfl) (Nat.le_of_ble_eq_true rfl) dX4_init_12 hz (fun H hnw zn on => ?_)
  have c11 := va_at.kept c11 (on _ (by omega))
  have hz : H.size = a + 13 := zn
  have c12 := hnw
  refine y_put4F C c11 (by show _ ≤ _; omega) 1 (by decide) q66 rfl rfl (hin rfl) rfl (ty := (.array .int)) (by decide +kernel) rfl rfl (Nat.le_of_ble_eq_true rfl) dX4_init_14 (fun H c11 ow1 zw1 => ?_)
  have c12 := va_at.kept c12 (ow1 _ (by omega))
  have hz := zw1.trans hz
  have c11 : cA1 g (a + 11) (.inr (4, [.int (0 : Int32), .ref (a + 12), .null, .null, .null, .null, .null, .null, .null])) H := c11
  refine y_aload_n C 0 dX4_init_17 rfl rfl ?_
  refine y_bipush C (20) dX4_init_18 (by decide) ?_
  refine y_newai C (N' := 20) q35 (by decide) (by decide) (Nat.le_of_ble_eq_true rfl) (Nat.le_of_ble_eq_true rfl) (Nat.le_of_ble_eq_true rfl) dX4_init_20 hz (fun H hnw zn on => ?_)
  have c11 := va_at.kept c11 (on _ (by omega))
  have c12 := va_at.kept c12 (on _ (by omega))
  have hz : H.size = a + 14 := zn
  have c13 := hnw
  refine y_put4F C c11 (by show _ ≤ _; omega) 2 (by decide) q67 rfl rfl (hin rfl) rfl (ty := (.array .int)) (by decide +kernel) rfl rfl (Nat.le_of_ble_eq_true rfl) dX4_init_22 (fun H c11 ow1 zw1 => ?_)
  have c12 := va_at.kept c12 (ow1 _ (by omega))
  have c13 := va_at.kept c13 (ow1 _ (by omega))
  have hz := zw1.trans hz
  have c11 : cA1 g (a + 11) (.inr (4, [.int (0 : Int32), .ref (a + 12), .ref (a + 13), .null, .null, .null, .null, .null, .null])) H := c11
  refine y_aload_n C 0 dX4_init_25 rfl rfl ?_
  refine y_bipush C (20) dX4_init_26 (by decide) ?_
  refine y_newai C (N' := 20) q35 (by decide) (by decide) (Nat.le_of_ble_eq_true rfl) (Nat.le_of_ble_eq_true rfl) (Nat.le_of_ble_eq_true rfl) dX4_init_28 hz (fun H hnw zn on => ?_)
  have c11 := va_at.kept c11 (on _ (by omega))
  have c12 := va_at.kept c12 (on _ (by omega))
  have c13 := va_at.kept c13 (on _ (by omega))
  have hz : H.size = a + 15 := zn
  have c14 := hnw
  refine y_put4F C c11 (by show _ ≤ _; omega) 3 (by decide) q68 rfl rfl (hin rfl) rfl (ty := (.array .int)) (by decide +kernel) rfl rfl (Nat.le_of_ble_eq_true rfl) dX4_init_30 (fun H c11 ow1 zw1 => ?_)
  have c12 := va_at.kept c12 (ow1 _ (by omega))
  have c13 := va_at.kept c13 (ow1 _ (by omega))
  have c14 := va_at.kept c14 (ow1 _ (by omega))
  have hz := zw1.trans hz
  have c11 : cA1 g (a + 11) (.inr (4, [.int (0 : Int32), .ref (a + 12), .ref (a + 13), .ref (a + 14), .null, .null, .null, .null, .null])) H := c11
  refine y_aload_n C 0 dX4_init_33 rfl rfl ?_
  refine y_bipush C (20) dX4_init_34 (by decide) ?_
  refine y_newai C (N' := 20) q35 (by decide) (by decide) (Nat.le_of_ble_eq_true rfl) (Nat.le_of_ble_eq_true rfl) (Nat.le_of_ble_eq_true rfl) dX4_init_36 hz (fun H hnw zn on => ?_)
  have c11 := va_at.kept c11 (on _ (by omega))
  have c12 := va_at.kept c12 (on _ (by omega))
  have c13 := va_at.kept c13 (on _ (by omega))
  have c14 := va_at.kept c14 (on _ (by omega))
  have hz : H.size = a + 16 := zn
  have c15 := hnw
  refine y_put4F C c11 (by show _ ≤ _; omega) 4 (by decide) q69 rfl rfl (hin rfl) rfl (ty := (.array .int)) (by decide +kernel) rfl rfl (Nat.le_of_ble_eq_true rfl) dX4_init_38 (fun H c11 ow1 zw1 => ?_)
  have c12 := va_at.kept c12 (ow1 _ (by omega))
  have c13 := va_at.kept c13 (ow1 _ (by omega))
  have c14 := va_at.kept c14 (ow1 _ (by omega))
  have c15 := va_at.kept c15 (ow1 _ (by omega))
  have hz := zw1.trans hz
  have c11 : cA1 g (a + 11) (.inr (4, [.int (0 : Int32), .ref (a + 12), .ref (a + 13), .ref (a + 14), .ref (a + 15), .null, .null, .null, .null])) H := c11
  refine y_aload_n C 0 dX4_init_41 rfl rfl ?_
  refine y_bipush C (20) dX4_init_42 (by decide) ?_
  refine y_newai C (N' := 20) q35 (by decide) (by decide) (Nat.le_of_ble_eq_true rfl) (Nat.le_of_ble_eq_true rfl) (Nat.le_of_ble_eq_true rfl) dX4_init_44 hz (fun H hnw zn on => ?_)
  have c11 := va_at.kept c11 (on _ (by omega))
  have c12 := va_at.kept c12 (on _ (by omega))
  have c13 := va_at.kept c13 (on _ (by omega))
  have c14 := va_at.kept c14 (on _ (by omega))
  have c15 := va_at.kept c15 (on _ (by omega))
  have hz : H.size = a + 17 := zn
  have c16 := hnw
  refine y_put4F C c11 (by show _ ≤ _; omega) 5 (by decide) q70 rfl rfl (hin rfl) rfl (ty := (.array .int)) (by decide +kernel) rfl rfl (Nat.le_of_ble_eq_true rfl) dX4_init_46 (fun H c11 ow1 zw1 => ?_)
  have c12 := va_at.kept c12 (ow1 _ (by omega))
  have c13 := va_at.kept c13 (ow1 _ (by omega))
  have c14 := va_at.kept c14 (ow1 _ (by omega))
  have c15 := va_at.kept c15 (ow1 _ (by omega))
  have c16 := va_at.kept c16 (ow1 _ (by omega))
  have hz := zw1.trans hz
  have c11 : cA1 g (a + 11) (.inr (4, [.int (0 : Int32), .ref (a + 12), .ref (a + 13), .ref (a + 14), .ref (a + 15), .ref (a + 16), .null, .null, .null])) H := c11
  refine y_aload_n C 0 dX4_init_49 rfl rfl ?_
  refine y_bipush C (20) dX4_init_50 (by decide) ?_
  refine y_newai C (N' := 20) q35 (by decide) (by decide) (Nat.le_of_ble_eq_true rfl) (Nat.le_of_ble_eq_true rfl) (Nat.le_of_ble_eq_true rfl) dX4_init_52 hz (fun H hnw zn on => ?_)
  have c11 := va_at.kept c11 (on _ (by omega))
  have c12 := va_at.kept c12 (on _ (by omega))
  have c13 := va_at.kept c13 (on _ (by omega))
  have c14 := va_at.kept c14 (on _ (by omega))
  have c15 := va_at.kept c15 (on _ (by omega))
  have c16 := va_at.kept c16 (on _ (by omega))
  have hz : H.size = a + 18 := zn
  have c17 := hnw
  refine y_put4F C c11 (by show _ ≤ _; omega) 6 (by decide) q71 rfl rfl (hin rfl) rfl (ty := (.array .int)) (by decide +kernel) rfl rfl (Nat.le_of_ble_eq_true rfl) dX4_init_54 (fun H c11 ow1 zw1 => ?_)
  have c12 := va_at.kept c12 (ow1 _ (by omega))
  have c13 := va_at.kept c13 (ow1 _ (by omega))
  have c14 := va_at.kept c14 (ow1 _ (by omega))
  have c15 := va_at.kept c15 (ow1 _ (by omega))
  have c16 := va_at.kept c16 (ow1 _ (by omega))
  have c17 := va_at.kept c17 (ow1 _ (by omega))
  have hz := zw1.trans hz
  have c11 : cA1 g (a + 11) (.inr (4, [.int (0 : Int32), .ref (a + 12), .ref (a + 13), .ref (a + 14), .ref (a + 15), .ref (a + 16), .ref (a + 17), .null, .null])) H := c11
  refine y_aload_n C 0 dX4_init_57 rfl rfl ?_
  refine y_bipush C (20) dX4_init_58 (by decide) ?_
  refine y_newai C (N' := 20) q35 (by decide) (by decide) (Nat.le_of_ble_eq_true rfl) (Nat.le_of_ble_eq_true rfl) (Nat.le_of_ble_eq_true rfl) dX4_init_60 hz (fun H hnw zn on => ?_)
  have c11 := va_at.kept c11 (on _ (by omega))
  have c12 := va_at.kept c12 (on _ (by omega))
  have c13 := va_at.kept c13 (on _ (by omega))
  have c14 := va_at.kept c14 (on _ (by omega))
  have c15 := va_at.kept c15 (on _ (by omega))
  have c16 := va_at.kept c16 (on _ (by omega))
  have c17 := va_at.kept c17 (on _ (by omega))
  have hz : H.size = a + 19 := zn
  have c18 := hnw
  refine y_put4F C c11 (by show _ ≤ _; omega) 7 (by decide) q72 rfl rfl (hin rfl) rfl (ty := (.array .int)) (by decide +kernel) rfl rfl (Nat.le_of_ble_eq_true rfl) dX4_init_62 (fun H c11 ow1 zw1 => ?_)
  have c12 := va_at.kept c12 (ow1 _ (by omega))
  have c13 := va_at.kept c13 (ow1 _ (by omega))
  have c14 := va_at.kept c14 (ow1 _ (by omega))
  have c15 := va_at.kept c15 (ow1 _ (by omega))
  have c16 := va_at.kept c16 (ow1 _ (by omega))
  have c17 := va_at.kept c17 (ow1 _ (by omega))
  have c18 := va_at.kept c18 (ow1 _ (by omega))
  have hz := zw1.trans hz
  have c11 : cA1 g (a + 11) (.inr (4, [.int (0 : Int32), .ref (a + 12), .ref (a + 13), .ref (a + 14), .ref (a + 15), .ref (a + 16), .ref (a + 17), .ref (a + 18), .null])) H := c11
  refine y_aload_n C 0 dX4_init_65 rfl rfl ?_
  refine y_bipush C (20) dX4_init_66 (by decide) ?_
  refine y_newai C (N' := 20) q35 (by decide) (by decide) (Nat.le_of_ble_eq_true rfl) (Nat.le_of_ble_eq_true rfl) (Nat.le_of_ble_eq_true rfl) dX4_init_68 hz (fun H hnw zn on => ?_)
  have c11 := va_at.kept c11 (on _ (by omega))
  have c12 := va_at.kept c12 (on _ (by omega))
  have c13 := va_at.kept c13 (on _ (by omega))
  have c14 := va_at.kept c14 (on _ (by omega))
  have c15 := va_at.kept c15 (on _ (by omega))
  have c16 := va_at.kept c16 (on _ (by omega))
  have c17 := va_at.kept c17 (on _ (by omega))
  have c18 := va_at.kept c18 (on _ (by omega))
  have hz : H.size = a + 20 := zn
  have c19 := hnw
  refine y_put4F C c11 (by show _ ≤ _; omega) 8 (by decide) q73 rfl rfl (hin rfl) rfl (ty := (.array .int)) (by decide +kernel) rfl rfl (Nat.le_of_ble_eq_true rfl) dX4_init_70 (fun H c11 ow1 zw1 => ?_)
  have c12 := va_at.kept c12 (ow1 _ (by omega))
  have c13 := va_at.kept c13 (ow1 _ (by omega))
  have c14 := va_at.kept c14 (ow1 _ (by omega))
  have c15 := va_at.kept c15 (ow1 _ (by omega))
  have c16 := va_at.kept c16 (ow1 _ (by omega))
  have c17 := va_at.kept c17 (ow1 _ (by omega))
  have c18 := va_at.kept c18 (ow1 _ (by omega))
  have c19 := va_at.kept c19 (ow1 _ (by omega))
  have hz := zw1.trans hz
  have c11 : cA1 g (a + 11) (.inr (4, [.int (0 : Int32), .ref (a + 12), .ref (a + 13), .ref (a + 14), .ref (a + 15), .ref (a + 16), .ref (a + 17), .ref (a + 18), .ref (a + 19)])) H := c11
  exact y_vret C hr ⟨hz, fun i h1 h2 => match i, h1, h2 with | 11, _, _ => c11 | 12, _, _ => c12 | 13, _, _ => c13 | 14, _, _ => c14 | 15, _, _ => c15 | 16, _, _ => c16 | 17, _, _ => c17 | 18, _, _ => c18 | 19, _, _ => c19 | 0, h1, _ => absurd h1 (by omega) | 1, h1, _ => absurd h1 (by omega) | 2, h1, _ => absurd h1 (by omega) | 3, h1, _ => absurd h1 (by omega) | 4, h1, _ => absurd h1 (by omega) | 5, h1, _ => absurd h1 (by omega) | 6, h1, _ => absurd h1 (by omega) | 7, h1, _ => absurd h1 (by omega) | 8, h1, _ => absurd h1 (by omega) | 9, h1, _ => absurd h1 (by omega) | 10, h1, _ => absurd h1 (by omega) | n + 20, _, h2 => absurd h2 (by omega)⟩ dX4_init_73
def rm_X2_init : Room := { frames := 2, cells := 20, slots := 252, locals := 40 }
theorem hi_X2_init : yX2_init.cls ≠ "java/lang/invoke/MethodHandle" ∧ yX2_init.cls ≠ "java/lang/invoke/VarHandle" ∧ (parseMethodDescriptor yX2_init.desc).map (fun d => d.parameters.length) = some 0 := by decide +kernel
set_option maxRecDepth 100000 in
set_option maxHeartbeats 4000000 in
theorem c_X2_init (g : KG) (B0 : Nat) (l : Launch) (a : Nat) : Mt g B0 l yX2_init cX2_init 1 none rm_X2_init [.ref a] (fun q => a ≤ q) (fun H => H.size = a + 1 ∧ cA1 g a (.inr (2, [.int 0, .null, .null, .null, .null, .null])) H) none (fun H => H.size = a + 21 ∧ dk g a dNew H) 20 252 := by
  refine Mt_of RX2 (by decide) rfl [(0, .ref a)] rfl (Nat.le_of_ble_eq_true rfl) ?_
  intro pr e s m args below meth c C hr hin hd
  obtain ⟨hz, c0⟩ := hd
  refine y_aload_n C 0 dX2_init_0 rfl rfl ?_
  refine y_objInit C q27 q7 q8 (Nat.le_of_ble_eq_true rfl) (Nat.le_of_ble_eq_true rfl) dX2_init_1 ?_
  refine y_aload_n C 0 dX2_init_4 rfl rfl ?_
  refine y_iconst C (0) dX2_init_5 (by decide) ?_
  refine y_put2 C c0 (by show _ ≤ _; omega) 0 (by decide) q28 rfl rfl (ty := .int) (by decide +kernel) rfl rfl (Nat.le_of_ble_eq_true rfl) dX2_init_6 (fun H c0 ow1 zw1 => ?_)
  have hz := zw1.trans hz
  have c0 : cA1 g a (.inr (2, [.int (0 : Int32), .null, .null, .null, .null, .null])) H := c0
  refine y_aload_n C 0 dX2_init_9 rfl rfl ?_
  refine y_iconst C (4) dX2_init_10 (by decide) ?_
  refine y_newaf C (N' := 4) q29 (by decide) (by decide) (Nat.le_of_ble_eq_true rfl) (Nat.le_of_ble_eq_true rfl) (Nat.le_of_ble_eq_true rfl) dX2_init_11 hz (fun H hnw zn on => ?_)
  have c0 := va_at.kept c0 (on _ (by omega))
  have hz : H.size = a + 2 := zn
  have c1 := hnw
  refine y_dup C dX2_init_13 rfl ?_
  refine y_iconst C (0) dX2_init_14 (by decide) ?_
  refine y_ldcf C q30 dX2_init_15 ?_
  refine y_fast C c1 (by show _ ≤ _; omega) 0 rfl (by decide) (by decide) dX2_init_17 (fun H c1 ow1 zw1 => ?_)
  have c0 := va_at.kept c0 (ow1 _ (by omega))
  have hz := zw1.trans hz
  refine y_dup C dX2_init_18 rfl ?_
  refine y_iconst C (1) dX2_init_19 (by decide) ?_
  refine y_ldcf C q31 dX2_init_20 ?_
  refine y_fast C c1 (by show _ ≤ _; omega) 1 rfl (by decide) (by decide) dX2_init_22 (fun H c1 ow1 zw1 => ?_)
  have c0 := va_at.kept c0 (ow1 _ (by omega))
  have hz := zw1.trans hz
  refine y_dup C dX2_init_23 rfl ?_
  refine y_iconst C (2) dX2_init_24 (by decide) ?_
  refine y_ldcf C q32 dX2_init_25 ?_
  refine y_fast C c1 (by show _ ≤ _; omega) 2 rfl (by decide) (by decide) dX2_init_27 (fun H c1 ow1 zw1 => ?_)
  have c0 := va_at.kept c0 (ow1 _ (by omega))
  have hz := zw1.trans hz
  refine y_dup C dX2_init_28 rfl ?_
  refine y_iconst C (3) dX2_init_29 (by decide) ?_
  refine y_ldcf C q33 dX2_init_30 ?_
  refine y_fast C c1 (by show _ ≤ _; omega) 3 rfl (by decide) (by decide) dX2_init_32 (fun H c1 ow1 zw1 => ?_)
  have c0 := va_at.kept c0 (ow1 _ (by omega))
  have hz := zw1.trans hz
  refine y_put2F C c0 (by show _ ≤ _; omega) 1 (by decide) q34 rfl rfl (hin rfl) rfl (ty := (.array .float)) (by decide +kernel) rfl rfl (Nat.le_of_ble_eq_true rfl) dX2_init_33 (fun H c0 ow1 zw1 => ?_)
  have c1 := va_at.kept c1 (ow1 _ (by omega))
  have hz := zw1.trans hz
  have c0 : cA1 g a (.inr (2, [.int (0 : Int32), .ref (a + 1), .null, .null, .null, .null])) H := c0
  refine y_aload_n C 0 dX2_init_36 rfl rfl ?_
  refine y_iconst C (5) dX2_init_37 (by decide) ?_
  refine y_newai C (N' := 5) q35 (by decide) (by decide) (Nat.le_of_ble_eq_true rfl) (Nat.le_of_ble_eq_true rfl) (Nat.le_of_ble_eq_true rfl) dX2_init_38 hz (fun H hnw zn on => ?_)
  have c0 := va_at.kept c0 (on _ (by omega))
  have c1 := va_at.kept c1 (on _ (by omega))
  have hz : H.size = a + 3 := zn
  have c2 := hnw
  refine y_dup C dX2_init_40 rfl ?_
  refine y_iconst C (0) dX2_init_41 (by decide) ?_
  refine y_bipush C (8) dX2_init_42 (by decide) ?_
  refine y_iast C c2 (by show _ ≤ _; omega) 0 rfl (by decide) (by decide) dX2_init_44 (fun H c2 ow1 zw1 => ?_)
  have c0 := va_at.kept c0 (ow1 _ (by omega))
  have c1 := va_at.kept c1 (ow1 _ (by omega))
  have hz := zw1.trans hz
  refine y_dup C dX2_init_45 rfl ?_
  refine y_iconst C (1) dX2_init_46 (by decide) ?_
  refine y_sipush C (4500) dX2_init_47 (by decide) ?_
  refine y_iast C c2 (by show _ ≤ _; omega) 1 rfl (by decide) (by decide) dX2_init_50 (fun H c2 ow1 zw1 => ?_)
  have c0 := va_at.kept c0 (ow1 _ (by omega))
  have c1 := va_at.kept c1 (ow1 _ (by omega))
  have hz := zw1.trans hz
  refine y_dup C dX2_init_51 rfl ?_
  refine y_iconst C (2) dX2_init_52 (by decide) ?_
  refine y_bipush C (7) dX2_init_53 (by decide) ?_
  refine y_iast C c2 (by show _ ≤ _; omega) 2 rfl (by decide) (by decide) dX2_init_55 (fun H c2 ow1 zw1 => ?_)
  have c0 := va_at.kept c0 (ow1 _ (by omega))
  have c1 := va_at.kept c1 (ow1 _ (by omega))
  have hz := zw1.trans hz
  refine y_dup C dX2_init_56 rfl ?_
  refine y_iconst C (3) dX2_init_57 (by decide) ?_
  refine y_bipush C (90) dX2_init_58 (by decide) ?_
  refine y_iast C c2 (by show _ ≤ _; omega) 3 rfl (by decide) (by decide) dX2_init_60 (fun H c2 ow1 zw1 => ?_)
  have c0 := va_at.kept c0 (ow1 _ (by omega))
  have c1 := va_at.kept c1 (ow1 _ (by omega))
  have hz := zw1.trans hz
  refine y_dup C dX2_init_61 rfl ?_
  refine y_iconst C (4) dX2_init_62 (by decide) ?_
  refine y_iconst C (2) dX2_init_63 (by decide) ?_
  refine y_iast C c2 (by show _ ≤ _; omega) 4 rfl (by decide) (by decide) dX2_init_64 (fun H c2 ow1 zw1 => ?_)
  have c0 := va_at.kept c0 (ow1 _ (by omega))
  have c1 := va_at.kept c1 (ow1 _ (by omega))
  have hz := zw1.trans hz
  refine y_put2F C c0 (by show _ ≤ _; omega) 2 (by decide) q36 rfl rfl (hin rfl) rfl (ty := (.array .int)) (by decide +kernel) rfl rfl (Nat.le_of_ble_eq_true rfl) dX2_init_65 (fun H c0 ow1 zw1 => ?_)
  have c1 := va_at.kept c1 (ow1 _ (by omega))
  have c2 := va_at.kept c2 (ow1 _ (by omega))
  have hz := zw1.trans hz
  have c0 : cA1 g a (.inr (2, [.int (0 : Int32), .ref (a + 1), .ref (a + 2), .null, .null, .null])) H := c0
  refine y_aload_n C 0 dX2_init_68 rfl rfl ?_
  refine y_new5 C (fs := [.null, .null, .null, .null, .int 0, .null, .null, .null]) q37 q38 q39 (fun j hj => match j, hj with | 0, _ => rfl | 1, _ => rfl | 2, _ => rfl | 3, _ => rfl | 4, _ => rfl | 5, _ => rfl | 6, _ => rfl | 7, _ => rfl | n + 8, hj => absurd hj (by omega)) (Nat.le_of_ble_eq_true rfl) (Nat.le_of_ble_eq_true rfl) dX2_init_69 hz (fun H hnw zn on => ?_)
  have c0 := va_at.kept c0 (on _ (by omega))
  have c1 := va_at.kept c1 (on _ (by omega))
  have c2 := va_at.kept c2 (on _ (by omega))
  have hz : H.size = a + 4 := zn
  have c3 := hnw
  refine y_dup C dX2_init_72 rfl ?_
  refine y_callI C (c_X5_init g B0 l a) q49 q50 q39 q51 rfl hi_X5_init ⟨(Nat.le_of_ble_eq_true rfl), (Nat.le_of_ble_eq_true rfl)⟩ ⟨rfl, rfl⟩ ⟨hz, c3⟩ (fun q hq => by show _ ≤ _; exact Nat.le_trans (by omega) hq) (Nat.le_of_ble_eq_true rfl) dX2_init_73 ⟨(Nat.le_of_ble_eq_true rfl), (Nat.le_of_ble_eq_true rfl)⟩ (fun H hp hzz hf => ?_)
  obtain ⟨hz, hbun⟩ := hp
  have c0 := va_at.kept c0 (hf _ (by omega) (by show ¬ _ ≤ _; omega))
  have c1 := va_at.kept c1 (hf _ (by omega) (by show ¬ _ ≤ _; omega))
  have c2 := va_at.kept c2 (hf _ (by omega) (by show ¬ _ ≤ _; omega))
  have cb3 := hbun
  refine y_put2F C c0 (by show _ ≤ _; omega) 3 (by decide) q40 rfl rfl (hin rfl) rfl (ty := (.object "SetRepairs$Store")) (by decide +kernel) rfl rfl (Nat.le_of_ble_eq_true rfl) dX2_init_76 (fun H c0 ow1 zw1 => ?_)
  have c1 := va_at.kept c1 (ow1 _ (by omega))
  have c2 := va_at.kept c2 (ow1 _ (by omega))
  have cb3 := cb3.kept (fun q h1 h2 => ow1 q (by omega))
  have hz := zw1.trans hz
  have c0 : cA1 g a (.inr (2, [.int (0 : Int32), .ref (a + 1), .ref (a + 2), .ref (a + 3), .null, .null])) H := c0
  refine y_aload_n C 0 dX2_init_79 rfl rfl ?_
  refine y_new4 C (fs := [.int 0, .null, .null, .null, .null, .null, .null, .null, .null]) q41 q42 q43 (fun j hj => match j, hj with | 0, _ => rfl | 1, _ => rfl | 2, _ => rfl | 3, _ => rfl | 4, _ => rfl | 5, _ => rfl | 6, _ => rfl | 7, _ => rfl | 8, _ => rfl | n + 9, hj => absurd hj (by omega)) (Nat.le_of_ble_eq_true rfl) (Nat.le_of_ble_eq_true rfl) dX2_init_80 hz (fun H hnw zn on => ?_)
  have c0 := va_at.kept c0 (on _ (by omega))
  have c1 := va_at.kept c1 (on _ (by omega))
  have c2 := va_at.kept c2 (on _ (by omega))
  have cb3 := cb3.kept (fun q h1 h2 => on q (by omega))
  have hz : H.size = a + 12 := zn
  have c11 := hnw
  refine y_dup C dX2_init_83 rfl ?_
  refine y_callI C (c_X4_init g B0 l a) q61 q62 q43 q63 rfl hi_X4_init ⟨(Nat.le_of_ble_eq_true rfl), (Nat.le_of_ble_eq_true rfl)⟩ ⟨rfl, rfl⟩ ⟨hz, c11⟩ (fun q hq => by show _ ≤ _; exact Nat.le_trans (by omega) hq) (Nat.le_of_ble_eq_true rfl) dX2_init_84 ⟨(Nat.le_of_ble_eq_true rfl), (Nat.le_of_ble_eq_true rfl)⟩ (fun H hp hzz hf => ?_)
  obtain ⟨hz, hbun⟩ := hp
  have c0 := va_at.kept c0 (hf _ (by omega) (by show ¬ _ ≤ _; omega))
  have c1 := va_at.kept c1 (hf _ (by omega) (by show ¬ _ ≤ _; omega))
  have c2 := va_at.kept c2 (hf _ (by omega) (by show ¬ _ ≤ _; omega))
  have cb3 := cb3.kept (fun q h1 h2 => hf q (by omega) (by show ¬ _ ≤ _; omega))
  have cb11 := hbun
  refine y_put2F C c0 (by show _ ≤ _; omega) 4 (by decide) q44 rfl rfl (hin rfl) rfl (ty := (.object "SetRepairs$Sets")) (by decide +kernel) rfl rfl (Nat.le_of_ble_eq_true rfl) dX2_init_87 (fun H c0 ow1 zw1 => ?_)
  have c1 := va_at.kept c1 (ow1 _ (by omega))
  have c2 := va_at.kept c2 (ow1 _ (by omega))
  have cb3 := cb3.kept (fun q h1 h2 => ow1 q (by omega))
  have cb11 := cb11.kept (fun q h1 h2 => ow1 q (by omega))
  have hz := zw1.trans hz
  have c0 : cA1 g a (.inr (2, [.int (0 : Int32), .ref (a + 1), .ref (a + 2), .ref (a + 3), .ref (a + 11), .null])) H := c0
  refine y_aload_n C 0 dX2_init_90 rfl rfl ?_
  refine y_new1 C (fs := [.int 0, .int 0, .int 0, .int 0, .int 0, .int 0]) q45 q46 q47 (fun j hj => match j, hj with | 0, _ => rfl | 1, _ => rfl | 2, _ => rfl | 3, _ => rfl | 4, _ => rfl | 5, _ => rfl | n + 6, hj => absurd hj (by omega)) (Nat.le_of_ble_eq_true rfl) (Nat.le_of_ble_eq_true rfl) dX2_init_91 hz (fun H hnw zn on => ?_)
  have c0 := va_at.kept c0 (on _ (by omega))
  have c1 := va_at.kept c1 (on _ (by omega))
  have c2 := va_at.kept c2 (on _ (by omega))
  have cb3 := cb3.kept (fun q h1 h2 => on q (by omega))
  have cb11 := cb11.kept (fun q h1 h2 => on q (by omega))
  have hz : H.size = a + 21 := zn
  have c20 := hnw
  refine y_dup C dX2_init_94 rfl ?_
  refine y_callIN C (c_X1_init g B0 l (a + 20) (a + 21)) "SetRepairs" C.2.2.2.2.2.1.2.2.2.1 q74 q47 q75 rfl hi_X1_init ⟨(Nat.le_of_ble_eq_true rfl), (Nat.le_of_ble_eq_true rfl)⟩ ⟨rfl, rfl⟩ hz nF.no (Nat.le_of_ble_eq_true rfl) dX2_init_95 ⟨(Nat.le_of_ble_eq_true rfl), (Nat.le_of_ble_eq_true rfl)⟩ (fun H hp hzz hf => ?_)
  have c0 := va_at.kept c0 (hf _ (by omega) (fun z => z))
  have c1 := va_at.kept c1 (hf _ (by omega) (fun z => z))
  have c2 := va_at.kept c2 (hf _ (by omega) (fun z => z))
  have cb3 := cb3.kept (fun q h1 h2 => hf q (by omega) (fun z => z))
  have cb11 := cb11.kept (fun q h1 h2 => hf q (by omega) (fun z => z))
  have c20 := va_at.kept c20 (hf _ (by omega) (fun z => z))
  have hz : H.size = a + 21 := hp
  refine y_put2F C c0 (by show _ ≤ _; omega) 5 (by decide) q48 rfl rfl (hin rfl) rfl (ty := (.object "SetRepairs$Books")) (by decide +kernel) rfl rfl (Nat.le_of_ble_eq_true rfl) dX2_init_98 (fun H c0 ow1 zw1 => ?_)
  have c1 := va_at.kept c1 (ow1 _ (by omega))
  have c2 := va_at.kept c2 (ow1 _ (by omega))
  have cb3 := cb3.kept (fun q h1 h2 => ow1 q (by omega))
  have cb11 := cb11.kept (fun q h1 h2 => ow1 q (by omega))
  have c20 := va_at.kept c20 (ow1 _ (by omega))
  have hz := zw1.trans hz
  have c0 : cA1 g a (.inr (2, [.int (0 : Int32), .ref (a + 1), .ref (a + 2), .ref (a + 3), .ref (a + 11), .ref (a + 20)])) H := c0
  exact y_vret C hr ⟨hz, fun i hi => match i, hi with | 0, _ => c0 | 1, _ => cA1f_same c1 (fun j hj => match j, hj with | 0, _ => rfl | 1, _ => rfl | 2, _ => rfl | 3, _ => rfl | n + 4, hj => absurd hj (by omega)) | 2, _ => cA1i_same c2 (fun j hj => match j, hj with | 0, _ => rfl | 1, _ => rfl | 2, _ => rfl | 3, _ => rfl | 4, _ => rfl | n + 5, hj => absurd hj (by omega)) | 3, _ => cb3 3 (by decide) (by decide) | 4, _ => cb3 4 (by decide) (by decide) | 5, _ => cb3 5 (by decide) (by decide) | 6, _ => cb3 6 (by decide) (by decide) | 7, _ => cb3 7 (by decide) (by decide) | 8, _ => cb3 8 (by decide) (by decide) | 9, _ => cb3 9 (by decide) (by decide) | 10, _ => cb3 10 (by decide) (by decide) | 11, _ => cb11 11 (by decide) (by decide) | 12, _ => cb11 12 (by decide) (by decide) | 13, _ => cb11 13 (by decide) (by decide) | 14, _ => cb11 14 (by decide) (by decide) | 15, _ => cb11 15 (by decide) (by decide) | 16, _ => cb11 16 (by decide) (by decide) | 17, _ => cb11 17 (by decide) (by decide) | 18, _ => cb11 18 (by decide) (by decide) | 19, _ => cb11 19 (by decide) (by decide) | 20, _ => c20 | n + 21, hi => absurd hi (by omega)⟩ dX2_init_101
def rm_X3_init : Room := { frames := 3, cells := 85, slots := 1036, locals := 60 }
theorem hi_X3_init : yX3_init.cls ≠ "java/lang/invoke/MethodHandle" ∧ yX3_init.cls ≠ "java/lang/invoke/VarHandle" ∧ (parseMethodDescriptor yX3_init.desc).map (fun d => d.parameters.length) = some 0 := by decide +kernel
set_option maxRecDepth 100000 in
set_option maxHeartbeats 4000000 in
theorem c_X3_init (g : KG) (B0 : Nat) (l : Launch) (b : Nat) : Mt g B0 l yX3_init cX3_init 2 none rm_X3_init [.ref (b + 64)] (fun q => b + 64 ≤ q) (fun H => H.size = b + 65 ∧ cA1 g (b + 64) (.inr (3, [.int 0, .null])) H) none (fun H => H.size = b + 150 ∧ cA1 g (b + 64) (hisC b 0) H ∧ cA1 g (b + 65) (staC g (sta b 0)) H ∧ dk g (b + 66) dNew H ∧ dk g (b + 87) dNew H ∧ dk g (b + 108) dNew H ∧ dk g (b + 129) dNew H) 85 1036 := by
  refine Mt_of RX3 (by decide) rfl [(0, .ref (b + 64))] rfl (Nat.le_of_ble_eq_true rfl) ?_
  intro pr e s m args below meth c C hr hin hd
  obtain ⟨hz, c64⟩ := hd
  refine y_aload_n C 0 dX3_init_0 rfl rfl ?_
  refine y_objInit C q80 q7 q8 (Nat.le_of_ble_eq_true rfl) (Nat.le_of_ble_eq_true rfl) dX3_init_1 ?_
  refine y_aload_n C 0 dX3_init_4 rfl rfl ?_
  refine y_iconst C (0) dX3_init_5 (by decide) ?_
  refine y_put3 C c64 (by show _ ≤ _; omega) 0 (by decide) q81 rfl rfl (ty := .int) (by decide +kernel) rfl rfl (Nat.le_of_ble_eq_true rfl) dX3_init_6 (fun H c64 ow1 zw1 => ?_)
  have hz := zw1.trans hz
  have c64 : cA1 g (b + 64) (.inr (3, [.int (0 : Int32), .null])) H := c64
  refine y_aload_n C 0 dX3_init_9 rfl rfl ?_
  refine y_iconst C (4) dX3_init_10 (by decide) ?_
  refine y_newq C (N' := 4) q82 (by decide) (by decide) (Nat.le_of_ble_eq_true rfl) (Nat.le_of_ble_eq_true rfl) (Nat.le_of_ble_eq_true rfl) dX3_init_11 hz (fun H hnw zn on => ?_)
  have c64 := va_at.kept c64 (on _ (by omega))
  have hz : H.size = b + 66 := zn
  have c65 := hnw
  refine y_put3F C c64 (by show _ ≤ _; omega) 1 (by decide) q83 rfl rfl (hin rfl) rfl (ty := (.array (.object "SetRepairs$Desk"))) (by decide +kernel) rfl rfl (Nat.le_of_ble_eq_true rfl) dX3_init_14 (fun H c64 ow1 zw1 => ?_)
  have c65 := va_at.kept c65 (ow1 _ (by omega))
  have hz := zw1.trans hz
  have c64 : cA1 g (b + 64) (.inr (3, [.int (0 : Int32), .ref (b + 65)])) H := c64
  refine y_iconst C (0) dX3_init_17 (by decide) ?_
  refine y_istore_n C dX3_init_18 rfl (by decide) rfl ?_
  refine y_iload_n C 0 dX3_init_19 rfl rfl ?_
  refine y_iconst C (4) dX3_init_20 (by decide) ?_
  refine y_icmp_ge C 43 dX3_init_21 (by decide) (fun h => absurd h (by decide)) (fun _ => ?_)
  refine y_aload_n C 1 dX3_init_24 rfl rfl ?_
  refine y_get3 C c64 1 (by decide) q83 rfl rfl dX3_init_25 ?_
  refine y_iload_n C 0 dX3_init_28 rfl rfl ?_
  refine y_new2 C (fs := [.int 0, .null, .null, .null, .null, .null]) q82 q10 q11 (fun j hj => match j, hj with | 0, _ => rfl | 1, _ => rfl | 2, _ => rfl | 3, _ => rfl | 4, _ => rfl | 5, _ => rfl | n + 6, hj => absurd hj (by omega)) (Nat.le_of_ble_eq_true rfl) (Nat.le_of_ble_eq_true rfl) dX3_init_29 hz (fun H hnw zn on => ?_)
  have c64 := va_at.kept c64 (on _ (by omega))
  have c65 := va_at.kept c65 (on _ (by omega))
  have hz : H.size = b + 67 := zn
  have c66 := hnw
  refine y_dup C dX3_init_32 rfl ?_
  refine y_callI C (c_X2_init g B0 l (b + 66)) q84 q25 q11 q26 rfl hi_X2_init ⟨(Nat.le_of_ble_eq_true rfl), (Nat.le_of_ble_eq_true rfl)⟩ ⟨rfl, rfl⟩ ⟨hz, c66⟩ (fun q hq => by show _ ≤ _; exact Nat.le_trans (by omega) hq) (Nat.le_of_ble_eq_true rfl) dX3_init_33 ⟨(Nat.le_of_ble_eq_true rfl), (Nat.le_of_ble_eq_true rfl)⟩ (fun H hp hzz hf => ?_)
  obtain ⟨hz, hbun⟩ := hp
  have c64 := va_at.kept c64 (hf _ (by omega) (by show ¬ _ ≤ _; omega))
  have c65 := va_at.kept c65 (hf _ (by omega) (by show ¬ _ ≤ _; omega))
  have cd66 := hbun
  refine y_aast C c65 (dk_0 cd66) (by show _ ≤ _; omega) 0 (by decide) (by decide) (by decide) dX3_init_36 (fun H c65 ow1 zw1 => ?_)
  have c64 := va_at.kept c64 (ow1 _ (by omega))
  have cd66 := cd66.kept (fun q hq => ow1 q (by unfold iv at hq; omega))
  have hz := zw1.trans hz
  refine y_iinc C 0 (nI (0 + 1)) dX3_init_37 rfl (by decide) (by decide) rfl ?_
  refine y_goto C 19 dX3_init_40 (by decide) ?_
  refine y_iload_n C 0 dX3_init_19 rfl rfl ?_
  refine y_iconst C (4) dX3_init_20 (by decide) ?_
  refine y_icmp_ge C 43 dX3_init_21 (by decide) (fun h => absurd h (by decide)) (fun _ => ?_)
  refine y_aload_n C 1 dX3_init_24 rfl rfl ?_
  refine y_get3 C c64 1 (by decide) q83 rfl rfl dX3_init_25 ?_
  refine y_iload_n C 0 dX3_init_28 rfl rfl ?_
  refine y_new2 C (fs := [.int 0, .null, .null, .null, .null, .null]) q82 q10 q11 (fun j hj => match j, hj with | 0, _ => rfl | 1, _ => rfl | 2, _ => rfl | 3, _ => rfl | 4, _ => rfl | 5, _ => rfl | n + 6, hj => absurd hj (by omega)) (Nat.le_of_ble_eq_true rfl) (Nat.le_of_ble_eq_true rfl) dX3_init_29 hz (fun H hnw zn on => ?_)
  have c64 := va_at.kept c64 (on _ (by omega))
  have c65 := va_at.kept c65 (on _ (by omega))
  have cd66 := cd66.kept (fun q hq => on q (by unfold iv at hq; omega))
  have hz : H.size = b + 88 := zn
  have c87 := hnw
  refine y_dup C dX3_init_32 rfl ?_
  refine y_callI C (c_X2_init g B0 l (b + 87)) q84 q25 q11 q26 rfl hi_X2_init ⟨(Nat.le_of_ble_eq_true rfl), (Nat.le_of_ble_eq_true rfl)⟩ ⟨rfl, rfl⟩ ⟨hz, c87⟩ (fun q hq => by show _ ≤ _; exact Nat.le_trans (by omega) hq) (Nat.le_of_ble_eq_true rfl) dX3_init_33 ⟨(Nat.le_of_ble_eq_true rfl), (Nat.le_of_ble_eq_true rfl)⟩ (fun H hp hzz hf => ?_)
  obtain ⟨hz, hbun⟩ := hp
  have c64 := va_at.kept c64 (hf _ (by omega) (by show ¬ _ ≤ _; omega))
  have c65 := va_at.kept c65 (hf _ (by omega) (by show ¬ _ ≤ _; omega))
  have cd66 := cd66.kept (fun q hq => hf q (by unfold iv at hq; omega) (by unfold iv at hq; show ¬ _ ≤ _; omega))
  have cd87 := hbun
  refine y_aast C c65 (dk_0 cd87) (by show _ ≤ _; omega) 1 (by decide) (by decide) (by decide) dX3_init_36 (fun H c65 ow1 zw1 => ?_)
  have c64 := va_at.kept c64 (ow1 _ (by omega))
  have cd66 := cd66.kept (fun q hq => ow1 q (by unfold iv at hq; omega))
  have cd87 := cd87.kept (fun q hq => ow1 q (by unfold iv at hq; omega))
  have hz := zw1.trans hz
  refine y_iinc C 0 (nI (1 + 1)) dX3_init_37 rfl (by decide) (by decide) rfl ?_
  refine y_goto C 19 dX3_init_40 (by decide) ?_
  refine y_iload_n C 0 dX3_init_19 rfl rfl ?_
  refine y_iconst C (4) dX3_init_20 (by decide) ?_
  refine y_icmp_ge C 43 dX3_init_21 (by decide) (fun h => absurd h (by decide)) (fun _ => ?_)
  refine y_aload_n C 1 dX3_init_24 rfl rfl ?_
  refine y_get3 C c64 1 (by decide) q83 rfl rfl dX3_init_25 ?_
  refine y_iload_n C 0 dX3_init_28 rfl rfl ?_
  refine y_new2 C (fs := [.int 0, .null, .null, .null, .null, .null]) q82 q10 q11 (fun j hj => match j, hj with | 0, _ => rfl | 1, _ => rfl | 2, _ => rfl | 3, _ => rfl | 4, _ => rfl | 5, _ => rfl | n + 6, hj => absurd hj (by omega)) (Nat.le_of_ble_eq_true rfl) (Nat.le_of_ble_eq_true rfl) dX3_init_29 hz (fun H hnw zn on => ?_)
  have c64 := va_at.kept c64 (on _ (by omega))
  have c65 := va_at.kept c65 (on _ (by omega))
  have cd66 := cd66.kept (fun q hq => on q (by unfold iv at hq; omega))
  have cd87 := cd87.kept (fun q hq => on q (by unfold iv at hq; omega))
  have hz : H.size = b + 109 := zn
  have c108 := hnw
  refine y_dup C dX3_init_32 rfl ?_
  refine y_callI C (c_X2_init g B0 l (b + 108)) q84 q25 q11 q26 rfl hi_X2_init ⟨(Nat.le_of_ble_eq_true rfl), (Nat.le_of_ble_eq_true rfl)⟩ ⟨rfl, rfl⟩ ⟨hz, c108⟩ (fun q hq => by show _ ≤ _; exact Nat.le_trans (by omega) hq) (Nat.le_of_ble_eq_true rfl) dX3_init_33 ⟨(Nat.le_of_ble_eq_true rfl), (Nat.le_of_ble_eq_true rfl)⟩ (fun H hp hzz hf => ?_)
  obtain ⟨hz, hbun⟩ := hp
  have c64 := va_at.kept c64 (hf _ (by omega) (by show ¬ _ ≤ _; omega))
  have c65 := va_at.kept c65 (hf _ (by omega) (by show ¬ _ ≤ _; omega))
  have cd66 := cd66.kept (fun q hq => hf q (by unfold iv at hq; omega) (by unfold iv at hq; show ¬ _ ≤ _; omega))
  have cd87 := cd87.kept (fun q hq => hf q (by unfold iv at hq; omega) (by unfold iv at hq; show ¬ _ ≤ _; omega))
  have cd108 := hbun
  refine y_aast C c65 (dk_0 cd108) (by show _ ≤ _; omega) 2 (by decide) (by decide) (by decide) dX3_init_36 (fun H c65 ow1 zw1 => ?_)
  have c64 := va_at.kept c64 (ow1 _ (by omega))
  have cd66 := cd66.kept (fun q hq => ow1 q (by unfold iv at hq; omega))
  have cd87 := cd87.kept (fun q hq => ow1 q (by unfold iv at hq; omega))
  have cd108 := cd108.kept (fun q hq => ow1 q (by unfold iv at hq; omega))
  have hz := zw1.trans hz
  refine y_iinc C 0 (nI (2 + 1)) dX3_init_37 rfl (by decide) (by decide) rfl ?_
  refine y_goto C 19 dX3_init_40 (by decide) ?_
  refine y_iload_n C 0 dX3_init_19 rfl rfl ?_
  refine y_iconst C (4) dX3_init_20 (by decide) ?_
  refine y_icmp_ge C 43 dX3_init_21 (by decide) (fun h => absurd h (by decide)) (fun _ => ?_)
  refine y_aload_n C 1 dX3_init_24 rfl rfl ?_
  refine y_get3 C c64 1 (by decide) q83 rfl rfl dX3_init_25 ?_
  refine y_iload_n C 0 dX3_init_28 rfl rfl ?_
  refine y_new2 C (fs := [.int 0, .null, .null, .null, .null, .null]) q82 q10 q11 (fun j hj => match j, hj with | 0, _ => rfl | 1, _ => rfl | 2, _ => rfl | 3, _ => rfl | 4, _ => rfl | 5, _ => rfl | n + 6, hj => absurd hj (by omega)) (Nat.le_of_ble_eq_true rfl) (Nat.le_of_ble_eq_true rfl) dX3_init_29 hz (fun H hnw zn on => ?_)
  have c64 := va_at.kept c64 (on _ (by omega))
  have c65 := va_at.kept c65 (on _ (by omega))
  have cd66 := cd66.kept (fun q hq => on q (by unfold iv at hq; omega))
  have cd87 := cd87.kept (fun q hq => on q (by unfold iv at hq; omega))
  have cd108 := cd108.kept (fun q hq => on q (by unfold iv at hq; omega))
  have hz : H.size = b + 130 := zn
  have c129 := hnw
  refine y_dup C dX3_init_32 rfl ?_
  refine y_callI C (c_X2_init g B0 l (b + 129)) q84 q25 q11 q26 rfl hi_X2_init ⟨(Nat.le_of_ble_eq_true rfl), (Nat.le_of_ble_eq_true rfl)⟩ ⟨rfl, rfl⟩ ⟨hz, c129⟩ (fun q hq => by show _ ≤ _; exact Nat.le_trans (by omega) hq) (Nat.le_of_ble_eq_true rfl) dX3_init_33 ⟨(Nat.le_of_ble_eq_true rfl), (Nat.le_of_ble_eq_true rfl)⟩ (fun H hp hzz hf => ?_)
  obtain ⟨hz, hbun⟩ := hp
  have c64 := va_at.kept c64 (hf _ (by omega) (by show ¬ _ ≤ _; omega))
  have c65 := va_at.kept c65 (hf _ (by omega) (by show ¬ _ ≤ _; omega))
  have cd66 := cd66.kept (fun q hq => hf q (by unfold iv at hq; omega) (by unfold iv at hq; show ¬ _ ≤ _; omega))
  have cd87 := cd87.kept (fun q hq => hf q (by unfold iv at hq; omega) (by unfold iv at hq; show ¬ _ ≤ _; omega))
  have cd108 := cd108.kept (fun q hq => hf q (by unfold iv at hq; omega) (by unfold iv at hq; show ¬ _ ≤ _; omega))
  have cd129 := hbun
  refine y_aast C c65 (dk_0 cd129) (by show _ ≤ _; omega) 3 (by decide) (by decide) (by decide) dX3_init_36 (fun H c65 ow1 zw1 => ?_)
  have c64 := va_at.kept c64 (ow1 _ (by omega))
  have cd66 := cd66.kept (fun q hq => ow1 q (by unfold iv at hq; omega))
  have cd87 := cd87.kept (fun q hq => ow1 q (by unfold iv at hq; omega))
  have cd108 := cd108.kept (fun q hq => ow1 q (by unfold iv at hq; omega))
  have cd129 := cd129.kept (fun q hq => ow1 q (by unfold iv at hq; omega))
  have hz := zw1.trans hz
  refine y_iinc C 0 (nI (3 + 1)) dX3_init_37 rfl (by decide) (by decide) rfl ?_
  refine y_goto C 19 dX3_init_40 (by decide) ?_
  refine y_iload_n C 0 dX3_init_19 rfl rfl ?_
  refine y_iconst C (4) dX3_init_20 (by decide) ?_
  refine y_icmp_ge C 43 dX3_init_21 (by decide) (fun _ => ?_) (fun h => absurd (by decide) h)
  exact y_vret C hr ⟨hz, c64, staC_same c65 (fun j hj => match j, hj with | 0, _ => rfl | 1, _ => rfl | 2, _ => rfl | 3, _ => rfl | n + 4, hj => absurd hj (by omega)), cd66, cd87, cd108, cd129⟩ dX3_init_43
def rm_X6_init : Room := { frames := 4, cells := 151, slots := 1874, locals := 81 }
theorem hi_X6_init : yX6_init.cls ≠ "java/lang/invoke/MethodHandle" ∧ yX6_init.cls ≠ "java/lang/invoke/VarHandle" ∧ (parseMethodDescriptor yX6_init.desc).map (fun d => d.parameters.length) = some 0 := by decide +kernel
set_option maxRecDepth 100000 in
set_option maxHeartbeats 4000000 in
theorem c_X6_init (g : KG) (B0 : Nat) (l : Launch) (b : Nat) : Mt g B0 l yX6_init cX6_init 1 none rm_X6_init [.ref b] (fun q => b ≤ q) (fun H => H.size = b + 1 ∧ cA1 g b (.inr (6, [.null, .null, .null, .int 0, .null, .null])) H) none (fun H => H.size = b + 152 ∧ sX g b (0, 0, 0, fun _ => dNew) H) 151 1874 := by
  refine Mt_of RX6 (by decide) rfl [(0, .ref b)] rfl (Nat.le_of_ble_eq_true rfl) ?_
  intro pr e s m args below meth c C hr hin hd
  obtain ⟨hz, c0⟩ := hd
  refine y_aload_n C 0 dX6_init_0 rfl rfl ?_
  refine y_objInit C q6 q7 q8 (Nat.le_of_ble_eq_true rfl) (Nat.le_of_ble_eq_true rfl) dX6_init_1 ?_
  refine y_aload_n C 0 dX6_init_4 rfl rfl ?_
  refine y_new2 C (fs := [.int 0, .null, .null, .null, .null, .null]) q9 q10 q11 (fun j hj => match j, hj with | 0, _ => rfl | 1, _ => rfl | 2, _ => rfl | 3, _ => rfl | 4, _ => rfl | 5, _ => rfl | n + 6, hj => absurd hj (by omega)) (Nat.le_of_ble_eq_true rfl) (Nat.le_of_ble_eq_true rfl) dX6_init_5 hz (fun H hnw zn on => ?_)
  have c0 := va_at.kept c0 (on _ (by omega))
  have hz : H.size = b + 2 := zn
  have c1 := hnw
  refine y_dup C dX6_init_8 rfl ?_
  refine y_callI C (c_X2_init g B0 l (b + 1)) q24 q25 q11 q26 rfl hi_X2_init ⟨(Nat.le_of_ble_eq_true rfl), (Nat.le_of_ble_eq_true rfl)⟩ ⟨rfl, rfl⟩ ⟨hz, c1⟩ (fun q hq => by show _ ≤ _; exact Nat.le_trans (by omega) hq) (Nat.le_of_ble_eq_true rfl) dX6_init_9 ⟨(Nat.le_of_ble_eq_true rfl), (Nat.le_of_ble_eq_true rfl)⟩ (fun H hp hzz hf => ?_)
  obtain ⟨hz, hbun⟩ := hp
  have c0 := va_at.kept c0 (hf _ (by omega) (by show ¬ _ ≤ _; omega))
  have cd1 := hbun
  refine y_put6F C c0 (by show _ ≤ _; omega) 0 (by decide) q12 rfl rfl (hin rfl) rfl (ty := (.object "SetRepairs$Desk")) (by decide +kernel) rfl rfl (Nat.le_of_ble_eq_true rfl) dX6_init_12 (fun H c0 ow1 zw1 => ?_)
  have cd1 := cd1.kept (fun q hq => ow1 q (by unfold iv at hq; omega))
  have hz := zw1.trans hz
  have c0 : cA1 g b (.inr (6, [.ref (b + 1), .null, .null, .int 0, .null, .null])) H := c0
  refine y_aload_n C 0 dX6_init_15 rfl rfl ?_
  refine y_new2 C (fs := [.int 0, .null, .null, .null, .null, .null]) q9 q10 q11 (fun j hj => match j, hj with | 0, _ => rfl | 1, _ => rfl | 2, _ => rfl | 3, _ => rfl | 4, _ => rfl | 5, _ => rfl | n + 6, hj => absurd hj (by omega)) (Nat.le_of_ble_eq_true rfl) (Nat.le_of_ble_eq_true rfl) dX6_init_16 hz (fun H hnw zn on => ?_)
  have c0 := va_at.kept c0 (on _ (by omega))
  have cd1 := cd1.kept (fun q hq => on q (by unfold iv at hq; omega))
  have hz : H.size = b + 23 := zn
  have c22 := hnw
  refine y_dup C dX6_init_19 rfl ?_
  refine y_callI C (c_X2_init g B0 l (b + 22)) q24 q25 q11 q26 rfl hi_X2_init ⟨(Nat.le_of_ble_eq_true rfl), (Nat.le_of_ble_eq_true rfl)⟩ ⟨rfl, rfl⟩ ⟨hz, c22⟩ (fun q hq => by show _ ≤ _; exact Nat.le_trans (by omega) hq) (Nat.le_of_ble_eq_true rfl) dX6_init_20 ⟨(Nat.le_of_ble_eq_true rfl), (Nat.le_of_ble_eq_true rfl)⟩ (fun H hp hzz hf => ?_)
  obtain ⟨hz, hbun⟩ := hp
  have c0 := va_at.kept c0 (hf _ (by omega) (by show ¬ _ ≤ _; omega))
  have cd1 := cd1.kept (fun q hq => hf q (by unfold iv at hq; omega) (by unfold iv at hq; show ¬ _ ≤ _; omega))
  have cd22 := hbun
  refine y_put6F C c0 (by show _ ≤ _; omega) 1 (by decide) q13 rfl rfl (hin rfl) rfl (ty := (.object "SetRepairs$Desk")) (by decide +kernel) rfl rfl (Nat.le_of_ble_eq_true rfl) dX6_init_23 (fun H c0 ow1 zw1 => ?_)
  have cd1 := cd1.kept (fun q hq => ow1 q (by unfold iv at hq; omega))
  have cd22 := cd22.kept (fun q hq => ow1 q (by unfold iv at hq; omega))
  have hz := zw1.trans hz
  have c0 : cA1 g b (.inr (6, [.ref (b + 1), .ref (b + 22), .null, .int 0, .null, .null])) H := c0
  refine y_aload_n C 0 dX6_init_26 rfl rfl ?_
  refine y_new2 C (fs := [.int 0, .null, .null, .null, .null, .null]) q9 q10 q11 (fun j hj => match j, hj with | 0, _ => rfl | 1, _ => rfl | 2, _ => rfl | 3, _ => rfl | 4, _ => rfl | 5, _ => rfl | n + 6, hj => absurd hj (by omega)) (Nat.le_of_ble_eq_true rfl) (Nat.le_of_ble_eq_true rfl) dX6_init_27 hz (fun H hnw zn on => ?_)
  have c0 := va_at.kept c0 (on _ (by omega))
  have cd1 := cd1.kept (fun q hq => on q (by unfold iv at hq; omega))
  have cd22 := cd22.kept (fun q hq => on q (by unfold iv at hq; omega))
  have hz : H.size = b + 44 := zn
  have c43 := hnw
  refine y_dup C dX6_init_30 rfl ?_
  refine y_callI C (c_X2_init g B0 l (b + 43)) q24 q25 q11 q26 rfl hi_X2_init ⟨(Nat.le_of_ble_eq_true rfl), (Nat.le_of_ble_eq_true rfl)⟩ ⟨rfl, rfl⟩ ⟨hz, c43⟩ (fun q hq => by show _ ≤ _; exact Nat.le_trans (by omega) hq) (Nat.le_of_ble_eq_true rfl) dX6_init_31 ⟨(Nat.le_of_ble_eq_true rfl), (Nat.le_of_ble_eq_true rfl)⟩ (fun H hp hzz hf => ?_)
  obtain ⟨hz, hbun⟩ := hp
  have c0 := va_at.kept c0 (hf _ (by omega) (by show ¬ _ ≤ _; omega))
  have cd1 := cd1.kept (fun q hq => hf q (by unfold iv at hq; omega) (by unfold iv at hq; show ¬ _ ≤ _; omega))
  have cd22 := cd22.kept (fun q hq => hf q (by unfold iv at hq; omega) (by unfold iv at hq; show ¬ _ ≤ _; omega))
  have cd43 := hbun
  refine y_put6F C c0 (by show _ ≤ _; omega) 2 (by decide) q14 rfl rfl (hin rfl) rfl (ty := (.object "SetRepairs$Desk")) (by decide +kernel) rfl rfl (Nat.le_of_ble_eq_true rfl) dX6_init_34 (fun H c0 ow1 zw1 => ?_)
  have cd1 := cd1.kept (fun q hq => ow1 q (by unfold iv at hq; omega))
  have cd22 := cd22.kept (fun q hq => ow1 q (by unfold iv at hq; omega))
  have cd43 := cd43.kept (fun q hq => ow1 q (by unfold iv at hq; omega))
  have hz := zw1.trans hz
  have c0 : cA1 g b (.inr (6, [.ref (b + 1), .ref (b + 22), .ref (b + 43), .int 0, .null, .null])) H := c0
  refine y_aload_n C 0 dX6_init_37 rfl rfl ?_
  refine y_iconst C (0) dX6_init_38 (by decide) ?_
  refine y_put6 C c0 (by show _ ≤ _; omega) 3 (by decide) q15 rfl rfl (ty := .boolean) (by decide +kernel) rfl rfl (Nat.le_of_ble_eq_true rfl) dX6_init_39 (fun H c0 ow1 zw1 => ?_)
  have cd1 := cd1.kept (fun q hq => ow1 q (by unfold iv at hq; omega))
  have cd22 := cd22.kept (fun q hq => ow1 q (by unfold iv at hq; omega))
  have cd43 := cd43.kept (fun q hq => ow1 q (by unfold iv at hq; omega))
  have hz := zw1.trans hz
  have c0 : cA1 g b (.inr (6, [.ref (b + 1), .ref (b + 22), .ref (b + 43), .int (0 : Int32), .null, .null])) H := c0
  refine y_aload_n C 0 dX6_init_42 rfl rfl ?_
  refine y_new3 C (fs := [.int 0, .null]) q16 q17 q18 (fun j hj => match j, hj with | 0, _ => rfl | 1, _ => rfl | n + 2, hj => absurd hj (by omega)) (Nat.le_of_ble_eq_true rfl) (Nat.le_of_ble_eq_true rfl) dX6_init_43 hz (fun H hnw zn on => ?_)
  have c0 := va_at.kept c0 (on _ (by omega))
  have cd1 := cd1.kept (fun q hq => on q (by unfold iv at hq; omega))
  have cd22 := cd22.kept (fun q hq => on q (by unfold iv at hq; omega))
  have cd43 := cd43.kept (fun q hq => on q (by unfold iv at hq; omega))
  have hz : H.size = b + 65 := zn
  have c64 := hnw
  refine y_dup C dX6_init_46 rfl ?_
  refine y_callI C (c_X3_init g B0 l b) q77 q78 q18 q79 rfl hi_X3_init ⟨(Nat.le_of_ble_eq_true rfl), (Nat.le_of_ble_eq_true rfl)⟩ ⟨rfl, rfl⟩ ⟨hz, c64⟩ (fun q hq => by show _ ≤ _; exact Nat.le_trans (by omega) hq) (Nat.le_of_ble_eq_true rfl) dX6_init_47 ⟨(Nat.le_of_ble_eq_true rfl), (Nat.le_of_ble_eq_true rfl)⟩ (fun H hp hzz hf => ?_)
  obtain ⟨hz, hh, hst, hk1, hk2, hk3, hk4⟩ := hp
  have c0 := va_at.kept c0 (hf _ (by omega) (by show ¬ _ ≤ _; omega))
  have cd1 := cd1.kept (fun q hq => hf q (by unfold iv at hq; omega) (by unfold iv at hq; show ¬ _ ≤ _; omega))
  have cd22 := cd22.kept (fun q hq => hf q (by unfold iv at hq; omega) (by unfold iv at hq; show ¬ _ ≤ _; omega))
  have cd43 := cd43.kept (fun q hq => hf q (by unfold iv at hq; omega) (by unfold iv at hq; show ¬ _ ≤ _; omega))
  refine y_put6F C c0 (by show _ ≤ _; omega) 4 (by decide) q19 rfl rfl (hin rfl) rfl (ty := (.object "SetRepairs$History")) (by decide +kernel) rfl rfl (Nat.le_of_ble_eq_true rfl) dX6_init_50 (fun H c0 ow1 zw1 => ?_)
  have cd1 := cd1.kept (fun q hq => ow1 q (by unfold iv at hq; omega))
  have cd22 := cd22.kept (fun q hq => ow1 q (by unfold iv at hq; omega))
  have cd43 := cd43.kept (fun q hq => ow1 q (by unfold iv at hq; omega))
  have hh := va_at.kept hh (ow1 _ (by omega))
  have hst := va_at.kept hst (ow1 _ (by omega))
  have hk1 := hk1.kept (fun q hq => ow1 q (by unfold iv at hq; omega))
  have hk2 := hk2.kept (fun q hq => ow1 q (by unfold iv at hq; omega))
  have hk3 := hk3.kept (fun q hq => ow1 q (by unfold iv at hq; omega))
  have hk4 := hk4.kept (fun q hq => ow1 q (by unfold iv at hq; omega))
  have hz := zw1.trans hz
  have c0 : cA1 g b (.inr (6, [.ref (b + 1), .ref (b + 22), .ref (b + 43), .int (0 : Int32), .ref (b + 64), .null])) H := c0
  refine y_aload_n C 0 dX6_init_53 rfl rfl ?_
  refine y_new0 C (fs := [.int 0, .null]) q20 q21 q22 (fun j hj => match j, hj with | 0, _ => rfl | 1, _ => rfl | n + 2, hj => absurd hj (by omega)) (Nat.le_of_ble_eq_true rfl) (Nat.le_of_ble_eq_true rfl) dX6_init_54 hz (fun H hnw zn on => ?_)
  have c0 := va_at.kept c0 (on _ (by omega))
  have cd1 := cd1.kept (fun q hq => on q (by unfold iv at hq; omega))
  have cd22 := cd22.kept (fun q hq => on q (by unfold iv at hq; omega))
  have cd43 := cd43.kept (fun q hq => on q (by unfold iv at hq; omega))
  have hh := va_at.kept hh (on _ (by omega))
  have hst := va_at.kept hst (on _ (by omega))
  have hk1 := hk1.kept (fun q hq => on q (by unfold iv at hq; omega))
  have hk2 := hk2.kept (fun q hq => on q (by unfold iv at hq; omega))
  have hk3 := hk3.kept (fun q hq => on q (by unfold iv at hq; omega))
  have hk4 := hk4.kept (fun q hq => on q (by unfold iv at hq; omega))
  have hz : H.size = b + 151 := zn
  have c150 := hnw
  refine y_dup C dX6_init_57 rfl ?_
  refine y_callI C (c_X0_init g B0 l (b + 150)) q85 q86 q22 q87 rfl hi_X0_init ⟨(Nat.le_of_ble_eq_true rfl), (Nat.le_of_ble_eq_true rfl)⟩ ⟨rfl, rfl⟩ ⟨hz, c150⟩ (fun q hq => by show _ ≤ _; exact Nat.le_trans (by omega) hq) (Nat.le_of_ble_eq_true rfl) dX6_init_58 ⟨(Nat.le_of_ble_eq_true rfl), (Nat.le_of_ble_eq_true rfl)⟩ (fun H hp hzz hf => ?_)
  have hz := hp
  have c0 := va_at.kept c0 (hf _ (by omega) (by show ¬ _ ≤ _; omega))
  have cd1 := cd1.kept (fun q hq => hf q (by unfold iv at hq; omega) (by unfold iv at hq; show ¬ _ ≤ _; omega))
  have cd22 := cd22.kept (fun q hq => hf q (by unfold iv at hq; omega) (by unfold iv at hq; show ¬ _ ≤ _; omega))
  have cd43 := cd43.kept (fun q hq => hf q (by unfold iv at hq; omega) (by unfold iv at hq; show ¬ _ ≤ _; omega))
  have hh := va_at.kept hh (hf _ (by omega) (by show ¬ _ ≤ _; omega))
  have hst := va_at.kept hst (hf _ (by omega) (by show ¬ _ ≤ _; omega))
  have hk1 := hk1.kept (fun q hq => hf q (by unfold iv at hq; omega) (by unfold iv at hq; show ¬ _ ≤ _; omega))
  have hk2 := hk2.kept (fun q hq => hf q (by unfold iv at hq; omega) (by unfold iv at hq; show ¬ _ ≤ _; omega))
  have hk3 := hk3.kept (fun q hq => hf q (by unfold iv at hq; omega) (by unfold iv at hq; show ¬ _ ≤ _; omega))
  have hk4 := hk4.kept (fun q hq => hf q (by unfold iv at hq; omega) (by unfold iv at hq; show ¬ _ ≤ _; omega))
  refine y_put6F C c0 (by show _ ≤ _; omega) 5 (by decide) q23 rfl rfl (hin rfl) rfl (ty := (.object "SetRepairs$AnswerText")) (by decide +kernel) rfl rfl (Nat.le_of_ble_eq_true rfl) dX6_init_61 (fun H c0 ow1 zw1 => ?_)
  have cd1 := cd1.kept (fun q hq => ow1 q (by unfold iv at hq; omega))
  have cd22 := cd22.kept (fun q hq => ow1 q (by unfold iv at hq; omega))
  have cd43 := cd43.kept (fun q hq => ow1 q (by unfold iv at hq; omega))
  have hh := va_at.kept hh (ow1 _ (by omega))
  have hst := va_at.kept hst (ow1 _ (by omega))
  have hk1 := hk1.kept (fun q hq => ow1 q (by unfold iv at hq; omega))
  have hk2 := hk2.kept (fun q hq => ow1 q (by unfold iv at hq; omega))
  have hk3 := hk3.kept (fun q hq => ow1 q (by unfold iv at hq; omega))
  have hk4 := hk4.kept (fun q hq => ow1 q (by unfold iv at hq; omega))
  have hz := zw1.trans hz
  have c0 : cA1 g b (.inr (6, [.ref (b + 1), .ref (b + 22), .ref (b + 43), .int (0 : Int32), .ref (b + 64), .ref (b + 150)])) H := c0
  exact y_vret C hr ⟨hz, c0, hh, hst, fun j hj => match j, hj with | 0, _ => cd1 | 1, _ => cd22 | 2, _ => cd43 | 3, _ => hk1 | 4, _ => hk2 | 5, _ => hk3 | 6, _ => hk4 | n + 7, hj => absurd hj (by omega)⟩ dX6_init_64
