/-! COPIES: a desk takes over what another holds -/
def cp1 (d e : DV) : DV := dset (dset (dset (dset (dset (dset d 20 0 (e.1 20 0)) 20 1 (e.1 20 1)) 20 2 (e.1 20 2)) 20 3 (e.1 20 3)) 20 4 (e.1 20 4)) 20 5 (e.1 20 5)
def cp5 (d e : DV) : DV := dcp (dcp (dcp (dset (dcp (dcp (dcp (dcp d e 4) e 5) e 6) e 7) 3 0 (e.1 3 0)) e 8) e 9) e 10
def cp4 (d e : DV) : DV := dcp (dcp (dcp (dcp (dcp (dcp (dcp (dcp (dset d 11 0 (e.1 11 0)) e 12) e 13) e 14) e 15) e 16) e 17) e 18) e 19
def cp2 (d e : DV) : DV := cp1 (cp4 (cp5 (dcp (rcp (dset d 0 0 (e.1 0 0)) e) e 2) e) e) e
def rm_X1_copyFrom : Room := { frames := 0, cells := 0, slots := 0, locals := 0 }
set_option maxRecDepth 100000 in
set_option maxHeartbeats 4000000 in
theorem c_X1_copyFrom (g : KG) (B0 : Nat) (l : Launch) (a b : Nat) (d v : DV) (hdis : ∀ q, iv a 21 q → ¬ iv b 21 q) : Mt g B0 l yX1_copyFrom cX1_copyFrom 2 none rm_X1_copyFrom [.ref (a + 20), .ref (b + 20)] (iv a 21) (fun H => dk g a d H ∧ dk g b v H) none (fun H => dk g a (cp1 d v) H ∧ dk g b v H) 0 0 := by
  refine Mt_of RX1 (by decide) rfl [(0, .ref (a + 20)), (1, .ref (b + 20))] rfl (Nat.le_of_ble_eq_true rfl) ?_
  intro pr e s m args below meth c C hr hin hd
  obtain ⟨hd, hb⟩ := hd
  refine y_aload_n C 0 dX1_copyFrom_0 rfl rfl ?_
  refine y_aload_n C 1 dX1_copyFrom_1 rfl rfl ?_
  refine y_get1 C (dk_20 hb) 0 (by decide) q166 rfl rfl dX1_copyFrom_2 ?_
  refine y_put1 C (dk_20 hd) (ivm 20 (by decide)) 0 (by decide) q166 rfl rfl (ty := .int) (by decide +kernel) rfl rfl (Nat.le_of_ble_eq_true rfl) dX1_copyFrom_5 (fun H hw1 ow1 zw1 => ?_)
  have hd := dk_put20_0 hd hw1 ow1
  have hb := hb.off ow1 (hdis _ (ivm 20 (by decide)))
  refine y_aload_n C 0 dX1_copyFrom_8 rfl rfl ?_
  refine y_aload_n C 1 dX1_copyFrom_9 rfl rfl ?_
  refine y_get1 C (dk_20 hb) 1 (by decide) q167 rfl rfl dX1_copyFrom_10 ?_
  refine y_put1 C (dk_20 hd) (ivm 20 (by decide)) 1 (by decide) q167 rfl rfl (ty := .int) (by decide +kernel) rfl rfl (Nat.le_of_ble_eq_true rfl) dX1_copyFrom_13 (fun H hw1 ow1 zw1 => ?_)
  have hd := dk_put20_1 hd hw1 ow1
  have hb := hb.off ow1 (hdis _ (ivm 20 (by decide)))
  refine y_aload_n C 0 dX1_copyFrom_16 rfl rfl ?_
  refine y_aload_n C 1 dX1_copyFrom_17 rfl rfl ?_
  refine y_get1 C (dk_20 hb) 2 (by decide) q168 rfl rfl dX1_copyFrom_18 ?_
  refine y_put1 C (dk_20 hd) (ivm 20 (by decide)) 2 (by decide) q168 rfl rfl (ty := .int) (by decide +kernel) rfl rfl (Nat.le_of_ble_eq_true rfl) dX1_copyFrom_21 (fun H hw1 ow1 zw1 => ?_)
  have hd := dk_put20_2 hd hw1 ow1
  have hb := hb.off ow1 (hdis _ (ivm 20 (by decide)))
  refine y_aload_n C 0 dX1_copyFrom_24 rfl rfl ?_
  refine y_aload_n C 1 dX1_copyFrom_25 rfl rfl ?_
  refine y_get1 C (dk_20 hb) 3 (by decide) q169 rfl rfl dX1_copyFrom_26 ?_
  refine y_put1 C (dk_20 hd) (ivm 20 (by decide)) 3 (by decide) q169 rfl rfl (ty := .int) (by decide +kernel) rfl rfl (Nat.le_of_ble_eq_true rfl) dX1_copyFrom_29 (fun H hw1 ow1 zw1 => ?_)
  have hd := dk_put20_3 hd hw1 ow1
  have hb := hb.off ow1 (hdis _ (ivm 20 (by decide)))
  refine y_aload_n C 0 dX1_copyFrom_32 rfl rfl ?_
  refine y_aload_n C 1 dX1_copyFrom_33 rfl rfl ?_
  refine y_get1 C (dk_20 hb) 4 (by decide) q170 rfl rfl dX1_copyFrom_34 ?_
  refine y_put1 C (dk_20 hd) (ivm 20 (by decide)) 4 (by decide) q170 rfl rfl (ty := .int) (by decide +kernel) rfl rfl (Nat.le_of_ble_eq_true rfl) dX1_copyFrom_37 (fun H hw1 ow1 zw1 => ?_)
  have hd := dk_put20_4 hd hw1 ow1
  have hb := hb.off ow1 (hdis _ (ivm 20 (by decide)))
  refine y_aload_n C 0 dX1_copyFrom_40 rfl rfl ?_
  refine y_aload_n C 1 dX1_copyFrom_41 rfl rfl ?_
  refine y_get1 C (dk_20 hb) 5 (by decide) q171 rfl rfl dX1_copyFrom_42 ?_
  refine y_put1 C (dk_20 hd) (ivm 20 (by decide)) 5 (by decide) q171 rfl rfl (ty := .int) (by decide +kernel) rfl rfl (Nat.le_of_ble_eq_true rfl) dX1_copyFrom_45 (fun H hw1 ow1 zw1 => ?_)
  have hd := dk_put20_5 hd hw1 ow1
  have hb := hb.off ow1 (hdis _ (ivm 20 (by decide)))
  exact y_vret C hr ⟨hd, hb⟩ dX1_copyFrom_48
def rm_X5_copyFrom : Room := { frames := 1, cells := 0, slots := 0, locals := 18 }
set_option maxRecDepth 100000 in
set_option maxHeartbeats 4000000 in
theorem c_X5_copyFrom (g : KG) (B0 : Nat) (l : Launch) (a b : Nat) (d v : DV) (hdis : ∀ q, iv a 21 q → ¬ iv b 21 q) : Mt g B0 l yX5_copyFrom cX5_copyFrom 2 none rm_X5_copyFrom [.ref (a + 3), .ref (b + 3)] (iv a 21) (fun H => dk g a d H ∧ dk g b v H) none (fun H => dk g a (cp5 d v) H ∧ dk g b v H) 0 0 := by
  refine Mt_of RX5 (by decide) rfl [(0, .ref (a + 3)), (1, .ref (b + 3))] rfl (Nat.le_of_ble_eq_true rfl) ?_
  intro pr e s m args below meth c C hr hin hd
  obtain ⟨hd, hb⟩ := hd
  refine y_aload_n C 1 dX5_copyFrom_0 rfl rfl ?_
  refine y_get5 C (dk_3 hb) 0 (by decide) q53 rfl rfl dX5_copyFrom_1 ?_
  refine y_iconst C (0) dX5_copyFrom_4 (by decide) ?_
  refine y_aload_n C 0 dX5_copyFrom_5 rfl rfl ?_
  refine y_get5 C (dk_3 hd) 0 (by decide) q53 rfl rfl dX5_copyFrom_6 ?_
  refine y_iconst C (0) dX5_copyFrom_9 (by decide) ?_
  refine y_bipush C (6) dX5_copyFrom_10 (by decide) ?_
  refine y_copyi C (dk_4 hb) (dk_4 hd) (ivm 4 (by decide)) rfl (by decide) q156 q149 q150 q151 (Nat.le_of_ble_eq_true rfl) (Nat.le_of_ble_eq_true rfl) dX5_copyFrom_12 (fun H hw1 ow1 zw1 => ?_)
  have hd := dk_cp4 hd hw1 ow1
  have hb := hb.off ow1 (hdis _ (ivm 4 (by decide)))
  refine y_aload_n C 1 dX5_copyFrom_15 rfl rfl ?_
  refine y_get5 C (dk_3 hb) 1 (by decide) q54 rfl rfl dX5_copyFrom_16 ?_
  refine y_iconst C (0) dX5_copyFrom_19 (by decide) ?_
  refine y_aload_n C 0 dX5_copyFrom_20 rfl rfl ?_
  refine y_get5 C (dk_3 hd) 1 (by decide) q54 rfl rfl dX5_copyFrom_21 ?_
  refine y_iconst C (0) dX5_copyFrom_24 (by decide) ?_
  refine y_bipush C (6) dX5_copyFrom_25 (by decide) ?_
  refine y_copyi C (dk_5 hb) (dk_5 hd) (ivm 5 (by decide)) rfl (by decide) q156 q149 q150 q151 (Nat.le_of_ble_eq_true rfl) (Nat.le_of_ble_eq_true rfl) dX5_copyFrom_27 (fun H hw1 ow1 zw1 => ?_)
  have hd := dk_cp5 hd hw1 ow1
  have hb := hb.off ow1 (hdis _ (ivm 5 (by decide)))
  refine y_aload_n C 1 dX5_copyFrom_30 rfl rfl ?_
  refine y_get5 C (dk_3 hb) 2 (by decide) q55 rfl rfl dX5_copyFrom_31 ?_
  refine y_iconst C (0) dX5_copyFrom_34 (by decide) ?_
  refine y_aload_n C 0 dX5_copyFrom_35 rfl rfl ?_
  refine y_get5 C (dk_3 hd) 2 (by decide) q55 rfl rfl dX5_copyFrom_36 ?_
  refine y_iconst C (0) dX5_copyFrom_39 (by decide) ?_
  refine y_bipush C (6) dX5_copyFrom_40 (by decide) ?_
  refine y_copyi C (dk_6 hb) (dk_6 hd) (ivm 6 (by decide)) rfl (by decide) q156 q149 q150 q151 (Nat.le_of_ble_eq_true rfl) (Nat.le_of_ble_eq_true rfl) dX5_copyFrom_42 (fun H hw1 ow1 zw1 => ?_)
  have hd := dk_cp6 hd hw1 ow1
  have hb := hb.off ow1 (hdis _ (ivm 6 (by decide)))
  refine y_aload_n C 1 dX5_copyFrom_45 rfl rfl ?_
  refine y_get5 C (dk_3 hb) 3 (by decide) q56 rfl rfl dX5_copyFrom_46 ?_
  refine y_iconst C (0) dX5_copyFrom_49 (by decide) ?_
  refine y_aload_n C 0 dX5_copyFrom_50 rfl rfl ?_
  refine y_get5 C (dk_3 hd) 3 (by decide) q56 rfl rfl dX5_copyFrom_51 ?_
  refine y_iconst C (0) dX5_copyFrom_54 (by decide) ?_
  refine y_bipush C (6) dX5_copyFrom_55 (by decide) ?_
  refine y_copyi C (dk_7 hb) (dk_7 hd) (ivm 7 (by decide)) rfl (by decide) q156 q149 q150 q151 (Nat.le_of_ble_eq_true rfl) (Nat.le_of_ble_eq_true rfl) dX5_copyFrom_57 (fun H hw1 ow1 zw1 => ?_)
  have hd := dk_cp7 hd hw1 ow1
  have hb := hb.off ow1 (hdis _ (ivm 7 (by decide)))
  refine y_aload_n C 0 dX5_copyFrom_60 rfl rfl ?_
  refine y_aload_n C 1 dX5_copyFrom_61 rfl rfl ?_
  refine y_get5 C (dk_3 hb) 4 (by decide) q57 rfl rfl dX5_copyFrom_62 ?_
  refine y_put5 C (dk_3 hd) (ivm 3 (by decide)) 4 (by decide) q57 rfl rfl (ty := .int) (by decide +kernel) rfl rfl (Nat.le_of_ble_eq_true rfl) dX5_copyFrom_65 (fun H hw1 ow1 zw1 => ?_)
  have hd := dk_put3_4 hd hw1 ow1
  have hb := hb.off ow1 (hdis _ (ivm 3 (by decide)))
  refine y_aload_n C 1 dX5_copyFrom_68 rfl rfl ?_
  refine y_get5 C (dk_3 hb) 5 (by decide) q58 rfl rfl dX5_copyFrom_69 ?_
  refine y_iconst C (0) dX5_copyFrom_72 (by decide) ?_
  refine y_aload_n C 0 dX5_copyFrom_73 rfl rfl ?_
  refine y_get5 C (dk_3 hd) 5 (by decide) q58 rfl rfl dX5_copyFrom_74 ?_
  refine y_iconst C (0) dX5_copyFrom_77 (by decide) ?_
  refine y_bipush C (12) dX5_copyFrom_78 (by decide) ?_
  refine y_copyi C (dk_8 hb) (dk_8 hd) (ivm 8 (by decide)) rfl (by decide) q156 q149 q150 q151 (Nat.le_of_ble_eq_true rfl) (Nat.le_of_ble_eq_true rfl) dX5_copyFrom_80 (fun H hw1 ow1 zw1 => ?_)
  have hd := dk_cp8 hd hw1 ow1
  have hb := hb.off ow1 (hdis _ (ivm 8 (by decide)))
  refine y_aload_n C 1 dX5_copyFrom_83 rfl rfl ?_
  refine y_get5 C (dk_3 hb) 6 (by decide) q59 rfl rfl dX5_copyFrom_84 ?_
  refine y_iconst C (0) dX5_copyFrom_87 (by decide) ?_
  refine y_aload_n C 0 dX5_copyFrom_88 rfl rfl ?_
  refine y_get5 C (dk_3 hd) 6 (by decide) q59 rfl rfl dX5_copyFrom_89 ?_
  refine y_iconst C (0) dX5_copyFrom_92 (by decide) ?_
  refine y_bipush C (12) dX5_copyFrom_93 (by decide) ?_
  refine y_copyi C (dk_9 hb) (dk_9 hd) (ivm 9 (by decide)) rfl (by decide) q156 q149 q150 q151 (Nat.le_of_ble_eq_true rfl) (Nat.le_of_ble_eq_true rfl) dX5_copyFrom_95 (fun H hw1 ow1 zw1 => ?_)
  have hd := dk_cp9 hd hw1 ow1
  have hb := hb.off ow1 (hdis _ (ivm 9 (by decide)))
  refine y_aload_n C 1 dX5_copyFrom_98 rfl rfl ?_
  refine y_get5 C (dk_3 hb) 7 (by decide) q60 rfl rfl dX5_copyFrom_99 ?_
  refine y_iconst C (0) dX5_copyFrom_102 (by decide) ?_
  refine y_aload_n C 0 dX5_copyFrom_103 rfl rfl ?_
  refine y_get5 C (dk_3 hd) 7 (by decide) q60 rfl rfl dX5_copyFrom_104 ?_
  refine y_iconst C (0) dX5_copyFrom_107 (by decide) ?_
  refine y_bipush C (12) dX5_copyFrom_108 (by decide) ?_
  refine y_copyi C (dk_10 hb) (dk_10 hd) (ivm 10 (by decide)) rfl (by decide) q156 q149 q150 q151 (Nat.le_of_ble_eq_true rfl) (Nat.le_of_ble_eq_true rfl) dX5_copyFrom_110 (fun H hw1 ow1 zw1 => ?_)
  have hd := dk_cp10 hd hw1 ow1
  have hb := hb.off ow1 (hdis _ (ivm 10 (by decide)))
  exact y_vret C hr ⟨hd, hb⟩ dX5_copyFrom_113
def rm_X4_copyFrom : Room := { frames := 1, cells := 0, slots := 0, locals := 18 }
set_option maxRecDepth 100000 in
set_option maxHeartbeats 4000000 in
theorem c_X4_copyFrom (g : KG) (B0 : Nat) (l : Launch) (a b : Nat) (d v : DV) (hdis : ∀ q, iv a 21 q → ¬ iv b 21 q) : Mt g B0 l yX4_copyFrom cX4_copyFrom 2 none rm_X4_copyFrom [.ref (a + 11), .ref (b + 11)] (iv a 21) (fun H => dk g a d H ∧ dk g b v H) none (fun H => dk g a (cp4 d v) H ∧ dk g b v H) 0 0 := by
  refine Mt_of RX4 (by decide) rfl [(0, .ref (a + 11)), (1, .ref (b + 11))] rfl (Nat.le_of_ble_eq_true rfl) ?_
  intro pr e s m args below meth c C hr hin hd
  obtain ⟨hd, hb⟩ := hd
  refine y_aload_n C 0 dX4_copyFrom_0 rfl rfl ?_
  refine y_aload_n C 1 dX4_copyFrom_1 rfl rfl ?_
  refine y_get4 C (dk_11 hb) 0 (by decide) q65 rfl rfl dX4_copyFrom_2 ?_
  refine y_put4 C (dk_11 hd) (ivm 11 (by decide)) 0 (by decide) q65 rfl rfl (ty := .int) (by decide +kernel) rfl rfl (Nat.le_of_ble_eq_true rfl) dX4_copyFrom_5 (fun H hw1 ow1 zw1 => ?_)
  have hd := dk_put11_0 hd hw1 ow1
  have hb := hb.off ow1 (hdis _ (ivm 11 (by decide)))
  refine y_aload_n C 1 dX4_copyFrom_8 rfl rfl ?_
  refine y_get4 C (dk_11 hb) 1 (by decide) q66 rfl rfl dX4_copyFrom_9 ?_
  refine y_iconst C (0) dX4_copyFrom_12 (by decide) ?_
  refine y_aload_n C 0 dX4_copyFrom_13 rfl rfl ?_
  refine y_get4 C (dk_11 hd) 1 (by decide) q66 rfl rfl dX4_copyFrom_14 ?_
  refine y_iconst C (0) dX4_copyFrom_17 (by decide) ?_
  refine y_bipush C (20) dX4_copyFrom_18 (by decide) ?_
  refine y_copyi C (dk_12 hb) (dk_12 hd) (ivm 12 (by decide)) rfl (by decide) q161 q149 q150 q151 (Nat.le_of_ble_eq_true rfl) (Nat.le_of_ble_eq_true rfl) dX4_copyFrom_20 (fun H hw1 ow1 zw1 => ?_)
  have hd := dk_cp12 hd hw1 ow1
  have hb := hb.off ow1 (hdis _ (ivm 12 (by decide)))
  refine y_aload_n C 1 dX4_copyFrom_23 rfl rfl ?_
  refine y_get4 C (dk_11 hb) 2 (by decide) q67 rfl rfl dX4_copyFrom_24 ?_
  refine y_iconst C (0) dX4_copyFrom_27 (by decide) ?_
  refine y_aload_n C 0 dX4_copyFrom_28 rfl rfl ?_
  refine y_get4 C (dk_11 hd) 2 (by decide) q67 rfl rfl dX4_copyFrom_29 ?_
  refine y_iconst C (0) dX4_copyFrom_32 (by decide) ?_
  refine y_bipush C (20) dX4_copyFrom_33 (by decide) ?_
  refine y_copyi C (dk_13 hb) (dk_13 hd) (ivm 13 (by decide)) rfl (by decide) q161 q149 q150 q151 (Nat.le_of_ble_eq_true rfl) (Nat.le_of_ble_eq_true rfl) dX4_copyFrom_35 (fun H hw1 ow1 zw1 => ?_)
  have hd := dk_cp13 hd hw1 ow1
  have hb := hb.off ow1 (hdis _ (ivm 13 (by decide)))
  refine y_aload_n C 1 dX4_copyFrom_38 rfl rfl ?_
  refine y_get4 C (dk_11 hb) 3 (by decide) q68 rfl rfl dX4_copyFrom_39 ?_
  refine y_iconst C (0) dX4_copyFrom_42 (by decide) ?_
  refine y_aload_n C 0 dX4_copyFrom_43 rfl rfl ?_
  refine y_get4 C (dk_11 hd) 3 (by decide) q68 rfl rfl dX4_copyFrom_44 ?_
  refine y_iconst C (0) dX4_copyFrom_47 (by decide) ?_
  refine y_bipush C (20) dX4_copyFrom_48 (by decide) ?_
  refine y_copyi C (dk_14 hb) (dk_14 hd) (ivm 14 (by decide)) rfl (by decide) q161 q149 q150 q151 (Nat.le_of_ble_eq_true rfl) (Nat.le_of_ble_eq_true rfl) dX4_copyFrom_50 (fun H hw1 ow1 zw1 => ?_)
  have hd := dk_cp14 hd hw1 ow1
  have hb := hb.off ow1 (hdis _ (ivm 14 (by decide)))
  refine y_aload_n C 1 dX4_copyFrom_53 rfl rfl ?_
  refine y_get4 C (dk_11 hb) 4 (by decide) q69 rfl rfl dX4_copyFrom_54 ?_
  refine y_iconst C (0) dX4_copyFrom_57 (by decide) ?_
  refine y_aload_n C 0 dX4_copyFrom_58 rfl rfl ?_
  refine y_get4 C (dk_11 hd) 4 (by decide) q69 rfl rfl dX4_copyFrom_59 ?_
  refine y_iconst C (0) dX4_copyFrom_62 (by decide) ?_
  refine y_bipush C (20) dX4_copyFrom_63 (by decide) ?_
  refine y_copyi C (dk_15 hb) (dk_15 hd) (ivm 15 (by decide)) rfl (by decide) q161 q149 q150 q151 (Nat.le_of_ble_eq_true rfl) (Nat.le_of_ble_eq_true rfl) dX4_copyFrom_65 (fun H hw1 ow1 zw1 => ?_)
  have hd := dk_cp15 hd hw1 ow1
  have hb := hb.off ow1 (hdis _ (ivm 15 (by decide)))
  refine y_aload_n C 1 dX4_copyFrom_68 rfl rfl ?_
  refine y_get4 C (dk_11 hb) 5 (by decide) q70 rfl rfl dX4_copyFrom_69 ?_
  refine y_iconst C (0) dX4_copyFrom_72 (by decide) ?_
  refine y_aload_n C 0 dX4_copyFrom_73 rfl rfl ?_
  refine y_get4 C (dk_11 hd) 5 (by decide) q70 rfl rfl dX4_copyFrom_74 ?_
  refine y_iconst C (0) dX4_copyFrom_77 (by decide) ?_
  refine y_bipush C (20) dX4_copyFrom_78 (by decide) ?_
  refine y_copyi C (dk_16 hb) (dk_16 hd) (ivm 16 (by decide)) rfl (by decide) q161 q149 q150 q151 (Nat.le_of_ble_eq_true rfl) (Nat.le_of_ble_eq_true rfl) dX4_copyFrom_80 (fun H hw1 ow1 zw1 => ?_)
  have hd := dk_cp16 hd hw1 ow1
  have hb := hb.off ow1 (hdis _ (ivm 16 (by decide)))
  refine y_aload_n C 1 dX4_copyFrom_83 rfl rfl ?_
  refine y_get4 C (dk_11 hb) 6 (by decide) q71 rfl rfl dX4_copyFrom_84 ?_
  refine y_iconst C (0) dX4_copyFrom_87 (by decide) ?_
  refine y_aload_n C 0 dX4_copyFrom_88 rfl rfl ?_
  refine y_get4 C (dk_11 hd) 6 (by decide) q71 rfl rfl dX4_copyFrom_89 ?_
  refine y_iconst C (0) dX4_copyFrom_92 (by decide) ?_
  refine y_bipush C (20) dX4_copyFrom_93 (by decide) ?_
  refine y_copyi C (dk_17 hb) (dk_17 hd) (ivm 17 (by decide)) rfl (by decide) q161 q149 q150 q151 (Nat.le_of_ble_eq_true rfl) (Nat.le_of_ble_eq_true rfl) dX4_copyFrom_95 (fun H hw1 ow1 zw1 => ?_)
  have hd := dk_cp17 hd hw1 ow1
  have hb := hb.off ow1 (hdis _ (ivm 17 (by decide)))
  refine y_aload_n C 1 dX4_copyFrom_98 rfl rfl ?_
  refine y_get4 C (dk_11 hb) 7 (by decide) q72 rfl rfl dX4_copyFrom_99 ?_
  refine y_iconst C (0) dX4_copyFrom_102 (by decide) ?_
  refine y_aload_n C 0 dX4_copyFrom_103 rfl rfl ?_
  refine y_get4 C (dk_11 hd) 7 (by decide) q72 rfl rfl dX4_copyFrom_104 ?_
  refine y_iconst C (0) dX4_copyFrom_107 (by decide) ?_
  refine y_bipush C (20) dX4_copyFrom_108 (by decide) ?_
  refine y_copyi C (dk_18 hb) (dk_18 hd) (ivm 18 (by decide)) rfl (by decide) q161 q149 q150 q151 (Nat.le_of_ble_eq_true rfl) (Nat.le_of_ble_eq_true rfl) dX4_copyFrom_110 (fun H hw1 ow1 zw1 => ?_)
  have hd := dk_cp18 hd hw1 ow1
  have hb := hb.off ow1 (hdis _ (ivm 18 (by decide)))
  refine y_aload_n C 1 dX4_copyFrom_113 rfl rfl ?_
  refine y_get4 C (dk_11 hb) 8 (by decide) q73 rfl rfl dX4_copyFrom_114 ?_
  refine y_iconst C (0) dX4_copyFrom_117 (by decide) ?_
  refine y_aload_n C 0 dX4_copyFrom_118 rfl rfl ?_
  refine y_get4 C (dk_11 hd) 8 (by decide) q73 rfl rfl dX4_copyFrom_119 ?_
  refine y_iconst C (0) dX4_copyFrom_122 (by decide) ?_
  refine y_bipush C (20) dX4_copyFrom_123 (by decide) ?_
  refine y_copyi C (dk_19 hb) (dk_19 hd) (ivm 19 (by decide)) rfl (by decide) q161 q149 q150 q151 (Nat.le_of_ble_eq_true rfl) (Nat.le_of_ble_eq_true rfl) dX4_copyFrom_125 (fun H hw1 ow1 zw1 => ?_)
  have hd := dk_cp19 hd hw1 ow1
  have hb := hb.off ow1 (hdis _ (ivm 19 (by decide)))
  exact y_vret C hr ⟨hd, hb⟩ dX4_copyFrom_128
theorem cp2_eq (d e : DV) : deq (cp2 d e) e := by
  refine ⟨rfl, rfl, rfl, ?_, ?_, rfl⟩
  · intro j hj
    match j, hj with
    | 0, _ => rfl
    | 1, _ => rfl
    | 2, _ => rfl
    | 3, _ => rfl
    | 4, _ => rfl
    | 5, _ => rfl
    | n + 6, hj => exact absurd hj (by omega)
  · intro i h0 h1 h3 h11 hi
    match i, hi, h0, h1, h3, h11 with
    | 0, _, hh, _, _, _ => exact absurd rfl hh
    | 1, _, _, hh, _, _ => exact absurd rfl hh
    | 2, _, _, _, _, _ => rfl
    | 3, _, _, _, hh, _ => exact absurd rfl hh
    | 4, _, _, _, _, _ => rfl
    | 5, _, _, _, _, _ => rfl
    | 6, _, _, _, _, _ => rfl
    | 7, _, _, _, _, _ => rfl
    | 8, _, _, _, _, _ => rfl
    | 9, _, _, _, _, _ => rfl
    | 10, _, _, _, _, _ => rfl
    | 11, _, _, _, _, hh => exact absurd rfl hh
    | 12, _, _, _, _, _ => rfl
    | 13, _, _, _, _, _ => rfl
    | 14, _, _, _, _, _ => rfl
    | 15, _, _, _, _, _ => rfl
    | 16, _, _, _, _, _ => rfl
    | 17, _, _, _, _, _ => rfl
    | 18, _, _, _, _, _ => rfl
    | 19, _, _, _, _, _ => rfl
    | n + 20, hi, _, _, _, _ => exact absurd hi (by omega)
def rm_X2_copyFrom : Room := { frames := 2, cells := 0, slots := 0, locals := 39 }
set_option maxRecDepth 100000 in
set_option maxHeartbeats 4000000 in
theorem c_X2_copyFrom (g : KG) (B0 : Nat) (l : Launch) (a b : Nat) (d v : DV) (hdis : ∀ q, iv a 21 q → ¬ iv b 21 q) : Mt g B0 l yX2_copyFrom cX2_copyFrom 2 none rm_X2_copyFrom [.ref a, .ref b] (iv a 21) (fun H => dk g a d H ∧ dk g b v H) none (fun H => dk g a v H ∧ dk g b v H) 0 0 := by
  refine Mt_of RX2 (by decide) rfl [(0, .ref a), (1, .ref b)] rfl (Nat.le_of_ble_eq_true rfl) ?_
  intro pr e s m args below meth c C hr hin hd
  obtain ⟨hd, hb⟩ := hd
  refine y_aload_n C 0 dX2_copyFrom_0 rfl rfl ?_
  refine y_aload_n C 1 dX2_copyFrom_1 rfl rfl ?_
  refine y_get2 C (dk_0 hb) 0 (by decide) q28 rfl rfl dX2_copyFrom_2 ?_
  refine y_put2 C (dk_0 hd) (ivm 0 (by decide)) 0 (by decide) q28 rfl rfl (ty := .int) (by decide +kernel) rfl rfl (Nat.le_of_ble_eq_true rfl) dX2_copyFrom_5 (fun H hw1 ow1 zw1 => ?_)
  have hd := dk_put0_0 hd hw1 ow1
  have hb := hb.off ow1 (hdis _ (ivm 0 (by decide)))
  refine y_aload_n C 1 dX2_copyFrom_8 rfl rfl ?_
  refine y_get2 C (dk_0 hb) 1 (by decide) q34 rfl rfl dX2_copyFrom_9 ?_
  refine y_iconst C (0) dX2_copyFrom_12 (by decide) ?_
  refine y_aload_n C 0 dX2_copyFrom_13 rfl rfl ?_
  refine y_get2 C (dk_0 hd) 1 (by decide) q34 rfl rfl dX2_copyFrom_14 ?_
  refine y_iconst C (0) dX2_copyFrom_17 (by decide) ?_
  refine y_iconst C (4) dX2_copyFrom_18 (by decide) ?_
  refine y_copyf C (dk_1 hb) (dk_1 hd) (ivm 1 (by decide)) rfl (by decide) q148 q149 q150 q151 (Nat.le_of_ble_eq_true rfl) (Nat.le_of_ble_eq_true rfl) dX2_copyFrom_19 (fun H hw1 ow1 zw1 => ?_)
  have hd := dk_cp1 hd hw1 ow1
  have hb := hb.off ow1 (hdis _ (ivm 1 (by decide)))
  refine y_aload_n C 1 dX2_copyFrom_22 rfl rfl ?_
  refine y_get2 C (dk_0 hb) 2 (by decide) q36 rfl rfl dX2_copyFrom_23 ?_
  refine y_iconst C (0) dX2_copyFrom_26 (by decide) ?_
  refine y_aload_n C 0 dX2_copyFrom_27 rfl rfl ?_
  refine y_get2 C (dk_0 hd) 2 (by decide) q36 rfl rfl dX2_copyFrom_28 ?_
  refine y_iconst C (0) dX2_copyFrom_31 (by decide) ?_
  refine y_iconst C (5) dX2_copyFrom_32 (by decide) ?_
  refine y_copyi C (dk_2 hb) (dk_2 hd) (ivm 2 (by decide)) rfl (by decide) q148 q149 q150 q151 (Nat.le_of_ble_eq_true rfl) (Nat.le_of_ble_eq_true rfl) dX2_copyFrom_33 (fun H hw1 ow1 zw1 => ?_)
  have hd := dk_cp2 hd hw1 ow1
  have hb := hb.off ow1 (hdis _ (ivm 2 (by decide)))
  refine y_aload_n C 0 dX2_copyFrom_36 rfl rfl ?_
  refine y_get2 C (dk_0 hd) 3 (by decide) q40 rfl rfl dX2_copyFrom_37 ?_
  refine y_aload_n C 1 dX2_copyFrom_40 rfl rfl ?_
  refine y_get2 C (dk_0 hb) 3 (by decide) q40 rfl rfl dX2_copyFrom_41 ?_
  refine y_callV C [.ref (b + 3)] (c_X5_copyFrom g B0 l a b (dcp (rcp (dset d 0 0 (v.1 0 0)) v) v 2) v hdis) RX5 1 (wVin q152 q153 q154 q39 q155) hy_X5_copyFrom ⟨(Nat.le_of_ble_eq_true rfl), (Nat.le_of_ble_eq_true rfl)⟩ ⟨rfl, rfl⟩ (rcv C.2.2.2.2.2.1 (dk_3 hd) rfl) ⟨hd, hb⟩ (fun _ h => h) rfl rfl (Nat.le_of_ble_eq_true rfl) dX2_copyFrom_44 ⟨(Nat.le_of_ble_eq_true rfl), (Nat.le_of_ble_eq_true rfl)⟩ rfl (fun H hp hz hf => ?_)
  obtain ⟨hd, hb⟩ := hp
  refine y_aload_n C 0 dX2_copyFrom_47 rfl rfl ?_
  refine y_get2 C (dk_0 hd) 4 (by decide) q44 rfl rfl dX2_copyFrom_48 ?_
  refine y_aload_n C 1 dX2_copyFrom_51 rfl rfl ?_
  refine y_get2 C (dk_0 hb) 4 (by decide) q44 rfl rfl dX2_copyFrom_52 ?_
  refine y_callV C [.ref (b + 11)] (c_X4_copyFrom g B0 l a b (cp5 (dcp (rcp (dset d 0 0 (v.1 0 0)) v) v 2) v) v hdis) RX4 1 (wVin q157 q158 q159 q43 q160) hy_X4_copyFrom ⟨(Nat.le_of_ble_eq_true rfl), (Nat.le_of_ble_eq_true rfl)⟩ ⟨rfl, rfl⟩ (rcv C.2.2.2.2.2.1 (dk_11 hd) rfl) ⟨hd, hb⟩ (fun _ h => h) rfl rfl (Nat.le_of_ble_eq_true rfl) dX2_copyFrom_55 ⟨(Nat.le_of_ble_eq_true rfl), (Nat.le_of_ble_eq_true rfl)⟩ rfl (fun H hp hz hf => ?_)
  obtain ⟨hd, hb⟩ := hp
  refine y_aload_n C 0 dX2_copyFrom_58 rfl rfl ?_
  refine y_get2 C (dk_0 hd) 5 (by decide) q48 rfl rfl dX2_copyFrom_59 ?_
  refine y_aload_n C 1 dX2_copyFrom_62 rfl rfl ?_
  refine y_get2 C (dk_0 hb) 5 (by decide) q48 rfl rfl dX2_copyFrom_63 ?_
  refine y_callV C [.ref (b + 20)] (c_X1_copyFrom g B0 l a b (cp4 (cp5 (dcp (rcp (dset d 0 0 (v.1 0 0)) v) v 2) v) v) v hdis) RX1 1 (wVin q162 q163 q164 q47 q165) hy_X1_copyFrom ⟨(Nat.le_of_ble_eq_true rfl), (Nat.le_of_ble_eq_true rfl)⟩ ⟨rfl, rfl⟩ (rcv C.2.2.2.2.2.1 (dk_20 hd) rfl) ⟨hd, hb⟩ (fun _ h => h) rfl rfl (Nat.le_of_ble_eq_true rfl) dX2_copyFrom_66 ⟨(Nat.le_of_ble_eq_true rfl), (Nat.le_of_ble_eq_true rfl)⟩ rfl (fun H hp hz hf => ?_)
  obtain ⟨hd, hb⟩ := hp
  exact y_vret C hr ⟨dk.same (d := cp2 d v) hd (cp2_eq d v), hb⟩ dX2_copyFrom_69
