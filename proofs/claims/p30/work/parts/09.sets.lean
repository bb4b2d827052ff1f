/-! THE SETS, as numbers -/
theorem dset_ne (d : DV) (i k j : Nat) (x : Int32) (h : j ≠ i) : (dset d i k x).1 j = d.1 j := if_neg h
theorem dset_at (d : DV) (i k : Nat) (x : Int32) : (dset d i k x).1 i = upd (d.1 i) k x := if_pos rfl
def isR (d : DV) (k : Nat) : Int32 := if d.1 18 k = 4 then 1 else if d.1 18 k = 5 then 1 else 0
def itf (d : DV) (k : Nat) (st lo : Int32) : Int32 := if d.1 18 k = st then (if d.1 17 k = lo then 1 else 0) else 0
def ins (d : DV) (st : Int32) : Nat → Int32
  | 0 => 0
  | n + 1 => if d.1 18 n = st then ins d st n + 1 else ins d st n
def wlo (d : DV) : Nat → Int32
  | 0 => 0
  | n + 1 => wlo d n + d.1 17 n
def adS (d : DV) (f day : Int32) : DV := dset (dset (dset (dset (dset (dset (dset (dset (dset d 12 (nm d) f) 13 (nm d) day) 14 (nm d) 0) 15 (nm d) 0) 16 (nm d) 0) 17 (nm d) 0) 18 (nm d) 0) 19 (nm d) (-5)) 11 0 (d.1 11 0 + 1)
def rm_X4_isReady : Room := { frames := 0, cells := 0, slots := 0, locals := 0 }
set_option maxRecDepth 100000 in
set_option maxHeartbeats 4000000 in
theorem c_X4_isReady (g : KG) (B0 : Nat) (l : Launch) (a : Nat) (d : DV) (k : Nat) (hk : k < 20) : Mt g B0 l yX4_isReady cX4_isReady 2 (some .boolean) rm_X4_isReady [.ref (a + 11), .int (nI k)] (iv a 21) (dk g a d) (some (.int (isR d k))) (dk g a d) 0 0 := by
  refine Mt_of RX4 (by decide) rfl [(0, .ref (a + 11)), (1, .int (nI k))] rfl (Nat.le_of_ble_eq_true rfl) ?_
  intro pr e s m args below meth c C hr hin hd
  refine y_aload_n C 0 dX4_isReady_0 rfl rfl ?_
  refine y_get4 C (dk_11 hd) 7 (by decide) q72 rfl rfl dX4_isReady_1 ?_
  refine y_iload_n C 1 dX4_isReady_4 rfl rfl ?_
  refine y_iald C (dk_18 hd) k rfl hk (by decide) dX4_isReady_5 ?_
  refine y_iconst C (4) dX4_isReady_6 (by decide) ?_
  refine y_icmp_eq C 20 dX4_isReady_7 (by decide) (fun h1 => ?_) (fun h1 => ?_)
  · refine y_iconst C (1) dX4_isReady_20 (by decide) ?_
    refine y_goto C 25 dX4_isReady_21 (by decide) ?_
    exact y_zret C hr (by first | exact Or.inl rfl | exact Or.inr rfl) (by first | (rw [isR, if_neg h1]; done) | (rw [isR, if_pos h1]; done) | (rw [isR]; done)) hd dX4_isReady_25
  · refine y_aload_n C 0 dX4_isReady_10 rfl rfl ?_
    refine y_get4 C (dk_11 hd) 7 (by decide) q72 rfl rfl dX4_isReady_11 ?_
    refine y_iload_n C 1 dX4_isReady_14 rfl rfl ?_
    refine y_iald C (dk_18 hd) k rfl hk (by decide) dX4_isReady_15 ?_
    refine y_iconst C (5) dX4_isReady_16 (by decide) ?_
    refine y_icmp_ne C 24 dX4_isReady_17 (by decide) (fun h2 => ?_) (fun h2 => ?_)
    · refine y_iconst C (0) dX4_isReady_24 (by decide) ?_
      exact y_zret C hr (by first | exact Or.inl rfl | exact Or.inr rfl) (by first | (rw [isR, if_neg h1, if_neg h2]; done) | (rw [isR, if_neg h1, if_pos h2]; done) | (rw [isR, if_pos h1, if_neg h2]; done) | (rw [isR, if_pos h1, if_pos h2]; done) | (rw [isR, if_neg h1]; done) | (rw [isR, if_pos h1]; done) | (rw [isR]; done)) hd dX4_isReady_25
    · refine y_iconst C (1) dX4_isReady_20 (by decide) ?_
      refine y_goto C 25 dX4_isReady_21 (by decide) ?_
      exact y_zret C hr (by first | exact Or.inl rfl | exact Or.inr rfl) (by first | (rw [isR, if_neg h1, if_neg h2]; done) | (rw [isR, if_neg h1, if_pos h2]; done) | (rw [isR, if_pos h1, if_neg h2]; done) | (rw [isR, if_pos h1, if_pos h2]; done) | (rw [isR, if_neg h1]; done) | (rw [isR, if_pos h1]; done) | (rw [isR]; done)) hd dX4_isReady_25
def rm_X4_isTurnOf : Room := { frames := 0, cells := 0, slots := 0, locals := 0 }
set_option maxRecDepth 100000 in
set_option maxHeartbeats 4000000 in
theorem c_X4_isTurnOf (g : KG) (B0 : Nat) (l : Launch) (a : Nat) (d : DV) (k : Nat) (wst wlo : Int32) (hk : k < 20) : Mt g B0 l yX4_isTurnOf cX4_isTurnOf 4 (some .boolean) rm_X4_isTurnOf [.ref (a + 11), .int (nI k), .int wst, .int wlo] (iv a 21) (dk g a d) (some (.int (itf d k wst wlo))) (dk g a d) 0 0 := by
  refine Mt_of RX4 (by decide) rfl [(0, .ref (a + 11)), (1, .int (nI k)), (2, .int wst), (3, .int wlo)] rfl (Nat.le_of_ble_eq_true rfl) ?_
  intro pr e s m args below meth c C hr hin hd
  refine y_aload_n C 0 dX4_isTurnOf_0 rfl rfl ?_
  refine y_get4 C (dk_11 hd) 7 (by decide) q72 rfl rfl dX4_isTurnOf_1 ?_
  refine y_iload_n C 1 dX4_isTurnOf_4 rfl rfl ?_
  refine y_iald C (dk_18 hd) k rfl hk (by decide) dX4_isTurnOf_5 ?_
  refine y_iload_n C 2 dX4_isTurnOf_6 rfl rfl ?_
  refine y_icmp_ne C 24 dX4_isTurnOf_7 (by decide) (fun h1 => ?_) (fun h1 => ?_)
  · refine y_iconst C (0) dX4_isTurnOf_24 (by decide) ?_
    exact y_zret C hr (by first | exact Or.inl rfl | exact Or.inr rfl) (by first | (rw [itf, if_neg h1]; done) | (rw [itf, if_pos h1]; done) | (rw [itf]; done)) hd dX4_isTurnOf_25
  · refine y_aload_n C 0 dX4_isTurnOf_10 rfl rfl ?_
    refine y_get4 C (dk_11 hd) 6 (by decide) q71 rfl rfl dX4_isTurnOf_11 ?_
    refine y_iload_n C 1 dX4_isTurnOf_14 rfl rfl ?_
    refine y_iald C (dk_17 hd) k rfl hk (by decide) dX4_isTurnOf_15 ?_
    refine y_iload_n C 3 dX4_isTurnOf_16 rfl rfl ?_
    refine y_icmp_ne C 24 dX4_isTurnOf_17 (by decide) (fun h2 => ?_) (fun h2 => ?_)
    · refine y_iconst C (0) dX4_isTurnOf_24 (by decide) ?_
      exact y_zret C hr (by first | exact Or.inl rfl | exact Or.inr rfl) (by first | (rw [itf, if_neg h1, if_neg h2]; done) | (rw [itf, if_neg h1, if_pos h2]; done) | (rw [itf, if_pos h1, if_neg h2]; done) | (rw [itf, if_pos h1, if_pos h2]; done) | (rw [itf, if_neg h1]; done) | (rw [itf, if_pos h1]; done) | (rw [itf]; done)) hd dX4_isTurnOf_25
    · refine y_iconst C (1) dX4_isTurnOf_20 (by decide) ?_
      refine y_goto C 25 dX4_isTurnOf_21 (by decide) ?_
      exact y_zret C hr (by first | exact Or.inl rfl | exact Or.inr rfl) (by first | (rw [itf, if_neg h1, if_neg h2]; done) | (rw [itf, if_neg h1, if_pos h2]; done) | (rw [itf, if_pos h1, if_neg h2]; done) | (rw [itf, if_pos h1, if_pos h2]; done) | (rw [itf, if_neg h1]; done) | (rw [itf, if_pos h1]; done) | (rw [itf]; done)) hd dX4_isTurnOf_25
def rm_X4_inState : Room := { frames := 0, cells := 0, slots := 0, locals := 0 }
set_option maxRecDepth 100000 in
set_option maxHeartbeats 4000000 in
theorem c_X4_inState (g : KG) (B0 : Nat) (l : Launch) (a : Nat) (d : DV) (wst : Int32) (hsf : sf d) : Mt g B0 l yX4_inState cX4_inState 4 (some .int) rm_X4_inState [.ref (a + 11), .int wst] (iv a 21) (dk g a d) (some (.int (ins d wst (nm d)))) (dk g a d) 0 0 := by
  refine Mt_of RX4 (by decide) rfl [(0, .ref (a + 11)), (1, .int wst)] rfl (Nat.le_of_ble_eq_true rfl) ?_
  intro pr e s m args below meth c C hr hin hd
  refine y_iconst C (0) dX4_inState_0 (by decide) ?_
  refine y_istore_n C dX4_inState_1 rfl (by decide) rfl ?_
  refine y_iconst C (0) dX4_inState_2 (by decide) ?_
  refine y_istore_n C dX4_inState_3 rfl (by decide) rfl ?_
  suffices K : ∀ rem n : Nat, n + rem = nm d → ∀ sum : Int32, sum = ins d wst n → ∀ H : Heap, dk g a d H → Yx (iv a 21) pr l e rm_X4_inState s m args below meth c 4 0 0 (MQ below (Qx (some (.int (ins d wst (nm d)))) (dk g a d) (iv a 21)) args s 0 0 (iv a 21)) [(3, .int (nI n)), (2, .int sum), (0, .ref (a + 11)), (1, .int wst)] H 4 [] from K (nm d) 0 (Nat.zero_add _) _ rfl _ hd
  intro rem
  induction rem with
  | zero =>
    intro n hn sum hs H hd
    obtain rfl : n = nm d := by omega
    refine y_iload_n C 0 dX4_inState_4 rfl rfl ?_
    refine y_aload_n C 2 dX4_inState_5 rfl rfl ?_
    refine y_get4 C (dk_11 hd) 0 (by decide) q65 rfl rfl dX4_inState_6 ?_
    refine y_icmp_ge C 31 dX4_inState_9 (by decide) (fun _ => ?_) (fun h => absurd (ge_t rfl hsf.2.1.1 (Nat.le_refl _) (by have := hsf.2.1.2; omega)) h)
    refine y_iload_n C 1 dX4_inState_31 rfl rfl ?_
    exact y_iret C hr (by rw [hs]) hd dX4_inState_32
  | succ rem ih =>
    intro n hn sum hs H hd
    have hlt : n < nm d := by omega
    refine y_iload_n C 0 dX4_inState_4 rfl rfl ?_
    refine y_aload_n C 2 dX4_inState_5 rfl rfl ?_
    refine y_get4 C (dk_11 hd) 0 (by decide) q65 rfl rfl dX4_inState_6 ?_
    refine y_icmp_ge C 31 dX4_inState_9 (by decide) (fun h => absurd h (ge_f rfl hsf.2.1.1 hlt (by have := hsf.2.1.2; omega))) (fun _ => ?_)
    refine y_aload_n C 2 dX4_inState_12 rfl rfl ?_
    refine y_get4 C (dk_11 hd) 7 (by decide) q72 rfl rfl dX4_inState_13 ?_
    refine y_iload_n C 0 dX4_inState_16 rfl rfl ?_
    refine y_iald C (dk_18 hd) n rfl (by have := hsf.2.1.2; omega) (by decide) dX4_inState_17 ?_
    refine y_iload_n C 3 dX4_inState_18 rfl rfl ?_
    refine y_icmp_ne C 25 dX4_inState_19 (by decide) (fun h1 => ?_) (fun h1 => ?_)
    · refine y_iinc C 0 (nI (n + 1)) dX4_inState_25 rfl (nI_succ _).symm (by decide) rfl ?_
      refine y_goto C 4 dX4_inState_28 (by decide) ?_
      exact ih (n + 1) (by omega) _ (by rw [ins, if_neg h1, hs]) H hd
    · refine y_iinc C 1 _ dX4_inState_22 rfl rfl (by decide) rfl ?_
      refine y_iinc C 1 (nI (n + 1)) dX4_inState_25 rfl (nI_succ _).symm (by decide) rfl ?_
      refine y_goto C 4 dX4_inState_28 (by decide) ?_
      exact ih (n + 1) (by omega) _ (by rw [ins, if_pos h1, hs] <;> rfl) H hd
def rm_X4_withLoaner : Room := { frames := 0, cells := 0, slots := 0, locals := 0 }
set_option maxRecDepth 100000 in
set_option maxHeartbeats 4000000 in
theorem c_X4_withLoaner (g : KG) (B0 : Nat) (l : Launch) (a : Nat) (d : DV) (hsf : sf d) : Mt g B0 l yX4_withLoaner cX4_withLoaner 3 (some .int) rm_X4_withLoaner [.ref (a + 11)] (iv a 21) (dk g a d) (some (.int (wlo d (nm d)))) (dk g a d) 0 0 := by
  refine Mt_of RX4 (by decide) rfl [(0, .ref (a + 11))] rfl (Nat.le_of_ble_eq_true rfl) ?_
  intro pr e s m args below meth c C hr hin hd
  refine y_iconst C (0) dX4_withLoaner_0 (by decide) ?_
  refine y_istore_n C dX4_withLoaner_1 rfl (by decide) rfl ?_
  refine y_iconst C (0) dX4_withLoaner_2 (by decide) ?_
  refine y_istore_n C dX4_withLoaner_3 rfl (by decide) rfl ?_
  suffices K : ∀ rem n : Nat, n + rem = nm d → ∀ sum : Int32, sum = wlo d n → ∀ H : Heap, dk g a d H → Yx (iv a 21) pr l e rm_X4_withLoaner s m args below meth c 3 0 0 (MQ below (Qx (some (.int (wlo d (nm d)))) (dk g a d) (iv a 21)) args s 0 0 (iv a 21)) [(2, .int (nI n)), (1, .int sum), (0, .ref (a + 11))] H 4 [] from K (nm d) 0 (Nat.zero_add _) _ rfl _ hd
  intro rem
  induction rem with
  | zero =>
    intro n hn sum hs H hd
    obtain rfl : n = nm d := by omega
    refine y_iload_n C 0 dX4_withLoaner_4 rfl rfl ?_
    refine y_aload_n C 2 dX4_withLoaner_5 rfl rfl ?_
    refine y_get4 C (dk_11 hd) 0 (by decide) q65 rfl rfl dX4_withLoaner_6 ?_
    refine y_icmp_ge C 27 dX4_withLoaner_9 (by decide) (fun _ => ?_) (fun h => absurd (ge_t rfl hsf.2.1.1 (Nat.le_refl _) (by have := hsf.2.1.2; omega)) h)
    refine y_iload_n C 1 dX4_withLoaner_27 rfl rfl ?_
    exact y_iret C hr (by rw [hs]) hd dX4_withLoaner_28
  | succ rem ih =>
    intro n hn sum hs H hd
    have hlt : n < nm d := by omega
    refine y_iload_n C 0 dX4_withLoaner_4 rfl rfl ?_
    refine y_aload_n C 2 dX4_withLoaner_5 rfl rfl ?_
    refine y_get4 C (dk_11 hd) 0 (by decide) q65 rfl rfl dX4_withLoaner_6 ?_
    refine y_icmp_ge C 27 dX4_withLoaner_9 (by decide) (fun h => absurd h (ge_f rfl hsf.2.1.1 hlt (by have := hsf.2.1.2; omega))) (fun _ => ?_)
    refine y_iload_n C 1 dX4_withLoaner_12 rfl rfl ?_
    refine y_aload_n C 2 dX4_withLoaner_13 rfl rfl ?_
    refine y_get4 C (dk_11 hd) 6 (by decide) q71 rfl rfl dX4_withLoaner_14 ?_
    refine y_iload_n C 0 dX4_withLoaner_17 rfl rfl ?_
    refine y_iald C (dk_17 hd) n rfl (by have := hsf.2.1.2; omega) (by decide) dX4_withLoaner_18 ?_
    refine y_iadd C dX4_withLoaner_19 ?_
    refine y_istore_n C dX4_withLoaner_20 rfl (by decide) rfl ?_
    refine y_iinc C 1 (nI (n + 1)) dX4_withLoaner_21 rfl (nI_succ _).symm (by decide) rfl ?_
    refine y_goto C 4 dX4_withLoaner_24 (by decide) ?_
    exact ih (n + 1) (by omega) _ (by rw [wlo, hs]) H hd
def rm_X4_add : Room := { frames := 0, cells := 0, slots := 0, locals := 0 }
set_option maxRecDepth 100000 in
set_option maxHeartbeats 4000000 in
theorem c_X4_add (g : KG) (B0 : Nat) (l : Launch) (a : Nat) (d : DV) (f day : Int32) (hsf : sf d) (hnm : nm d < 20) : Mt g B0 l yX4_add cX4_add 4 (some .int) rm_X4_add [.ref (a + 11), .int f, .int day] (iv a 21) (dk g a d) (some (.int (nI (nm d)))) (dk g a (adS d f day)) 0 0 := by
  refine Mt_of RX4 (by decide) rfl [(0, .ref (a + 11)), (1, .int f), (2, .int day)] rfl (Nat.le_of_ble_eq_true rfl) ?_
  intro pr e s m args below meth c C hr hin hd
  refine y_aload_n C 0 dX4_add_0 rfl rfl ?_
  refine y_get4 C (dk_11 hd) 0 (by decide) q65 rfl rfl dX4_add_1 ?_
  refine y_bipush C (20) dX4_add_4 (by decide) ?_
  refine y_icmp_lt C 12 dX4_add_6 (by decide) (fun _ => ?_) (fun h => absurd (lt_t hsf.2.1.1 rfl hnm (by decide)) h)
  refine y_aload_n C 0 dX4_add_12 rfl rfl ?_
  refine y_get4 C (dk_11 hd) 0 (by decide) q65 rfl rfl dX4_add_13 ?_
  refine y_istore_n C dX4_add_16 rfl (by decide) rfl ?_
  refine y_aload_n C 1 dX4_add_17 rfl rfl ?_
  refine y_get4 C (dk_11 hd) 1 (by decide) q66 rfl rfl dX4_add_18 ?_
  refine y_iload_n C 0 dX4_add_21 rfl rfl ?_
  refine y_iload_n C 2 dX4_add_22 rfl rfl ?_
  refine y_iast C (dk_12 hd) (ivm 12 (by decide)) (nm d) hsf.2.1.1 hnm (by decide) dX4_add_23 (fun H hw1 ow1 zw1 => ?_)
  have hd := dk_set12 hd hw1 ow1
  refine y_aload_n C 1 dX4_add_24 rfl rfl ?_
  refine y_get4 C (dk_11 hd) 2 (by decide) q67 rfl rfl dX4_add_25 ?_
  refine y_iload_n C 0 dX4_add_28 rfl rfl ?_
  refine y_iload_n C 3 dX4_add_29 rfl rfl ?_
  refine y_iast C (dk_13 hd) (ivm 13 (by decide)) (nm d) hsf.2.1.1 hnm (by decide) dX4_add_30 (fun H hw1 ow1 zw1 => ?_)
  have hd := dk_set13 hd hw1 ow1
  refine y_aload_n C 1 dX4_add_31 rfl rfl ?_
  refine y_get4 C (dk_11 hd) 3 (by decide) q68 rfl rfl dX4_add_32 ?_
  refine y_iload_n C 0 dX4_add_35 rfl rfl ?_
  refine y_iconst C (0) dX4_add_36 (by decide) ?_
  refine y_iast C (dk_14 hd) (ivm 14 (by decide)) (nm d) hsf.2.1.1 hnm (by decide) dX4_add_37 (fun H hw1 ow1 zw1 => ?_)
  have hd := dk_set14 hd hw1 ow1
  refine y_aload_n C 1 dX4_add_38 rfl rfl ?_
  refine y_get4 C (dk_11 hd) 4 (by decide) q69 rfl rfl dX4_add_39 ?_
  refine y_iload_n C 0 dX4_add_42 rfl rfl ?_
  refine y_iconst C (0) dX4_add_43 (by decide) ?_
  refine y_iast C (dk_15 hd) (ivm 15 (by decide)) (nm d) hsf.2.1.1 hnm (by decide) dX4_add_44 (fun H hw1 ow1 zw1 => ?_)
  have hd := dk_set15 hd hw1 ow1
  refine y_aload_n C 1 dX4_add_45 rfl rfl ?_
  refine y_get4 C (dk_11 hd) 5 (by decide) q70 rfl rfl dX4_add_46 ?_
  refine y_iload_n C 0 dX4_add_49 rfl rfl ?_
  refine y_iconst C (0) dX4_add_50 (by decide) ?_
  refine y_iast C (dk_16 hd) (ivm 16 (by decide)) (nm d) hsf.2.1.1 hnm (by decide) dX4_add_51 (fun H hw1 ow1 zw1 => ?_)
  have hd := dk_set16 hd hw1 ow1
  refine y_aload_n C 1 dX4_add_52 rfl rfl ?_
  refine y_get4 C (dk_11 hd) 6 (by decide) q71 rfl rfl dX4_add_53 ?_
  refine y_iload_n C 0 dX4_add_56 rfl rfl ?_
  refine y_iconst C (0) dX4_add_57 (by decide) ?_
  refine y_iast C (dk_17 hd) (ivm 17 (by decide)) (nm d) hsf.2.1.1 hnm (by decide) dX4_add_58 (fun H hw1 ow1 zw1 => ?_)
  have hd := dk_set17 hd hw1 ow1
  refine y_aload_n C 1 dX4_add_59 rfl rfl ?_
  refine y_get4 C (dk_11 hd) 7 (by decide) q72 rfl rfl dX4_add_60 ?_
  refine y_iload_n C 0 dX4_add_63 rfl rfl ?_
  refine y_iconst C (0) dX4_add_64 (by decide) ?_
  refine y_iast C (dk_18 hd) (ivm 18 (by decide)) (nm d) hsf.2.1.1 hnm (by decide) dX4_add_65 (fun H hw1 ow1 zw1 => ?_)
  have hd := dk_set18 hd hw1 ow1
  refine y_aload_n C 1 dX4_add_66 rfl rfl ?_
  refine y_get4 C (dk_11 hd) 8 (by decide) q73 rfl rfl dX4_add_67 ?_
  refine y_iload_n C 0 dX4_add_70 rfl rfl ?_
  refine y_bipush C (-5) dX4_add_71 (by decide) ?_
  refine y_iast C (dk_19 hd) (ivm 19 (by decide)) (nm d) hsf.2.1.1 hnm (by decide) dX4_add_73 (fun H hw1 ow1 zw1 => ?_)
  have hd := dk_set19 hd hw1 ow1
  refine y_aload_n C 1 dX4_add_74 rfl rfl ?_
  refine y_dup C dX4_add_75 rfl ?_
  refine y_get4 C (dk_11 hd) 0 (by decide) q65 rfl rfl dX4_add_76 ?_
  refine y_iconst C (1) dX4_add_79 (by decide) ?_
  refine y_iadd C dX4_add_80 ?_
  refine y_put4 C (dk_11 hd) (ivm 11 (by decide)) 0 (by decide) q65 rfl rfl (ty := .int) (by decide +kernel) rfl rfl (Nat.le_of_ble_eq_true rfl) dX4_add_81 (fun H hw1 ow1 zw1 => ?_)
  have hd := dk_put11_0 hd hw1 ow1
  refine y_iload_n C 0 dX4_add_84 rfl rfl ?_
  exact y_iret C hr (by rw [hsf.2.1.1]) hd dX4_add_85
