/-! THE DESK: its contracts -/
theorem y_sub {A : Nat → Prop} {p : Program} {l : Launch} {e : Env} {R : Room} {s : State} {m : MethodId} {args : Array Value} {below : List Frame} {meth : Method} {c : Code} {nL cells slots : Nat} {Q : State → Prop} {lv lv' : List (Nat × Value)} {H : Heap} {pc : Nat} {st : List Value} (ks : List Nat) (k : Yx A p l e R s m args below meth c nL cells slots Q lv' H pc st) (h : lv_pick lv ks = lv') : Yx A p l e R s m args below meth c nL cells slots Q lv H pc st := fun ls locs hl hS => k ls locs (lv_sub hl ks h) hS
def rm_X2_costNow : Room := { frames := 2, cells := 0, slots := 0, locals := 44 }
set_option maxRecDepth 100000 in
set_option maxHeartbeats 4000000 in
theorem c_X2_costNow (g : KG) (B0 : Nat) (l : Launch) (a : Nat) (d : DV) (f : Nat) (hf0 : f < 5) (hfr : fr d) : Mt g B0 l yX2_costNow cX2_costNow 4 (some .int) rm_X2_costNow [.ref a, .int (nI f)] (iv a 21) (dk g a d) (some (.int (cost d f))) (dk g a d) 0 0 := by
  refine Mt_of RX2 (by decide) rfl [(0, .ref a), (1, .int (nI f))] rfl (Nat.le_of_ble_eq_true rfl) ?_
  intro pr e s m args below meth c C hr hin hd
  obtain ⟨tH, hZ, hT⟩ := stA.get C.2.2.2.2.2.1.2.2.2.2.2.2.1 C.2.2.2.2.2.2.1
  refine y_aload_n C 0 dX2_costNow_0 rfl rfl ?_
  refine y_get2 C (dk_0 hd) 3 (by decide) q40 rfl rfl dX2_costNow_1 ?_
  refine y_iload_n C 1 dX2_costNow_4 rfl rfl ?_
  refine y_callV C [.int (nI f)] (c_X5_priceOfParts g B0 l a d f hf0) RX5 1 (wVin q247 q248 q249 q39 q250) hy_X5_priceOfParts ⟨(Nat.le_of_ble_eq_true rfl), (Nat.le_of_ble_eq_true rfl)⟩ ⟨rfl, rfl⟩ (rcv C.2.2.2.2.2.1 (dk_3 hd) rfl) hd (fun _ h => h) rfl rfl (Nat.le_of_ble_eq_true rfl) dX2_costNow_5 ⟨(Nat.le_of_ble_eq_true rfl), (Nat.le_of_ble_eq_true rfl)⟩ rfl (fun H hp hz hf => ?_)
  have hd := hp
  refine y_i2f C dX2_costNow_8 ?_
  refine y_aload_n C 0 dX2_costNow_9 rfl rfl ?_
  refine y_get2 C (dk_0 hd) 1 (by decide) q34 rfl rfl dX2_costNow_10 ?_
  refine y_iconst C (0) dX2_costNow_13 (by decide) ?_
  refine y_fald C (dk_1 hd) 0 rfl (by decide) (by decide) dX2_costNow_14 ?_
  refine y_fmul C dX2_costNow_15 (fp_mul (FP.Core.i2f_fin _) (hfr 0 (by decide))) ?_
  refine y_fstore_n C dX2_costNow_16 rfl (by decide) rfl ?_
  refine y_getsN C hZ C.2.2.2.2.2.1.2.2.1 dX2_costNow_17 ?_
  refine y_iload_n C 2 dX2_costNow_20 rfl rfl ?_
  refine y_sld C hT f rfl hf0 (by decide) dX2_costNow_21 ?_
  refine y_aload_n C 1 dX2_costNow_22 rfl rfl ?_
  refine y_get2 C (dk_0 hd) 2 (by decide) q36 rfl rfl dX2_costNow_23 ?_
  refine y_iconst C (1) dX2_costNow_26 (by decide) ?_
  refine y_iald C (dk_2 hd) 1 rfl (by decide) (by decide) dX2_costNow_27 ?_
  refine y_imul C dX2_costNow_28 ?_
  refine y_i2f C dX2_costNow_29 ?_
  refine y_fstore_n C dX2_costNow_30 rfl (by decide) rfl ?_
  refine y_fload_n C 1 dX2_costNow_31 rfl rfl ?_
  refine y_fload_n C 0 dX2_costNow_32 rfl rfl ?_
  refine y_fadd C dX2_costNow_33 (fp_addm (FP.Core.i2f_fin _) (hfr 0 (by decide)) (FP.Core.i2f_fin _)) ?_
  refine y_f2i C dX2_costNow_34 ?_
  exact y_iret C hr rfl hd dX2_costNow_35
def rm_X2_loanersThere : Room := { frames := 1, cells := 0, slots := 0, locals := 22 }
set_option maxRecDepth 100000 in
set_option maxHeartbeats 4000000 in
theorem c_X2_loanersThere (g : KG) (B0 : Nat) (l : Launch) (a : Nat) (d : DV) (hsf : sf d) : Mt g B0 l yX2_loanersThere cX2_loanersThere 1 (some .int) rm_X2_loanersThere [.ref a] (iv a 21) (dk g a d) (some (.int (lth d))) (dk g a d) 0 0 := by
  refine Mt_of RX2 (by decide) rfl [(0, .ref a)] rfl (Nat.le_of_ble_eq_true rfl) ?_
  intro pr e s m args below meth c C hr hin hd
  refine y_aload_n C 0 dX2_loanersThere_0 rfl rfl ?_
  refine y_get2 C (dk_0 hd) 2 (by decide) q36 rfl rfl dX2_loanersThere_1 ?_
  refine y_iconst C (4) dX2_loanersThere_4 (by decide) ?_
  refine y_iald C (dk_2 hd) 4 rfl (by decide) (by decide) dX2_loanersThere_5 ?_
  refine y_aload_n C 0 dX2_loanersThere_6 rfl rfl ?_
  refine y_get2 C (dk_0 hd) 4 (by decide) q44 rfl rfl dX2_loanersThere_7 ?_
  refine y_callV C [] (c_X4_withLoaner g B0 l a d hsf) RX4 0 (wVin q119 q120 q121 q43 q122) hy_X4_withLoaner ⟨(Nat.le_of_ble_eq_true rfl), (Nat.le_of_ble_eq_true rfl)⟩ ⟨rfl, rfl⟩ (rcv C.2.2.2.2.2.1 (dk_11 hd) rfl) hd (fun _ h => h) rfl rfl (Nat.le_of_ble_eq_true rfl) dX2_loanersThere_10 ⟨(Nat.le_of_ble_eq_true rfl), (Nat.le_of_ble_eq_true rfl)⟩ rfl (fun H hp hz hf => ?_)
  have hd := hp
  refine y_isub C dX2_loanersThere_13 ?_
  exact y_iret C hr rfl hd dX2_loanersThere_14
def rm_X2_storageFee : Room := { frames := 0, cells := 0, slots := 0, locals := 0 }
set_option maxRecDepth 100000 in
set_option maxHeartbeats 4000000 in
theorem c_X2_storageFee (g : KG) (B0 : Nat) (l : Launch) (a : Nat) (d : DV) (k : Nat) (hk : k < 20) (hfr : fr d) : Mt g B0 l yX2_storageFee cX2_storageFee 3 (some .int) rm_X2_storageFee [.ref a, .int (nI k)] (iv a 21) (dk g a d) (some (.int (sfee d k))) (dk g a d) 0 0 := by
  refine Mt_of RX2 (by decide) rfl [(0, .ref a), (1, .int (nI k))] rfl (Nat.le_of_ble_eq_true rfl) ?_
  intro pr e s m args below meth c C hr hin hd
  refine y_aload_n C 0 dX2_storageFee_0 rfl rfl ?_
  refine y_get2 C (dk_0 hd) 0 (by decide) q28 rfl rfl dX2_storageFee_1 ?_
  refine y_aload_n C 0 dX2_storageFee_4 rfl rfl ?_
  refine y_get2 C (dk_0 hd) 4 (by decide) q44 rfl rfl dX2_storageFee_5 ?_
  refine y_get4 C (dk_11 hd) 8 (by decide) q234 rfl rfl dX2_storageFee_8 ?_
  refine y_iload_n C 1 dX2_storageFee_11 rfl rfl ?_
  refine y_iald C (dk_19 hd) k rfl hk (by decide) dX2_storageFee_12 ?_
  refine y_isub C dX2_storageFee_13 ?_
  refine y_aload_n C 0 dX2_storageFee_14 rfl rfl ?_
  refine y_get2 C (dk_0 hd) 2 (by decide) q36 rfl rfl dX2_storageFee_15 ?_
  refine y_iconst C (2) dX2_storageFee_18 (by decide) ?_
  refine y_iald C (dk_2 hd) 2 rfl (by decide) (by decide) dX2_storageFee_19 ?_
  refine y_isub C dX2_storageFee_20 ?_
  refine y_istore_n C dX2_storageFee_21 rfl (by decide) rfl ?_
  refine y_iload_n C 0 dX2_storageFee_22 rfl rfl ?_
  refine y_if_gt C 30 dX2_storageFee_23 (by decide) (fun h1 => ?_) (fun h1 => ?_)
  · refine y_iload_n C 0 dX2_storageFee_30 rfl rfl ?_
    refine y_i2f C dX2_storageFee_31 ?_
    refine y_aload_n C 1 dX2_storageFee_32 rfl rfl ?_
    refine y_get2 C (dk_0 hd) 1 (by decide) q34 rfl rfl dX2_storageFee_33 ?_
    refine y_iconst C (2) dX2_storageFee_36 (by decide) ?_
    refine y_fald C (dk_1 hd) 2 rfl (by decide) (by decide) dX2_storageFee_37 ?_
    refine y_fmul C dX2_storageFee_38 (fp_mul (FP.Core.i2f_fin _) (hfr 2 (by decide))) ?_
    refine y_f2i C dX2_storageFee_39 ?_
    exact y_iret C hr (by first | (rw [sfee, if_neg h1]; done) | (rw [sfee, if_pos h1]; done) | (rw [sfee]; done)) hd dX2_storageFee_40
  · refine y_iconst C (0) dX2_storageFee_26 (by decide) ?_
    refine y_goto C 40 dX2_storageFee_27 (by decide) ?_
    exact y_iret C hr (by first | (rw [sfee, if_neg h1]; done) | (rw [sfee, if_pos h1]; done) | (rw [sfee]; done)) hd dX2_storageFee_40
def rm_X2_lackingOf : Room := { frames := 1, cells := 0, slots := 0, locals := 23 }
set_option maxRecDepth 100000 in
set_option maxHeartbeats 4000000 in
theorem c_X2_lackingOf (g : KG) (B0 : Nat) (l : Launch) (a : Nat) (d : DV) (p : Nat) (hp6 : p < 6) (hsf : sf d) : Mt g B0 l yX2_lackingOf cX2_lackingOf 4 (some .int) rm_X2_lackingOf [.ref a, .int (nI p)] (iv a 21) (dk g a d) (some (.int (lko d p))) (dk g a d) 0 0 := by
  refine Mt_of RX2 (by decide) rfl [(0, .ref a), (1, .int (nI p))] rfl (Nat.le_of_ble_eq_true rfl) ?_
  intro pr e s m args below meth c C hr hin hd
  refine y_iconst C (0) dX2_lackingOf_0 (by decide) ?_
  refine y_istore_n C dX2_lackingOf_1 rfl (by decide) rfl ?_
  refine y_iconst C (0) dX2_lackingOf_2 (by decide) ?_
  refine y_istore_n C dX2_lackingOf_3 rfl (by decide) rfl ?_
  suffices K : ∀ rem n : Nat, n + rem = nm d → ∀ sum : Int32, sum = lkn d p n → ∀ H : Heap, dk g a d H → Yx (iv a 21) pr l e rm_X2_lackingOf s m args below meth c 4 0 0 (MQ below (Qx (some (.int (lko d p))) (dk g a d) (iv a 21)) args s 0 0 (iv a 21)) [(3, .int (nI n)), (2, .int sum), (0, .ref a), (1, .int (nI p))] H 4 [] from K (nm d) 0 (Nat.zero_add _) _ rfl _ hd
  intro rem
  induction rem with
  | zero =>
    intro n hn sum hs H hd
    obtain rfl : n = nm d := by omega
    refine y_iload_n C 0 dX2_lackingOf_4 rfl rfl ?_
    refine y_aload_n C 2 dX2_lackingOf_5 rfl rfl ?_
    refine y_get2 C (dk_0 hd) 4 (by decide) q44 rfl rfl dX2_lackingOf_6 ?_
    refine y_get4 C (dk_11 hd) 0 (by decide) q193 rfl rfl dX2_lackingOf_9 ?_
    refine y_icmp_ge C 50 dX2_lackingOf_12 (by decide) (fun _ => ?_) (fun h => absurd (ge_t rfl hsf.2.1.1 (Nat.le_refl _) (by have := hsf.2.1.2; omega)) h)
    refine y_iconst C (0) dX2_lackingOf_50 (by decide) ?_
    refine y_iload_n C 1 dX2_lackingOf_51 rfl rfl ?_
    refine y_aload_n C 2 dX2_lackingOf_52 rfl rfl ?_
    refine y_get2 C (dk_0 hd) 3 (by decide) q40 rfl rfl dX2_lackingOf_53 ?_
    refine y_iload_n C 3 dX2_lackingOf_56 rfl rfl ?_
    refine y_callV C [.int (nI p)] (c_X5_free g B0 l a d p hp6) RX5 1 (wVin q412 q205 q206 q39 q207) hy_X5_free ⟨(Nat.le_of_ble_eq_true rfl), (Nat.le_of_ble_eq_true rfl)⟩ ⟨rfl, rfl⟩ (rcv C.2.2.2.2.2.1 (dk_3 hd) rfl) hd (fun _ h => h) rfl rfl (Nat.le_of_ble_eq_true rfl) dX2_lackingOf_57 ⟨(Nat.le_of_ble_eq_true rfl), (Nat.le_of_ble_eq_true rfl)⟩ rfl (fun H hp hz hf => ?_)
    have hd := hp
    refine y_isub C dX2_lackingOf_60 ?_
    refine y_aload_n C 2 dX2_lackingOf_61 rfl rfl ?_
    refine y_get2 C (dk_0 hd) 3 (by decide) q40 rfl rfl dX2_lackingOf_62 ?_
    refine y_iload_n C 3 dX2_lackingOf_65 rfl rfl ?_
    refine y_callV C [.int (nI p)] (c_X5_onOrder g B0 l a d p hsf) RX5 1 (wVin q413 q401 q402 q39 q403) hy_X5_onOrder ⟨(Nat.le_of_ble_eq_true rfl), (Nat.le_of_ble_eq_true rfl)⟩ ⟨rfl, rfl⟩ (rcv C.2.2.2.2.2.1 (dk_3 hd) rfl) hd (fun _ h => h) rfl rfl (Nat.le_of_ble_eq_true rfl) dX2_lackingOf_66 ⟨(Nat.le_of_ble_eq_true rfl), (Nat.le_of_ble_eq_true rfl)⟩ rfl (fun H hp hz hf => ?_)
    have hd := hp
    refine y_isub C dX2_lackingOf_69 ?_
    refine y_mmax C q408 q409 q226 q410 (Nat.le_of_ble_eq_true rfl) (Nat.le_of_ble_eq_true rfl) (Nat.le_of_ble_eq_true rfl) (Nat.le_of_ble_eq_true rfl) dX2_lackingOf_70 ?_
    exact y_iret C hr (by rw [lko, ← hs]) hd dX2_lackingOf_73
  | succ rem ih =>
    intro n hn sum hs H hd
    have hlt : n < nm d := by omega
    refine y_iload_n C 0 dX2_lackingOf_4 rfl rfl ?_
    refine y_aload_n C 2 dX2_lackingOf_5 rfl rfl ?_
    refine y_get2 C (dk_0 hd) 4 (by decide) q44 rfl rfl dX2_lackingOf_6 ?_
    refine y_get4 C (dk_11 hd) 0 (by decide) q193 rfl rfl dX2_lackingOf_9 ?_
    refine y_icmp_ge C 50 dX2_lackingOf_12 (by decide) (fun h => absurd h (ge_f rfl hsf.2.1.1 hlt (by have := hsf.2.1.2; omega))) (fun _ => ?_)
    refine y_aload_n C 2 dX2_lackingOf_15 rfl rfl ?_
    refine y_get2 C (dk_0 hd) 4 (by decide) q44 rfl rfl dX2_lackingOf_16 ?_
    refine y_get4 C (dk_11 hd) 7 (by decide) q195 rfl rfl dX2_lackingOf_19 ?_
    refine y_iload_n C 0 dX2_lackingOf_22 rfl rfl ?_
    refine y_iald C (dk_18 hd) n rfl (by have := hsf.2.1.2; omega) (by decide) dX2_lackingOf_23 ?_
    refine y_iconst C (2) dX2_lackingOf_24 (by decide) ?_
    refine y_icmp_ne C 44 dX2_lackingOf_25 (by decide) (fun h1 => ?_) (fun h1 => ?_)
    · refine y_iinc C 0 (nI (n + 1)) dX2_lackingOf_44 rfl (nI_succ _).symm (by decide) rfl ?_
      refine y_goto C 4 dX2_lackingOf_47 (by decide) ?_
      exact ih (n + 1) (by omega) _ (by rw [lkn, if_neg h1, hs]) H hd
    · refine y_iload_n C 1 dX2_lackingOf_28 rfl rfl ?_
      refine y_aload_n C 2 dX2_lackingOf_29 rfl rfl ?_
      refine y_get2 C (dk_0 hd) 4 (by decide) q44 rfl rfl dX2_lackingOf_30 ?_
      refine y_get4 C (dk_11 hd) 1 (by decide) q194 rfl rfl dX2_lackingOf_33 ?_
      refine y_iload_n C 0 dX2_lackingOf_36 rfl rfl ?_
      refine y_iald C (dk_12 hd) n rfl (by have := hsf.2.1.2; omega) (by decide) dX2_lackingOf_37 ?_
      refine y_top (hsf.2.2.1 _ hlt).1 ?_
      refine y_iload_n C 3 dX2_lackingOf_38 rfl rfl ?_
      refine y_callS C [.int (nI (fl d n)), .int (nI p)] (c_X5_needOf g B0 l (fl d n) p (hsf.2.2.1 _ hlt).2 hp6) 2 (wSin q411 q209 q39 q210) hs_X5_needOf ⟨(Nat.le_of_ble_eq_true rfl), (Nat.le_of_ble_eq_true rfl)⟩ ⟨rfl, rfl⟩ trivial nF.no rfl rfl (Nat.le_of_ble_eq_true rfl) dX2_lackingOf_39 ⟨(Nat.le_of_ble_eq_true rfl), (Nat.le_of_ble_eq_true rfl)⟩ rfl (fun H hp hz hf => ?_)
      have hd := hd.fr hf (fun _ _ z => z)
      refine y_iadd C dX2_lackingOf_42 ?_
      refine y_istore_n C dX2_lackingOf_43 rfl (by decide) rfl ?_
      refine y_iinc C 1 (nI (n + 1)) dX2_lackingOf_44 rfl (nI_succ _).symm (by decide) rfl ?_
      refine y_goto C 4 dX2_lackingOf_47 (by decide) ?_
      exact ih (n + 1) (by omega) _ (by rw [lkn, if_pos h1, hs]) H hd
def rm_X2_reservePartsWhere : Room := { frames := 2, cells := 0, slots := 0, locals := 43 }
set_option maxRecDepth 100000 in
set_option maxHeartbeats 4000000 in
theorem c_X2_reservePartsWhere (g : KG) (B0 : Nat) (l : Launch) (a : Nat) (d : DV) (lo : Int32) (hsf : sf d) : Mt g B0 l yX2_reservePartsWhere cX2_reservePartsWhere 4 none rm_X2_reservePartsWhere [.ref a, .int lo] (iv a 21) (dk g a d) none (dk g a (rpw d lo (nm d))) 0 0 := by
  refine Mt_of RX2 (by decide) rfl [(0, .ref a), (1, .int lo)] rfl (Nat.le_of_ble_eq_true rfl) ?_
  intro pr e s m args below meth c C hr hin hd
  refine y_iconst C (0) dX2_reservePartsWhere_0 (by decide) ?_
  refine y_istore_n C dX2_reservePartsWhere_1 rfl (by decide) rfl ?_
  suffices K : ∀ rem n : Nat, n + rem = nm d → ∀ D : DV, D = rpw d lo n → ∀ H : Heap, dk g a D H → Yx (iv a 21) pr l e rm_X2_reservePartsWhere s m args below meth c 4 0 0 (MQ below (Qx none (dk g a (rpw d lo (nm d))) (iv a 21)) args s 0 0 (iv a 21)) [(2, .int (nI n)), (0, .ref a), (1, .int lo)] H 2 [] from K (nm d) 0 (Nat.zero_add _) d rfl _ hd
  intro rem
  induction rem with
  | zero =>
    intro n hn D hs H hd
    have hsD : sf D := by rw [hs]; exact sf_rpw hsf lo n
    have hnm : nm D = nm d := by rw [hs]; exact nm_of (rpw_ne d lo 11 (by decide) (by decide) n)
    have h11 : D.1 11 0 = nI (nm d) := by rw [← hnm]; exact hsD.2.1.1
    obtain rfl : n = nm d := by omega
    refine y_iload_n C 0 dX2_reservePartsWhere_2 rfl rfl ?_
    refine y_aload_n C 1 dX2_reservePartsWhere_3 rfl rfl ?_
    refine y_get2 C (dk_0 hd) 4 (by decide) q44 rfl rfl dX2_reservePartsWhere_4 ?_
    refine y_get4 C (dk_11 hd) 0 (by decide) q193 rfl rfl dX2_reservePartsWhere_7 ?_
    refine y_icmp_ge C 76 dX2_reservePartsWhere_10 (by decide) (fun _ => ?_) (fun h => absurd (ge_t rfl h11 (Nat.le_refl _) (by have := hsf.2.1.2; omega)) h)
    exact y_vret C hr (hs ▸ hd) dX2_reservePartsWhere_76
  | succ rem ih =>
    intro n hn D hs H hd
    have hlt : n < nm d := by omega
    have hsD : sf D := by rw [hs]; exact sf_rpw hsf lo n
    have hnm : nm D = nm d := by rw [hs]; exact nm_of (rpw_ne d lo 11 (by decide) (by decide) n)
    have h11 : D.1 11 0 = nI (nm d) := by rw [← hnm]; exact hsD.2.1.1
    have hkD : n < nm D := by omega
    refine y_iload_n C 0 dX2_reservePartsWhere_2 rfl rfl ?_
    refine y_aload_n C 1 dX2_reservePartsWhere_3 rfl rfl ?_
    refine y_get2 C (dk_0 hd) 4 (by decide) q44 rfl rfl dX2_reservePartsWhere_4 ?_
    refine y_get4 C (dk_11 hd) 0 (by decide) q193 rfl rfl dX2_reservePartsWhere_7 ?_
    refine y_icmp_ge C 76 dX2_reservePartsWhere_10 (by decide) (fun h => absurd h (ge_f rfl h11 hlt (by have := hsf.2.1.2; omega))) (fun _ => ?_)
    refine y_aload_n C 1 dX2_reservePartsWhere_13 rfl rfl ?_
    refine y_get2 C (dk_0 hd) 4 (by decide) q44 rfl rfl dX2_reservePartsWhere_14 ?_
    refine y_iload_n C 0 dX2_reservePartsWhere_17 rfl rfl ?_
    refine y_iconst C (2) dX2_reservePartsWhere_18 (by decide) ?_
    refine y_iload_n C 2 dX2_reservePartsWhere_19 rfl rfl ?_
    refine y_callV C [.int (nI n), .int (2 : Int32), .int lo] (c_X4_isTurnOf g B0 l a D n (2 : Int32) lo (by have := hsf.2.1.2; omega)) RX4 3 (wVin q196 q197 q198 q43 q199) hy_X4_isTurnOf ⟨(Nat.le_of_ble_eq_true rfl), (Nat.le_of_ble_eq_true rfl)⟩ ⟨rfl, rfl⟩ (rcv C.2.2.2.2.2.1 (dk_11 hd) rfl) hd (fun _ h => h) rfl rfl (Nat.le_of_ble_eq_true rfl) dX2_reservePartsWhere_20 ⟨(Nat.le_of_ble_eq_true rfl), (Nat.le_of_ble_eq_true rfl)⟩ rfl (fun H hp hz hf => ?_)
    have hd := hp
    refine y_if_ne C 29 dX2_reservePartsWhere_23 (by decide) (fun h1 => ?_) (fun h1 => ?_)
    · refine y_aload_n C 1 dX2_reservePartsWhere_29 rfl rfl ?_
      refine y_get2 C (dk_0 hd) 4 (by decide) q44 rfl rfl dX2_reservePartsWhere_30 ?_
      refine y_get4 C (dk_11 hd) 1 (by decide) q194 rfl rfl dX2_reservePartsWhere_33 ?_
      refine y_iload_n C 0 dX2_reservePartsWhere_36 rfl rfl ?_
      refine y_iald C (dk_12 hd) n rfl (by have := hsf.2.1.2; omega) (by decide) dX2_reservePartsWhere_37 ?_
      refine y_top (hsD.2.2.1 _ hkD).1 ?_
      refine y_istore_n C dX2_reservePartsWhere_38 rfl (by decide) rfl ?_
      refine y_aload_n C 2 dX2_reservePartsWhere_39 rfl rfl ?_
      refine y_get2 C (dk_0 hd) 3 (by decide) q40 rfl rfl dX2_reservePartsWhere_40 ?_
      refine y_iload_n C 0 dX2_reservePartsWhere_43 rfl rfl ?_
      refine y_callV C [.int (nI (fl D n))] (c_X5_lowestShort g B0 l a D (fl D n) (hsD.2.2.1 _ hkD).2) RX5 1 (wVin q200 q201 q202 q39 q203) hy_X5_lowestShort ⟨(Nat.le_of_ble_eq_true rfl), (Nat.le_of_ble_eq_true rfl)⟩ ⟨rfl, rfl⟩ (rcv C.2.2.2.2.2.1 (dk_3 hd) rfl) hd (fun _ h => h) rfl rfl (Nat.le_of_ble_eq_true rfl) dX2_reservePartsWhere_44 ⟨(Nat.le_of_ble_eq_true rfl), (Nat.le_of_ble_eq_true rfl)⟩ rfl (fun H hp hz hf => ?_)
      have hd := hp
      refine y_bipush C (-5) dX2_reservePartsWhere_47 (by decide) ?_
      refine y_icmp_ne C 70 dX2_reservePartsWhere_49 (by decide) (fun h2 => ?_) (fun h2 => ?_)
      · refine y_iinc C 1 (nI (n + 1)) dX2_reservePartsWhere_70 rfl (nI_succ _).symm (by decide) rfl ?_
        refine y_goto C 2 dX2_reservePartsWhere_73 (by decide) ?_
        exact y_sub [0, 2, 3] (ih (n + 1) (by omega) _ (by rw [rpw, ← hs, if_neg h1, if_neg h2]) H hd) rfl
      · refine y_aload_n C 2 dX2_reservePartsWhere_52 rfl rfl ?_
        refine y_get2 C (dk_0 hd) 3 (by decide) q40 rfl rfl dX2_reservePartsWhere_53 ?_
        refine y_iload_n C 0 dX2_reservePartsWhere_56 rfl rfl ?_
        refine y_callV C [.int (nI (fl D n))] (c_X5_reserveFor g B0 l a D (fl D n) (hsD.2.2.1 _ hkD).2) RX5 1 (wVin q211 q212 q213 q39 q214) hy_X5_reserveFor ⟨(Nat.le_of_ble_eq_true rfl), (Nat.le_of_ble_eq_true rfl)⟩ ⟨rfl, rfl⟩ (rcv C.2.2.2.2.2.1 (dk_3 hd) rfl) hd (fun _ h => h) rfl rfl (Nat.le_of_ble_eq_true rfl) dX2_reservePartsWhere_57 ⟨(Nat.le_of_ble_eq_true rfl), (Nat.le_of_ble_eq_true rfl)⟩ rfl (fun H hp hz hf => ?_)
        have hd := hp
        refine y_aload_n C 2 dX2_reservePartsWhere_60 rfl rfl ?_
        refine y_get2 C (dk_0 hd) 4 (by decide) q44 rfl rfl dX2_reservePartsWhere_61 ?_
        refine y_get4 C (dk_11 hd) 7 (by decide) q195 rfl rfl dX2_reservePartsWhere_64 ?_
        refine y_iload_n C 1 dX2_reservePartsWhere_67 rfl rfl ?_
        refine y_iconst C (3) dX2_reservePartsWhere_68 (by decide) ?_
        refine y_iast C (dk_18 hd) (ivm 18 (by decide)) n rfl (by have := hsf.2.1.2; omega) (by decide) dX2_reservePartsWhere_69 (fun H hw1 ow1 zw1 => ?_)
        have hd := dk_set18 hd hw1 ow1
        refine y_iinc C 1 (nI (n + 1)) dX2_reservePartsWhere_70 rfl (nI_succ _).symm (by decide) rfl ?_
        refine y_goto C 2 dX2_reservePartsWhere_73 (by decide) ?_
        exact y_sub [0, 2, 3] (ih (n + 1) (by omega) _ (by rw [rpw, ← hs, if_neg h1, if_pos h2]) H hd) rfl
    · refine y_goto C 70 dX2_reservePartsWhere_26 (by decide) ?_
      refine y_iinc C 0 (nI (n + 1)) dX2_reservePartsWhere_70 rfl (nI_succ _).symm (by decide) rfl ?_
      refine y_goto C 2 dX2_reservePartsWhere_73 (by decide) ?_
      exact y_sub [0, 1, 2] (ih (n + 1) (by omega) _ (by rw [rpw, ← hs, if_pos h1]) H hd) rfl
def rm_X2_reserveParts : Room := { frames := 3, cells := 0, slots := 0, locals := 66 }
set_option maxRecDepth 100000 in
set_option maxHeartbeats 4000000 in
theorem c_X2_reserveParts (g : KG) (B0 : Nat) (l : Launch) (a : Nat) (d : DV) (hsf : sf d) : Mt g B0 l yX2_reserveParts cX2_reserveParts 1 none rm_X2_reserveParts [.ref a] (iv a 21) (dk g a d) none (dk g a (rpa d)) 0 0 := by
  refine Mt_of RX2 (by decide) rfl [(0, .ref a)] rfl (Nat.le_of_ble_eq_true rfl) ?_
  intro pr e s m args below meth c C hr hin hd
  refine y_aload_n C 0 dX2_reserveParts_0 rfl rfl ?_
  refine y_iconst C (1) dX2_reserveParts_1 (by decide) ?_
  refine y_callV C [.int (1 : Int32)] (c_X2_reservePartsWhere g B0 l a d (1 : Int32) hsf) RX2 1 (wVin q189 q190 q191 q11 q192) hy_X2_reservePartsWhere ⟨(Nat.le_of_ble_eq_true rfl), (Nat.le_of_ble_eq_true rfl)⟩ ⟨rfl, rfl⟩ (rcv C.2.2.2.2.2.1 (dk_0 hd) rfl) hd (fun _ h => h) rfl rfl (Nat.le_of_ble_eq_true rfl) dX2_reserveParts_2 ⟨(Nat.le_of_ble_eq_true rfl), (Nat.le_of_ble_eq_true rfl)⟩ rfl (fun H hp hz hf => ?_)
  have hd := hp
  refine y_aload_n C 0 dX2_reserveParts_5 rfl rfl ?_
  refine y_iconst C (0) dX2_reserveParts_6 (by decide) ?_
  refine y_callV C [.int (0 : Int32)] (c_X2_reservePartsWhere g B0 l a (rpw d (1 : Int32) (nm d)) (0 : Int32) (sf_rpw hsf 1 (nm d))) RX2 1 (wVin q189 q190 q191 q11 q192) hy_X2_reservePartsWhere ⟨(Nat.le_of_ble_eq_true rfl), (Nat.le_of_ble_eq_true rfl)⟩ ⟨rfl, rfl⟩ (rcv C.2.2.2.2.2.1 (dk_0 hd) rfl) hd (fun _ h => h) rfl rfl (Nat.le_of_ble_eq_true rfl) dX2_reserveParts_7 ⟨(Nat.le_of_ble_eq_true rfl), (Nat.le_of_ble_eq_true rfl)⟩ rfl (fun H hp hz hf => ?_)
  have hd := hp
  exact y_vret C hr hd dX2_reserveParts_10
def rm_X2_decide : Room := { frames := 4, cells := 0, slots := 0, locals := 86 }
set_option maxRecDepth 100000 in
set_option maxHeartbeats 4000000 in
theorem c_X2_decide (g : KG) (B0 : Nat) (l : Launch) (a : Nat) (d : DV) (k : Nat) (b : Int32) (hk : k < 20) (hsf : sf d) : Mt g B0 l yX2_decide cX2_decide 3 none rm_X2_decide [.ref a, .int (nI k), .int b] (iv a 21) (dk g a d) none (dk g a (dcd d k b)) 0 0 := by
  refine Mt_of RX2 (by decide) rfl [(0, .ref a), (1, .int (nI k)), (2, .int b)] rfl (Nat.le_of_ble_eq_true rfl) ?_
  intro pr e s m args below meth c C hr hin hd
  refine y_iload_n C 2 dX2_decide_0 rfl rfl ?_
  refine y_if_eq C 21 dX2_decide_1 (by decide) (fun h1 => ?_) (fun h1 => ?_)
  · refine y_aload_n C 0 dX2_decide_21 rfl rfl ?_
    refine y_get2 C (dk_0 hd) 4 (by decide) q44 rfl rfl dX2_decide_22 ?_
    refine y_get4 C (dk_11 hd) 7 (by decide) q195 rfl rfl dX2_decide_25 ?_
    refine y_iload_n C 1 dX2_decide_28 rfl rfl ?_
    refine y_iconst C (5) dX2_decide_29 (by decide) ?_
    refine y_iast C (dk_18 hd) (ivm 18 (by decide)) k rfl hk (by decide) dX2_decide_30 (fun H hw1 ow1 zw1 => ?_)
    have hd := dk_set18 hd hw1 ow1
    refine y_aload_n C 0 dX2_decide_31 rfl rfl ?_
    refine y_get2 C (dk_0 hd) 4 (by decide) q44 rfl rfl dX2_decide_32 ?_
    refine y_get4 C (dk_11 hd) 8 (by decide) q234 rfl rfl dX2_decide_35 ?_
    refine y_iload_n C 1 dX2_decide_38 rfl rfl ?_
    refine y_aload_n C 0 dX2_decide_39 rfl rfl ?_
    refine y_get2 C (dk_0 hd) 0 (by decide) q28 rfl rfl dX2_decide_40 ?_
    refine y_iast C (dk_19 hd) (ivm 19 (by decide)) k rfl hk (by decide) dX2_decide_43 (fun H hw1 ow1 zw1 => ?_)
    have hd := dk_set19 hd hw1 ow1
    exact y_vret C hr (by first | (rw [dcd, if_pos h1]; exact hd) | (rw [dcd, if_neg h1]; exact hd)) dX2_decide_44
  · refine y_aload_n C 0 dX2_decide_4 rfl rfl ?_
    refine y_get2 C (dk_0 hd) 4 (by decide) q44 rfl rfl dX2_decide_5 ?_
    refine y_get4 C (dk_11 hd) 7 (by decide) q195 rfl rfl dX2_decide_8 ?_
    refine y_iload_n C 1 dX2_decide_11 rfl rfl ?_
    refine y_iconst C (2) dX2_decide_12 (by decide) ?_
    refine y_iast C (dk_18 hd) (ivm 18 (by decide)) k rfl hk (by decide) dX2_decide_13 (fun H hw1 ow1 zw1 => ?_)
    have hd := dk_set18 hd hw1 ow1
    refine y_aload_n C 0 dX2_decide_14 rfl rfl ?_
    refine y_callV C [] (c_X2_reserveParts g B0 l a (dset d 18 k (2 : Int32)) (hsf.to rfl rfl rfl rfl)) RX2 0 (wVin q185 q186 q187 q11 q188) hy_X2_reserveParts ⟨(Nat.le_of_ble_eq_true rfl), (Nat.le_of_ble_eq_true rfl)⟩ ⟨rfl, rfl⟩ (rcv C.2.2.2.2.2.1 (dk_0 hd) rfl) hd (fun _ h => h) rfl rfl (Nat.le_of_ble_eq_true rfl) dX2_decide_15 ⟨(Nat.le_of_ble_eq_true rfl), (Nat.le_of_ble_eq_true rfl)⟩ rfl (fun H hp hz hf => ?_)
    have hd := hp
    refine y_goto C 44 dX2_decide_18 (by decide) ?_
    exact y_vret C hr (by first | (rw [dcd, if_pos h1]; exact hd) | (rw [dcd, if_neg h1]; exact hd)) dX2_decide_44
def rm_X2_handOver : Room := { frames := 1, cells := 0, slots := 0, locals := 22 }
set_option maxRecDepth 100000 in
set_option maxHeartbeats 4000000 in
theorem c_X2_handOver (g : KG) (B0 : Nat) (l : Launch) (a : Nat) (d : DV) (k : Nat) (hk : k < 20) (hfr : fr d) : Mt g B0 l yX2_handOver cX2_handOver 3 (some .int) rm_X2_handOver [.ref a, .int (nI k)] (iv a 21) (dk g a d) (some (.int (d.1 16 k + sfee d k))) (dk g a (hov d k)) 0 0 := by
  refine Mt_of RX2 (by decide) rfl [(0, .ref a), (1, .int (nI k))] rfl (Nat.le_of_ble_eq_true rfl) ?_
  intro pr e s m args below meth c C hr hin hd
  refine y_aload_n C 0 dX2_handOver_0 rfl rfl ?_
  refine y_iload_n C 1 dX2_handOver_1 rfl rfl ?_
  refine y_callV C [.int (nI k)] (c_X2_storageFee g B0 l a d k hk hfr) RX2 1 (wVin q329 q330 q331 q11 q332) hy_X2_storageFee ⟨(Nat.le_of_ble_eq_true rfl), (Nat.le_of_ble_eq_true rfl)⟩ ⟨rfl, rfl⟩ (rcv C.2.2.2.2.2.1 (dk_0 hd) rfl) hd (fun _ h => h) rfl rfl (Nat.le_of_ble_eq_true rfl) dX2_handOver_2 ⟨(Nat.le_of_ble_eq_true rfl), (Nat.le_of_ble_eq_true rfl)⟩ rfl (fun H hp hz hf => ?_)
  have hd := hp
  refine y_istore_n C dX2_handOver_5 rfl (by decide) rfl ?_
  refine y_aload_n C 1 dX2_handOver_6 rfl rfl ?_
  refine y_get2 C (dk_0 hd) 5 (by decide) q48 rfl rfl dX2_handOver_7 ?_
  refine y_dup C dX2_handOver_10 rfl ?_
  refine y_get1 C (dk_20 hd) 0 (by decide) q327 rfl rfl dX2_handOver_11 ?_
  refine y_aload_n C 1 dX2_handOver_14 rfl rfl ?_
  refine y_get2 C (dk_0 hd) 4 (by decide) q44 rfl rfl dX2_handOver_15 ?_
  refine y_get4 C (dk_11 hd) 5 (by decide) q233 rfl rfl dX2_handOver_18 ?_
  refine y_iload_n C 2 dX2_handOver_21 rfl rfl ?_
  refine y_iald C (dk_16 hd) k rfl hk (by decide) dX2_handOver_22 ?_
  refine y_iadd C dX2_handOver_23 ?_
  refine y_put1 C (dk_20 hd) (ivm 20 (by decide)) 0 (by decide) q327 rfl rfl (ty := .int) (by decide +kernel) rfl rfl (Nat.le_of_ble_eq_true rfl) dX2_handOver_24 (fun H hw1 ow1 zw1 => ?_)
  have hd := dk_put20_0 hd hw1 ow1
  refine y_aload_n C 1 dX2_handOver_27 rfl rfl ?_
  refine y_get2 C (dk_0 hd) 5 (by decide) q48 rfl rfl dX2_handOver_28 ?_
  refine y_dup C dX2_handOver_31 rfl ?_
  refine y_get1 C (dk_20 hd) 1 (by decide) q328 rfl rfl dX2_handOver_32 ?_
  refine y_iload_n C 0 dX2_handOver_35 rfl rfl ?_
  refine y_iadd C dX2_handOver_36 ?_
  refine y_put1 C (dk_20 hd) (ivm 20 (by decide)) 1 (by decide) q328 rfl rfl (ty := .int) (by decide +kernel) rfl rfl (Nat.le_of_ble_eq_true rfl) dX2_handOver_37 (fun H hw1 ow1 zw1 => ?_)
  have hd := dk_put20_1 hd hw1 ow1
  refine y_aload_n C 1 dX2_handOver_40 rfl rfl ?_
  refine y_get2 C (dk_0 hd) 4 (by decide) q44 rfl rfl dX2_handOver_41 ?_
  refine y_get4 C (dk_11 hd) 7 (by decide) q195 rfl rfl dX2_handOver_44 ?_
  refine y_iload_n C 2 dX2_handOver_47 rfl rfl ?_
  refine y_bipush C (6) dX2_handOver_48 (by decide) ?_
  refine y_iast C (dk_18 hd) (ivm 18 (by decide)) k rfl hk (by decide) dX2_handOver_50 (fun H hw1 ow1 zw1 => ?_)
  have hd := dk_set18 hd hw1 ow1
  refine y_aload_n C 1 dX2_handOver_51 rfl rfl ?_
  refine y_get2 C (dk_0 hd) 4 (by decide) q44 rfl rfl dX2_handOver_52 ?_
  refine y_get4 C (dk_11 hd) 6 (by decide) q256 rfl rfl dX2_handOver_55 ?_
  refine y_iload_n C 2 dX2_handOver_58 rfl rfl ?_
  refine y_iconst C (0) dX2_handOver_59 (by decide) ?_
  refine y_iast C (dk_17 hd) (ivm 17 (by decide)) k rfl hk (by decide) dX2_handOver_60 (fun H hw1 ow1 zw1 => ?_)
  have hd := dk_set17 hd hw1 ow1
  refine y_aload_n C 1 dX2_handOver_61 rfl rfl ?_
  refine y_get2 C (dk_0 hd) 4 (by decide) q44 rfl rfl dX2_handOver_62 ?_
  refine y_get4 C (dk_11 hd) 5 (by decide) q233 rfl rfl dX2_handOver_65 ?_
  refine y_iload_n C 2 dX2_handOver_68 rfl rfl ?_
  refine y_iald C (dk_16 hd) k rfl hk (by decide) dX2_handOver_69 ?_
  refine y_iload_n C 0 dX2_handOver_70 rfl rfl ?_
  refine y_iadd C dX2_handOver_71 ?_
  exact y_iret C hr rfl hd dX2_handOver_72
def rm_X2_takeOrders : Room := { frames := 4, cells := 0, slots := 0, locals := 86 }
set_option maxRecDepth 100000 in
set_option maxHeartbeats 4000000 in
theorem c_X2_takeOrders (g : KG) (B0 : Nat) (l : Launch) (a : Nat) (d : DV) (hsf : sf d) : Mt g B0 l yX2_takeOrders cX2_takeOrders 2 none rm_X2_takeOrders [.ref a] (iv a 21) (dk g a d) none (dk g a (tkd d)) 0 0 := by
  refine Mt_of RX2 (by decide) rfl [(0, .ref a)] rfl (Nat.le_of_ble_eq_true rfl) ?_
  intro pr e s m args below meth c C hr hin hd
  refine y_iconst C (0) dX2_takeOrders_0 (by decide) ?_
  refine y_istore_n C dX2_takeOrders_1 rfl (by decide) rfl ?_
  suffices K : ∀ rem n : Nat, n + rem = no d → ∀ D : DV, D = tko d n → ∀ H : Heap, dk g a D H → Yx (iv a 21) pr l e rm_X2_takeOrders s m args below meth c 2 0 0 (MQ below (Qx none (dk g a (tkd d)) (iv a 21)) args s 0 0 (iv a 21)) [(1, .int (nI n)), (0, .ref a)] H 2 [] from K (no d) 0 (Nat.zero_add _) d rfl _ hd
  intro rem
  induction rem with
  | zero =>
    intro n hn D hs H hd
    have hsD : sf D := by rw [hs]; exact sf_tko hsf n
    have hno : no D = no d := by rw [hs]; exact no_of (tko_ne d 3 (by decide) (by decide) (by decide) n)
    have h3 : D.1 3 0 = nI (no d) := by rw [← hno]; exact hsD.1.1
    obtain rfl : n = no d := by omega
    refine y_iload_n C 0 dX2_takeOrders_2 rfl rfl ?_
    refine y_aload_n C 1 dX2_takeOrders_3 rfl rfl ?_
    refine y_get2 C (dk_0 hd) 3 (by decide) q40 rfl rfl dX2_takeOrders_4 ?_
    refine y_get5 C (dk_3 hd) 4 (by decide) q180 rfl rfl dX2_takeOrders_7 ?_
    refine y_icmp_ge C 68 dX2_takeOrders_10 (by decide) (fun _ => ?_) (fun h => absurd (ge_t rfl h3 (Nat.le_refl _) (by have := hsf.1.2; omega)) h)
    refine y_aload_n C 1 dX2_takeOrders_68 rfl rfl ?_
    refine y_get2 C (dk_0 hd) 3 (by decide) q40 rfl rfl dX2_takeOrders_69 ?_
    refine y_aload_n C 1 dX2_takeOrders_72 rfl rfl ?_
    refine y_get2 C (dk_0 hd) 0 (by decide) q28 rfl rfl dX2_takeOrders_73 ?_
    refine y_callV C [.int (D.1 0 0)] (c_X5_dropOrdersOf g B0 l a D (D.1 0 0) hsD) RX5 1 (wVin q215 q216 q217 q39 q218) hy_X5_dropOrdersOf ⟨(Nat.le_of_ble_eq_true rfl), (Nat.le_of_ble_eq_true rfl)⟩ ⟨rfl, rfl⟩ (rcv C.2.2.2.2.2.1 (dk_3 hd) rfl) hd (fun _ h => h) rfl rfl (Nat.le_of_ble_eq_true rfl) dX2_takeOrders_76 ⟨(Nat.le_of_ble_eq_true rfl), (Nat.le_of_ble_eq_true rfl)⟩ rfl (fun H hp hz hf => ?_)
    have hd := hp
    exact y_vret C hr (by rw [tkd, ← hs]; exact hd) dX2_takeOrders_79
  | succ rem ih =>
    intro n hn D hs H hd
    have hlt : n < no d := by omega
    have hsD : sf D := by rw [hs]; exact sf_tko hsf n
    have hno : no D = no d := by rw [hs]; exact no_of (tko_ne d 3 (by decide) (by decide) (by decide) n)
    have h3 : D.1 3 0 = nI (no d) := by rw [← hno]; exact hsD.1.1
    have hkO : n < no D := by omega
    refine y_iload_n C 0 dX2_takeOrders_2 rfl rfl ?_
    refine y_aload_n C 1 dX2_takeOrders_3 rfl rfl ?_
    refine y_get2 C (dk_0 hd) 3 (by decide) q40 rfl rfl dX2_takeOrders_4 ?_
    refine y_get5 C (dk_3 hd) 4 (by decide) q180 rfl rfl dX2_takeOrders_7 ?_
    refine y_icmp_ge C 68 dX2_takeOrders_10 (by decide) (fun h => absurd h (ge_f rfl h3 hlt (by have := hsf.1.2; omega))) (fun _ => ?_)
    refine y_aload_n C 1 dX2_takeOrders_13 rfl rfl ?_
    refine y_get2 C (dk_0 hd) 3 (by decide) q40 rfl rfl dX2_takeOrders_14 ?_
    refine y_get5 C (dk_3 hd) 7 (by decide) q181 rfl rfl dX2_takeOrders_17 ?_
    refine y_iload_n C 0 dX2_takeOrders_20 rfl rfl ?_
    refine y_iald C (dk_10 hd) n rfl (by have := hsf.1.2; omega) (by decide) dX2_takeOrders_21 ?_
    refine y_aload_n C 1 dX2_takeOrders_22 rfl rfl ?_
    refine y_get2 C (dk_0 hd) 0 (by decide) q28 rfl rfl dX2_takeOrders_23 ?_
    refine y_icmp_ne C 62 dX2_takeOrders_26 (by decide) (fun h1 => ?_) (fun h1 => ?_)
    · refine y_iinc C 0 (nI (n + 1)) dX2_takeOrders_62 rfl (nI_succ _).symm (by decide) rfl ?_
      refine y_goto C 2 dX2_takeOrders_65 (by decide) ?_
      exact ih (n + 1) (by omega) _ (by rw [tko, ← hs, if_neg h1]) H hd
    · refine y_aload_n C 1 dX2_takeOrders_29 rfl rfl ?_
      refine y_get2 C (dk_0 hd) 3 (by decide) q40 rfl rfl dX2_takeOrders_30 ?_
      refine y_get5 C (dk_3 hd) 2 (by decide) q182 rfl rfl dX2_takeOrders_33 ?_
      refine y_aload_n C 1 dX2_takeOrders_36 rfl rfl ?_
      refine y_get2 C (dk_0 hd) 3 (by decide) q40 rfl rfl dX2_takeOrders_37 ?_
      refine y_get5 C (dk_3 hd) 5 (by decide) q183 rfl rfl dX2_takeOrders_40 ?_
      refine y_iload_n C 0 dX2_takeOrders_43 rfl rfl ?_
      refine y_iald C (dk_8 hd) n rfl (by have := hsf.1.2; omega) (by decide) dX2_takeOrders_44 ?_
      refine y_top (hsD.2.2.2 _ hkO).1 ?_
      refine y_dup2 C dX2_takeOrders_45 rfl rfl ?_
      refine y_iald C (dk_6 hd) (opa D n) rfl (hsD.2.2.2 _ hkO).2 (by decide) dX2_takeOrders_46 ?_
      refine y_aload_n C 1 dX2_takeOrders_47 rfl rfl ?_
      refine y_get2 C (dk_0 hd) 3 (by decide) q40 rfl rfl dX2_takeOrders_48 ?_
      refine y_get5 C (dk_3 hd) 6 (by decide) q184 rfl rfl dX2_takeOrders_51 ?_
      refine y_iload_n C 0 dX2_takeOrders_54 rfl rfl ?_
      refine y_iald C (dk_9 hd) n rfl (by have := hsf.1.2; omega) (by decide) dX2_takeOrders_55 ?_
      refine y_iadd C dX2_takeOrders_56 ?_
      refine y_iast C (dk_6 hd) (ivm 6 (by decide)) (opa D n) rfl (hsD.2.2.2 _ hkO).2 (by decide) dX2_takeOrders_57 (fun H hw1 ow1 zw1 => ?_)
      have hd := dk_set6 hd hw1 ow1
      refine y_aload_n C 1 dX2_takeOrders_58 rfl rfl ?_
      refine y_callV C [] (c_X2_reserveParts g B0 l a (dset D 6 (opa D n) ((D.1 6 (opa D n)) + (D.1 9 n))) (hsD.to rfl rfl rfl rfl)) RX2 0 (wVin q185 q186 q187 q11 q188) hy_X2_reserveParts ⟨(Nat.le_of_ble_eq_true rfl), (Nat.le_of_ble_eq_true rfl)⟩ ⟨rfl, rfl⟩ (rcv C.2.2.2.2.2.1 (dk_0 hd) rfl) hd (fun _ h => h) rfl rfl (Nat.le_of_ble_eq_true rfl) dX2_takeOrders_59 ⟨(Nat.le_of_ble_eq_true rfl), (Nat.le_of_ble_eq_true rfl)⟩ rfl (fun H hp hz hf => ?_)
      have hd := hp
      refine y_iinc C 0 (nI (n + 1)) dX2_takeOrders_62 rfl (nI_succ _).symm (by decide) rfl ?_
      refine y_goto C 2 dX2_takeOrders_65 (by decide) ?_
      exact ih (n + 1) (by omega) _ (by rw [tko, ← hs, if_pos h1]) H hd
def rm_X2_finish : Room := { frames := 3, cells := 0, slots := 0, locals := 67 }
set_option maxRecDepth 100000 in
set_option maxHeartbeats 4000000 in
theorem c_X2_finish (g : KG) (B0 : Nat) (l : Launch) (a : Nat) (d : DV) (k : Nat) (hsf : sf d) (hk : k < nm d) (hfr : fr d) : Mt g B0 l yX2_finish cX2_finish 4 none rm_X2_finish [.ref a, .int (nI k)] (iv a 21) (dk g a d) none (dk g a (fin d k)) 0 0 := by
  refine Mt_of RX2 (by decide) rfl [(0, .ref a), (1, .int (nI k))] rfl (Nat.le_of_ble_eq_true rfl) ?_
  intro pr e s m args below meth c C hr hin hd
  refine y_aload_n C 0 dX2_finish_0 rfl rfl ?_
  refine y_get2 C (dk_0 hd) 4 (by decide) q44 rfl rfl dX2_finish_1 ?_
  refine y_get4 C (dk_11 hd) 1 (by decide) q194 rfl rfl dX2_finish_4 ?_
  refine y_iload_n C 1 dX2_finish_7 rfl rfl ?_
  refine y_iald C (dk_12 hd) k rfl (Nat.lt_of_lt_of_le hk hsf.2.1.2) (by decide) dX2_finish_8 ?_
  refine y_top (hsf.2.2.1 _ hk).1 ?_
  refine y_istore_n C dX2_finish_9 rfl (by decide) rfl ?_
  refine y_aload_n C 1 dX2_finish_10 rfl rfl ?_
  refine y_get2 C (dk_0 hd) 4 (by decide) q44 rfl rfl dX2_finish_11 ?_
  refine y_get4 C (dk_11 hd) 3 (by decide) q232 rfl rfl dX2_finish_14 ?_
  refine y_iload_n C 2 dX2_finish_17 rfl rfl ?_
  refine y_iald C (dk_14 hd) k rfl (Nat.lt_of_lt_of_le hk hsf.2.1.2) (by decide) dX2_finish_18 ?_
  refine y_i2f C dX2_finish_19 ?_
  refine y_aload_n C 1 dX2_finish_20 rfl rfl ?_
  refine y_get2 C (dk_0 hd) 1 (by decide) q34 rfl rfl dX2_finish_21 ?_
  refine y_iconst C (1) dX2_finish_24 (by decide) ?_
  refine y_fald C (dk_1 hd) 1 rfl (by decide) (by decide) dX2_finish_25 ?_
  refine y_fmul C dX2_finish_26 (fp_mul (FP.Core.i2f_fin _) (hfr 1 (by decide))) ?_
  refine y_f2i C dX2_finish_27 ?_
  refine y_istore_n C dX2_finish_28 rfl (by decide) rfl ?_
  refine y_aload_n C 2 dX2_finish_29 rfl rfl ?_
  refine y_get2 C (dk_0 hd) 3 (by decide) q40 rfl rfl dX2_finish_30 ?_
  refine y_iload_n C 1 dX2_finish_33 rfl rfl ?_
  refine y_callV C [.int (nI (fl d k))] (c_X5_takeReservedFor g B0 l a d (fl d k) (hsf.2.2.1 _ hk).2) RX5 1 (wVin q239 q240 q241 q39 q242) hy_X5_takeReservedFor ⟨(Nat.le_of_ble_eq_true rfl), (Nat.le_of_ble_eq_true rfl)⟩ ⟨rfl, rfl⟩ (rcv C.2.2.2.2.2.1 (dk_3 hd) rfl) hd (fun _ h => h) rfl rfl (Nat.le_of_ble_eq_true rfl) dX2_finish_34 ⟨(Nat.le_of_ble_eq_true rfl), (Nat.le_of_ble_eq_true rfl)⟩ rfl (fun H hp hz hf => ?_)
  have hd := hp
  refine y_aload_n C 2 dX2_finish_37 rfl rfl ?_
  refine y_get2 C (dk_0 hd) 4 (by decide) q44 rfl rfl dX2_finish_38 ?_
  refine y_get4 C (dk_11 hd) 5 (by decide) q233 rfl rfl dX2_finish_41 ?_
  refine y_iload_n C 3 dX2_finish_44 rfl rfl ?_
  refine y_aload_n C 2 dX2_finish_45 rfl rfl ?_
  refine y_iload_n C 1 dX2_finish_46 rfl rfl ?_
  refine y_callV C [.int (nI (fl d k))] (c_X2_costNow g B0 l a (trv d (fl d k) 6) (fl d k) (hsf.2.2.1 _ hk).2 (hfr.to (trv_2 _ _ _))) RX2 1 (wVin q243 q244 q245 q11 q246) hy_X2_costNow ⟨(Nat.le_of_ble_eq_true rfl), (Nat.le_of_ble_eq_true rfl)⟩ ⟨rfl, rfl⟩ (rcv C.2.2.2.2.2.1 (dk_0 hd) rfl) hd (fun _ h => h) rfl rfl (Nat.le_of_ble_eq_true rfl) dX2_finish_47 ⟨(Nat.le_of_ble_eq_true rfl), (Nat.le_of_ble_eq_true rfl)⟩ rfl (fun H hp hz hf => ?_)
  have hd := hp
  refine y_iload_n C 0 dX2_finish_50 rfl rfl ?_
  refine y_mmin C q224 q225 q226 q227 (Nat.le_of_ble_eq_true rfl) (Nat.le_of_ble_eq_true rfl) (Nat.le_of_ble_eq_true rfl) (Nat.le_of_ble_eq_true rfl) dX2_finish_51 ?_
  refine y_iast C (dk_16 hd) (ivm 16 (by decide)) k rfl (Nat.lt_of_lt_of_le hk hsf.2.1.2) (by decide) dX2_finish_54 (fun H hw1 ow1 zw1 => ?_)
  have hd := dk_set16 hd hw1 ow1
  refine y_aload_n C 2 dX2_finish_55 rfl rfl ?_
  refine y_get2 C (dk_0 hd) 4 (by decide) q44 rfl rfl dX2_finish_56 ?_
  refine y_get4 C (dk_11 hd) 7 (by decide) q195 rfl rfl dX2_finish_59 ?_
  refine y_iload_n C 3 dX2_finish_62 rfl rfl ?_
  refine y_iconst C (4) dX2_finish_63 (by decide) ?_
  refine y_iast C (dk_18 hd) (ivm 18 (by decide)) k rfl (Nat.lt_of_lt_of_le hk hsf.2.1.2) (by decide) dX2_finish_64 (fun H hw1 ow1 zw1 => ?_)
  have hd := dk_set18 hd hw1 ow1
  refine y_aload_n C 2 dX2_finish_65 rfl rfl ?_
  refine y_get2 C (dk_0 hd) 4 (by decide) q44 rfl rfl dX2_finish_66 ?_
  refine y_get4 C (dk_11 hd) 8 (by decide) q234 rfl rfl dX2_finish_69 ?_
  refine y_iload_n C 3 dX2_finish_72 rfl rfl ?_
  refine y_aload_n C 2 dX2_finish_73 rfl rfl ?_
  refine y_get2 C (dk_0 hd) 0 (by decide) q28 rfl rfl dX2_finish_74 ?_
  refine y_iast C (dk_19 hd) (ivm 19 (by decide)) k rfl (Nat.lt_of_lt_of_le hk hsf.2.1.2) (by decide) dX2_finish_77 (fun H hw1 ow1 zw1 => ?_)
  have hd := dk_set19 hd hw1 ow1
  refine y_aload_n C 2 dX2_finish_78 rfl rfl ?_
  refine y_get2 C (dk_0 hd) 5 (by decide) q48 rfl rfl dX2_finish_79 ?_
  refine y_dup C dX2_finish_82 rfl ?_
  refine y_get1 C (dk_20 hd) 3 (by decide) q235 rfl rfl dX2_finish_83 ?_
  refine y_aload_n C 2 dX2_finish_86 rfl rfl ?_
  refine y_get2 C (dk_0 hd) 3 (by decide) q40 rfl rfl dX2_finish_87 ?_
  refine y_iload_n C 1 dX2_finish_90 rfl rfl ?_
  refine y_callV C [.int (nI (fl d k))] (c_X5_priceOfParts g B0 l a (dset (dset (dset (trv d (fl d k) 6) 16 k (if (FP.f2i (FP.fmul (FP.i2f (d.1 14 k)) (d.2 1))) < (cost (trv d (fl d k) 6) (fl d k)) then (FP.f2i (FP.fmul (FP.i2f (d.1 14 k)) (d.2 1))) else (cost (trv d (fl d k) 6) (fl d k)))) 18 k (4 : Int32)) 19 k ((dset (dset (trv d (fl d k) 6) 16 k (if (FP.f2i (FP.fmul (FP.i2f (d.1 14 k)) (d.2 1))) < (cost (trv d (fl d k) 6) (fl d k)) then (FP.f2i (FP.fmul (FP.i2f (d.1 14 k)) (d.2 1))) else (cost (trv d (fl d k) 6) (fl d k)))) 18 k (4 : Int32)).1 0 0)) (fl d k) (hsf.2.2.1 _ hk).2) RX5 1 (wVin q247 q248 q249 q39 q250) hy_X5_priceOfParts ⟨(Nat.le_of_ble_eq_true rfl), (Nat.le_of_ble_eq_true rfl)⟩ ⟨rfl, rfl⟩ (rcv C.2.2.2.2.2.1 (dk_3 hd) rfl) hd (fun _ h => h) rfl rfl (Nat.le_of_ble_eq_true rfl) dX2_finish_91 ⟨(Nat.le_of_ble_eq_true rfl), (Nat.le_of_ble_eq_true rfl)⟩ rfl (fun H hp hz hf => ?_)
  have hd := hp
  refine y_iadd C dX2_finish_94 ?_
  refine y_put1 C (dk_20 hd) (ivm 20 (by decide)) 3 (by decide) q235 rfl rfl (ty := .int) (by decide +kernel) rfl rfl (Nat.le_of_ble_eq_true rfl) dX2_finish_95 (fun H hw1 ow1 zw1 => ?_)
  have hd := dk_put20_3 hd hw1 ow1
  refine y_aload_n C 2 dX2_finish_98 rfl rfl ?_
  refine y_get2 C (dk_0 hd) 5 (by decide) q48 rfl rfl dX2_finish_99 ?_
  refine y_dup C dX2_finish_102 rfl ?_
  refine y_get1 C (dk_20 hd) 5 (by decide) q236 rfl rfl dX2_finish_103 ?_
  refine y_aload_n C 2 dX2_finish_106 rfl rfl ?_
  refine y_get2 C (dk_0 hd) 0 (by decide) q28 rfl rfl dX2_finish_107 ?_
  refine y_aload_n C 2 dX2_finish_110 rfl rfl ?_
  refine y_get2 C (dk_0 hd) 4 (by decide) q44 rfl rfl dX2_finish_111 ?_
  refine y_get4 C (dk_11 hd) 2 (by decide) q237 rfl rfl dX2_finish_114 ?_
  refine y_iload_n C 3 dX2_finish_117 rfl rfl ?_
  refine y_iald C (dk_13 hd) k rfl (Nat.lt_of_lt_of_le hk hsf.2.1.2) (by decide) dX2_finish_118 ?_
  refine y_isub C dX2_finish_119 ?_
  refine y_iadd C dX2_finish_120 ?_
  refine y_put1 C (dk_20 hd) (ivm 20 (by decide)) 5 (by decide) q236 rfl rfl (ty := .int) (by decide +kernel) rfl rfl (Nat.le_of_ble_eq_true rfl) dX2_finish_121 (fun H hw1 ow1 zw1 => ?_)
  have hd := dk_put20_5 hd hw1 ow1
  refine y_aload_n C 2 dX2_finish_124 rfl rfl ?_
  refine y_get2 C (dk_0 hd) 5 (by decide) q48 rfl rfl dX2_finish_125 ?_
  refine y_dup C dX2_finish_128 rfl ?_
  refine y_get1 C (dk_20 hd) 4 (by decide) q238 rfl rfl dX2_finish_129 ?_
  refine y_iconst C (1) dX2_finish_132 (by decide) ?_
  refine y_iadd C dX2_finish_133 ?_
  refine y_put1 C (dk_20 hd) (ivm 20 (by decide)) 4 (by decide) q238 rfl rfl (ty := .int) (by decide +kernel) rfl rfl (Nat.le_of_ble_eq_true rfl) dX2_finish_134 (fun H hw1 ow1 zw1 => ?_)
  have hd := dk_put20_4 hd hw1 ow1
  exact y_vret C hr hd dX2_finish_137
def rm_X2_sellUnclaimed : Room := { frames := 1, cells := 0, slots := 0, locals := 21 }
set_option maxRecDepth 100000 in
set_option maxHeartbeats 4000000 in
theorem c_X2_sellUnclaimed (g : KG) (B0 : Nat) (l : Launch) (a : Nat) (d : DV) (hsf : sf d) (hfr : fr d) : Mt g B0 l yX2_sellUnclaimed cX2_sellUnclaimed 2 none rm_X2_sellUnclaimed [.ref a] (iv a 21) (dk g a d) none (dk g a (sel d (nm d))) 0 0 := by
  refine Mt_of RX2 (by decide) rfl [(0, .ref a)] rfl (Nat.le_of_ble_eq_true rfl) ?_
  intro pr e s m args below meth c C hr hin hd
  refine y_iconst C (0) dX2_sellUnclaimed_0 (by decide) ?_
  refine y_istore_n C dX2_sellUnclaimed_1 rfl (by decide) rfl ?_
  suffices K : ∀ rem n : Nat, n + rem = nm d → ∀ D : DV, D = sel d n → ∀ H : Heap, dk g a D H → Yx (iv a 21) pr l e rm_X2_sellUnclaimed s m args below meth c 2 0 0 (MQ below (Qx none (dk g a (sel d (nm d))) (iv a 21)) args s 0 0 (iv a 21)) [(1, .int (nI n)), (0, .ref a)] H 2 [] from K (nm d) 0 (Nat.zero_add _) d rfl _ hd
  intro rem
  induction rem with
  | zero =>
    intro n hn D hs H hd
    have hsD : sf D := by rw [hs]; exact sf_sel hsf n
    have hfD : fr D := by rw [hs]; exact hfr.to (sel_2 d n)
    have hnm : nm D = nm d := by rw [hs]; exact nm_of (sel_ne d 11 (by decide) (by decide) (by decide) n)
    have h11 : D.1 11 0 = nI (nm d) := by rw [← hnm]; exact hsD.2.1.1
    obtain rfl : n = nm d := by omega
    refine y_iload_n C 0 dX2_sellUnclaimed_2 rfl rfl ?_
    refine y_aload_n C 1 dX2_sellUnclaimed_3 rfl rfl ?_
    refine y_get2 C (dk_0 hd) 4 (by decide) q44 rfl rfl dX2_sellUnclaimed_4 ?_
    refine y_get4 C (dk_11 hd) 0 (by decide) q193 rfl rfl dX2_sellUnclaimed_7 ?_
    refine y_icmp_ge C 104 dX2_sellUnclaimed_10 (by decide) (fun _ => ?_) (fun h => absurd (ge_t rfl h11 (Nat.le_refl _) (by have := hsf.2.1.2; omega)) h)
    exact y_vret C hr (hs ▸ hd) dX2_sellUnclaimed_104
  | succ rem ih =>
    intro n hn D hs H hd
    have hlt : n < nm d := by omega
    have hsD : sf D := by rw [hs]; exact sf_sel hsf n
    have hfD : fr D := by rw [hs]; exact hfr.to (sel_2 d n)
    have hnm : nm D = nm d := by rw [hs]; exact nm_of (sel_ne d 11 (by decide) (by decide) (by decide) n)
    have h11 : D.1 11 0 = nI (nm d) := by rw [← hnm]; exact hsD.2.1.1
    refine y_iload_n C 0 dX2_sellUnclaimed_2 rfl rfl ?_
    refine y_aload_n C 1 dX2_sellUnclaimed_3 rfl rfl ?_
    refine y_get2 C (dk_0 hd) 4 (by decide) q44 rfl rfl dX2_sellUnclaimed_4 ?_
    refine y_get4 C (dk_11 hd) 0 (by decide) q193 rfl rfl dX2_sellUnclaimed_7 ?_
    refine y_icmp_ge C 104 dX2_sellUnclaimed_10 (by decide) (fun h => absurd h (ge_f rfl h11 hlt (by have := hsf.2.1.2; omega))) (fun _ => ?_)
    refine y_aload_n C 1 dX2_sellUnclaimed_13 rfl rfl ?_
    refine y_get2 C (dk_0 hd) 4 (by decide) q44 rfl rfl dX2_sellUnclaimed_14 ?_
    refine y_iload_n C 0 dX2_sellUnclaimed_17 rfl rfl ?_
    refine y_callV C [.int (nI n)] (c_X4_isReady g B0 l a D n (by have := hsf.2.1.2; omega)) RX4 1 (wVin q257 q258 q259 q43 q260) hy_X4_isReady ⟨(Nat.le_of_ble_eq_true rfl), (Nat.le_of_ble_eq_true rfl)⟩ ⟨rfl, rfl⟩ (rcv C.2.2.2.2.2.1 (dk_11 hd) rfl) hd (fun _ h => h) rfl rfl (Nat.le_of_ble_eq_true rfl) dX2_sellUnclaimed_18 ⟨(Nat.le_of_ble_eq_true rfl), (Nat.le_of_ble_eq_true rfl)⟩ rfl (fun H hp hz hf => ?_)
    have hd := hp
    refine y_if_eq C 98 dX2_sellUnclaimed_21 (by decide) (fun h1 => ?_) (fun h1 => ?_)
    · refine y_iinc C 0 (nI (n + 1)) dX2_sellUnclaimed_98 rfl (nI_succ _).symm (by decide) rfl ?_
      refine y_goto C 2 dX2_sellUnclaimed_101 (by decide) ?_
      exact ih (n + 1) (by omega) _ (by rw [sel, ← hs, if_pos h1]) H hd
    · refine y_aload_n C 1 dX2_sellUnclaimed_24 rfl rfl ?_
      refine y_get2 C (dk_0 hd) 0 (by decide) q28 rfl rfl dX2_sellUnclaimed_25 ?_
      refine y_aload_n C 1 dX2_sellUnclaimed_28 rfl rfl ?_
      refine y_get2 C (dk_0 hd) 4 (by decide) q44 rfl rfl dX2_sellUnclaimed_29 ?_
      refine y_get4 C (dk_11 hd) 8 (by decide) q234 rfl rfl dX2_sellUnclaimed_32 ?_
      refine y_iload_n C 0 dX2_sellUnclaimed_35 rfl rfl ?_
      refine y_iald C (dk_19 hd) n rfl (by have := hsf.2.1.2; omega) (by decide) dX2_sellUnclaimed_36 ?_
      refine y_isub C dX2_sellUnclaimed_37 ?_
      refine y_aload_n C 1 dX2_sellUnclaimed_38 rfl rfl ?_
      refine y_get2 C (dk_0 hd) 2 (by decide) q36 rfl rfl dX2_sellUnclaimed_39 ?_
      refine y_iconst C (3) dX2_sellUnclaimed_42 (by decide) ?_
      refine y_iald C (dk_2 hd) 3 rfl (by decide) (by decide) dX2_sellUnclaimed_43 ?_
      refine y_icmp_lt C 98 dX2_sellUnclaimed_44 (by decide) (fun h2 => ?_) (fun h2 => ?_)
      · refine y_iinc C 0 (nI (n + 1)) dX2_sellUnclaimed_98 rfl (nI_succ _).symm (by decide) rfl ?_
        refine y_goto C 2 dX2_sellUnclaimed_101 (by decide) ?_
        exact ih (n + 1) (by omega) _ (by rw [sel, ← hs, if_neg h1, if_pos h2]) H hd
      · refine y_aload_n C 1 dX2_sellUnclaimed_47 rfl rfl ?_
        refine y_get2 C (dk_0 hd) 5 (by decide) q48 rfl rfl dX2_sellUnclaimed_48 ?_
        refine y_dup C dX2_sellUnclaimed_51 rfl ?_
        refine y_get1 C (dk_20 hd) 2 (by decide) q255 rfl rfl dX2_sellUnclaimed_52 ?_
        refine y_aload_n C 1 dX2_sellUnclaimed_55 rfl rfl ?_
        refine y_get2 C (dk_0 hd) 4 (by decide) q44 rfl rfl dX2_sellUnclaimed_56 ?_
        refine y_get4 C (dk_11 hd) 5 (by decide) q233 rfl rfl dX2_sellUnclaimed_59 ?_
        refine y_iload_n C 0 dX2_sellUnclaimed_62 rfl rfl ?_
        refine y_iald C (dk_16 hd) n rfl (by have := hsf.2.1.2; omega) (by decide) dX2_sellUnclaimed_63 ?_
        refine y_i2f C dX2_sellUnclaimed_64 ?_
        refine y_aload_n C 1 dX2_sellUnclaimed_65 rfl rfl ?_
        refine y_get2 C (dk_0 hd) 1 (by decide) q34 rfl rfl dX2_sellUnclaimed_66 ?_
        refine y_iconst C (3) dX2_sellUnclaimed_69 (by decide) ?_
        refine y_fald C (dk_1 hd) 3 rfl (by decide) (by decide) dX2_sellUnclaimed_70 ?_
        refine y_fmul C dX2_sellUnclaimed_71 (fp_mul (FP.Core.i2f_fin _) (hfD 3 (by decide))) ?_
        refine y_f2i C dX2_sellUnclaimed_72 ?_
        refine y_iadd C dX2_sellUnclaimed_73 ?_
        refine y_put1 C (dk_20 hd) (ivm 20 (by decide)) 2 (by decide) q255 rfl rfl (ty := .int) (by decide +kernel) rfl rfl (Nat.le_of_ble_eq_true rfl) dX2_sellUnclaimed_74 (fun H hw1 ow1 zw1 => ?_)
        have hd := dk_put20_2 hd hw1 ow1
        refine y_aload_n C 1 dX2_sellUnclaimed_77 rfl rfl ?_
        refine y_get2 C (dk_0 hd) 4 (by decide) q44 rfl rfl dX2_sellUnclaimed_78 ?_
        refine y_get4 C (dk_11 hd) 7 (by decide) q195 rfl rfl dX2_sellUnclaimed_81 ?_
        refine y_iload_n C 0 dX2_sellUnclaimed_84 rfl rfl ?_
        refine y_bipush C (7) dX2_sellUnclaimed_85 (by decide) ?_
        refine y_iast C (dk_18 hd) (ivm 18 (by decide)) n rfl (by have := hsf.2.1.2; omega) (by decide) dX2_sellUnclaimed_87 (fun H hw1 ow1 zw1 => ?_)
        have hd := dk_set18 hd hw1 ow1
        refine y_aload_n C 1 dX2_sellUnclaimed_88 rfl rfl ?_
        refine y_get2 C (dk_0 hd) 4 (by decide) q44 rfl rfl dX2_sellUnclaimed_89 ?_
        refine y_get4 C (dk_11 hd) 6 (by decide) q256 rfl rfl dX2_sellUnclaimed_92 ?_
        refine y_iload_n C 0 dX2_sellUnclaimed_95 rfl rfl ?_
        refine y_iconst C (0) dX2_sellUnclaimed_96 (by decide) ?_
        refine y_iast C (dk_17 hd) (ivm 17 (by decide)) n rfl (by have := hsf.2.1.2; omega) (by decide) dX2_sellUnclaimed_97 (fun H hw1 ow1 zw1 => ?_)
        have hd := dk_set17 hd hw1 ow1
        refine y_iinc C 0 (nI (n + 1)) dX2_sellUnclaimed_98 rfl (nI_succ _).symm (by decide) rfl ?_
        refine y_goto C 2 dX2_sellUnclaimed_101 (by decide) ?_
        exact ih (n + 1) (by omega) _ (by rw [sel, ← hs, if_neg h1, if_neg h2] <;> rfl) H hd
def rm_X2_workWhere : Room := { frames := 4, cells := 0, slots := 0, locals := 90 }
set_option maxRecDepth 100000 in
set_option maxHeartbeats 4000000 in
theorem c_X2_workWhere (g : KG) (B0 : Nat) (l : Launch) (a : Nat) (d : DV) (lo hours : Int32) (hsf : sf d) (hfr : fr d) : Mt g B0 l yX2_workWhere cX2_workWhere 7 (some .int) rm_X2_workWhere [.ref a, .int lo, .int hours] (iv a 21) (dk g a d) (some (.int (wrk lo (nm d) 0 d hours).2)) (dk g a (wrk lo (nm d) 0 d hours).1) 0 0 := by
  refine Mt_of RX2 (by decide) rfl [(0, .ref a), (1, .int lo), (2, .int hours)] rfl (Nat.le_of_ble_eq_true rfl) ?_
  intro pr e s m args below meth c C hr hin hd
  obtain ⟨tH, hZ, hT⟩ := stA.get C.2.2.2.2.2.1.2.2.2.2.2.2.1 C.2.2.2.2.2.2.1
  refine y_iload_n C 2 dX2_workWhere_0 rfl rfl ?_
  refine y_istore_n C dX2_workWhere_1 rfl (by decide) rfl ?_
  refine y_iconst C (0) dX2_workWhere_2 (by decide) ?_
  refine y_istore C dX2_workWhere_3 (by decide) rfl ?_
  suffices K : ∀ rem n : Nat, n + rem = nm d → ∀ (D : DV) (left : Int32), wrk lo rem n D left = wrk lo (nm d) 0 d hours → sf D → nm D = nm d → fr D → ∀ H : Heap, dk g a D H → Yx (iv a 21) pr l e rm_X2_workWhere s m args below meth c 7 0 0 (MQ below (Qx (some (.int (wrk lo (nm d) 0 d hours).2)) (dk g a (wrk lo (nm d) 0 d hours).1) (iv a 21)) args s 0 0 (iv a 21)) [(4, .int (nI n)), (3, .int left), (0, .ref a), (1, .int lo), (2, .int hours)] H 5 [] from K (nm d) 0 (Nat.zero_add _) d _ rfl hsf rfl hfr _ hd
  intro rem
  induction rem with
  | zero =>
    intro n hn D left hs hsD hnm hfD H hd
    have h11 : D.1 11 0 = nI (nm d) := by rw [← hnm]; exact hsD.2.1.1
    obtain rfl : n = nm d := by omega
    refine y_iload C 0 dX2_workWhere_5 rfl ?_
    refine y_aload_n C 2 dX2_workWhere_7 rfl rfl ?_
    refine y_get2 C (dk_0 hd) 4 (by decide) q44 rfl rfl dX2_workWhere_8 ?_
    refine y_get4 C (dk_11 hd) 0 (by decide) q193 rfl rfl dX2_workWhere_11 ?_
    refine y_icmp_ge C 120 dX2_workWhere_14 (by decide) (fun _ => ?_) (fun h => absurd (ge_t rfl h11 (Nat.le_refl _) (by have := hsf.2.1.2; omega)) h)
    refine y_iload_n C 1 dX2_workWhere_120 rfl rfl ?_
    exact y_iret C hr (by rw [← hs]; rfl) (by rw [← hs]; exact hd) dX2_workWhere_121
  | succ rem ih =>
    intro n hn D left hs hsD hnm hfD H hd
    have hlt : n < nm d := by omega
    have h11 : D.1 11 0 = nI (nm d) := by rw [← hnm]; exact hsD.2.1.1
    have hkD : n < nm D := by omega
    refine y_iload C 0 dX2_workWhere_5 rfl ?_
    refine y_aload_n C 2 dX2_workWhere_7 rfl rfl ?_
    refine y_get2 C (dk_0 hd) 4 (by decide) q44 rfl rfl dX2_workWhere_8 ?_
    refine y_get4 C (dk_11 hd) 0 (by decide) q193 rfl rfl dX2_workWhere_11 ?_
    refine y_icmp_ge C 120 dX2_workWhere_14 (by decide) (fun h => absurd h (ge_f rfl h11 hlt (by have := hsf.2.1.2; omega))) (fun _ => ?_)
    refine y_iload_n C 1 dX2_workWhere_17 rfl rfl ?_
    refine y_if_le C 120 dX2_workWhere_18 (by decide) (fun h1 => ?_) (fun h1 => ?_)
    · refine y_iload_n C 1 dX2_workWhere_120 rfl rfl ?_
      exact y_iret C hr (by rw [← hs, wrk, if_pos h1]) (by rw [← hs, wrk, if_pos h1]; exact hd) dX2_workWhere_121
    · refine y_aload_n C 2 dX2_workWhere_21 rfl rfl ?_
      refine y_get2 C (dk_0 hd) 4 (by decide) q44 rfl rfl dX2_workWhere_22 ?_
      refine y_iload C 0 dX2_workWhere_25 rfl ?_
      refine y_iconst C (3) dX2_workWhere_27 (by decide) ?_
      refine y_iload_n C 3 dX2_workWhere_28 rfl rfl ?_
      refine y_callV C [.int (nI n), .int (3 : Int32), .int lo] (c_X4_isTurnOf g B0 l a D n (3 : Int32) lo (by have := hsf.2.1.2; omega)) RX4 3 (wVin q196 q197 q198 q43 q199) hy_X4_isTurnOf ⟨(Nat.le_of_ble_eq_true rfl), (Nat.le_of_ble_eq_true rfl)⟩ ⟨rfl, rfl⟩ (rcv C.2.2.2.2.2.1 (dk_11 hd) rfl) hd (fun _ h => h) rfl rfl (Nat.le_of_ble_eq_true rfl) dX2_workWhere_29 ⟨(Nat.le_of_ble_eq_true rfl), (Nat.le_of_ble_eq_true rfl)⟩ rfl (fun H hp hz hf => ?_)
      have hd := hp
      refine y_if_ne C 38 dX2_workWhere_32 (by decide) (fun h2 => ?_) (fun h2 => ?_)
      · refine y_getsN C hZ C.2.2.2.2.2.1.2.2.1 dX2_workWhere_38 ?_
        refine y_aload_n C 2 dX2_workWhere_41 rfl rfl ?_
        refine y_get2 C (dk_0 hd) 4 (by decide) q44 rfl rfl dX2_workWhere_42 ?_
        refine y_get4 C (dk_11 hd) 1 (by decide) q194 rfl rfl dX2_workWhere_45 ?_
        refine y_iload C 0 dX2_workWhere_48 rfl ?_
        refine y_iald C (dk_12 hd) n rfl (by have := hsf.2.1.2; omega) (by decide) dX2_workWhere_50 ?_
        refine y_top (hsD.2.2.1 _ hkD).1 ?_
        refine y_sld C hT (fl D n) rfl (hsD.2.2.1 _ hkD).2 (by decide) dX2_workWhere_51 ?_
        refine y_istore C dX2_workWhere_52 (by decide) rfl ?_
        refine y_iload_n C 2 dX2_workWhere_54 rfl rfl ?_
        refine y_iload C 0 dX2_workWhere_55 rfl ?_
        refine y_aload_n C 3 dX2_workWhere_57 rfl rfl ?_
        refine y_get2 C (dk_0 hd) 4 (by decide) q44 rfl rfl dX2_workWhere_58 ?_
        refine y_get4 C (dk_11 hd) 4 (by decide) q223 rfl rfl dX2_workWhere_61 ?_
        refine y_iload C 1 dX2_workWhere_64 rfl ?_
        refine y_iald C (dk_15 hd) n rfl (by have := hsf.2.1.2; omega) (by decide) dX2_workWhere_66 ?_
        refine y_isub C dX2_workWhere_67 ?_
        refine y_mmin C q224 q225 q226 q227 (Nat.le_of_ble_eq_true rfl) (Nat.le_of_ble_eq_true rfl) (Nat.le_of_ble_eq_true rfl) (Nat.le_of_ble_eq_true rfl) dX2_workWhere_68 ?_
        refine y_istore C dX2_workWhere_71 (by decide) rfl ?_
        refine y_aload_n C 4 dX2_workWhere_73 rfl rfl ?_
        refine y_get2 C (dk_0 hd) 4 (by decide) q44 rfl rfl dX2_workWhere_74 ?_
        refine y_get4 C (dk_11 hd) 4 (by decide) q223 rfl rfl dX2_workWhere_77 ?_
        refine y_iload C 2 dX2_workWhere_80 rfl ?_
        refine y_dup2 C dX2_workWhere_82 rfl rfl ?_
        refine y_iald C (dk_15 hd) n rfl (by have := hsf.2.1.2; omega) (by decide) dX2_workWhere_83 ?_
        refine y_iload C 0 dX2_workWhere_84 rfl ?_
        refine y_iadd C dX2_workWhere_86 ?_
        refine y_iast C (dk_15 hd) (ivm 15 (by decide)) n rfl (by have := hsf.2.1.2; omega) (by decide) dX2_workWhere_87 (fun H hw1 ow1 zw1 => ?_)
        have hd := dk_set15 hd hw1 ow1
        refine y_iload_n C 3 dX2_workWhere_88 rfl rfl ?_
        refine y_iload C 0 dX2_workWhere_89 rfl ?_
        refine y_isub C dX2_workWhere_91 ?_
        refine y_istore_n C dX2_workWhere_92 rfl (by decide) rfl ?_
        refine y_aload_n C 4 dX2_workWhere_93 rfl rfl ?_
        refine y_get2 C (dk_0 hd) 4 (by decide) q44 rfl rfl dX2_workWhere_94 ?_
        refine y_get4 C (dk_11 hd) 4 (by decide) q223 rfl rfl dX2_workWhere_97 ?_
        refine y_iload C 3 dX2_workWhere_100 rfl ?_
        refine y_iald C (dk_15 hd) n rfl (by have := hsf.2.1.2; omega) (by decide) dX2_workWhere_102 ?_
        refine y_iload C 2 dX2_workWhere_103 rfl ?_
        refine y_icmp_ne C 114 dX2_workWhere_105 (by decide) (fun h3 => ?_) (fun h3 => ?_)
        · refine y_iinc C 3 (nI (n + 1)) dX2_workWhere_114 rfl (nI_succ _).symm (by decide) rfl ?_
          refine y_goto C 5 dX2_workWhere_117 (by decide) ?_
          exact y_sub [0, 1, 4, 5, 6] (ih (n + 1) (by omega) (dset D 15 n ((D.1 15 n) + (if ((tHF (fl D n)) - (D.1 15 n)) < left then ((tHF (fl D n)) - (D.1 15 n)) else left))) (left - (if ((tHF (fl D n)) - (D.1 15 n)) < left then ((tHF (fl D n)) - (D.1 15 n)) else left)) (by rw [← hs, wrk, if_neg h1, if_neg h2]; exact (if_neg h3).symm) (hsD.to rfl rfl rfl rfl) hnm (hfD.to rfl) H hd) rfl
        · refine y_aload_n C 4 dX2_workWhere_108 rfl rfl ?_
          refine y_iload C 3 dX2_workWhere_109 rfl ?_
          refine y_callV C [.int (nI n)] (c_X2_finish g B0 l a (dset D 15 n ((D.1 15 n) + (if ((tHF (fl D n)) - (D.1 15 n)) < left then ((tHF (fl D n)) - (D.1 15 n)) else left))) n (hsD.to rfl rfl rfl rfl) hkD (hfD.to rfl)) RX2 1 (wVin q228 q229 q230 q11 q231) hy_X2_finish ⟨(Nat.le_of_ble_eq_true rfl), (Nat.le_of_ble_eq_true rfl)⟩ ⟨rfl, rfl⟩ (rcv C.2.2.2.2.2.1 (dk_0 hd) rfl) hd (fun _ h => h) rfl rfl (Nat.le_of_ble_eq_true rfl) dX2_workWhere_111 ⟨(Nat.le_of_ble_eq_true rfl), (Nat.le_of_ble_eq_true rfl)⟩ rfl (fun H hp hz hf => ?_)
          have hd := hp
          refine y_iinc C 3 (nI (n + 1)) dX2_workWhere_114 rfl (nI_succ _).symm (by decide) rfl ?_
          refine y_goto C 5 dX2_workWhere_117 (by decide) ?_
          exact y_sub [0, 1, 4, 5, 6] (ih (n + 1) (by omega) (fin (dset D 15 n ((D.1 15 n) + (if ((tHF (fl D n)) - (D.1 15 n)) < left then ((tHF (fl D n)) - (D.1 15 n)) else left))) n) (left - (if ((tHF (fl D n)) - (D.1 15 n)) < left then ((tHF (fl D n)) - (D.1 15 n)) else left)) (by rw [← hs, wrk, if_neg h1, if_neg h2]; exact (if_pos h3).symm) (sf_fin (hsD.to rfl rfl rfl rfl) n) ((nm_of (fin_ne _ _ 11 (by decide) (by decide) (by decide) (by decide) (by decide) (by decide))).trans hnm) (hfD.to (fin_2 _ _)) H hd) rfl
      · refine y_goto C 114 dX2_workWhere_35 (by decide) ?_
        refine y_iinc C 0 (nI (n + 1)) dX2_workWhere_114 rfl (nI_succ _).symm (by decide) rfl ?_
        refine y_goto C 5 dX2_workWhere_117 (by decide) ?_
        exact y_sub [0, 1, 2, 3, 4] (ih (n + 1) (by omega) D left (by rw [← hs, wrk, if_neg h1, if_pos h2]) hsD hnm hfD H hd) rfl
def rm_X2_passDay : Room := { frames := 5, cells := 0, slots := 0, locals := 116 }
set_option maxRecDepth 100000 in
set_option maxHeartbeats 4000000 in
theorem c_X2_passDay (g : KG) (B0 : Nat) (l : Launch) (a : Nat) (d : DV) (hsf : sf d) (hfr : fr d) : Mt g B0 l yX2_passDay cX2_passDay 2 none rm_X2_passDay [.ref a] (iv a 21) (dk g a d) none (dk g a (psd d)) 0 0 := by
  refine Mt_of RX2 (by decide) rfl [(0, .ref a)] rfl (Nat.le_of_ble_eq_true rfl) ?_
  intro pr e s m args below meth c C hr hin hd
  refine y_aload_n C 0 dX2_passDay_0 rfl rfl ?_
  refine y_dup C dX2_passDay_1 rfl ?_
  refine y_get2 C (dk_0 hd) 0 (by decide) q28 rfl rfl dX2_passDay_2 ?_
  refine y_iconst C (1) dX2_passDay_5 (by decide) ?_
  refine y_iadd C dX2_passDay_6 ?_
  refine y_put2 C (dk_0 hd) (ivm 0 (by decide)) 0 (by decide) q28 rfl rfl (ty := .int) (by decide +kernel) rfl rfl (Nat.le_of_ble_eq_true rfl) dX2_passDay_7 (fun H hw1 ow1 zw1 => ?_)
  have hd := dk_put0_0 hd hw1 ow1
  refine y_aload_n C 0 dX2_passDay_10 rfl rfl ?_
  refine y_callV C [] (c_X2_takeOrders g B0 l a (dset d 0 0 ((d.1 0 0) + (1 : Int32))) (hsf.to rfl rfl rfl rfl)) RX2 0 (wVin q176 q177 q178 q11 q179) hy_X2_takeOrders ⟨(Nat.le_of_ble_eq_true rfl), (Nat.le_of_ble_eq_true rfl)⟩ ⟨rfl, rfl⟩ (rcv C.2.2.2.2.2.1 (dk_0 hd) rfl) hd (fun _ h => h) rfl rfl (Nat.le_of_ble_eq_true rfl) dX2_passDay_11 ⟨(Nat.le_of_ble_eq_true rfl), (Nat.le_of_ble_eq_true rfl)⟩ rfl (fun H hp hz hf => ?_)
  have hd := hp
  have hd : dk g a (ps1 d) H := hd
  refine y_aload_n C 0 dX2_passDay_14 rfl rfl ?_
  refine y_iconst C (1) dX2_passDay_15 (by decide) ?_
  refine y_aload_n C 0 dX2_passDay_16 rfl rfl ?_
  refine y_get2 C (dk_0 hd) 2 (by decide) q36 rfl rfl dX2_passDay_17 ?_
  refine y_iconst C (0) dX2_passDay_20 (by decide) ?_
  refine y_iald C (dk_2 hd) 0 rfl (by decide) (by decide) dX2_passDay_21 ?_
  refine y_callV C [.int (1 : Int32), .int ((ps1 d).1 2 0)] (c_X2_workWhere g B0 l a (ps1 d) (1 : Int32) ((ps1 d).1 2 0) (sf_ps1 hsf) (hfr.to (ps1_2 d))) RX2 2 (wVin q219 q220 q221 q11 q222) hy_X2_workWhere ⟨(Nat.le_of_ble_eq_true rfl), (Nat.le_of_ble_eq_true rfl)⟩ ⟨rfl, rfl⟩ (rcv C.2.2.2.2.2.1 (dk_0 hd) rfl) hd (fun _ h => h) rfl rfl (Nat.le_of_ble_eq_true rfl) dX2_passDay_22 ⟨(Nat.le_of_ble_eq_true rfl), (Nat.le_of_ble_eq_true rfl)⟩ rfl (fun H hp hz hf => ?_)
  have hd := hp
  have hd : dk g a (ps2 d).1 H := hd
  refine y_istore_n C dX2_passDay_25 rfl (by decide) rfl ?_
  refine y_aload_n C 1 dX2_passDay_26 rfl rfl ?_
  refine y_iconst C (0) dX2_passDay_27 (by decide) ?_
  refine y_iload_n C 0 dX2_passDay_28 rfl rfl ?_
  refine y_callV C [.int (0 : Int32), .int (ps2 d).2] (c_X2_workWhere g B0 l a ((ps2 d).1) (0 : Int32) ((ps2 d).2) (sf_ps2 hsf) (hfr.to (ps2_2 d))) RX2 2 (wVin q219 q220 q221 q11 q222) hy_X2_workWhere ⟨(Nat.le_of_ble_eq_true rfl), (Nat.le_of_ble_eq_true rfl)⟩ ⟨rfl, rfl⟩ (rcv C.2.2.2.2.2.1 (dk_0 hd) rfl) hd (fun _ h => h) rfl rfl (Nat.le_of_ble_eq_true rfl) dX2_passDay_29 ⟨(Nat.le_of_ble_eq_true rfl), (Nat.le_of_ble_eq_true rfl)⟩ rfl (fun H hp hz hf => ?_)
  have hd := hp
  have hd : dk g a (ps3 d) H := hd
  refine y_pop C dX2_passDay_32 rfl ?_
  refine y_aload_n C 1 dX2_passDay_33 rfl rfl ?_
  refine y_callV C [] (c_X2_sellUnclaimed g B0 l a (ps3 d) (sf_ps3 hsf) (hfr.to (ps3_2 d))) RX2 0 (wVin q251 q252 q253 q11 q254) hy_X2_sellUnclaimed ⟨(Nat.le_of_ble_eq_true rfl), (Nat.le_of_ble_eq_true rfl)⟩ ⟨rfl, rfl⟩ (rcv C.2.2.2.2.2.1 (dk_0 hd) rfl) hd (fun _ h => h) rfl rfl (Nat.le_of_ble_eq_true rfl) dX2_passDay_34 ⟨(Nat.le_of_ble_eq_true rfl), (Nat.le_of_ble_eq_true rfl)⟩ rfl (fun H hp hz hf => ?_)
  have hd := hp
  exact y_vret C hr hd dX2_passDay_37
