/-! THE LAW: desk; what a desk must be for it to answer true (gd) -/
def rsm (d : DV) (p : Nat) : Nat → Int32
  | 0 => 0
  | n + 1 => if d.1 18 n = 3 then rsm d p n + need (fl d n) p else rsm d p n
def dnn (d : DV) : Nat → Int32
  | 0 => 0
  | n + 1 => if d.1 15 n = tHF (fl d n) then dnn d n + 1 else dnn d n
def smm (d : DV) : Nat → Int32
  | 0 => 0
  | n + 1 => smm d n + ins d (nI n) (nm d)
/-- of a set: its state is known, and what goes with it -/
def gset (d : DV) (k : Nat) : Prop :=
  (d.1 18 k = 0 ∨ d.1 18 k = 1 ∨ d.1 18 k = 2 ∨ d.1 18 k = 3 ∨ d.1 18 k = 4 ∨ d.1 18 k = 5 ∨ d.1 18 k = 6 ∨ d.1 18 k = 7) ∧
  (¬ tHF (fl d k) < d.1 15 k) ∧ ((d.1 18 k = 0 ∨ d.1 18 k = 1 ∨ d.1 18 k = 2) → d.1 15 k = 0) ∧ (d.1 18 k = 3 → ¬ tHF (fl d k) ≤ d.1 15 k) ∧ (d.1 18 k = 4 → d.1 15 k = tHF (fl d k)) ∧ (¬ d.1 0 0 < d.1 13 k) ∧
  ((3 < d.1 18 k → ¬ d.1 19 k < 0) ∧ (¬ 3 < d.1 18 k → d.1 19 k < 0)) ∧ ((d.1 18 k = 4 ∨ d.1 18 k = 5) → ¬ tFee d k < 0) ∧ (¬ d.1 17 k = 0 → ¬ 6 ≤ d.1 18 k) ∧ (¬ d.1 16 k < 0) ∧ (¬ d.1 16 k = 0 → d.1 15 k = tHF (fl d k)) ∧ ((d.1 18 k = 0 → d.1 14 k = 0) ∧ (¬ d.1 18 k = 0 → ¬ d.1 14 k = 0))
def gd (d : DV) : Prop :=
  (∀ p, p < 6 → d.1 7 p = rsm d p (nm d) ∧ ¬ d.1 6 p < rsm d p (nm d)) ∧ (∀ k, k < nm d → gset d k) ∧ smm d 8 = d.1 11 0 ∧ (¬ lth d < 0) ∧
  (dnn d (nm d) = 0 → tMean d = 2143289344) ∧ (¬ dnn d (nm d) = 0 → ¬ Op.cmpValue (FP.fcmp (tMean d) FP.fconst0) .l < 0)
theorem tFee_neg {d : DV} {k : Nat} (h4 : ¬ d.1 18 k = 4) (h5 : ¬ d.1 18 k = 5) : tFee d k < 0 := by
  unfold tFee isR
  rw [if_neg h4, if_neg h5, if_pos rfl]
  decide
theorem tWt_ne {d : DV} {k : Nat} (h : d.1 18 k = 0 ∨ d.1 18 k = 1 ∨ d.1 18 k = 2 ∨ d.1 18 k = 3 ∨ d.1 18 k = 4 ∨ d.1 18 k = 5) : ¬ tWt d k = -5 := by
  unfold tWt
  by_cases h9 : ieo d (fl d k) 6 0 = 0
  · rw [if_pos h9]
    rcases h with h | h | h | h | h | h <;> rw [h] <;> decide
  · rw [if_neg h9]
    rcases h with h | h | h | h | h | h <;> rw [h] <;> decide
theorem tWt_eq {d : DV} {k : Nat} (h : d.1 18 k = 6 ∨ d.1 18 k = 7) : tWt d k = -5 := by
  unfold tWt
  by_cases h9 : ieo d (fl d k) 6 0 = 0
  · rw [if_pos h9]
    rcases h with h | h <;> rw [h] <;> decide
  · rw [if_neg h9]
    rcases h with h | h <;> rw [h] <;> decide
def rm_L_desk : Room := { frames := 7, cells := 0, slots := 0, locals := 160 }
set_option maxRecDepth 100000 in
set_option maxHeartbeats 4000000 in
theorem c_L_desk (g : KG) (B0 : Nat) (l : Launch) (b : Nat) (X : SV) (hv : sv X) (hg : gd (X.2.2.2 0)) : Mt g B0 l yL_desk cL_desk 8 (some .boolean) rm_L_desk [.ref b] (iv b 152) (sXt g b X) (some (.int 1)) (sXt g b X) 0 0 := by
  refine Mt_of RL (by decide) rfl [(0, .ref b)] rfl (Nat.le_of_ble_eq_true rfl) ?_
  intro pr e s m args below meth c C hr hin hd
  obtain ⟨t, ht1, ht2, hX⟩ := hd
  refine y_iconst C (0) dL_desk_0 (by decide) ?_
  refine y_istore_n C dL_desk_1 rfl (by decide) rfl ?_
  refine y_iconst C (0) dL_desk_2 (by decide) ?_
  refine y_istore_n C dL_desk_3 rfl (by decide) rfl ?_
  refine y_iconst C (1) dL_desk_4 (by decide) ?_
  refine y_istore_n C dL_desk_5 rfl (by decide) rfl ?_
  refine y_iconst C (0) dL_desk_6 (by decide) ?_
  refine y_istore C dL_desk_7 (by decide) rfl ?_
  suffices KA : ∀ rem p : Nat, p + rem = 6 → ∀ H : Heap, sXt g b X H → Yx (iv b 152) pr l e rm_L_desk s m args below meth c 8 0 0 (MQ below (Qx (some (.int 1)) (sXt g b X) (iv b 152)) args s 0 0 (iv b 152)) [(4, .int (nI p)), (3, .int (1 : Int32)), (2, .int (0 : Int32)), (1, .int (0 : Int32)), (0, .ref b)] H 9 [] from y_sub [0, 1, 2, 3, 4] (KA 6 0 (Nat.zero_add _) _ ⟨t, ht1, ht2, hX⟩) rfl
  intro rem
  induction rem with
  | succ rem ih =>
    intro p hpr H hd
    obtain ⟨t, ht1, ht2, hX⟩ := hd
    have hp6 : p < 6 := by omega
    refine y_iload C 0 dL_desk_9 rfl ?_
    refine y_bipush C (6) dL_desk_11 (by decide) ?_
    refine y_icmp_ge C 191 dL_desk_13 (by decide) (fun h => absurd h (ge_f rfl rfl hp6 (by decide))) (fun _ => ?_)
    refine y_iload_n C 1 dL_desk_16 rfl rfl ?_
    refine y_if_eq C 191 dL_desk_17 (by decide) (fun h => absurd h (by decide)) (fun _ => ?_)
    refine y_iconst C (0) dL_desk_20 (by decide) ?_
    refine y_istore C dL_desk_21 (by decide) rfl ?_
    refine y_iconst C (0) dL_desk_23 (by decide) ?_
    refine y_istore C dL_desk_24 (by decide) rfl ?_
    refine y_iconst C (0) dL_desk_26 (by decide) ?_
    refine y_istore C dL_desk_27 (by decide) rfl ?_
    suffices KI : ∀ rem k : Nat, k + rem = nm (X.2.2.2 0) → ∀ rs wt : Int32, rs = rsm (X.2.2.2 0) p k → wt = lkn (X.2.2.2 0) p k → ∀ H : Heap, sXt g b X H → Yx (iv b 152) pr l e rm_L_desk s m args below meth c 8 0 0 (MQ below (Qx (some (.int 1)) (sXt g b X) (iv b 152)) args s 0 0 (iv b 152)) [(7, .int (nI k)), (6, .int wt), (5, .int rs), (4, .int (nI p)), (3, .int (1 : Int32)), (2, .int (0 : Int32)), (1, .int (0 : Int32)), (0, .ref b)] H 29 [] from y_sub [0, 1, 2, 3, 4, 5, 6, 7] (KI (nm (X.2.2.2 0)) 0 (Nat.zero_add _) _ _ rfl rfl _ ⟨t, ht1, ht2, hX⟩) rfl
    intro rem2
    induction rem2 with
    | succ rem2 ih2 =>
      intro k hkr rs wt hrs hwt H hd
      obtain ⟨t, ht1, ht2, hX⟩ := hd
      have hkn : k < nm (X.2.2.2 0) := by omega
      suffices J1 : ∀ rs1 : Int32, rs1 = rsm (X.2.2.2 0) p (k + 1) → ∀ H : Heap, sXt g b X H → Yx (iv b 152) pr l e rm_L_desk s m args below meth c 8 0 0 (MQ below (Qx (some (.int 1)) (sXt g b X) (iv b 152)) args s 0 0 (iv b 152)) [(7, .int (nI k)), (6, .int wt), (5, .int rs1), (4, .int (nI p)), (3, .int (1 : Int32)), (2, .int (0 : Int32)), (1, .int (0 : Int32)), (0, .ref b)] H 72 [] from by
        refine y_iload C 0 dL_desk_29 rfl ?_
        refine y_aload_n C 7 dL_desk_31 rfl rfl ?_
        refine y_iconst C (1) dL_desk_32 (by decide) ?_
        refine y_callV C [.int (1 : Int32)] (c_X6_count_1 g B0 l b (stJ 1 X t) (sv_t hv ht1 ht2)) RX6 1 (wVin q92 q93 q94 q2 q95) hy_X6_count ⟨(Nat.le_of_ble_eq_true rfl), (Nat.le_of_ble_eq_true rfl)⟩ ⟨rfl, rfl⟩ (rcv C.2.2.2.2.2.1 hX.1 rfl) hX (fun _ h => h) rfl rfl (Nat.le_of_ble_eq_true rfl) dL_desk_33 ⟨(Nat.le_of_ble_eq_true rfl), (Nat.le_of_ble_eq_true rfl)⟩ rfl (fun H hp hz hf => ?_)
        have hX := hp
        refine y_top (show _ = ((X.2.2.2 0).1 11 0) from rfl) ?_
        refine y_icmp_ge C 111 dL_desk_36 (by decide) (fun h => absurd h (ge_f rfl (hv.2 0 (by decide)).1.2.1.1 hkn (by have := (hv.2 0 (by decide)).1.2.1.2; omega))) (fun _ => ?_)
        refine y_iload C 2 dL_desk_39 rfl ?_
        refine y_aload_n C 7 dL_desk_41 rfl rfl ?_
        refine y_iload C 0 dL_desk_42 rfl ?_
        refine y_bipush C (6) dL_desk_44 (by decide) ?_
        refine y_callV C [.int (nI k), .int (6 : Int32)] (c_X6_set_6 g B0 l b (stJ 1 X t) (sv_t hv ht1 ht2) k hkn) RX6 2 (wVin q380 q381 q382 q2 q383) hy_X6_set ⟨(Nat.le_of_ble_eq_true rfl), (Nat.le_of_ble_eq_true rfl)⟩ ⟨rfl, rfl⟩ (rcv C.2.2.2.2.2.1 hX.1 rfl) hX (fun _ h => h) rfl rfl (Nat.le_of_ble_eq_true rfl) dL_desk_46 ⟨(Nat.le_of_ble_eq_true rfl), (Nat.le_of_ble_eq_true rfl)⟩ rfl (fun H hp hz hf => ?_)
        have hX := hp
        refine y_top (show _ = ((X.2.2.2 0).1 18 k) from rfl) ?_
        refine y_iconst C (3) dL_desk_49 (by decide) ?_
        refine y_icmp_ne C 68 dL_desk_50 (by decide) (fun h3 => ?_) (fun h3 => ?_)
        · refine y_iconst C (0) dL_desk_68 (by decide) ?_
          refine y_iadd C dL_desk_69 ?_
          refine y_istore C dL_desk_70 (by decide) rfl ?_
          exact y_sub [1, 2, 0, 3, 4, 5, 6, 7] (J1 _ (by rw [rsm, if_neg h3, hrs, Int32.add_zero]) _ ⟨t, ht1, ht2, hX⟩) rfl
        · refine y_aload_n C 7 dL_desk_53 rfl rfl ?_
          refine y_iload C 0 dL_desk_54 rfl ?_
          refine y_iconst C (0) dL_desk_56 (by decide) ?_
          refine y_callV C [.int (nI k), .int (0 : Int32)] (c_X6_set_0 g B0 l b (stJ 1 X t) (sv_t hv ht1 ht2) k hkn) RX6 2 (wVin q380 q381 q382 q2 q383) hy_X6_set ⟨(Nat.le_of_ble_eq_true rfl), (Nat.le_of_ble_eq_true rfl)⟩ ⟨rfl, rfl⟩ (rcv C.2.2.2.2.2.1 hX.1 rfl) hX (fun _ h => h) rfl rfl (Nat.le_of_ble_eq_true rfl) dL_desk_57 ⟨(Nat.le_of_ble_eq_true rfl), (Nat.le_of_ble_eq_true rfl)⟩ rfl (fun H hp hz hf => ?_)
          have hX := hp
          refine y_top (show _ = ((X.2.2.2 0).1 12 k) from rfl) ?_
          refine y_top ((hv.2 0 (by decide)).1.2.2.1 _ hkn).1 ?_
          refine y_iload C 3 dL_desk_60 rfl ?_
          refine y_callS C [.int (nI (fl (X.2.2.2 0) k)), .int (nI p)] (c_L_need g B0 l (fl (X.2.2.2 0) k) p ((hv.2 0 (by decide)).1.2.2.1 _ hkn).2 hp6) 2 (wSin q392 q393 q125 q394) hs_L_need ⟨(Nat.le_of_ble_eq_true rfl), (Nat.le_of_ble_eq_true rfl)⟩ ⟨rfl, rfl⟩ trivial nF.no rfl rfl (Nat.le_of_ble_eq_true rfl) dL_desk_62 ⟨(Nat.le_of_ble_eq_true rfl), (Nat.le_of_ble_eq_true rfl)⟩ rfl (fun H hp hz hf => ?_)
          have hX := sys.fr (A1 := nF) hX hf (fun _ _ z => z)
          refine y_goto C 69 dL_desk_65 (by decide) ?_
          refine y_iadd C dL_desk_69 ?_
          refine y_istore C dL_desk_70 (by decide) rfl ?_
          exact y_sub [1, 2, 0, 3, 4, 5, 6, 7] (J1 _ (by rw [rsm, if_pos h3, hrs]) _ ⟨t, ht1, ht2, hX⟩) rfl
      intro rs1 hrs1 H hd
      obtain ⟨t, ht1, ht2, hX⟩ := hd
      refine y_iload C 1 dL_desk_72 rfl ?_
      refine y_aload_n C 7 dL_desk_74 rfl rfl ?_
      refine y_iload C 0 dL_desk_75 rfl ?_
      refine y_bipush C (6) dL_desk_77 (by decide) ?_
      refine y_callV C [.int (nI k), .int (6 : Int32)] (c_X6_set_6 g B0 l b (stJ 1 X t) (sv_t hv ht1 ht2) k hkn) RX6 2 (wVin q380 q381 q382 q2 q383) hy_X6_set ⟨(Nat.le_of_ble_eq_true rfl), (Nat.le_of_ble_eq_true rfl)⟩ ⟨rfl, rfl⟩ (rcv C.2.2.2.2.2.1 hX.1 rfl) hX (fun _ h => h) rfl rfl (Nat.le_of_ble_eq_true rfl) dL_desk_79 ⟨(Nat.le_of_ble_eq_true rfl), (Nat.le_of_ble_eq_true rfl)⟩ rfl (fun H hp hz hf => ?_)
      have hX := hp
      refine y_top (show _ = ((X.2.2.2 0).1 18 k) from rfl) ?_
      refine y_iconst C (2) dL_desk_82 (by decide) ?_
      refine y_icmp_ne C 101 dL_desk_83 (by decide) (fun h2 => ?_) (fun h2 => ?_)
      · refine y_iconst C (0) dL_desk_101 (by decide) ?_
        refine y_iadd C dL_desk_102 ?_
        refine y_istore C dL_desk_103 (by decide) rfl ?_
        refine y_iinc C 1 (nI (k + 1)) dL_desk_105 rfl (nI_succ _).symm (by decide) rfl ?_
        refine y_goto C 29 dL_desk_108 (by decide) ?_
        exact y_sub [0, 1, 2, 3, 4, 5, 6, 7] (ih2 (k + 1) (by omega) _ _ hrs1 (by rw [lkn, if_neg h2, hwt, Int32.add_zero]) H ⟨t, ht1, ht2, hX⟩) rfl
      · refine y_aload_n C 7 dL_desk_86 rfl rfl ?_
        refine y_iload C 0 dL_desk_87 rfl ?_
        refine y_iconst C (0) dL_desk_89 (by decide) ?_
        refine y_callV C [.int (nI k), .int (0 : Int32)] (c_X6_set_0 g B0 l b (stJ 1 X t) (sv_t hv ht1 ht2) k hkn) RX6 2 (wVin q380 q381 q382 q2 q383) hy_X6_set ⟨(Nat.le_of_ble_eq_true rfl), (Nat.le_of_ble_eq_true rfl)⟩ ⟨rfl, rfl⟩ (rcv C.2.2.2.2.2.1 hX.1 rfl) hX (fun _ h => h) rfl rfl (Nat.le_of_ble_eq_true rfl) dL_desk_90 ⟨(Nat.le_of_ble_eq_true rfl), (Nat.le_of_ble_eq_true rfl)⟩ rfl (fun H hp hz hf => ?_)
        have hX := hp
        refine y_top (show _ = ((X.2.2.2 0).1 12 k) from rfl) ?_
        refine y_top ((hv.2 0 (by decide)).1.2.2.1 _ hkn).1 ?_
        refine y_iload C 3 dL_desk_93 rfl ?_
        refine y_callS C [.int (nI (fl (X.2.2.2 0) k)), .int (nI p)] (c_L_need g B0 l (fl (X.2.2.2 0) k) p ((hv.2 0 (by decide)).1.2.2.1 _ hkn).2 hp6) 2 (wSin q392 q393 q125 q394) hs_L_need ⟨(Nat.le_of_ble_eq_true rfl), (Nat.le_of_ble_eq_true rfl)⟩ ⟨rfl, rfl⟩ trivial nF.no rfl rfl (Nat.le_of_ble_eq_true rfl) dL_desk_95 ⟨(Nat.le_of_ble_eq_true rfl), (Nat.le_of_ble_eq_true rfl)⟩ rfl (fun H hp hz hf => ?_)
        have hX := sys.fr (A1 := nF) hX hf (fun _ _ z => z)
        refine y_goto C 102 dL_desk_98 (by decide) ?_
        refine y_iadd C dL_desk_102 ?_
        refine y_istore C dL_desk_103 (by decide) rfl ?_
        refine y_iinc C 1 (nI (k + 1)) dL_desk_105 rfl (nI_succ _).symm (by decide) rfl ?_
        refine y_goto C 29 dL_desk_108 (by decide) ?_
        exact y_sub [0, 1, 2, 3, 4, 5, 6, 7] (ih2 (k + 1) (by omega) _ _ hrs1 (by rw [lkn, if_pos h2, hwt]) H ⟨t, ht1, ht2, hX⟩) rfl
    | zero =>
      intro k hkr rs wt hrs hwt H hd
      obtain ⟨t, ht1, ht2, hX⟩ := hd
      obtain rfl : k = nm (X.2.2.2 0) := by omega
      have hG := hg.1 p hp6
      refine y_iload C 0 dL_desk_29 rfl ?_
      refine y_aload_n C 7 dL_desk_31 rfl rfl ?_
      refine y_iconst C (1) dL_desk_32 (by decide) ?_
      refine y_callV C [.int (1 : Int32)] (c_X6_count_1 g B0 l b (stJ 1 X t) (sv_t hv ht1 ht2)) RX6 1 (wVin q92 q93 q94 q2 q95) hy_X6_count ⟨(Nat.le_of_ble_eq_true rfl), (Nat.le_of_ble_eq_true rfl)⟩ ⟨rfl, rfl⟩ (rcv C.2.2.2.2.2.1 hX.1 rfl) hX (fun _ h => h) rfl rfl (Nat.le_of_ble_eq_true rfl) dL_desk_33 ⟨(Nat.le_of_ble_eq_true rfl), (Nat.le_of_ble_eq_true rfl)⟩ rfl (fun H hp hz hf => ?_)
      have hX := hp
      refine y_top (show _ = ((X.2.2.2 0).1 11 0) from rfl) ?_
      refine y_icmp_ge C 111 dL_desk_36 (by decide) (fun _ => ?_) (fun h => absurd (ge_t rfl (hv.2 0 (by decide)).1.2.1.1 (Nat.le_refl _) (by have := (hv.2 0 (by decide)).1.2.1.2; omega)) h)
      refine y_iload C 1 dL_desk_111 rfl ?_
      refine y_aload_n C 7 dL_desk_113 rfl rfl ?_
      refine y_iload C 3 dL_desk_114 rfl ?_
      refine y_iconst C (2) dL_desk_116 (by decide) ?_
      refine y_callV C [.int (nI p), .int (2 : Int32)] (c_X6_part_2 g B0 l b (stJ 1 X t) (sv_t hv ht1 ht2) p hp6) RX6 2 (wVin q395 q396 q397 q2 q398) hy_X6_part ⟨(Nat.le_of_ble_eq_true rfl), (Nat.le_of_ble_eq_true rfl)⟩ ⟨rfl, rfl⟩ (rcv C.2.2.2.2.2.1 hX.1 rfl) hX (fun _ h => h) rfl rfl (Nat.le_of_ble_eq_true rfl) dL_desk_117 ⟨(Nat.le_of_ble_eq_true rfl), (Nat.le_of_ble_eq_true rfl)⟩ rfl (fun H hp hz hf => ?_)
      have hX := hp
      refine y_top (show _ = ((X.2.2.2 0).1 6 p) from rfl) ?_
      refine y_iload C 2 dL_desk_120 rfl ?_
      refine y_isub C dL_desk_122 ?_
      refine y_isub C dL_desk_123 ?_
      refine y_aload_n C 7 dL_desk_124 rfl rfl ?_
      refine y_iload C 3 dL_desk_125 rfl ?_
      refine y_iconst C (4) dL_desk_127 (by decide) ?_
      refine y_callV C [.int (nI p), .int (4 : Int32)] (c_X6_part_4 g B0 l b (stJ 1 X t) (sv_t hv ht1 ht2) p hp6) RX6 2 (wVin q395 q396 q397 q2 q398) hy_X6_part ⟨(Nat.le_of_ble_eq_true rfl), (Nat.le_of_ble_eq_true rfl)⟩ ⟨rfl, rfl⟩ (rcv C.2.2.2.2.2.1 hX.1 rfl) hX (fun _ h => h) rfl rfl (Nat.le_of_ble_eq_true rfl) dL_desk_128 ⟨(Nat.le_of_ble_eq_true rfl), (Nat.le_of_ble_eq_true rfl)⟩ rfl (fun H hp hz hf => ?_)
      have hX := hp
      refine y_top (show _ = (oo (X.2.2.2 0) p (no (X.2.2.2 0))) from rfl) ?_
      refine y_isub C dL_desk_131 ?_
      refine y_istore C dL_desk_132 (by decide) rfl ?_
      refine y_aload_n C 7 dL_desk_134 rfl rfl ?_
      refine y_iload C 3 dL_desk_135 rfl ?_
      refine y_iconst C (3) dL_desk_137 (by decide) ?_
      refine y_callV C [.int (nI p), .int (3 : Int32)] (c_X6_part_3 g B0 l b (stJ 1 X t) (sv_t hv ht1 ht2) p hp6) RX6 2 (wVin q395 q396 q397 q2 q398) hy_X6_part ⟨(Nat.le_of_ble_eq_true rfl), (Nat.le_of_ble_eq_true rfl)⟩ ⟨rfl, rfl⟩ (rcv C.2.2.2.2.2.1 hX.1 rfl) hX (fun _ h => h) rfl rfl (Nat.le_of_ble_eq_true rfl) dL_desk_138 ⟨(Nat.le_of_ble_eq_true rfl), (Nat.le_of_ble_eq_true rfl)⟩ rfl (fun H hp hz hf => ?_)
      have hX := hp
      refine y_top (show _ = ((X.2.2.2 0).1 7 p) from rfl) ?_
      refine y_iload C 2 dL_desk_141 rfl ?_
      refine y_icmp_ne C 183 dL_desk_143 (by decide) (fun h => absurd (by rw [hrs]; exact hG.1) h) (fun _ => ?_)
      refine y_iload C 2 dL_desk_146 rfl ?_
      refine y_aload_n C 7 dL_desk_148 rfl rfl ?_
      refine y_iload C 3 dL_desk_149 rfl ?_
      refine y_iconst C (2) dL_desk_151 (by decide) ?_
      refine y_callV C [.int (nI p), .int (2 : Int32)] (c_X6_part_2 g B0 l b (stJ 1 X t) (sv_t hv ht1 ht2) p hp6) RX6 2 (wVin q395 q396 q397 q2 q398) hy_X6_part ⟨(Nat.le_of_ble_eq_true rfl), (Nat.le_of_ble_eq_true rfl)⟩ ⟨rfl, rfl⟩ (rcv C.2.2.2.2.2.1 hX.1 rfl) hX (fun _ h => h) rfl rfl (Nat.le_of_ble_eq_true rfl) dL_desk_152 ⟨(Nat.le_of_ble_eq_true rfl), (Nat.le_of_ble_eq_true rfl)⟩ rfl (fun H hp hz hf => ?_)
      have hX := hp
      refine y_top (show _ = ((X.2.2.2 0).1 6 p) from rfl) ?_
      refine y_icmp_gt C 183 dL_desk_155 (by decide) (fun h => absurd h (by rw [hrs]; exact hG.2)) (fun _ => ?_)
      refine y_aload_n C 7 dL_desk_158 rfl rfl ?_
      refine y_iload C 3 dL_desk_159 rfl ?_
      refine y_iconst C (5) dL_desk_161 (by decide) ?_
      refine y_callV C [.int (nI p), .int (5 : Int32)] (c_X6_part_5 g B0 l b (stJ 1 X t) (sv_t hv ht1 ht2) p hp6) RX6 2 (wVin q395 q396 q397 q2 q398) hy_X6_part ⟨(Nat.le_of_ble_eq_true rfl), (Nat.le_of_ble_eq_true rfl)⟩ ⟨rfl, rfl⟩ (rcv C.2.2.2.2.2.1 hX.1 rfl) hX (fun _ h => h) rfl rfl (Nat.le_of_ble_eq_true rfl) dL_desk_162 ⟨(Nat.le_of_ble_eq_true rfl), (Nat.le_of_ble_eq_true rfl)⟩ rfl (fun H hp hz hf => ?_)
      have hX := hp
      refine y_top (show _ = (lko (X.2.2.2 0) p) from rfl) ?_
      refine y_iload C 0 dL_desk_165 rfl ?_
      refine y_if_le C 175 dL_desk_167 (by decide) (fun hle => ?_) (fun hle => ?_)
      · refine y_iconst C (0) dL_desk_175 (by decide) ?_
        refine y_icmp_ne C 183 dL_desk_176 (by decide) (fun h => absurd (show lko (X.2.2.2 0) p = _ by have e : wt - ((X.2.2.2 0).1 6 p - rs) - oo (X.2.2.2 0) p (no (X.2.2.2 0)) = lkn (X.2.2.2 0) p (nm (X.2.2.2 0)) - fre (X.2.2.2 0) p - oo (X.2.2.2 0) p (no (X.2.2.2 0)) := (by rw [hrs, hwt, fre, hG.1]); rw [lko, ← e, if_neg (fun z => Int32.not_lt.mpr hle z)]) h) (fun _ => ?_)
        refine y_iconst C (1) dL_desk_179 (by decide) ?_
        refine y_goto C 184 dL_desk_180 (by decide) ?_
        refine y_istore_n C dL_desk_184 rfl (by decide) rfl ?_
        refine y_iinc C 4 (nI (p + 1)) dL_desk_185 rfl (nI_succ _).symm (by decide) rfl ?_
        refine y_goto C 9 dL_desk_188 (by decide) ?_
        exact y_sub [0, 1, 5, 6, 7] (ih (p + 1) (by omega) H ⟨t, ht1, ht2, hX⟩) rfl
      · refine y_iload C 0 dL_desk_170 rfl ?_
        refine y_goto C 176 dL_desk_172 (by decide) ?_
        refine y_icmp_ne C 183 dL_desk_176 (by decide) (fun h => absurd (show lko (X.2.2.2 0) p = _ by have e : wt - ((X.2.2.2 0).1 6 p - rs) - oo (X.2.2.2 0) p (no (X.2.2.2 0)) = lkn (X.2.2.2 0) p (nm (X.2.2.2 0)) - fre (X.2.2.2 0) p - oo (X.2.2.2 0) p (no (X.2.2.2 0)) := (by rw [hrs, hwt, fre, hG.1]); rw [lko, ← e, if_pos (Int32.not_le.mp hle)]) h) (fun _ => ?_)
        refine y_iconst C (1) dL_desk_179 (by decide) ?_
        refine y_goto C 184 dL_desk_180 (by decide) ?_
        refine y_istore_n C dL_desk_184 rfl (by decide) rfl ?_
        refine y_iinc C 4 (nI (p + 1)) dL_desk_185 rfl (nI_succ _).symm (by decide) rfl ?_
        refine y_goto C 9 dL_desk_188 (by decide) ?_
        exact y_sub [0, 1, 5, 6, 7] (ih (p + 1) (by omega) H ⟨t, ht1, ht2, hX⟩) rfl
  | zero =>
    intro p hpr H hd
    obtain ⟨t, ht1, ht2, hX⟩ := hd
    obtain rfl : p = 6 := by omega
    refine y_iload C 0 dL_desk_9 rfl ?_
    refine y_bipush C (6) dL_desk_11 (by decide) ?_
    refine y_icmp_ge C 191 dL_desk_13 (by decide) (fun _ => ?_) (fun h => absurd (ge_t rfl rfl (Nat.le_refl 6) (by decide)) h)
    refine y_iconst C (0) dL_desk_191 (by decide) ?_
    refine y_istore C dL_desk_192 (by decide) rfl ?_
    suffices KB : ∀ rem k : Nat, k + rem = nm (X.2.2.2 0) → ∀ lent dn : Int32, lent = wlo (X.2.2.2 0) k → dn = dnn (X.2.2.2 0) k → ∀ H : Heap, sXt g b X H → Yx (iv b 152) pr l e rm_L_desk s m args below meth c 8 0 0 (MQ below (Qx (some (.int 1)) (sXt g b X) (iv b 152)) args s 0 0 (iv b 152)) [(4, .int (nI k)), (3, .int (1 : Int32)), (2, .int dn), (1, .int lent), (0, .ref b)] H 194 [] from y_sub [0, 1, 2, 3, 4] (KB (nm (X.2.2.2 0)) 0 (Nat.zero_add _) _ _ rfl rfl _ ⟨t, ht1, ht2, hX⟩) rfl
    intro rem
    induction rem with
    | succ rem ih =>
      intro k hkr lent dn hle hdn H hd
      obtain ⟨t, ht1, ht2, hX⟩ := hd
      have hkn : k < nm (X.2.2.2 0) := by omega
      obtain ⟨g0, g1, g2, g3, g4, g5, g6, g7, g8, g9, g10, g11⟩ := hg.2.1 k hkn
      refine y_iload C 0 dL_desk_194 rfl ?_
      refine y_aload_n C 4 dL_desk_196 rfl rfl ?_
      refine y_iconst C (1) dL_desk_197 (by decide) ?_
      refine y_callV C [.int (1 : Int32)] (c_X6_count_1 g B0 l b (stJ 1 X t) (sv_t hv ht1 ht2)) RX6 1 (wVin q92 q93 q94 q2 q95) hy_X6_count ⟨(Nat.le_of_ble_eq_true rfl), (Nat.le_of_ble_eq_true rfl)⟩ ⟨rfl, rfl⟩ (rcv C.2.2.2.2.2.1 hX.1 rfl) hX (fun _ h => h) rfl rfl (Nat.le_of_ble_eq_true rfl) dL_desk_198 ⟨(Nat.le_of_ble_eq_true rfl), (Nat.le_of_ble_eq_true rfl)⟩ rfl (fun H hp hz hf => ?_)
      have hX := hp
      refine y_top (show _ = ((X.2.2.2 0).1 11 0) from rfl) ?_
      refine y_icmp_ge C 600 dL_desk_201 (by decide) (fun h => absurd h (ge_f rfl (hv.2 0 (by decide)).1.2.1.1 hkn (by have := (hv.2 0 (by decide)).1.2.1.2; omega))) (fun _ => ?_)
      refine y_iload_n C 1 dL_desk_204 rfl rfl ?_
      refine y_if_eq C 600 dL_desk_205 (by decide) (fun h => absurd h (by decide)) (fun _ => ?_)
      rcases g0 with es | es | es | es | es | es | es | es
      · suffices J2 : ∀ lent1 dn1 : Int32, lent1 = wlo (X.2.2.2 0) (k + 1) → dn1 = dnn (X.2.2.2 0) (k + 1) → ∀ H : Heap, sXt g b X H → Yx (iv b 152) pr l e rm_L_desk s m args below meth c 8 0 0 (MQ below (Qx (some (.int 1)) (sXt g b X) (iv b 152)) args s 0 0 (iv b 152)) [(7, .int (0 : Int32)), (6, .int (tHF (fl (X.2.2.2 0) k))), (5, .int (0 : Int32)), (4, .int (nI k)), (3, .int (1 : Int32)), (2, .int dn1), (1, .int lent1), (0, .ref b)] H 279 [] from by
          refine y_aload_n C 4 dL_desk_208 rfl rfl ?_
          refine y_iload C 0 dL_desk_209 rfl ?_
          refine y_bipush C (6) dL_desk_211 (by decide) ?_
          refine y_callV C [.int (nI k), .int (6 : Int32)] (c_X6_set_6 g B0 l b (stJ 1 X t) (sv_t hv ht1 ht2) k hkn) RX6 2 (wVin q380 q381 q382 q2 q383) hy_X6_set ⟨(Nat.le_of_ble_eq_true rfl), (Nat.le_of_ble_eq_true rfl)⟩ ⟨rfl, rfl⟩ (rcv C.2.2.2.2.2.1 hX.1 rfl) hX (fun _ h => h) rfl rfl (Nat.le_of_ble_eq_true rfl) dL_desk_213 ⟨(Nat.le_of_ble_eq_true rfl), (Nat.le_of_ble_eq_true rfl)⟩ rfl (fun H hp hz hf => ?_)
          have hX := hp
          refine y_top (show _ = ((X.2.2.2 0).1 18 k) from rfl) ?_
          refine y_top es ?_
          refine y_istore C dL_desk_216 (by decide) rfl ?_
          refine y_aload_n C 5 dL_desk_218 rfl rfl ?_
          refine y_iload C 1 dL_desk_219 rfl ?_
          refine y_iconst C (0) dL_desk_221 (by decide) ?_
          refine y_callV C [.int (nI k), .int (0 : Int32)] (c_X6_set_0 g B0 l b (stJ 1 X t) (sv_t hv ht1 ht2) k hkn) RX6 2 (wVin q380 q381 q382 q2 q383) hy_X6_set ⟨(Nat.le_of_ble_eq_true rfl), (Nat.le_of_ble_eq_true rfl)⟩ ⟨rfl, rfl⟩ (rcv C.2.2.2.2.2.1 hX.1 rfl) hX (fun _ h => h) rfl rfl (Nat.le_of_ble_eq_true rfl) dL_desk_222 ⟨(Nat.le_of_ble_eq_true rfl), (Nat.le_of_ble_eq_true rfl)⟩ rfl (fun H hp hz hf => ?_)
          have hX := hp
          refine y_top (show _ = ((X.2.2.2 0).1 12 k) from rfl) ?_
          refine y_top ((hv.2 0 (by decide)).1.2.2.1 _ hkn).1 ?_
          refine y_callS C [.int (nI (fl (X.2.2.2 0) k))] (c_L_hours g B0 l (fl (X.2.2.2 0) k) ((hv.2 0 (by decide)).1.2.2.1 _ hkn).2) 1 (wSin q414 q415 q125 q416) hs_L_hours ⟨(Nat.le_of_ble_eq_true rfl), (Nat.le_of_ble_eq_true rfl)⟩ ⟨rfl, rfl⟩ trivial nF.no rfl rfl (Nat.le_of_ble_eq_true rfl) dL_desk_225 ⟨(Nat.le_of_ble_eq_true rfl), (Nat.le_of_ble_eq_true rfl)⟩ rfl (fun H hp hz hf => ?_)
          have hX := sys.fr (A1 := nF) hX hf (fun _ _ z => z)
          refine y_istore C dL_desk_228 (by decide) rfl ?_
          refine y_iload C 1 dL_desk_230 rfl ?_
          refine y_iconst C (4) dL_desk_232 (by decide) ?_
          refine y_icmp_eq C 242 dL_desk_233 (by decide) (fun h => absurd h (by decide)) (fun _ => ?_)
          refine y_iload C 1 dL_desk_236 rfl ?_
          refine y_iconst C (5) dL_desk_238 (by decide) ?_
          refine y_icmp_ne C 246 dL_desk_239 (by decide) (fun _ => ?_) (fun h => absurd h (by decide))
          refine y_iconst C (0) dL_desk_246 (by decide) ?_
          refine y_istore C dL_desk_247 (by decide) rfl ?_
          refine y_iload_n C 6 dL_desk_249 rfl rfl ?_
          refine y_aload_n C 7 dL_desk_250 rfl rfl ?_
          refine y_iload C 3 dL_desk_251 rfl ?_
          refine y_iconst C (5) dL_desk_253 (by decide) ?_
          refine y_callV C [.int (nI k), .int (5 : Int32)] (c_X6_set_5 g B0 l b (stJ 1 X t) (sv_t hv ht1 ht2) k hkn) RX6 2 (wVin q380 q381 q382 q2 q383) hy_X6_set ⟨(Nat.le_of_ble_eq_true rfl), (Nat.le_of_ble_eq_true rfl)⟩ ⟨rfl, rfl⟩ (rcv C.2.2.2.2.2.1 hX.1 rfl) hX (fun _ h => h) rfl rfl (Nat.le_of_ble_eq_true rfl) dL_desk_254 ⟨(Nat.le_of_ble_eq_true rfl), (Nat.le_of_ble_eq_true rfl)⟩ rfl (fun H hp hz hf => ?_)
          have hX := hp
          refine y_top (show _ = ((X.2.2.2 0).1 17 k) from rfl) ?_
          refine y_iadd C dL_desk_257 ?_
          refine y_istore_n C dL_desk_258 rfl (by decide) rfl ?_
          refine y_iload_n C 6 dL_desk_259 rfl rfl ?_
          refine y_aload_n C 7 dL_desk_260 rfl rfl ?_
          refine y_iload C 4 dL_desk_261 rfl ?_
          refine y_iconst C (3) dL_desk_263 (by decide) ?_
          refine y_callV C [.int (nI k), .int (3 : Int32)] (c_X6_set_3 g B0 l b (stJ 1 X t) (sv_t hv ht1 ht2) k hkn) RX6 2 (wVin q380 q381 q382 q2 q383) hy_X6_set ⟨(Nat.le_of_ble_eq_true rfl), (Nat.le_of_ble_eq_true rfl)⟩ ⟨rfl, rfl⟩ (rcv C.2.2.2.2.2.1 hX.1 rfl) hX (fun _ h => h) rfl rfl (Nat.le_of_ble_eq_true rfl) dL_desk_264 ⟨(Nat.le_of_ble_eq_true rfl), (Nat.le_of_ble_eq_true rfl)⟩ rfl (fun H hp hz hf => ?_)
          have hX := hp
          refine y_top (show _ = ((X.2.2.2 0).1 15 k) from rfl) ?_
          refine y_iload C 2 dL_desk_267 rfl ?_
          refine y_icmp_ne C 276 dL_desk_269 (by decide) (fun hw => ?_) (fun hw => ?_)
          · refine y_iconst C (0) dL_desk_276 (by decide) ?_
            refine y_iadd C dL_desk_277 ?_
            refine y_istore_n C dL_desk_278 rfl (by decide) rfl ?_
            exact y_sub [2, 3, 4, 5, 6, 0, 1, 7] (J2 _ _ (by rw [wlo, hle]) (by rw [dnn, if_neg hw, hdn, Int32.add_zero]) _ ⟨t, ht1, ht2, hX⟩) rfl
          · refine y_iconst C (1) dL_desk_272 (by decide) ?_
            refine y_goto C 277 dL_desk_273 (by decide) ?_
            refine y_iadd C dL_desk_277 ?_
            refine y_istore_n C dL_desk_278 rfl (by decide) rfl ?_
            exact y_sub [2, 3, 4, 5, 6, 0, 1, 7] (J2 _ _ (by rw [wlo, hle]) (by rw [dnn, if_pos hw, hdn]) _ ⟨t, ht1, ht2, hX⟩) rfl
        intro lent1 dn1 hle1 hdn1 H hd
        obtain ⟨t, ht1, ht2, hX⟩ := hd
        suffices J3 :  ∀ H : Heap, sXt g b X H → Yx (iv b 152) pr l e rm_L_desk s m args below meth c 8 0 0 (MQ below (Qx (some (.int 1)) (sXt g b X) (iv b 152)) args s 0 0 (iv b 152)) [(7, .int (0 : Int32)), (6, .int (tHF (fl (X.2.2.2 0) k))), (5, .int (0 : Int32)), (4, .int (nI k)), (3, .int (1 : Int32)), (2, .int dn1), (1, .int lent1), (0, .ref b)] H 448 [] from by
          refine y_iload C 2 dL_desk_279 rfl ?_
          refine y_if_lt C 374 dL_desk_281 (by decide) (fun h => absurd h (by decide)) (fun _ => ?_)
          refine y_iload C 2 dL_desk_284 rfl ?_
          refine y_bipush C (8) dL_desk_286 (by decide) ?_
          refine y_icmp_ge C 374 dL_desk_288 (by decide) (fun h => absurd h (by decide)) (fun _ => ?_)
          refine y_aload_n C 7 dL_desk_291 rfl rfl ?_
          refine y_iload C 3 dL_desk_292 rfl ?_
          refine y_iconst C (3) dL_desk_294 (by decide) ?_
          refine y_callV C [.int (nI k), .int (3 : Int32)] (c_X6_set_3 g B0 l b (stJ 1 X t) (sv_t hv ht1 ht2) k hkn) RX6 2 (wVin q380 q381 q382 q2 q383) hy_X6_set ⟨(Nat.le_of_ble_eq_true rfl), (Nat.le_of_ble_eq_true rfl)⟩ ⟨rfl, rfl⟩ (rcv C.2.2.2.2.2.1 hX.1 rfl) hX (fun _ h => h) rfl rfl (Nat.le_of_ble_eq_true rfl) dL_desk_295 ⟨(Nat.le_of_ble_eq_true rfl), (Nat.le_of_ble_eq_true rfl)⟩ rfl (fun H hp hz hf => ?_)
          have hX := hp
          refine y_top (show _ = ((X.2.2.2 0).1 15 k) from rfl) ?_
          refine y_iload C 1 dL_desk_298 rfl ?_
          refine y_icmp_gt C 374 dL_desk_300 (by decide) (fun h => absurd h g1) (fun _ => ?_)
          refine y_iload C 2 dL_desk_303 rfl ?_
          refine y_iconst C (2) dL_desk_305 (by decide) ?_
          refine y_icmp_gt C 319 dL_desk_306 (by decide) (fun h => absurd h (by decide)) (fun _ => ?_)
          refine y_aload_n C 7 dL_desk_309 rfl rfl ?_
          refine y_iload C 3 dL_desk_310 rfl ?_
          refine y_iconst C (3) dL_desk_312 (by decide) ?_
          refine y_callV C [.int (nI k), .int (3 : Int32)] (c_X6_set_3 g B0 l b (stJ 1 X t) (sv_t hv ht1 ht2) k hkn) RX6 2 (wVin q380 q381 q382 q2 q383) hy_X6_set ⟨(Nat.le_of_ble_eq_true rfl), (Nat.le_of_ble_eq_true rfl)⟩ ⟨rfl, rfl⟩ (rcv C.2.2.2.2.2.1 hX.1 rfl) hX (fun _ h => h) rfl rfl (Nat.le_of_ble_eq_true rfl) dL_desk_313 ⟨(Nat.le_of_ble_eq_true rfl), (Nat.le_of_ble_eq_true rfl)⟩ rfl (fun H hp hz hf => ?_)
          have hX := hp
          refine y_top (show _ = ((X.2.2.2 0).1 15 k) from rfl) ?_
          refine y_if_ne C 374 dL_desk_316 (by decide) (fun h => absurd (g2 (by rw [es]; decide)) h) (fun _ => ?_)
          refine y_iload C 2 dL_desk_319 rfl ?_
          refine y_iconst C (3) dL_desk_321 (by decide) ?_
          refine y_icmp_ne C 337 dL_desk_322 (by decide) (fun _ => ?_) (fun h => absurd h (by decide))
          refine y_iload C 2 dL_desk_337 rfl ?_
          refine y_iconst C (4) dL_desk_339 (by decide) ?_
          refine y_icmp_ne C 355 dL_desk_340 (by decide) (fun _ => ?_) (fun h => absurd h (by decide))
          refine y_aload_n C 7 dL_desk_355 rfl rfl ?_
          refine y_iload C 3 dL_desk_356 rfl ?_
          refine y_iconst C (1) dL_desk_358 (by decide) ?_
          refine y_callV C [.int (nI k), .int (1 : Int32)] (c_X6_set_1 g B0 l b (stJ 1 X t) (sv_t hv ht1 ht2) k hkn) RX6 2 (wVin q380 q381 q382 q2 q383) hy_X6_set ⟨(Nat.le_of_ble_eq_true rfl), (Nat.le_of_ble_eq_true rfl)⟩ ⟨rfl, rfl⟩ (rcv C.2.2.2.2.2.1 hX.1 rfl) hX (fun _ h => h) rfl rfl (Nat.le_of_ble_eq_true rfl) dL_desk_359 ⟨(Nat.le_of_ble_eq_true rfl), (Nat.le_of_ble_eq_true rfl)⟩ rfl (fun H hp hz hf => ?_)
          have hX := hp
          refine y_top (show _ = ((X.2.2.2 0).1 13 k) from rfl) ?_
          refine y_aload_n C 7 dL_desk_362 rfl rfl ?_
          refine y_iconst C (0) dL_desk_363 (by decide) ?_
          refine y_callV C [.int (0 : Int32)] (c_X6_count_0 g B0 l b (stJ 1 X t) (sv_t hv ht1 ht2)) RX6 1 (wVin q92 q93 q94 q2 q95) hy_X6_count ⟨(Nat.le_of_ble_eq_true rfl), (Nat.le_of_ble_eq_true rfl)⟩ ⟨rfl, rfl⟩ (rcv C.2.2.2.2.2.1 hX.1 rfl) hX (fun _ h => h) rfl rfl (Nat.le_of_ble_eq_true rfl) dL_desk_364 ⟨(Nat.le_of_ble_eq_true rfl), (Nat.le_of_ble_eq_true rfl)⟩ rfl (fun H hp hz hf => ?_)
          have hX := hp
          refine y_top (show _ = ((X.2.2.2 0).1 0 0) from rfl) ?_
          refine y_icmp_gt C 374 dL_desk_367 (by decide) (fun h => absurd h g5) (fun _ => ?_)
          refine y_iconst C (1) dL_desk_370 (by decide) ?_
          refine y_goto C 375 dL_desk_371 (by decide) ?_
          refine y_istore_n C dL_desk_375 rfl (by decide) rfl ?_
          refine y_iload_n C 0 dL_desk_376 rfl rfl ?_
          refine y_if_eq C 512 dL_desk_377 (by decide) (fun h => absurd h (by decide)) (fun _ => ?_)
          refine y_aload_n C 7 dL_desk_380 rfl rfl ?_
          refine y_iload C 4 dL_desk_381 rfl ?_
          refine y_bipush C (7) dL_desk_383 (by decide) ?_
          refine y_callV C [.int (nI k), .int (7 : Int32)] (c_X6_set_7 g B0 l b (stJ 1 X t) (sv_t hv ht1 ht2) k hkn) RX6 2 (wVin q380 q381 q382 q2 q383) hy_X6_set ⟨(Nat.le_of_ble_eq_true rfl), (Nat.le_of_ble_eq_true rfl)⟩ ⟨rfl, rfl⟩ (rcv C.2.2.2.2.2.1 hX.1 rfl) hX (fun _ h => h) rfl rfl (Nat.le_of_ble_eq_true rfl) dL_desk_385 ⟨(Nat.le_of_ble_eq_true rfl), (Nat.le_of_ble_eq_true rfl)⟩ rfl (fun H hp hz hf => ?_)
          have hX := hp
          refine y_top (show _ = ((X.2.2.2 0).1 19 k) from rfl) ?_
          refine y_if_lt C 395 dL_desk_388 (by decide) (fun _ => ?_) (fun h => absurd (g6.2 (by rw [es]; decide)) h)
          refine y_iconst C (0) dL_desk_395 (by decide) ?_
          refine y_iload C 3 dL_desk_396 rfl ?_
          refine y_iconst C (3) dL_desk_398 (by decide) ?_
          refine y_icmp_le C 406 dL_desk_399 (by decide) (fun _ => ?_) (fun h => absurd (by decide) h)
          refine y_iconst C (0) dL_desk_406 (by decide) ?_
          refine y_icmp_ne C 512 dL_desk_407 (by decide) (fun h => absurd rfl h) (fun _ => ?_)
          refine y_aload_n C 7 dL_desk_410 rfl rfl ?_
          refine y_iload C 4 dL_desk_411 rfl ?_
          refine y_bipush C (8) dL_desk_413 (by decide) ?_
          refine y_callV C [.int (nI k), .int (8 : Int32)] (c_X6_set_8 g B0 l b (stJ 1 X t) (sv_t hv ht1 ht2) k hkn) RX6 2 (wVin q380 q381 q382 q2 q383) hy_X6_set ⟨(Nat.le_of_ble_eq_true rfl), (Nat.le_of_ble_eq_true rfl)⟩ ⟨rfl, rfl⟩ (rcv C.2.2.2.2.2.1 hX.1 rfl) hX (fun _ h => h) rfl rfl (Nat.le_of_ble_eq_true rfl) dL_desk_415 ⟨(Nat.le_of_ble_eq_true rfl), (Nat.le_of_ble_eq_true rfl)⟩ rfl (fun H hp hz hf => ?_)
          have hX := hp
          refine y_top (show _ = (tFee (X.2.2.2 0) k) from rfl) ?_
          refine y_if_lt C 425 dL_desk_418 (by decide) (fun _ => ?_) (fun h => absurd (tFee_neg (by rw [es]; decide) (by rw [es]; decide)) h)
          refine y_iconst C (0) dL_desk_425 (by decide) ?_
          refine y_iload C 1 dL_desk_426 rfl ?_
          refine y_icmp_ne C 512 dL_desk_428 (by decide) (fun h => absurd rfl h) (fun _ => ?_)
          refine y_aload_n C 7 dL_desk_431 rfl rfl ?_
          refine y_iload C 4 dL_desk_432 rfl ?_
          refine y_iconst C (5) dL_desk_434 (by decide) ?_
          refine y_callV C [.int (nI k), .int (5 : Int32)] (c_X6_set_5 g B0 l b (stJ 1 X t) (sv_t hv ht1 ht2) k hkn) RX6 2 (wVin q380 q381 q382 q2 q383) hy_X6_set ⟨(Nat.le_of_ble_eq_true rfl), (Nat.le_of_ble_eq_true rfl)⟩ ⟨rfl, rfl⟩ (rcv C.2.2.2.2.2.1 hX.1 rfl) hX (fun _ h => h) rfl rfl (Nat.le_of_ble_eq_true rfl) dL_desk_435 ⟨(Nat.le_of_ble_eq_true rfl), (Nat.le_of_ble_eq_true rfl)⟩ rfl (fun H hp hz hf => ?_)
          have hX := hp
          refine y_top (show _ = ((X.2.2.2 0).1 17 k) from rfl) ?_
          refine y_if_eq C 448 dL_desk_438 (by decide) (fun hlo => ?_) (fun hlo => ?_)
          · exact y_sub [1, 2, 3, 4, 0, 5, 6, 7] (J3 _ ⟨t, ht1, ht2, hX⟩) rfl
          · refine y_iload C 3 dL_desk_441 rfl ?_
            refine y_bipush C (6) dL_desk_443 (by decide) ?_
            refine y_icmp_ge C 512 dL_desk_445 (by decide) (fun h => absurd h (by decide)) (fun _ => ?_)
            exact y_sub [1, 2, 3, 4, 0, 5, 6, 7] (J3 _ ⟨t, ht1, ht2, hX⟩) rfl
        intro  H hd
        obtain ⟨t, ht1, ht2, hX⟩ := hd
        suffices J4 :  ∀ H : Heap, sXt g b X H → Yx (iv b 152) pr l e rm_L_desk s m args below meth c 8 0 0 (MQ below (Qx (some (.int 1)) (sXt g b X) (iv b 152)) args s 0 0 (iv b 152)) [(7, .int (0 : Int32)), (6, .int (tHF (fl (X.2.2.2 0) k))), (5, .int (0 : Int32)), (4, .int (nI k)), (3, .int (1 : Int32)), (2, .int dn1), (1, .int lent1), (0, .ref b)] H 480 [] from by
          refine y_aload_n C 7 dL_desk_448 rfl rfl ?_
          refine y_iload C 3 dL_desk_449 rfl ?_
          refine y_iconst C (4) dL_desk_451 (by decide) ?_
          refine y_callV C [.int (nI k), .int (4 : Int32)] (c_X6_set_4 g B0 l b (stJ 1 X t) (sv_t hv ht1 ht2) k hkn) RX6 2 (wVin q380 q381 q382 q2 q383) hy_X6_set ⟨(Nat.le_of_ble_eq_true rfl), (Nat.le_of_ble_eq_true rfl)⟩ ⟨rfl, rfl⟩ (rcv C.2.2.2.2.2.1 hX.1 rfl) hX (fun _ h => h) rfl rfl (Nat.le_of_ble_eq_true rfl) dL_desk_452 ⟨(Nat.le_of_ble_eq_true rfl), (Nat.le_of_ble_eq_true rfl)⟩ rfl (fun H hp hz hf => ?_)
          have hX := hp
          refine y_top (show _ = ((X.2.2.2 0).1 16 k) from rfl) ?_
          refine y_if_lt C 512 dL_desk_455 (by decide) (fun h => absurd h g9) (fun _ => ?_)
          refine y_aload_n C 7 dL_desk_458 rfl rfl ?_
          refine y_iload C 3 dL_desk_459 rfl ?_
          refine y_iconst C (4) dL_desk_461 (by decide) ?_
          refine y_callV C [.int (nI k), .int (4 : Int32)] (c_X6_set_4 g B0 l b (stJ 1 X t) (sv_t hv ht1 ht2) k hkn) RX6 2 (wVin q380 q381 q382 q2 q383) hy_X6_set ⟨(Nat.le_of_ble_eq_true rfl), (Nat.le_of_ble_eq_true rfl)⟩ ⟨rfl, rfl⟩ (rcv C.2.2.2.2.2.1 hX.1 rfl) hX (fun _ h => h) rfl rfl (Nat.le_of_ble_eq_true rfl) dL_desk_462 ⟨(Nat.le_of_ble_eq_true rfl), (Nat.le_of_ble_eq_true rfl)⟩ rfl (fun H hp hz hf => ?_)
          have hX := hp
          refine y_top (show _ = ((X.2.2.2 0).1 16 k) from rfl) ?_
          refine y_if_eq C 480 dL_desk_465 (by decide) (fun hb => ?_) (fun hb => ?_)
          · exact y_sub [0, 1, 2, 3, 4, 5, 6, 7] (J4 _ ⟨t, ht1, ht2, hX⟩) rfl
          · refine y_aload_n C 7 dL_desk_468 rfl rfl ?_
            refine y_iload C 3 dL_desk_469 rfl ?_
            refine y_iconst C (3) dL_desk_471 (by decide) ?_
            refine y_callV C [.int (nI k), .int (3 : Int32)] (c_X6_set_3 g B0 l b (stJ 1 X t) (sv_t hv ht1 ht2) k hkn) RX6 2 (wVin q380 q381 q382 q2 q383) hy_X6_set ⟨(Nat.le_of_ble_eq_true rfl), (Nat.le_of_ble_eq_true rfl)⟩ ⟨rfl, rfl⟩ (rcv C.2.2.2.2.2.1 hX.1 rfl) hX (fun _ h => h) rfl rfl (Nat.le_of_ble_eq_true rfl) dL_desk_472 ⟨(Nat.le_of_ble_eq_true rfl), (Nat.le_of_ble_eq_true rfl)⟩ rfl (fun H hp hz hf => ?_)
            have hX := hp
            refine y_top (show _ = ((X.2.2.2 0).1 15 k) from rfl) ?_
            refine y_iload C 1 dL_desk_475 rfl ?_
            refine y_icmp_ne C 512 dL_desk_477 (by decide) (fun h => absurd (g10 hb) h) (fun _ => ?_)
            exact y_sub [0, 1, 2, 3, 4, 5, 6, 7] (J4 _ ⟨t, ht1, ht2, hX⟩) rfl
        intro  H hd
        obtain ⟨t, ht1, ht2, hX⟩ := hd
        refine y_iload C 2 dL_desk_480 rfl ?_
        refine y_if_ne C 489 dL_desk_482 (by decide) (fun h => absurd rfl h) (fun _ => ?_)
        refine y_iconst C (1) dL_desk_485 (by decide) ?_
        refine y_goto C 490 dL_desk_486 (by decide) ?_
        refine y_aload_n C 7 dL_desk_490 rfl rfl ?_
        refine y_iload C 3 dL_desk_491 rfl ?_
        refine y_iconst C (2) dL_desk_493 (by decide) ?_
        refine y_callV C [.int (nI k), .int (2 : Int32)] (c_X6_set_2 g B0 l b (stJ 1 X t) (sv_t hv ht1 ht2) k hkn) RX6 2 (wVin q380 q381 q382 q2 q383) hy_X6_set ⟨(Nat.le_of_ble_eq_true rfl), (Nat.le_of_ble_eq_true rfl)⟩ ⟨rfl, rfl⟩ (rcv C.2.2.2.2.2.1 hX.1 rfl) hX (fun _ h => h) rfl rfl (Nat.le_of_ble_eq_true rfl) dL_desk_494 ⟨(Nat.le_of_ble_eq_true rfl), (Nat.le_of_ble_eq_true rfl)⟩ rfl (fun H hp hz hf => ?_)
        have hX := hp
        refine y_top (show _ = ((X.2.2.2 0).1 14 k) from rfl) ?_
        refine y_if_ne C 504 dL_desk_497 (by decide) (fun h => absurd (g11.1 es) h) (fun _ => ?_)
        refine y_iconst C (1) dL_desk_500 (by decide) ?_
        refine y_goto C 505 dL_desk_501 (by decide) ?_
        refine y_icmp_ne C 512 dL_desk_505 (by decide) (fun h => absurd rfl h) (fun _ => ?_)
        refine y_iconst C (1) dL_desk_508 (by decide) ?_
        refine y_goto C 513 dL_desk_509 (by decide) ?_
        refine y_istore_n C dL_desk_513 rfl (by decide) rfl ?_
        refine y_iload_n C 0 dL_desk_514 rfl rfl ?_
        refine y_if_eq C 592 dL_desk_515 (by decide) (fun h => absurd h (by decide)) (fun _ => ?_)
        refine y_iload C 3 dL_desk_518 rfl ?_
        refine y_iconst C (2) dL_desk_520 (by decide) ?_
        refine y_icmp_eq C 535 dL_desk_521 (by decide) (fun h => absurd h (by decide)) (fun _ => ?_)
        refine y_aload_n C 7 dL_desk_524 rfl rfl ?_
        refine y_iload C 4 dL_desk_525 rfl ?_
        refine y_callV C [.int (nI k)] (c_X6_lacks g B0 l b (stJ 1 X t) (sv_t hv ht1 ht2) k hkn) RX6 1 (wVin q417 q418 q419 q2 q420) hy_X6_lacks ⟨(Nat.le_of_ble_eq_true rfl), (Nat.le_of_ble_eq_true rfl)⟩ ⟨rfl, rfl⟩ (rcv C.2.2.2.2.2.1 hX.1 rfl) hX (fun _ h => h) rfl rfl (Nat.le_of_ble_eq_true rfl) dL_desk_527 ⟨(Nat.le_of_ble_eq_true rfl), (Nat.le_of_ble_eq_true rfl)⟩ rfl (fun H hp hz hf => ?_)
        have hX := hp
        refine y_top (show _ = (tLks (X.2.2.2 0) k) from rfl) ?_
        refine y_bipush C (-5) dL_desk_530 (by decide) ?_
        refine y_icmp_ne C 592 dL_desk_532 (by decide) (fun h => absurd (show tLks (X.2.2.2 0) k = -5 by rw [tLks, if_neg (by rw [es]; decide)]) h) (fun _ => ?_)
        refine y_iload C 3 dL_desk_535 rfl ?_
        refine y_iconst C (2) dL_desk_537 (by decide) ?_
        refine y_icmp_eq C 558 dL_desk_538 (by decide) (fun h => absurd h (by decide)) (fun _ => ?_)
        refine y_iload C 3 dL_desk_541 rfl ?_
        refine y_iconst C (3) dL_desk_543 (by decide) ?_
        refine y_icmp_eq C 558 dL_desk_544 (by decide) (fun h => absurd h (by decide)) (fun _ => ?_)
        refine y_aload_n C 7 dL_desk_547 rfl rfl ?_
        refine y_iload C 4 dL_desk_548 rfl ?_
        refine y_callV C [.int (nI k)] (c_X6_doneIn g B0 l b (stJ 1 X t) (sv_t hv ht1 ht2) k (by have := (hv.2 0 (by decide)).1.2.1.2; omega)) RX6 1 (wVin q132 q133 q134 q2 q135) hy_X6_doneIn ⟨(Nat.le_of_ble_eq_true rfl), (Nat.le_of_ble_eq_true rfl)⟩ ⟨rfl, rfl⟩ (rcv C.2.2.2.2.2.1 hX.1 rfl) hX (fun _ h => h) rfl rfl (Nat.le_of_ble_eq_true rfl) dL_desk_550 ⟨(Nat.le_of_ble_eq_true rfl), (Nat.le_of_ble_eq_true rfl)⟩ rfl (fun H hp hz hf => ?_)
        obtain ⟨t2, ht1, ht2, hX⟩ := hp
        obtain ⟨t, rfl⟩ : ∃ z, z = t2 := ⟨_, rfl⟩
        have hX : sX g b (stJ 1 X t) H := (stJ_uu X _ t) ▸ hX
        refine y_top (show _ = (tDin X k) from rfl) ?_
        refine y_bipush C (-5) dL_desk_553 (by decide) ?_
        refine y_icmp_ne C 592 dL_desk_555 (by decide) (fun h => absurd (show tDin X k = -5 by rw [tDin, if_neg (isS_t hv hkn), if_neg (by rw [es]; decide), if_neg (by rw [es]; decide)]) h) (fun _ => ?_)
        refine y_aload_n C 7 dL_desk_558 rfl rfl ?_
        refine y_iload C 4 dL_desk_559 rfl ?_
        refine y_callV C [.int (nI k)] (c_X6_waitsFor g B0 l b (stJ 1 X t) (sv_t hv ht1 ht2) k hkn) RX6 1 (wVin q422 q423 q424 q2 q425) hy_X6_waitsFor ⟨(Nat.le_of_ble_eq_true rfl), (Nat.le_of_ble_eq_true rfl)⟩ ⟨rfl, rfl⟩ (rcv C.2.2.2.2.2.1 hX.1 rfl) hX (fun _ h => h) rfl rfl (Nat.le_of_ble_eq_true rfl) dL_desk_561 ⟨(Nat.le_of_ble_eq_true rfl), (Nat.le_of_ble_eq_true rfl)⟩ rfl (fun H hp hz hf => ?_)
        have hX := hp
        refine y_top (show _ = (tWt (X.2.2.2 0) k) from rfl) ?_
        refine y_bipush C (-5) dL_desk_564 (by decide) ?_
        refine y_icmp_ne C 573 dL_desk_566 (by decide) (fun _ => ?_) (fun h => absurd h (tWt_ne (by rw [es]; decide)))
        refine y_iconst C (0) dL_desk_573 (by decide) ?_
        refine y_iload C 3 dL_desk_574 rfl ?_
        refine y_iconst C (5) dL_desk_576 (by decide) ?_
        refine y_icmp_le C 584 dL_desk_577 (by decide) (fun _ => ?_) (fun h => absurd (by decide) h)
        refine y_iconst C (0) dL_desk_584 (by decide) ?_
        refine y_icmp_ne C 592 dL_desk_585 (by decide) (fun h => absurd rfl h) (fun _ => ?_)
        refine y_iconst C (1) dL_desk_588 (by decide) ?_
        refine y_goto C 593 dL_desk_589 (by decide) ?_
        refine y_istore_n C dL_desk_593 rfl (by decide) rfl ?_
        refine y_iinc C 4 (nI (k + 1)) dL_desk_594 rfl (nI_succ _).symm (by decide) rfl ?_
        refine y_goto C 194 dL_desk_597 (by decide) ?_
        exact y_sub [0, 1, 5, 6, 7] (ih (k + 1) (by omega) _ _ hle1 hdn1 H ⟨t, ht1, ht2, hX⟩) rfl
      · suffices J2 : ∀ lent1 dn1 : Int32, lent1 = wlo (X.2.2.2 0) (k + 1) → dn1 = dnn (X.2.2.2 0) (k + 1) → ∀ H : Heap, sXt g b X H → Yx (iv b 152) pr l e rm_L_desk s m args below meth c 8 0 0 (MQ below (Qx (some (.int 1)) (sXt g b X) (iv b 152)) args s 0 0 (iv b 152)) [(7, .int (0 : Int32)), (6, .int (tHF (fl (X.2.2.2 0) k))), (5, .int (1 : Int32)), (4, .int (nI k)), (3, .int (1 : Int32)), (2, .int dn1), (1, .int lent1), (0, .ref b)] H 279 [] from by
          refine y_aload_n C 4 dL_desk_208 rfl rfl ?_
          refine y_iload C 0 dL_desk_209 rfl ?_
          refine y_bipush C (6) dL_desk_211 (by decide) ?_
          refine y_callV C [.int (nI k), .int (6 : Int32)] (c_X6_set_6 g B0 l b (stJ 1 X t) (sv_t hv ht1 ht2) k hkn) RX6 2 (wVin q380 q381 q382 q2 q383) hy_X6_set ⟨(Nat.le_of_ble_eq_true rfl), (Nat.le_of_ble_eq_true rfl)⟩ ⟨rfl, rfl⟩ (rcv C.2.2.2.2.2.1 hX.1 rfl) hX (fun _ h => h) rfl rfl (Nat.le_of_ble_eq_true rfl) dL_desk_213 ⟨(Nat.le_of_ble_eq_true rfl), (Nat.le_of_ble_eq_true rfl)⟩ rfl (fun H hp hz hf => ?_)
          have hX := hp
          refine y_top (show _ = ((X.2.2.2 0).1 18 k) from rfl) ?_
          refine y_top es ?_
          refine y_istore C dL_desk_216 (by decide) rfl ?_
          refine y_aload_n C 5 dL_desk_218 rfl rfl ?_
          refine y_iload C 1 dL_desk_219 rfl ?_
          refine y_iconst C (0) dL_desk_221 (by decide) ?_
          refine y_callV C [.int (nI k), .int (0 : Int32)] (c_X6_set_0 g B0 l b (stJ 1 X t) (sv_t hv ht1 ht2) k hkn) RX6 2 (wVin q380 q381 q382 q2 q383) hy_X6_set ⟨(Nat.le_of_ble_eq_true rfl), (Nat.le_of_ble_eq_true rfl)⟩ ⟨rfl, rfl⟩ (rcv C.2.2.2.2.2.1 hX.1 rfl) hX (fun _ h => h) rfl rfl (Nat.le_of_ble_eq_true rfl) dL_desk_222 ⟨(Nat.le_of_ble_eq_true rfl), (Nat.le_of_ble_eq_true rfl)⟩ rfl (fun H hp hz hf => ?_)
          have hX := hp
          refine y_top (show _ = ((X.2.2.2 0).1 12 k) from rfl) ?_
          refine y_top ((hv.2 0 (by decide)).1.2.2.1 _ hkn).1 ?_
          refine y_callS C [.int (nI (fl (X.2.2.2 0) k))] (c_L_hours g B0 l (fl (X.2.2.2 0) k) ((hv.2 0 (by decide)).1.2.2.1 _ hkn).2) 1 (wSin q414 q415 q125 q416) hs_L_hours ⟨(Nat.le_of_ble_eq_true rfl), (Nat.le_of_ble_eq_true rfl)⟩ ⟨rfl, rfl⟩ trivial nF.no rfl rfl (Nat.le_of_ble_eq_true rfl) dL_desk_225 ⟨(Nat.le_of_ble_eq_true rfl), (Nat.le_of_ble_eq_true rfl)⟩ rfl (fun H hp hz hf => ?_)
          have hX := sys.fr (A1 := nF) hX hf (fun _ _ z => z)
          refine y_istore C dL_desk_228 (by decide) rfl ?_
          refine y_iload C 1 dL_desk_230 rfl ?_
          refine y_iconst C (4) dL_desk_232 (by decide) ?_
          refine y_icmp_eq C 242 dL_desk_233 (by decide) (fun h => absurd h (by decide)) (fun _ => ?_)
          refine y_iload C 1 dL_desk_236 rfl ?_
          refine y_iconst C (5) dL_desk_238 (by decide) ?_
          refine y_icmp_ne C 246 dL_desk_239 (by decide) (fun _ => ?_) (fun h => absurd h (by decide))
          refine y_iconst C (0) dL_desk_246 (by decide) ?_
          refine y_istore C dL_desk_247 (by decide) rfl ?_
          refine y_iload_n C 6 dL_desk_249 rfl rfl ?_
          refine y_aload_n C 7 dL_desk_250 rfl rfl ?_
          refine y_iload C 3 dL_desk_251 rfl ?_
          refine y_iconst C (5) dL_desk_253 (by decide) ?_
          refine y_callV C [.int (nI k), .int (5 : Int32)] (c_X6_set_5 g B0 l b (stJ 1 X t) (sv_t hv ht1 ht2) k hkn) RX6 2 (wVin q380 q381 q382 q2 q383) hy_X6_set ⟨(Nat.le_of_ble_eq_true rfl), (Nat.le_of_ble_eq_true rfl)⟩ ⟨rfl, rfl⟩ (rcv C.2.2.2.2.2.1 hX.1 rfl) hX (fun _ h => h) rfl rfl (Nat.le_of_ble_eq_true rfl) dL_desk_254 ⟨(Nat.le_of_ble_eq_true rfl), (Nat.le_of_ble_eq_true rfl)⟩ rfl (fun H hp hz hf => ?_)
          have hX := hp
          refine y_top (show _ = ((X.2.2.2 0).1 17 k) from rfl) ?_
          refine y_iadd C dL_desk_257 ?_
          refine y_istore_n C dL_desk_258 rfl (by decide) rfl ?_
          refine y_iload_n C 6 dL_desk_259 rfl rfl ?_
          refine y_aload_n C 7 dL_desk_260 rfl rfl ?_
          refine y_iload C 4 dL_desk_261 rfl ?_
          refine y_iconst C (3) dL_desk_263 (by decide) ?_
          refine y_callV C [.int (nI k), .int (3 : Int32)] (c_X6_set_3 g B0 l b (stJ 1 X t) (sv_t hv ht1 ht2) k hkn) RX6 2 (wVin q380 q381 q382 q2 q383) hy_X6_set ⟨(Nat.le_of_ble_eq_true rfl), (Nat.le_of_ble_eq_true rfl)⟩ ⟨rfl, rfl⟩ (rcv C.2.2.2.2.2.1 hX.1 rfl) hX (fun _ h => h) rfl rfl (Nat.le_of_ble_eq_true rfl) dL_desk_264 ⟨(Nat.le_of_ble_eq_true rfl), (Nat.le_of_ble_eq_true rfl)⟩ rfl (fun H hp hz hf => ?_)
          have hX := hp
          refine y_top (show _ = ((X.2.2.2 0).1 15 k) from rfl) ?_
          refine y_iload C 2 dL_desk_267 rfl ?_
          refine y_icmp_ne C 276 dL_desk_269 (by decide) (fun hw => ?_) (fun hw => ?_)
          · refine y_iconst C (0) dL_desk_276 (by decide) ?_
            refine y_iadd C dL_desk_277 ?_
            refine y_istore_n C dL_desk_278 rfl (by decide) rfl ?_
            exact y_sub [2, 3, 4, 5, 6, 0, 1, 7] (J2 _ _ (by rw [wlo, hle]) (by rw [dnn, if_neg hw, hdn, Int32.add_zero]) _ ⟨t, ht1, ht2, hX⟩) rfl
          · refine y_iconst C (1) dL_desk_272 (by decide) ?_
            refine y_goto C 277 dL_desk_273 (by decide) ?_
            refine y_iadd C dL_desk_277 ?_
            refine y_istore_n C dL_desk_278 rfl (by decide) rfl ?_
            exact y_sub [2, 3, 4, 5, 6, 0, 1, 7] (J2 _ _ (by rw [wlo, hle]) (by rw [dnn, if_pos hw, hdn]) _ ⟨t, ht1, ht2, hX⟩) rfl
        intro lent1 dn1 hle1 hdn1 H hd
        obtain ⟨t, ht1, ht2, hX⟩ := hd
        suffices J3 :  ∀ H : Heap, sXt g b X H → Yx (iv b 152) pr l e rm_L_desk s m args below meth c 8 0 0 (MQ below (Qx (some (.int 1)) (sXt g b X) (iv b 152)) args s 0 0 (iv b 152)) [(7, .int (0 : Int32)), (6, .int (tHF (fl (X.2.2.2 0) k))), (5, .int (1 : Int32)), (4, .int (nI k)), (3, .int (1 : Int32)), (2, .int dn1), (1, .int lent1), (0, .ref b)] H 448 [] from by
          refine y_iload C 2 dL_desk_279 rfl ?_
          refine y_if_lt C 374 dL_desk_281 (by decide) (fun h => absurd h (by decide)) (fun _ => ?_)
          refine y_iload C 2 dL_desk_284 rfl ?_
          refine y_bipush C (8) dL_desk_286 (by decide) ?_
          refine y_icmp_ge C 374 dL_desk_288 (by decide) (fun h => absurd h (by decide)) (fun _ => ?_)
          refine y_aload_n C 7 dL_desk_291 rfl rfl ?_
          refine y_iload C 3 dL_desk_292 rfl ?_
          refine y_iconst C (3) dL_desk_294 (by decide) ?_
          refine y_callV C [.int (nI k), .int (3 : Int32)] (c_X6_set_3 g B0 l b (stJ 1 X t) (sv_t hv ht1 ht2) k hkn) RX6 2 (wVin q380 q381 q382 q2 q383) hy_X6_set ⟨(Nat.le_of_ble_eq_true rfl), (Nat.le_of_ble_eq_true rfl)⟩ ⟨rfl, rfl⟩ (rcv C.2.2.2.2.2.1 hX.1 rfl) hX (fun _ h => h) rfl rfl (Nat.le_of_ble_eq_true rfl) dL_desk_295 ⟨(Nat.le_of_ble_eq_true rfl), (Nat.le_of_ble_eq_true rfl)⟩ rfl (fun H hp hz hf => ?_)
          have hX := hp
          refine y_top (show _ = ((X.2.2.2 0).1 15 k) from rfl) ?_
          refine y_iload C 1 dL_desk_298 rfl ?_
          refine y_icmp_gt C 374 dL_desk_300 (by decide) (fun h => absurd h g1) (fun _ => ?_)
          refine y_iload C 2 dL_desk_303 rfl ?_
          refine y_iconst C (2) dL_desk_305 (by decide) ?_
          refine y_icmp_gt C 319 dL_desk_306 (by decide) (fun h => absurd h (by decide)) (fun _ => ?_)
          refine y_aload_n C 7 dL_desk_309 rfl rfl ?_
          refine y_iload C 3 dL_desk_310 rfl ?_
          refine y_iconst C (3) dL_desk_312 (by decide) ?_
          refine y_callV C [.int (nI k), .int (3 : Int32)] (c_X6_set_3 g B0 l b (stJ 1 X t) (sv_t hv ht1 ht2) k hkn) RX6 2 (wVin q380 q381 q382 q2 q383) hy_X6_set ⟨(Nat.le_of_ble_eq_true rfl), (Nat.le_of_ble_eq_true rfl)⟩ ⟨rfl, rfl⟩ (rcv C.2.2.2.2.2.1 hX.1 rfl) hX (fun _ h => h) rfl rfl (Nat.le_of_ble_eq_true rfl) dL_desk_313 ⟨(Nat.le_of_ble_eq_true rfl), (Nat.le_of_ble_eq_true rfl)⟩ rfl (fun H hp hz hf => ?_)
          have hX := hp
          refine y_top (show _ = ((X.2.2.2 0).1 15 k) from rfl) ?_
          refine y_if_ne C 374 dL_desk_316 (by decide) (fun h => absurd (g2 (by rw [es]; decide)) h) (fun _ => ?_)
          refine y_iload C 2 dL_desk_319 rfl ?_
          refine y_iconst C (3) dL_desk_321 (by decide) ?_
          refine y_icmp_ne C 337 dL_desk_322 (by decide) (fun _ => ?_) (fun h => absurd h (by decide))
          refine y_iload C 2 dL_desk_337 rfl ?_
          refine y_iconst C (4) dL_desk_339 (by decide) ?_
          refine y_icmp_ne C 355 dL_desk_340 (by decide) (fun _ => ?_) (fun h => absurd h (by decide))
          refine y_aload_n C 7 dL_desk_355 rfl rfl ?_
          refine y_iload C 3 dL_desk_356 rfl ?_
          refine y_iconst C (1) dL_desk_358 (by decide) ?_
          refine y_callV C [.int (nI k), .int (1 : Int32)] (c_X6_set_1 g B0 l b (stJ 1 X t) (sv_t hv ht1 ht2) k hkn) RX6 2 (wVin q380 q381 q382 q2 q383) hy_X6_set ⟨(Nat.le_of_ble_eq_true rfl), (Nat.le_of_ble_eq_true rfl)⟩ ⟨rfl, rfl⟩ (rcv C.2.2.2.2.2.1 hX.1 rfl) hX (fun _ h => h) rfl rfl (Nat.le_of_ble_eq_true rfl) dL_desk_359 ⟨(Nat.le_of_ble_eq_true rfl), (Nat.le_of_ble_eq_true rfl)⟩ rfl (fun H hp hz hf => ?_)
          have hX := hp
          refine y_top (show _ = ((X.2.2.2 0).1 13 k) from rfl) ?_
          refine y_aload_n C 7 dL_desk_362 rfl rfl ?_
          refine y_iconst C (0) dL_desk_363 (by decide) ?_
          refine y_callV C [.int (0 : Int32)] (c_X6_count_0 g B0 l b (stJ 1 X t) (sv_t hv ht1 ht2)) RX6 1 (wVin q92 q93 q94 q2 q95) hy_X6_count ⟨(Nat.le_of_ble_eq_true rfl), (Nat.le_of_ble_eq_true rfl)⟩ ⟨rfl, rfl⟩ (rcv C.2.2.2.2.2.1 hX.1 rfl) hX (fun _ h => h) rfl rfl (Nat.le_of_ble_eq_true rfl) dL_desk_364 ⟨(Nat.le_of_ble_eq_true rfl), (Nat.le_of_ble_eq_true rfl)⟩ rfl (fun H hp hz hf => ?_)
          have hX := hp
          refine y_top (show _ = ((X.2.2.2 0).1 0 0) from rfl) ?_
          refine y_icmp_gt C 374 dL_desk_367 (by decide) (fun h => absurd h g5) (fun _ => ?_)
          refine y_iconst C (1) dL_desk_370 (by decide) ?_
          refine y_goto C 375 dL_desk_371 (by decide) ?_
          refine y_istore_n C dL_desk_375 rfl (by decide) rfl ?_
          refine y_iload_n C 0 dL_desk_376 rfl rfl ?_
          refine y_if_eq C 512 dL_desk_377 (by decide) (fun h => absurd h (by decide)) (fun _ => ?_)
          refine y_aload_n C 7 dL_desk_380 rfl rfl ?_
          refine y_iload C 4 dL_desk_381 rfl ?_
          refine y_bipush C (7) dL_desk_383 (by decide) ?_
          refine y_callV C [.int (nI k), .int (7 : Int32)] (c_X6_set_7 g B0 l b (stJ 1 X t) (sv_t hv ht1 ht2) k hkn) RX6 2 (wVin q380 q381 q382 q2 q383) hy_X6_set ⟨(Nat.le_of_ble_eq_true rfl), (Nat.le_of_ble_eq_true rfl)⟩ ⟨rfl, rfl⟩ (rcv C.2.2.2.2.2.1 hX.1 rfl) hX (fun _ h => h) rfl rfl (Nat.le_of_ble_eq_true rfl) dL_desk_385 ⟨(Nat.le_of_ble_eq_true rfl), (Nat.le_of_ble_eq_true rfl)⟩ rfl (fun H hp hz hf => ?_)
          have hX := hp
          refine y_top (show _ = ((X.2.2.2 0).1 19 k) from rfl) ?_
          refine y_if_lt C 395 dL_desk_388 (by decide) (fun _ => ?_) (fun h => absurd (g6.2 (by rw [es]; decide)) h)
          refine y_iconst C (0) dL_desk_395 (by decide) ?_
          refine y_iload C 3 dL_desk_396 rfl ?_
          refine y_iconst C (3) dL_desk_398 (by decide) ?_
          refine y_icmp_le C 406 dL_desk_399 (by decide) (fun _ => ?_) (fun h => absurd (by decide) h)
          refine y_iconst C (0) dL_desk_406 (by decide) ?_
          refine y_icmp_ne C 512 dL_desk_407 (by decide) (fun h => absurd rfl h) (fun _ => ?_)
          refine y_aload_n C 7 dL_desk_410 rfl rfl ?_
          refine y_iload C 4 dL_desk_411 rfl ?_
          refine y_bipush C (8) dL_desk_413 (by decide) ?_
          refine y_callV C [.int (nI k), .int (8 : Int32)] (c_X6_set_8 g B0 l b (stJ 1 X t) (sv_t hv ht1 ht2) k hkn) RX6 2 (wVin q380 q381 q382 q2 q383) hy_X6_set ⟨(Nat.le_of_ble_eq_true rfl), (Nat.le_of_ble_eq_true rfl)⟩ ⟨rfl, rfl⟩ (rcv C.2.2.2.2.2.1 hX.1 rfl) hX (fun _ h => h) rfl rfl (Nat.le_of_ble_eq_true rfl) dL_desk_415 ⟨(Nat.le_of_ble_eq_true rfl), (Nat.le_of_ble_eq_true rfl)⟩ rfl (fun H hp hz hf => ?_)
          have hX := hp
          refine y_top (show _ = (tFee (X.2.2.2 0) k) from rfl) ?_
          refine y_if_lt C 425 dL_desk_418 (by decide) (fun _ => ?_) (fun h => absurd (tFee_neg (by rw [es]; decide) (by rw [es]; decide)) h)
          refine y_iconst C (0) dL_desk_425 (by decide) ?_
          refine y_iload C 1 dL_desk_426 rfl ?_
          refine y_icmp_ne C 512 dL_desk_428 (by decide) (fun h => absurd rfl h) (fun _ => ?_)
          refine y_aload_n C 7 dL_desk_431 rfl rfl ?_
          refine y_iload C 4 dL_desk_432 rfl ?_
          refine y_iconst C (5) dL_desk_434 (by decide) ?_
          refine y_callV C [.int (nI k), .int (5 : Int32)] (c_X6_set_5 g B0 l b (stJ 1 X t) (sv_t hv ht1 ht2) k hkn) RX6 2 (wVin q380 q381 q382 q2 q383) hy_X6_set ⟨(Nat.le_of_ble_eq_true rfl), (Nat.le_of_ble_eq_true rfl)⟩ ⟨rfl, rfl⟩ (rcv C.2.2.2.2.2.1 hX.1 rfl) hX (fun _ h => h) rfl rfl (Nat.le_of_ble_eq_true rfl) dL_desk_435 ⟨(Nat.le_of_ble_eq_true rfl), (Nat.le_of_ble_eq_true rfl)⟩ rfl (fun H hp hz hf => ?_)
          have hX := hp
          refine y_top (show _ = ((X.2.2.2 0).1 17 k) from rfl) ?_
          refine y_if_eq C 448 dL_desk_438 (by decide) (fun hlo => ?_) (fun hlo => ?_)
          · exact y_sub [1, 2, 3, 4, 0, 5, 6, 7] (J3 _ ⟨t, ht1, ht2, hX⟩) rfl
          · refine y_iload C 3 dL_desk_441 rfl ?_
            refine y_bipush C (6) dL_desk_443 (by decide) ?_
            refine y_icmp_ge C 512 dL_desk_445 (by decide) (fun h => absurd h (by decide)) (fun _ => ?_)
            exact y_sub [1, 2, 3, 4, 0, 5, 6, 7] (J3 _ ⟨t, ht1, ht2, hX⟩) rfl
        intro  H hd
        obtain ⟨t, ht1, ht2, hX⟩ := hd
        suffices J4 :  ∀ H : Heap, sXt g b X H → Yx (iv b 152) pr l e rm_L_desk s m args below meth c 8 0 0 (MQ below (Qx (some (.int 1)) (sXt g b X) (iv b 152)) args s 0 0 (iv b 152)) [(7, .int (0 : Int32)), (6, .int (tHF (fl (X.2.2.2 0) k))), (5, .int (1 : Int32)), (4, .int (nI k)), (3, .int (1 : Int32)), (2, .int dn1), (1, .int lent1), (0, .ref b)] H 480 [] from by
          refine y_aload_n C 7 dL_desk_448 rfl rfl ?_
          refine y_iload C 3 dL_desk_449 rfl ?_
          refine y_iconst C (4) dL_desk_451 (by decide) ?_
          refine y_callV C [.int (nI k), .int (4 : Int32)] (c_X6_set_4 g B0 l b (stJ 1 X t) (sv_t hv ht1 ht2) k hkn) RX6 2 (wVin q380 q381 q382 q2 q383) hy_X6_set ⟨(Nat.le_of_ble_eq_true rfl), (Nat.le_of_ble_eq_true rfl)⟩ ⟨rfl, rfl⟩ (rcv C.2.2.2.2.2.1 hX.1 rfl) hX (fun _ h => h) rfl rfl (Nat.le_of_ble_eq_true rfl) dL_desk_452 ⟨(Nat.le_of_ble_eq_true rfl), (Nat.le_of_ble_eq_true rfl)⟩ rfl (fun H hp hz hf => ?_)
          have hX := hp
          refine y_top (show _ = ((X.2.2.2 0).1 16 k) from rfl) ?_
          refine y_if_lt C 512 dL_desk_455 (by decide) (fun h => absurd h g9) (fun _ => ?_)
          refine y_aload_n C 7 dL_desk_458 rfl rfl ?_
          refine y_iload C 3 dL_desk_459 rfl ?_
          refine y_iconst C (4) dL_desk_461 (by decide) ?_
          refine y_callV C [.int (nI k), .int (4 : Int32)] (c_X6_set_4 g B0 l b (stJ 1 X t) (sv_t hv ht1 ht2) k hkn) RX6 2 (wVin q380 q381 q382 q2 q383) hy_X6_set ⟨(Nat.le_of_ble_eq_true rfl), (Nat.le_of_ble_eq_true rfl)⟩ ⟨rfl, rfl⟩ (rcv C.2.2.2.2.2.1 hX.1 rfl) hX (fun _ h => h) rfl rfl (Nat.le_of_ble_eq_true rfl) dL_desk_462 ⟨(Nat.le_of_ble_eq_true rfl), (Nat.le_of_ble_eq_true rfl)⟩ rfl (fun H hp hz hf => ?_)
          have hX := hp
          refine y_top (show _ = ((X.2.2.2 0).1 16 k) from rfl) ?_
          refine y_if_eq C 480 dL_desk_465 (by decide) (fun hb => ?_) (fun hb => ?_)
          · exact y_sub [0, 1, 2, 3, 4, 5, 6, 7] (J4 _ ⟨t, ht1, ht2, hX⟩) rfl
          · refine y_aload_n C 7 dL_desk_468 rfl rfl ?_
            refine y_iload C 3 dL_desk_469 rfl ?_
            refine y_iconst C (3) dL_desk_471 (by decide) ?_
            refine y_callV C [.int (nI k), .int (3 : Int32)] (c_X6_set_3 g B0 l b (stJ 1 X t) (sv_t hv ht1 ht2) k hkn) RX6 2 (wVin q380 q381 q382 q2 q383) hy_X6_set ⟨(Nat.le_of_ble_eq_true rfl), (Nat.le_of_ble_eq_true rfl)⟩ ⟨rfl, rfl⟩ (rcv C.2.2.2.2.2.1 hX.1 rfl) hX (fun _ h => h) rfl rfl (Nat.le_of_ble_eq_true rfl) dL_desk_472 ⟨(Nat.le_of_ble_eq_true rfl), (Nat.le_of_ble_eq_true rfl)⟩ rfl (fun H hp hz hf => ?_)
            have hX := hp
            refine y_top (show _ = ((X.2.2.2 0).1 15 k) from rfl) ?_
            refine y_iload C 1 dL_desk_475 rfl ?_
            refine y_icmp_ne C 512 dL_desk_477 (by decide) (fun h => absurd (g10 hb) h) (fun _ => ?_)
            exact y_sub [0, 1, 2, 3, 4, 5, 6, 7] (J4 _ ⟨t, ht1, ht2, hX⟩) rfl
        intro  H hd
        obtain ⟨t, ht1, ht2, hX⟩ := hd
        refine y_iload C 2 dL_desk_480 rfl ?_
        refine y_if_ne C 489 dL_desk_482 (by decide) (fun _ => ?_) (fun h => absurd h (by decide))
        refine y_iconst C (0) dL_desk_489 (by decide) ?_
        refine y_aload_n C 7 dL_desk_490 rfl rfl ?_
        refine y_iload C 3 dL_desk_491 rfl ?_
        refine y_iconst C (2) dL_desk_493 (by decide) ?_
        refine y_callV C [.int (nI k), .int (2 : Int32)] (c_X6_set_2 g B0 l b (stJ 1 X t) (sv_t hv ht1 ht2) k hkn) RX6 2 (wVin q380 q381 q382 q2 q383) hy_X6_set ⟨(Nat.le_of_ble_eq_true rfl), (Nat.le_of_ble_eq_true rfl)⟩ ⟨rfl, rfl⟩ (rcv C.2.2.2.2.2.1 hX.1 rfl) hX (fun _ h => h) rfl rfl (Nat.le_of_ble_eq_true rfl) dL_desk_494 ⟨(Nat.le_of_ble_eq_true rfl), (Nat.le_of_ble_eq_true rfl)⟩ rfl (fun H hp hz hf => ?_)
        have hX := hp
        refine y_top (show _ = ((X.2.2.2 0).1 14 k) from rfl) ?_
        refine y_if_ne C 504 dL_desk_497 (by decide) (fun _ => ?_) (fun h => absurd h (g11.2 (by rw [es]; decide)))
        refine y_iconst C (0) dL_desk_504 (by decide) ?_
        refine y_icmp_ne C 512 dL_desk_505 (by decide) (fun h => absurd rfl h) (fun _ => ?_)
        refine y_iconst C (1) dL_desk_508 (by decide) ?_
        refine y_goto C 513 dL_desk_509 (by decide) ?_
        refine y_istore_n C dL_desk_513 rfl (by decide) rfl ?_
        refine y_iload_n C 0 dL_desk_514 rfl rfl ?_
        refine y_if_eq C 592 dL_desk_515 (by decide) (fun h => absurd h (by decide)) (fun _ => ?_)
        refine y_iload C 3 dL_desk_518 rfl ?_
        refine y_iconst C (2) dL_desk_520 (by decide) ?_
        refine y_icmp_eq C 535 dL_desk_521 (by decide) (fun h => absurd h (by decide)) (fun _ => ?_)
        refine y_aload_n C 7 dL_desk_524 rfl rfl ?_
        refine y_iload C 4 dL_desk_525 rfl ?_
        refine y_callV C [.int (nI k)] (c_X6_lacks g B0 l b (stJ 1 X t) (sv_t hv ht1 ht2) k hkn) RX6 1 (wVin q417 q418 q419 q2 q420) hy_X6_lacks ⟨(Nat.le_of_ble_eq_true rfl), (Nat.le_of_ble_eq_true rfl)⟩ ⟨rfl, rfl⟩ (rcv C.2.2.2.2.2.1 hX.1 rfl) hX (fun _ h => h) rfl rfl (Nat.le_of_ble_eq_true rfl) dL_desk_527 ⟨(Nat.le_of_ble_eq_true rfl), (Nat.le_of_ble_eq_true rfl)⟩ rfl (fun H hp hz hf => ?_)
        have hX := hp
        refine y_top (show _ = (tLks (X.2.2.2 0) k) from rfl) ?_
        refine y_bipush C (-5) dL_desk_530 (by decide) ?_
        refine y_icmp_ne C 592 dL_desk_532 (by decide) (fun h => absurd (show tLks (X.2.2.2 0) k = -5 by rw [tLks, if_neg (by rw [es]; decide)]) h) (fun _ => ?_)
        refine y_iload C 3 dL_desk_535 rfl ?_
        refine y_iconst C (2) dL_desk_537 (by decide) ?_
        refine y_icmp_eq C 558 dL_desk_538 (by decide) (fun h => absurd h (by decide)) (fun _ => ?_)
        refine y_iload C 3 dL_desk_541 rfl ?_
        refine y_iconst C (3) dL_desk_543 (by decide) ?_
        refine y_icmp_eq C 558 dL_desk_544 (by decide) (fun h => absurd h (by decide)) (fun _ => ?_)
        refine y_aload_n C 7 dL_desk_547 rfl rfl ?_
        refine y_iload C 4 dL_desk_548 rfl ?_
        refine y_callV C [.int (nI k)] (c_X6_doneIn g B0 l b (stJ 1 X t) (sv_t hv ht1 ht2) k (by have := (hv.2 0 (by decide)).1.2.1.2; omega)) RX6 1 (wVin q132 q133 q134 q2 q135) hy_X6_doneIn ⟨(Nat.le_of_ble_eq_true rfl), (Nat.le_of_ble_eq_true rfl)⟩ ⟨rfl, rfl⟩ (rcv C.2.2.2.2.2.1 hX.1 rfl) hX (fun _ h => h) rfl rfl (Nat.le_of_ble_eq_true rfl) dL_desk_550 ⟨(Nat.le_of_ble_eq_true rfl), (Nat.le_of_ble_eq_true rfl)⟩ rfl (fun H hp hz hf => ?_)
        obtain ⟨t2, ht1, ht2, hX⟩ := hp
        obtain ⟨t, rfl⟩ : ∃ z, z = t2 := ⟨_, rfl⟩
        have hX : sX g b (stJ 1 X t) H := (stJ_uu X _ t) ▸ hX
        refine y_top (show _ = (tDin X k) from rfl) ?_
        refine y_bipush C (-5) dL_desk_553 (by decide) ?_
        refine y_icmp_ne C 592 dL_desk_555 (by decide) (fun h => absurd (show tDin X k = -5 by rw [tDin, if_neg (isS_t hv hkn), if_neg (by rw [es]; decide), if_neg (by rw [es]; decide)]) h) (fun _ => ?_)
        refine y_aload_n C 7 dL_desk_558 rfl rfl ?_
        refine y_iload C 4 dL_desk_559 rfl ?_
        refine y_callV C [.int (nI k)] (c_X6_waitsFor g B0 l b (stJ 1 X t) (sv_t hv ht1 ht2) k hkn) RX6 1 (wVin q422 q423 q424 q2 q425) hy_X6_waitsFor ⟨(Nat.le_of_ble_eq_true rfl), (Nat.le_of_ble_eq_true rfl)⟩ ⟨rfl, rfl⟩ (rcv C.2.2.2.2.2.1 hX.1 rfl) hX (fun _ h => h) rfl rfl (Nat.le_of_ble_eq_true rfl) dL_desk_561 ⟨(Nat.le_of_ble_eq_true rfl), (Nat.le_of_ble_eq_true rfl)⟩ rfl (fun H hp hz hf => ?_)
        have hX := hp
        refine y_top (show _ = (tWt (X.2.2.2 0) k) from rfl) ?_
        refine y_bipush C (-5) dL_desk_564 (by decide) ?_
        refine y_icmp_ne C 573 dL_desk_566 (by decide) (fun _ => ?_) (fun h => absurd h (tWt_ne (by rw [es]; decide)))
        refine y_iconst C (0) dL_desk_573 (by decide) ?_
        refine y_iload C 3 dL_desk_574 rfl ?_
        refine y_iconst C (5) dL_desk_576 (by decide) ?_
        refine y_icmp_le C 584 dL_desk_577 (by decide) (fun _ => ?_) (fun h => absurd (by decide) h)
        refine y_iconst C (0) dL_desk_584 (by decide) ?_
        refine y_icmp_ne C 592 dL_desk_585 (by decide) (fun h => absurd rfl h) (fun _ => ?_)
        refine y_iconst C (1) dL_desk_588 (by decide) ?_
        refine y_goto C 593 dL_desk_589 (by decide) ?_
        refine y_istore_n C dL_desk_593 rfl (by decide) rfl ?_
        refine y_iinc C 4 (nI (k + 1)) dL_desk_594 rfl (nI_succ _).symm (by decide) rfl ?_
        refine y_goto C 194 dL_desk_597 (by decide) ?_
        exact y_sub [0, 1, 5, 6, 7] (ih (k + 1) (by omega) _ _ hle1 hdn1 H ⟨t, ht1, ht2, hX⟩) rfl
      · suffices J2 : ∀ lent1 dn1 : Int32, lent1 = wlo (X.2.2.2 0) (k + 1) → dn1 = dnn (X.2.2.2 0) (k + 1) → ∀ H : Heap, sXt g b X H → Yx (iv b 152) pr l e rm_L_desk s m args below meth c 8 0 0 (MQ below (Qx (some (.int 1)) (sXt g b X) (iv b 152)) args s 0 0 (iv b 152)) [(7, .int (0 : Int32)), (6, .int (tHF (fl (X.2.2.2 0) k))), (5, .int (2 : Int32)), (4, .int (nI k)), (3, .int (1 : Int32)), (2, .int dn1), (1, .int lent1), (0, .ref b)] H 279 [] from by
          refine y_aload_n C 4 dL_desk_208 rfl rfl ?_
          refine y_iload C 0 dL_desk_209 rfl ?_
          refine y_bipush C (6) dL_desk_211 (by decide) ?_
          refine y_callV C [.int (nI k), .int (6 : Int32)] (c_X6_set_6 g B0 l b (stJ 1 X t) (sv_t hv ht1 ht2) k hkn) RX6 2 (wVin q380 q381 q382 q2 q383) hy_X6_set ⟨(Nat.le_of_ble_eq_true rfl), (Nat.le_of_ble_eq_true rfl)⟩ ⟨rfl, rfl⟩ (rcv C.2.2.2.2.2.1 hX.1 rfl) hX (fun _ h => h) rfl rfl (Nat.le_of_ble_eq_true rfl) dL_desk_213 ⟨(Nat.le_of_ble_eq_true rfl), (Nat.le_of_ble_eq_true rfl)⟩ rfl (fun H hp hz hf => ?_)
          have hX := hp
          refine y_top (show _ = ((X.2.2.2 0).1 18 k) from rfl) ?_
          refine y_top es ?_
          refine y_istore C dL_desk_216 (by decide) rfl ?_
          refine y_aload_n C 5 dL_desk_218 rfl rfl ?_
          refine y_iload C 1 dL_desk_219 rfl ?_
          refine y_iconst C (0) dL_desk_221 (by decide) ?_
          refine y_callV C [.int (nI k), .int (0 : Int32)] (c_X6_set_0 g B0 l b (stJ 1 X t) (sv_t hv ht1 ht2) k hkn) RX6 2 (wVin q380 q381 q382 q2 q383) hy_X6_set ⟨(Nat.le_of_ble_eq_true rfl), (Nat.le_of_ble_eq_true rfl)⟩ ⟨rfl, rfl⟩ (rcv C.2.2.2.2.2.1 hX.1 rfl) hX (fun _ h => h) rfl rfl (Nat.le_of_ble_eq_true rfl) dL_desk_222 ⟨(Nat.le_of_ble_eq_true rfl), (Nat.le_of_ble_eq_true rfl)⟩ rfl (fun H hp hz hf => ?_)
          have hX := hp
          refine y_top (show _ = ((X.2.2.2 0).1 12 k) from rfl) ?_
          refine y_top ((hv.2 0 (by decide)).1.2.2.1 _ hkn).1 ?_
          refine y_callS C [.int (nI (fl (X.2.2.2 0) k))] (c_L_hours g B0 l (fl (X.2.2.2 0) k) ((hv.2 0 (by decide)).1.2.2.1 _ hkn).2) 1 (wSin q414 q415 q125 q416) hs_L_hours ⟨(Nat.le_of_ble_eq_true rfl), (Nat.le_of_ble_eq_true rfl)⟩ ⟨rfl, rfl⟩ trivial nF.no rfl rfl (Nat.le_of_ble_eq_true rfl) dL_desk_225 ⟨(Nat.le_of_ble_eq_true rfl), (Nat.le_of_ble_eq_true rfl)⟩ rfl (fun H hp hz hf => ?_)
          have hX := sys.fr (A1 := nF) hX hf (fun _ _ z => z)
          refine y_istore C dL_desk_228 (by decide) rfl ?_
          refine y_iload C 1 dL_desk_230 rfl ?_
          refine y_iconst C (4) dL_desk_232 (by decide) ?_
          refine y_icmp_eq C 242 dL_desk_233 (by decide) (fun h => absurd h (by decide)) (fun _ => ?_)
          refine y_iload C 1 dL_desk_236 rfl ?_
          refine y_iconst C (5) dL_desk_238 (by decide) ?_
          refine y_icmp_ne C 246 dL_desk_239 (by decide) (fun _ => ?_) (fun h => absurd h (by decide))
          refine y_iconst C (0) dL_desk_246 (by decide) ?_
          refine y_istore C dL_desk_247 (by decide) rfl ?_
          refine y_iload_n C 6 dL_desk_249 rfl rfl ?_
          refine y_aload_n C 7 dL_desk_250 rfl rfl ?_
          refine y_iload C 3 dL_desk_251 rfl ?_
          refine y_iconst C (5) dL_desk_253 (by decide) ?_
          refine y_callV C [.int (nI k), .int (5 : Int32)] (c_X6_set_5 g B0 l b (stJ 1 X t) (sv_t hv ht1 ht2) k hkn) RX6 2 (wVin q380 q381 q382 q2 q383) hy_X6_set ⟨(Nat.le_of_ble_eq_true rfl), (Nat.le_of_ble_eq_true rfl)⟩ ⟨rfl, rfl⟩ (rcv C.2.2.2.2.2.1 hX.1 rfl) hX (fun _ h => h) rfl rfl (Nat.le_of_ble_eq_true rfl) dL_desk_254 ⟨(Nat.le_of_ble_eq_true rfl), (Nat.le_of_ble_eq_true rfl)⟩ rfl (fun H hp hz hf => ?_)
          have hX := hp
          refine y_top (show _ = ((X.2.2.2 0).1 17 k) from rfl) ?_
          refine y_iadd C dL_desk_257 ?_
          refine y_istore_n C dL_desk_258 rfl (by decide) rfl ?_
          refine y_iload_n C 6 dL_desk_259 rfl rfl ?_
          refine y_aload_n C 7 dL_desk_260 rfl rfl ?_
          refine y_iload C 4 dL_desk_261 rfl ?_
          refine y_iconst C (3) dL_desk_263 (by decide) ?_
          refine y_callV C [.int (nI k), .int (3 : Int32)] (c_X6_set_3 g B0 l b (stJ 1 X t) (sv_t hv ht1 ht2) k hkn) RX6 2 (wVin q380 q381 q382 q2 q383) hy_X6_set ⟨(Nat.le_of_ble_eq_true rfl), (Nat.le_of_ble_eq_true rfl)⟩ ⟨rfl, rfl⟩ (rcv C.2.2.2.2.2.1 hX.1 rfl) hX (fun _ h => h) rfl rfl (Nat.le_of_ble_eq_true rfl) dL_desk_264 ⟨(Nat.le_of_ble_eq_true rfl), (Nat.le_of_ble_eq_true rfl)⟩ rfl (fun H hp hz hf => ?_)
          have hX := hp
          refine y_top (show _ = ((X.2.2.2 0).1 15 k) from rfl) ?_
          refine y_iload C 2 dL_desk_267 rfl ?_
          refine y_icmp_ne C 276 dL_desk_269 (by decide) (fun hw => ?_) (fun hw => ?_)
          · refine y_iconst C (0) dL_desk_276 (by decide) ?_
            refine y_iadd C dL_desk_277 ?_
            refine y_istore_n C dL_desk_278 rfl (by decide) rfl ?_
            exact y_sub [2, 3, 4, 5, 6, 0, 1, 7] (J2 _ _ (by rw [wlo, hle]) (by rw [dnn, if_neg hw, hdn, Int32.add_zero]) _ ⟨t, ht1, ht2, hX⟩) rfl
          · refine y_iconst C (1) dL_desk_272 (by decide) ?_
            refine y_goto C 277 dL_desk_273 (by decide) ?_
            refine y_iadd C dL_desk_277 ?_
            refine y_istore_n C dL_desk_278 rfl (by decide) rfl ?_
            exact y_sub [2, 3, 4, 5, 6, 0, 1, 7] (J2 _ _ (by rw [wlo, hle]) (by rw [dnn, if_pos hw, hdn]) _ ⟨t, ht1, ht2, hX⟩) rfl
        intro lent1 dn1 hle1 hdn1 H hd
        obtain ⟨t, ht1, ht2, hX⟩ := hd
        suffices J3 :  ∀ H : Heap, sXt g b X H → Yx (iv b 152) pr l e rm_L_desk s m args below meth c 8 0 0 (MQ below (Qx (some (.int 1)) (sXt g b X) (iv b 152)) args s 0 0 (iv b 152)) [(7, .int (0 : Int32)), (6, .int (tHF (fl (X.2.2.2 0) k))), (5, .int (2 : Int32)), (4, .int (nI k)), (3, .int (1 : Int32)), (2, .int dn1), (1, .int lent1), (0, .ref b)] H 448 [] from by
          refine y_iload C 2 dL_desk_279 rfl ?_
          refine y_if_lt C 374 dL_desk_281 (by decide) (fun h => absurd h (by decide)) (fun _ => ?_)
          refine y_iload C 2 dL_desk_284 rfl ?_
          refine y_bipush C (8) dL_desk_286 (by decide) ?_
          refine y_icmp_ge C 374 dL_desk_288 (by decide) (fun h => absurd h (by decide)) (fun _ => ?_)
          refine y_aload_n C 7 dL_desk_291 rfl rfl ?_
          refine y_iload C 3 dL_desk_292 rfl ?_
          refine y_iconst C (3) dL_desk_294 (by decide) ?_
          refine y_callV C [.int (nI k), .int (3 : Int32)] (c_X6_set_3 g B0 l b (stJ 1 X t) (sv_t hv ht1 ht2) k hkn) RX6 2 (wVin q380 q381 q382 q2 q383) hy_X6_set ⟨(Nat.le_of_ble_eq_true rfl), (Nat.le_of_ble_eq_true rfl)⟩ ⟨rfl, rfl⟩ (rcv C.2.2.2.2.2.1 hX.1 rfl) hX (fun _ h => h) rfl rfl (Nat.le_of_ble_eq_true rfl) dL_desk_295 ⟨(Nat.le_of_ble_eq_true rfl), (Nat.le_of_ble_eq_true rfl)⟩ rfl (fun H hp hz hf => ?_)
          have hX := hp
          refine y_top (show _ = ((X.2.2.2 0).1 15 k) from rfl) ?_
          refine y_iload C 1 dL_desk_298 rfl ?_
          refine y_icmp_gt C 374 dL_desk_300 (by decide) (fun h => absurd h g1) (fun _ => ?_)
          refine y_iload C 2 dL_desk_303 rfl ?_
          refine y_iconst C (2) dL_desk_305 (by decide) ?_
          refine y_icmp_gt C 319 dL_desk_306 (by decide) (fun h => absurd h (by decide)) (fun _ => ?_)
          refine y_aload_n C 7 dL_desk_309 rfl rfl ?_
          refine y_iload C 3 dL_desk_310 rfl ?_
          refine y_iconst C (3) dL_desk_312 (by decide) ?_
          refine y_callV C [.int (nI k), .int (3 : Int32)] (c_X6_set_3 g B0 l b (stJ 1 X t) (sv_t hv ht1 ht2) k hkn) RX6 2 (wVin q380 q381 q382 q2 q383) hy_X6_set ⟨(Nat.le_of_ble_eq_true rfl), (Nat.le_of_ble_eq_true rfl)⟩ ⟨rfl, rfl⟩ (rcv C.2.2.2.2.2.1 hX.1 rfl) hX (fun _ h => h) rfl rfl (Nat.le_of_ble_eq_true rfl) dL_desk_313 ⟨(Nat.le_of_ble_eq_true rfl), (Nat.le_of_ble_eq_true rfl)⟩ rfl (fun H hp hz hf => ?_)
          have hX := hp
          refine y_top (show _ = ((X.2.2.2 0).1 15 k) from rfl) ?_
          refine y_if_ne C 374 dL_desk_316 (by decide) (fun h => absurd (g2 (by rw [es]; decide)) h) (fun _ => ?_)
          refine y_iload C 2 dL_desk_319 rfl ?_
          refine y_iconst C (3) dL_desk_321 (by decide) ?_
          refine y_icmp_ne C 337 dL_desk_322 (by decide) (fun _ => ?_) (fun h => absurd h (by decide))
          refine y_iload C 2 dL_desk_337 rfl ?_
          refine y_iconst C (4) dL_desk_339 (by decide) ?_
          refine y_icmp_ne C 355 dL_desk_340 (by decide) (fun _ => ?_) (fun h => absurd h (by decide))
          refine y_aload_n C 7 dL_desk_355 rfl rfl ?_
          refine y_iload C 3 dL_desk_356 rfl ?_
          refine y_iconst C (1) dL_desk_358 (by decide) ?_
          refine y_callV C [.int (nI k), .int (1 : Int32)] (c_X6_set_1 g B0 l b (stJ 1 X t) (sv_t hv ht1 ht2) k hkn) RX6 2 (wVin q380 q381 q382 q2 q383) hy_X6_set ⟨(Nat.le_of_ble_eq_true rfl), (Nat.le_of_ble_eq_true rfl)⟩ ⟨rfl, rfl⟩ (rcv C.2.2.2.2.2.1 hX.1 rfl) hX (fun _ h => h) rfl rfl (Nat.le_of_ble_eq_true rfl) dL_desk_359 ⟨(Nat.le_of_ble_eq_true rfl), (Nat.le_of_ble_eq_true rfl)⟩ rfl (fun H hp hz hf => ?_)
          have hX := hp
          refine y_top (show _ = ((X.2.2.2 0).1 13 k) from rfl) ?_
          refine y_aload_n C 7 dL_desk_362 rfl rfl ?_
          refine y_iconst C (0) dL_desk_363 (by decide) ?_
          refine y_callV C [.int (0 : Int32)] (c_X6_count_0 g B0 l b (stJ 1 X t) (sv_t hv ht1 ht2)) RX6 1 (wVin q92 q93 q94 q2 q95) hy_X6_count ⟨(Nat.le_of_ble_eq_true rfl), (Nat.le_of_ble_eq_true rfl)⟩ ⟨rfl, rfl⟩ (rcv C.2.2.2.2.2.1 hX.1 rfl) hX (fun _ h => h) rfl rfl (Nat.le_of_ble_eq_true rfl) dL_desk_364 ⟨(Nat.le_of_ble_eq_true rfl), (Nat.le_of_ble_eq_true rfl)⟩ rfl (fun H hp hz hf => ?_)
          have hX := hp
          refine y_top (show _ = ((X.2.2.2 0).1 0 0) from rfl) ?_
          refine y_icmp_gt C 374 dL_desk_367 (by decide) (fun h => absurd h g5) (fun _ => ?_)
          refine y_iconst C (1) dL_desk_370 (by decide) ?_
          refine y_goto C 375 dL_desk_371 (by decide) ?_
          refine y_istore_n C dL_desk_375 rfl (by decide) rfl ?_
          refine y_iload_n C 0 dL_desk_376 rfl rfl ?_
          refine y_if_eq C 512 dL_desk_377 (by decide) (fun h => absurd h (by decide)) (fun _ => ?_)
          refine y_aload_n C 7 dL_desk_380 rfl rfl ?_
          refine y_iload C 4 dL_desk_381 rfl ?_
          refine y_bipush C (7) dL_desk_383 (by decide) ?_
          refine y_callV C [.int (nI k), .int (7 : Int32)] (c_X6_set_7 g B0 l b (stJ 1 X t) (sv_t hv ht1 ht2) k hkn) RX6 2 (wVin q380 q381 q382 q2 q383) hy_X6_set ⟨(Nat.le_of_ble_eq_true rfl), (Nat.le_of_ble_eq_true rfl)⟩ ⟨rfl, rfl⟩ (rcv C.2.2.2.2.2.1 hX.1 rfl) hX (fun _ h => h) rfl rfl (Nat.le_of_ble_eq_true rfl) dL_desk_385 ⟨(Nat.le_of_ble_eq_true rfl), (Nat.le_of_ble_eq_true rfl)⟩ rfl (fun H hp hz hf => ?_)
          have hX := hp
          refine y_top (show _ = ((X.2.2.2 0).1 19 k) from rfl) ?_
          refine y_if_lt C 395 dL_desk_388 (by decide) (fun _ => ?_) (fun h => absurd (g6.2 (by rw [es]; decide)) h)
          refine y_iconst C (0) dL_desk_395 (by decide) ?_
          refine y_iload C 3 dL_desk_396 rfl ?_
          refine y_iconst C (3) dL_desk_398 (by decide) ?_
          refine y_icmp_le C 406 dL_desk_399 (by decide) (fun _ => ?_) (fun h => absurd (by decide) h)
          refine y_iconst C (0) dL_desk_406 (by decide) ?_
          refine y_icmp_ne C 512 dL_desk_407 (by decide) (fun h => absurd rfl h) (fun _ => ?_)
          refine y_aload_n C 7 dL_desk_410 rfl rfl ?_
          refine y_iload C 4 dL_desk_411 rfl ?_
          refine y_bipush C (8) dL_desk_413 (by decide) ?_
          refine y_callV C [.int (nI k), .int (8 : Int32)] (c_X6_set_8 g B0 l b (stJ 1 X t) (sv_t hv ht1 ht2) k hkn) RX6 2 (wVin q380 q381 q382 q2 q383) hy_X6_set ⟨(Nat.le_of_ble_eq_true rfl), (Nat.le_of_ble_eq_true rfl)⟩ ⟨rfl, rfl⟩ (rcv C.2.2.2.2.2.1 hX.1 rfl) hX (fun _ h => h) rfl rfl (Nat.le_of_ble_eq_true rfl) dL_desk_415 ⟨(Nat.le_of_ble_eq_true rfl), (Nat.le_of_ble_eq_true rfl)⟩ rfl (fun H hp hz hf => ?_)
          have hX := hp
          refine y_top (show _ = (tFee (X.2.2.2 0) k) from rfl) ?_
          refine y_if_lt C 425 dL_desk_418 (by decide) (fun _ => ?_) (fun h => absurd (tFee_neg (by rw [es]; decide) (by rw [es]; decide)) h)
          refine y_iconst C (0) dL_desk_425 (by decide) ?_
          refine y_iload C 1 dL_desk_426 rfl ?_
          refine y_icmp_ne C 512 dL_desk_428 (by decide) (fun h => absurd rfl h) (fun _ => ?_)
          refine y_aload_n C 7 dL_desk_431 rfl rfl ?_
          refine y_iload C 4 dL_desk_432 rfl ?_
          refine y_iconst C (5) dL_desk_434 (by decide) ?_
          refine y_callV C [.int (nI k), .int (5 : Int32)] (c_X6_set_5 g B0 l b (stJ 1 X t) (sv_t hv ht1 ht2) k hkn) RX6 2 (wVin q380 q381 q382 q2 q383) hy_X6_set ⟨(Nat.le_of_ble_eq_true rfl), (Nat.le_of_ble_eq_true rfl)⟩ ⟨rfl, rfl⟩ (rcv C.2.2.2.2.2.1 hX.1 rfl) hX (fun _ h => h) rfl rfl (Nat.le_of_ble_eq_true rfl) dL_desk_435 ⟨(Nat.le_of_ble_eq_true rfl), (Nat.le_of_ble_eq_true rfl)⟩ rfl (fun H hp hz hf => ?_)
          have hX := hp
          refine y_top (show _ = ((X.2.2.2 0).1 17 k) from rfl) ?_
          refine y_if_eq C 448 dL_desk_438 (by decide) (fun hlo => ?_) (fun hlo => ?_)
          · exact y_sub [1, 2, 3, 4, 0, 5, 6, 7] (J3 _ ⟨t, ht1, ht2, hX⟩) rfl
          · refine y_iload C 3 dL_desk_441 rfl ?_
            refine y_bipush C (6) dL_desk_443 (by decide) ?_
            refine y_icmp_ge C 512 dL_desk_445 (by decide) (fun h => absurd h (by decide)) (fun _ => ?_)
            exact y_sub [1, 2, 3, 4, 0, 5, 6, 7] (J3 _ ⟨t, ht1, ht2, hX⟩) rfl
        intro  H hd
        obtain ⟨t, ht1, ht2, hX⟩ := hd
        suffices J4 :  ∀ H : Heap, sXt g b X H → Yx (iv b 152) pr l e rm_L_desk s m args below meth c 8 0 0 (MQ below (Qx (some (.int 1)) (sXt g b X) (iv b 152)) args s 0 0 (iv b 152)) [(7, .int (0 : Int32)), (6, .int (tHF (fl (X.2.2.2 0) k))), (5, .int (2 : Int32)), (4, .int (nI k)), (3, .int (1 : Int32)), (2, .int dn1), (1, .int lent1), (0, .ref b)] H 480 [] from by
          refine y_aload_n C 7 dL_desk_448 rfl rfl ?_
          refine y_iload C 3 dL_desk_449 rfl ?_
          refine y_iconst C (4) dL_desk_451 (by decide) ?_
          refine y_callV C [.int (nI k), .int (4 : Int32)] (c_X6_set_4 g B0 l b (stJ 1 X t) (sv_t hv ht1 ht2) k hkn) RX6 2 (wVin q380 q381 q382 q2 q383) hy_X6_set ⟨(Nat.le_of_ble_eq_true rfl), (Nat.le_of_ble_eq_true rfl)⟩ ⟨rfl, rfl⟩ (rcv C.2.2.2.2.2.1 hX.1 rfl) hX (fun _ h => h) rfl rfl (Nat.le_of_ble_eq_true rfl) dL_desk_452 ⟨(Nat.le_of_ble_eq_true rfl), (Nat.le_of_ble_eq_true rfl)⟩ rfl (fun H hp hz hf => ?_)
          have hX := hp
          refine y_top (show _ = ((X.2.2.2 0).1 16 k) from rfl) ?_
          refine y_if_lt C 512 dL_desk_455 (by decide) (fun h => absurd h g9) (fun _ => ?_)
          refine y_aload_n C 7 dL_desk_458 rfl rfl ?_
          refine y_iload C 3 dL_desk_459 rfl ?_
          refine y_iconst C (4) dL_desk_461 (by decide) ?_
          refine y_callV C [.int (nI k), .int (4 : Int32)] (c_X6_set_4 g B0 l b (stJ 1 X t) (sv_t hv ht1 ht2) k hkn) RX6 2 (wVin q380 q381 q382 q2 q383) hy_X6_set ⟨(Nat.le_of_ble_eq_true rfl), (Nat.le_of_ble_eq_true rfl)⟩ ⟨rfl, rfl⟩ (rcv C.2.2.2.2.2.1 hX.1 rfl) hX (fun _ h => h) rfl rfl (Nat.le_of_ble_eq_true rfl) dL_desk_462 ⟨(Nat.le_of_ble_eq_true rfl), (Nat.le_of_ble_eq_true rfl)⟩ rfl (fun H hp hz hf => ?_)
          have hX := hp
          refine y_top (show _ = ((X.2.2.2 0).1 16 k) from rfl) ?_
          refine y_if_eq C 480 dL_desk_465 (by decide) (fun hb => ?_) (fun hb => ?_)
          · exact y_sub [0, 1, 2, 3, 4, 5, 6, 7] (J4 _ ⟨t, ht1, ht2, hX⟩) rfl
          · refine y_aload_n C 7 dL_desk_468 rfl rfl ?_
            refine y_iload C 3 dL_desk_469 rfl ?_
            refine y_iconst C (3) dL_desk_471 (by decide) ?_
            refine y_callV C [.int (nI k), .int (3 : Int32)] (c_X6_set_3 g B0 l b (stJ 1 X t) (sv_t hv ht1 ht2) k hkn) RX6 2 (wVin q380 q381 q382 q2 q383) hy_X6_set ⟨(Nat.le_of_ble_eq_true rfl), (Nat.le_of_ble_eq_true rfl)⟩ ⟨rfl, rfl⟩ (rcv C.2.2.2.2.2.1 hX.1 rfl) hX (fun _ h => h) rfl rfl (Nat.le_of_ble_eq_true rfl) dL_desk_472 ⟨(Nat.le_of_ble_eq_true rfl), (Nat.le_of_ble_eq_true rfl)⟩ rfl (fun H hp hz hf => ?_)
            have hX := hp
            refine y_top (show _ = ((X.2.2.2 0).1 15 k) from rfl) ?_
            refine y_iload C 1 dL_desk_475 rfl ?_
            refine y_icmp_ne C 512 dL_desk_477 (by decide) (fun h => absurd (g10 hb) h) (fun _ => ?_)
            exact y_sub [0, 1, 2, 3, 4, 5, 6, 7] (J4 _ ⟨t, ht1, ht2, hX⟩) rfl
        intro  H hd
        obtain ⟨t, ht1, ht2, hX⟩ := hd
        refine y_iload C 2 dL_desk_480 rfl ?_
        refine y_if_ne C 489 dL_desk_482 (by decide) (fun _ => ?_) (fun h => absurd h (by decide))
        refine y_iconst C (0) dL_desk_489 (by decide) ?_
        refine y_aload_n C 7 dL_desk_490 rfl rfl ?_
        refine y_iload C 3 dL_desk_491 rfl ?_
        refine y_iconst C (2) dL_desk_493 (by decide) ?_
        refine y_callV C [.int (nI k), .int (2 : Int32)] (c_X6_set_2 g B0 l b (stJ 1 X t) (sv_t hv ht1 ht2) k hkn) RX6 2 (wVin q380 q381 q382 q2 q383) hy_X6_set ⟨(Nat.le_of_ble_eq_true rfl), (Nat.le_of_ble_eq_true rfl)⟩ ⟨rfl, rfl⟩ (rcv C.2.2.2.2.2.1 hX.1 rfl) hX (fun _ h => h) rfl rfl (Nat.le_of_ble_eq_true rfl) dL_desk_494 ⟨(Nat.le_of_ble_eq_true rfl), (Nat.le_of_ble_eq_true rfl)⟩ rfl (fun H hp hz hf => ?_)
        have hX := hp
        refine y_top (show _ = ((X.2.2.2 0).1 14 k) from rfl) ?_
        refine y_if_ne C 504 dL_desk_497 (by decide) (fun _ => ?_) (fun h => absurd h (g11.2 (by rw [es]; decide)))
        refine y_iconst C (0) dL_desk_504 (by decide) ?_
        refine y_icmp_ne C 512 dL_desk_505 (by decide) (fun h => absurd rfl h) (fun _ => ?_)
        refine y_iconst C (1) dL_desk_508 (by decide) ?_
        refine y_goto C 513 dL_desk_509 (by decide) ?_
        refine y_istore_n C dL_desk_513 rfl (by decide) rfl ?_
        refine y_iload_n C 0 dL_desk_514 rfl rfl ?_
        refine y_if_eq C 592 dL_desk_515 (by decide) (fun h => absurd h (by decide)) (fun _ => ?_)
        refine y_iload C 3 dL_desk_518 rfl ?_
        refine y_iconst C (2) dL_desk_520 (by decide) ?_
        refine y_icmp_eq C 535 dL_desk_521 (by decide) (fun _ => ?_) (fun h => absurd rfl h)
        refine y_iload C 3 dL_desk_535 rfl ?_
        refine y_iconst C (2) dL_desk_537 (by decide) ?_
        refine y_icmp_eq C 558 dL_desk_538 (by decide) (fun _ => ?_) (fun h => absurd rfl h)
        refine y_aload_n C 7 dL_desk_558 rfl rfl ?_
        refine y_iload C 4 dL_desk_559 rfl ?_
        refine y_callV C [.int (nI k)] (c_X6_waitsFor g B0 l b (stJ 1 X t) (sv_t hv ht1 ht2) k hkn) RX6 1 (wVin q422 q423 q424 q2 q425) hy_X6_waitsFor ⟨(Nat.le_of_ble_eq_true rfl), (Nat.le_of_ble_eq_true rfl)⟩ ⟨rfl, rfl⟩ (rcv C.2.2.2.2.2.1 hX.1 rfl) hX (fun _ h => h) rfl rfl (Nat.le_of_ble_eq_true rfl) dL_desk_561 ⟨(Nat.le_of_ble_eq_true rfl), (Nat.le_of_ble_eq_true rfl)⟩ rfl (fun H hp hz hf => ?_)
        have hX := hp
        refine y_top (show _ = (tWt (X.2.2.2 0) k) from rfl) ?_
        refine y_bipush C (-5) dL_desk_564 (by decide) ?_
        refine y_icmp_ne C 573 dL_desk_566 (by decide) (fun _ => ?_) (fun h => absurd h (tWt_ne (by rw [es]; decide)))
        refine y_iconst C (0) dL_desk_573 (by decide) ?_
        refine y_iload C 3 dL_desk_574 rfl ?_
        refine y_iconst C (5) dL_desk_576 (by decide) ?_
        refine y_icmp_le C 584 dL_desk_577 (by decide) (fun _ => ?_) (fun h => absurd (by decide) h)
        refine y_iconst C (0) dL_desk_584 (by decide) ?_
        refine y_icmp_ne C 592 dL_desk_585 (by decide) (fun h => absurd rfl h) (fun _ => ?_)
        refine y_iconst C (1) dL_desk_588 (by decide) ?_
        refine y_goto C 593 dL_desk_589 (by decide) ?_
        refine y_istore_n C dL_desk_593 rfl (by decide) rfl ?_
        refine y_iinc C 4 (nI (k + 1)) dL_desk_594 rfl (nI_succ _).symm (by decide) rfl ?_
        refine y_goto C 194 dL_desk_597 (by decide) ?_
        exact y_sub [0, 1, 5, 6, 7] (ih (k + 1) (by omega) _ _ hle1 hdn1 H ⟨t, ht1, ht2, hX⟩) rfl
      · suffices J2 : ∀ lent1 dn1 : Int32, lent1 = wlo (X.2.2.2 0) (k + 1) → dn1 = dnn (X.2.2.2 0) (k + 1) → ∀ H : Heap, sXt g b X H → Yx (iv b 152) pr l e rm_L_desk s m args below meth c 8 0 0 (MQ below (Qx (some (.int 1)) (sXt g b X) (iv b 152)) args s 0 0 (iv b 152)) [(7, .int (0 : Int32)), (6, .int (tHF (fl (X.2.2.2 0) k))), (5, .int (3 : Int32)), (4, .int (nI k)), (3, .int (1 : Int32)), (2, .int dn1), (1, .int lent1), (0, .ref b)] H 279 [] from by
          refine y_aload_n C 4 dL_desk_208 rfl rfl ?_
          refine y_iload C 0 dL_desk_209 rfl ?_
          refine y_bipush C (6) dL_desk_211 (by decide) ?_
          refine y_callV C [.int (nI k), .int (6 : Int32)] (c_X6_set_6 g B0 l b (stJ 1 X t) (sv_t hv ht1 ht2) k hkn) RX6 2 (wVin q380 q381 q382 q2 q383) hy_X6_set ⟨(Nat.le_of_ble_eq_true rfl), (Nat.le_of_ble_eq_true rfl)⟩ ⟨rfl, rfl⟩ (rcv C.2.2.2.2.2.1 hX.1 rfl) hX (fun _ h => h) rfl rfl (Nat.le_of_ble_eq_true rfl) dL_desk_213 ⟨(Nat.le_of_ble_eq_true rfl), (Nat.le_of_ble_eq_true rfl)⟩ rfl (fun H hp hz hf => ?_)
          have hX := hp
          refine y_top (show _ = ((X.2.2.2 0).1 18 k) from rfl) ?_
          refine y_top es ?_
          refine y_istore C dL_desk_216 (by decide) rfl ?_
          refine y_aload_n C 5 dL_desk_218 rfl rfl ?_
          refine y_iload C 1 dL_desk_219 rfl ?_
          refine y_iconst C (0) dL_desk_221 (by decide) ?_
          refine y_callV C [.int (nI k), .int (0 : Int32)] (c_X6_set_0 g B0 l b (stJ 1 X t) (sv_t hv ht1 ht2) k hkn) RX6 2 (wVin q380 q381 q382 q2 q383) hy_X6_set ⟨(Nat.le_of_ble_eq_true rfl), (Nat.le_of_ble_eq_true rfl)⟩ ⟨rfl, rfl⟩ (rcv C.2.2.2.2.2.1 hX.1 rfl) hX (fun _ h => h) rfl rfl (Nat.le_of_ble_eq_true rfl) dL_desk_222 ⟨(Nat.le_of_ble_eq_true rfl), (Nat.le_of_ble_eq_true rfl)⟩ rfl (fun H hp hz hf => ?_)
          have hX := hp
          refine y_top (show _ = ((X.2.2.2 0).1 12 k) from rfl) ?_
          refine y_top ((hv.2 0 (by decide)).1.2.2.1 _ hkn).1 ?_
          refine y_callS C [.int (nI (fl (X.2.2.2 0) k))] (c_L_hours g B0 l (fl (X.2.2.2 0) k) ((hv.2 0 (by decide)).1.2.2.1 _ hkn).2) 1 (wSin q414 q415 q125 q416) hs_L_hours ⟨(Nat.le_of_ble_eq_true rfl), (Nat.le_of_ble_eq_true rfl)⟩ ⟨rfl, rfl⟩ trivial nF.no rfl rfl (Nat.le_of_ble_eq_true rfl) dL_desk_225 ⟨(Nat.le_of_ble_eq_true rfl), (Nat.le_of_ble_eq_true rfl)⟩ rfl (fun H hp hz hf => ?_)
          have hX := sys.fr (A1 := nF) hX hf (fun _ _ z => z)
          refine y_istore C dL_desk_228 (by decide) rfl ?_
          refine y_iload C 1 dL_desk_230 rfl ?_
          refine y_iconst C (4) dL_desk_232 (by decide) ?_
          refine y_icmp_eq C 242 dL_desk_233 (by decide) (fun h => absurd h (by decide)) (fun _ => ?_)
          refine y_iload C 1 dL_desk_236 rfl ?_
          refine y_iconst C (5) dL_desk_238 (by decide) ?_
          refine y_icmp_ne C 246 dL_desk_239 (by decide) (fun _ => ?_) (fun h => absurd h (by decide))
          refine y_iconst C (0) dL_desk_246 (by decide) ?_
          refine y_istore C dL_desk_247 (by decide) rfl ?_
          refine y_iload_n C 6 dL_desk_249 rfl rfl ?_
          refine y_aload_n C 7 dL_desk_250 rfl rfl ?_
          refine y_iload C 3 dL_desk_251 rfl ?_
          refine y_iconst C (5) dL_desk_253 (by decide) ?_
          refine y_callV C [.int (nI k), .int (5 : Int32)] (c_X6_set_5 g B0 l b (stJ 1 X t) (sv_t hv ht1 ht2) k hkn) RX6 2 (wVin q380 q381 q382 q2 q383) hy_X6_set ⟨(Nat.le_of_ble_eq_true rfl), (Nat.le_of_ble_eq_true rfl)⟩ ⟨rfl, rfl⟩ (rcv C.2.2.2.2.2.1 hX.1 rfl) hX (fun _ h => h) rfl rfl (Nat.le_of_ble_eq_true rfl) dL_desk_254 ⟨(Nat.le_of_ble_eq_true rfl), (Nat.le_of_ble_eq_true rfl)⟩ rfl (fun H hp hz hf => ?_)
          have hX := hp
          refine y_top (show _ = ((X.2.2.2 0).1 17 k) from rfl) ?_
          refine y_iadd C dL_desk_257 ?_
          refine y_istore_n C dL_desk_258 rfl (by decide) rfl ?_
          refine y_iload_n C 6 dL_desk_259 rfl rfl ?_
          refine y_aload_n C 7 dL_desk_260 rfl rfl ?_
          refine y_iload C 4 dL_desk_261 rfl ?_
          refine y_iconst C (3) dL_desk_263 (by decide) ?_
          refine y_callV C [.int (nI k), .int (3 : Int32)] (c_X6_set_3 g B0 l b (stJ 1 X t) (sv_t hv ht1 ht2) k hkn) RX6 2 (wVin q380 q381 q382 q2 q383) hy_X6_set ⟨(Nat.le_of_ble_eq_true rfl), (Nat.le_of_ble_eq_true rfl)⟩ ⟨rfl, rfl⟩ (rcv C.2.2.2.2.2.1 hX.1 rfl) hX (fun _ h => h) rfl rfl (Nat.le_of_ble_eq_true rfl) dL_desk_264 ⟨(Nat.le_of_ble_eq_true rfl), (Nat.le_of_ble_eq_true rfl)⟩ rfl (fun H hp hz hf => ?_)
          have hX := hp
          refine y_top (show _ = ((X.2.2.2 0).1 15 k) from rfl) ?_
          refine y_iload C 2 dL_desk_267 rfl ?_
          refine y_icmp_ne C 276 dL_desk_269 (by decide) (fun hw => ?_) (fun hw => ?_)
          · refine y_iconst C (0) dL_desk_276 (by decide) ?_
            refine y_iadd C dL_desk_277 ?_
            refine y_istore_n C dL_desk_278 rfl (by decide) rfl ?_
            exact y_sub [2, 3, 4, 5, 6, 0, 1, 7] (J2 _ _ (by rw [wlo, hle]) (by rw [dnn, if_neg hw, hdn, Int32.add_zero]) _ ⟨t, ht1, ht2, hX⟩) rfl
          · refine y_iconst C (1) dL_desk_272 (by decide) ?_
            refine y_goto C 277 dL_desk_273 (by decide) ?_
            refine y_iadd C dL_desk_277 ?_
            refine y_istore_n C dL_desk_278 rfl (by decide) rfl ?_
            exact y_sub [2, 3, 4, 5, 6, 0, 1, 7] (J2 _ _ (by rw [wlo, hle]) (by rw [dnn, if_pos hw, hdn]) _ ⟨t, ht1, ht2, hX⟩) rfl
        intro lent1 dn1 hle1 hdn1 H hd
        obtain ⟨t, ht1, ht2, hX⟩ := hd
        suffices J3 :  ∀ H : Heap, sXt g b X H → Yx (iv b 152) pr l e rm_L_desk s m args below meth c 8 0 0 (MQ below (Qx (some (.int 1)) (sXt g b X) (iv b 152)) args s 0 0 (iv b 152)) [(7, .int (0 : Int32)), (6, .int (tHF (fl (X.2.2.2 0) k))), (5, .int (3 : Int32)), (4, .int (nI k)), (3, .int (1 : Int32)), (2, .int dn1), (1, .int lent1), (0, .ref b)] H 448 [] from by
          refine y_iload C 2 dL_desk_279 rfl ?_
          refine y_if_lt C 374 dL_desk_281 (by decide) (fun h => absurd h (by decide)) (fun _ => ?_)
          refine y_iload C 2 dL_desk_284 rfl ?_
          refine y_bipush C (8) dL_desk_286 (by decide) ?_
          refine y_icmp_ge C 374 dL_desk_288 (by decide) (fun h => absurd h (by decide)) (fun _ => ?_)
          refine y_aload_n C 7 dL_desk_291 rfl rfl ?_
          refine y_iload C 3 dL_desk_292 rfl ?_
          refine y_iconst C (3) dL_desk_294 (by decide) ?_
          refine y_callV C [.int (nI k), .int (3 : Int32)] (c_X6_set_3 g B0 l b (stJ 1 X t) (sv_t hv ht1 ht2) k hkn) RX6 2 (wVin q380 q381 q382 q2 q383) hy_X6_set ⟨(Nat.le_of_ble_eq_true rfl), (Nat.le_of_ble_eq_true rfl)⟩ ⟨rfl, rfl⟩ (rcv C.2.2.2.2.2.1 hX.1 rfl) hX (fun _ h => h) rfl rfl (Nat.le_of_ble_eq_true rfl) dL_desk_295 ⟨(Nat.le_of_ble_eq_true rfl), (Nat.le_of_ble_eq_true rfl)⟩ rfl (fun H hp hz hf => ?_)
          have hX := hp
          refine y_top (show _ = ((X.2.2.2 0).1 15 k) from rfl) ?_
          refine y_iload C 1 dL_desk_298 rfl ?_
          refine y_icmp_gt C 374 dL_desk_300 (by decide) (fun h => absurd h g1) (fun _ => ?_)
          refine y_iload C 2 dL_desk_303 rfl ?_
          refine y_iconst C (2) dL_desk_305 (by decide) ?_
          refine y_icmp_gt C 319 dL_desk_306 (by decide) (fun _ => ?_) (fun h => absurd (by decide) h)
          refine y_iload C 2 dL_desk_319 rfl ?_
          refine y_iconst C (3) dL_desk_321 (by decide) ?_
          refine y_icmp_ne C 337 dL_desk_322 (by decide) (fun h => absurd rfl h) (fun _ => ?_)
          refine y_aload_n C 7 dL_desk_325 rfl rfl ?_
          refine y_iload C 3 dL_desk_326 rfl ?_
          refine y_iconst C (3) dL_desk_328 (by decide) ?_
          refine y_callV C [.int (nI k), .int (3 : Int32)] (c_X6_set_3 g B0 l b (stJ 1 X t) (sv_t hv ht1 ht2) k hkn) RX6 2 (wVin q380 q381 q382 q2 q383) hy_X6_set ⟨(Nat.le_of_ble_eq_true rfl), (Nat.le_of_ble_eq_true rfl)⟩ ⟨rfl, rfl⟩ (rcv C.2.2.2.2.2.1 hX.1 rfl) hX (fun _ h => h) rfl rfl (Nat.le_of_ble_eq_true rfl) dL_desk_329 ⟨(Nat.le_of_ble_eq_true rfl), (Nat.le_of_ble_eq_true rfl)⟩ rfl (fun H hp hz hf => ?_)
          have hX := hp
          refine y_top (show _ = ((X.2.2.2 0).1 15 k) from rfl) ?_
          refine y_iload C 1 dL_desk_332 rfl ?_
          refine y_icmp_ge C 374 dL_desk_334 (by decide) (fun h => absurd h (g3 es)) (fun _ => ?_)
          refine y_iload C 2 dL_desk_337 rfl ?_
          refine y_iconst C (4) dL_desk_339 (by decide) ?_
          refine y_icmp_ne C 355 dL_desk_340 (by decide) (fun _ => ?_) (fun h => absurd h (by decide))
          refine y_aload_n C 7 dL_desk_355 rfl rfl ?_
          refine y_iload C 3 dL_desk_356 rfl ?_
          refine y_iconst C (1) dL_desk_358 (by decide) ?_
          refine y_callV C [.int (nI k), .int (1 : Int32)] (c_X6_set_1 g B0 l b (stJ 1 X t) (sv_t hv ht1 ht2) k hkn) RX6 2 (wVin q380 q381 q382 q2 q383) hy_X6_set ⟨(Nat.le_of_ble_eq_true rfl), (Nat.le_of_ble_eq_true rfl)⟩ ⟨rfl, rfl⟩ (rcv C.2.2.2.2.2.1 hX.1 rfl) hX (fun _ h => h) rfl rfl (Nat.le_of_ble_eq_true rfl) dL_desk_359 ⟨(Nat.le_of_ble_eq_true rfl), (Nat.le_of_ble_eq_true rfl)⟩ rfl (fun H hp hz hf => ?_)
          have hX := hp
          refine y_top (show _ = ((X.2.2.2 0).1 13 k) from rfl) ?_
          refine y_aload_n C 7 dL_desk_362 rfl rfl ?_
          refine y_iconst C (0) dL_desk_363 (by decide) ?_
          refine y_callV C [.int (0 : Int32)] (c_X6_count_0 g B0 l b (stJ 1 X t) (sv_t hv ht1 ht2)) RX6 1 (wVin q92 q93 q94 q2 q95) hy_X6_count ⟨(Nat.le_of_ble_eq_true rfl), (Nat.le_of_ble_eq_true rfl)⟩ ⟨rfl, rfl⟩ (rcv C.2.2.2.2.2.1 hX.1 rfl) hX (fun _ h => h) rfl rfl (Nat.le_of_ble_eq_true rfl) dL_desk_364 ⟨(Nat.le_of_ble_eq_true rfl), (Nat.le_of_ble_eq_true rfl)⟩ rfl (fun H hp hz hf => ?_)
          have hX := hp
          refine y_top (show _ = ((X.2.2.2 0).1 0 0) from rfl) ?_
          refine y_icmp_gt C 374 dL_desk_367 (by decide) (fun h => absurd h g5) (fun _ => ?_)
          refine y_iconst C (1) dL_desk_370 (by decide) ?_
          refine y_goto C 375 dL_desk_371 (by decide) ?_
          refine y_istore_n C dL_desk_375 rfl (by decide) rfl ?_
          refine y_iload_n C 0 dL_desk_376 rfl rfl ?_
          refine y_if_eq C 512 dL_desk_377 (by decide) (fun h => absurd h (by decide)) (fun _ => ?_)
          refine y_aload_n C 7 dL_desk_380 rfl rfl ?_
          refine y_iload C 4 dL_desk_381 rfl ?_
          refine y_bipush C (7) dL_desk_383 (by decide) ?_
          refine y_callV C [.int (nI k), .int (7 : Int32)] (c_X6_set_7 g B0 l b (stJ 1 X t) (sv_t hv ht1 ht2) k hkn) RX6 2 (wVin q380 q381 q382 q2 q383) hy_X6_set ⟨(Nat.le_of_ble_eq_true rfl), (Nat.le_of_ble_eq_true rfl)⟩ ⟨rfl, rfl⟩ (rcv C.2.2.2.2.2.1 hX.1 rfl) hX (fun _ h => h) rfl rfl (Nat.le_of_ble_eq_true rfl) dL_desk_385 ⟨(Nat.le_of_ble_eq_true rfl), (Nat.le_of_ble_eq_true rfl)⟩ rfl (fun H hp hz hf => ?_)
          have hX := hp
          refine y_top (show _ = ((X.2.2.2 0).1 19 k) from rfl) ?_
          refine y_if_lt C 395 dL_desk_388 (by decide) (fun _ => ?_) (fun h => absurd (g6.2 (by rw [es]; decide)) h)
          refine y_iconst C (0) dL_desk_395 (by decide) ?_
          refine y_iload C 3 dL_desk_396 rfl ?_
          refine y_iconst C (3) dL_desk_398 (by decide) ?_
          refine y_icmp_le C 406 dL_desk_399 (by decide) (fun _ => ?_) (fun h => absurd (by decide) h)
          refine y_iconst C (0) dL_desk_406 (by decide) ?_
          refine y_icmp_ne C 512 dL_desk_407 (by decide) (fun h => absurd rfl h) (fun _ => ?_)
          refine y_aload_n C 7 dL_desk_410 rfl rfl ?_
          refine y_iload C 4 dL_desk_411 rfl ?_
          refine y_bipush C (8) dL_desk_413 (by decide) ?_
          refine y_callV C [.int (nI k), .int (8 : Int32)] (c_X6_set_8 g B0 l b (stJ 1 X t) (sv_t hv ht1 ht2) k hkn) RX6 2 (wVin q380 q381 q382 q2 q383) hy_X6_set ⟨(Nat.le_of_ble_eq_true rfl), (Nat.le_of_ble_eq_true rfl)⟩ ⟨rfl, rfl⟩ (rcv C.2.2.2.2.2.1 hX.1 rfl) hX (fun _ h => h) rfl rfl (Nat.le_of_ble_eq_true rfl) dL_desk_415 ⟨(Nat.le_of_ble_eq_true rfl), (Nat.le_of_ble_eq_true rfl)⟩ rfl (fun H hp hz hf => ?_)
          have hX := hp
          refine y_top (show _ = (tFee (X.2.2.2 0) k) from rfl) ?_
          refine y_if_lt C 425 dL_desk_418 (by decide) (fun _ => ?_) (fun h => absurd (tFee_neg (by rw [es]; decide) (by rw [es]; decide)) h)
          refine y_iconst C (0) dL_desk_425 (by decide) ?_
          refine y_iload C 1 dL_desk_426 rfl ?_
          refine y_icmp_ne C 512 dL_desk_428 (by decide) (fun h => absurd rfl h) (fun _ => ?_)
          refine y_aload_n C 7 dL_desk_431 rfl rfl ?_
          refine y_iload C 4 dL_desk_432 rfl ?_
          refine y_iconst C (5) dL_desk_434 (by decide) ?_
          refine y_callV C [.int (nI k), .int (5 : Int32)] (c_X6_set_5 g B0 l b (stJ 1 X t) (sv_t hv ht1 ht2) k hkn) RX6 2 (wVin q380 q381 q382 q2 q383) hy_X6_set ⟨(Nat.le_of_ble_eq_true rfl), (Nat.le_of_ble_eq_true rfl)⟩ ⟨rfl, rfl⟩ (rcv C.2.2.2.2.2.1 hX.1 rfl) hX (fun _ h => h) rfl rfl (Nat.le_of_ble_eq_true rfl) dL_desk_435 ⟨(Nat.le_of_ble_eq_true rfl), (Nat.le_of_ble_eq_true rfl)⟩ rfl (fun H hp hz hf => ?_)
          have hX := hp
          refine y_top (show _ = ((X.2.2.2 0).1 17 k) from rfl) ?_
          refine y_if_eq C 448 dL_desk_438 (by decide) (fun hlo => ?_) (fun hlo => ?_)
          · exact y_sub [1, 2, 3, 4, 0, 5, 6, 7] (J3 _ ⟨t, ht1, ht2, hX⟩) rfl
          · refine y_iload C 3 dL_desk_441 rfl ?_
            refine y_bipush C (6) dL_desk_443 (by decide) ?_
            refine y_icmp_ge C 512 dL_desk_445 (by decide) (fun h => absurd h (by decide)) (fun _ => ?_)
            exact y_sub [1, 2, 3, 4, 0, 5, 6, 7] (J3 _ ⟨t, ht1, ht2, hX⟩) rfl
        intro  H hd
        obtain ⟨t, ht1, ht2, hX⟩ := hd
        suffices J4 :  ∀ H : Heap, sXt g b X H → Yx (iv b 152) pr l e rm_L_desk s m args below meth c 8 0 0 (MQ below (Qx (some (.int 1)) (sXt g b X) (iv b 152)) args s 0 0 (iv b 152)) [(7, .int (0 : Int32)), (6, .int (tHF (fl (X.2.2.2 0) k))), (5, .int (3 : Int32)), (4, .int (nI k)), (3, .int (1 : Int32)), (2, .int dn1), (1, .int lent1), (0, .ref b)] H 480 [] from by
          refine y_aload_n C 7 dL_desk_448 rfl rfl ?_
          refine y_iload C 3 dL_desk_449 rfl ?_
          refine y_iconst C (4) dL_desk_451 (by decide) ?_
          refine y_callV C [.int (nI k), .int (4 : Int32)] (c_X6_set_4 g B0 l b (stJ 1 X t) (sv_t hv ht1 ht2) k hkn) RX6 2 (wVin q380 q381 q382 q2 q383) hy_X6_set ⟨(Nat.le_of_ble_eq_true rfl), (Nat.le_of_ble_eq_true rfl)⟩ ⟨rfl, rfl⟩ (rcv C.2.2.2.2.2.1 hX.1 rfl) hX (fun _ h => h) rfl rfl (Nat.le_of_ble_eq_true rfl) dL_desk_452 ⟨(Nat.le_of_ble_eq_true rfl), (Nat.le_of_ble_eq_true rfl)⟩ rfl (fun H hp hz hf => ?_)
          have hX := hp
          refine y_top (show _ = ((X.2.2.2 0).1 16 k) from rfl) ?_
          refine y_if_lt C 512 dL_desk_455 (by decide) (fun h => absurd h g9) (fun _ => ?_)
          refine y_aload_n C 7 dL_desk_458 rfl rfl ?_
          refine y_iload C 3 dL_desk_459 rfl ?_
          refine y_iconst C (4) dL_desk_461 (by decide) ?_
          refine y_callV C [.int (nI k), .int (4 : Int32)] (c_X6_set_4 g B0 l b (stJ 1 X t) (sv_t hv ht1 ht2) k hkn) RX6 2 (wVin q380 q381 q382 q2 q383) hy_X6_set ⟨(Nat.le_of_ble_eq_true rfl), (Nat.le_of_ble_eq_true rfl)⟩ ⟨rfl, rfl⟩ (rcv C.2.2.2.2.2.1 hX.1 rfl) hX (fun _ h => h) rfl rfl (Nat.le_of_ble_eq_true rfl) dL_desk_462 ⟨(Nat.le_of_ble_eq_true rfl), (Nat.le_of_ble_eq_true rfl)⟩ rfl (fun H hp hz hf => ?_)
          have hX := hp
          refine y_top (show _ = ((X.2.2.2 0).1 16 k) from rfl) ?_
          refine y_if_eq C 480 dL_desk_465 (by decide) (fun hb => ?_) (fun hb => ?_)
          · exact y_sub [0, 1, 2, 3, 4, 5, 6, 7] (J4 _ ⟨t, ht1, ht2, hX⟩) rfl
          · refine y_aload_n C 7 dL_desk_468 rfl rfl ?_
            refine y_iload C 3 dL_desk_469 rfl ?_
            refine y_iconst C (3) dL_desk_471 (by decide) ?_
            refine y_callV C [.int (nI k), .int (3 : Int32)] (c_X6_set_3 g B0 l b (stJ 1 X t) (sv_t hv ht1 ht2) k hkn) RX6 2 (wVin q380 q381 q382 q2 q383) hy_X6_set ⟨(Nat.le_of_ble_eq_true rfl), (Nat.le_of_ble_eq_true rfl)⟩ ⟨rfl, rfl⟩ (rcv C.2.2.2.2.2.1 hX.1 rfl) hX (fun _ h => h) rfl rfl (Nat.le_of_ble_eq_true rfl) dL_desk_472 ⟨(Nat.le_of_ble_eq_true rfl), (Nat.le_of_ble_eq_true rfl)⟩ rfl (fun H hp hz hf => ?_)
            have hX := hp
            refine y_top (show _ = ((X.2.2.2 0).1 15 k) from rfl) ?_
            refine y_iload C 1 dL_desk_475 rfl ?_
            refine y_icmp_ne C 512 dL_desk_477 (by decide) (fun h => absurd (g10 hb) h) (fun _ => ?_)
            exact y_sub [0, 1, 2, 3, 4, 5, 6, 7] (J4 _ ⟨t, ht1, ht2, hX⟩) rfl
        intro  H hd
        obtain ⟨t, ht1, ht2, hX⟩ := hd
        refine y_iload C 2 dL_desk_480 rfl ?_
        refine y_if_ne C 489 dL_desk_482 (by decide) (fun _ => ?_) (fun h => absurd h (by decide))
        refine y_iconst C (0) dL_desk_489 (by decide) ?_
        refine y_aload_n C 7 dL_desk_490 rfl rfl ?_
        refine y_iload C 3 dL_desk_491 rfl ?_
        refine y_iconst C (2) dL_desk_493 (by decide) ?_
        refine y_callV C [.int (nI k), .int (2 : Int32)] (c_X6_set_2 g B0 l b (stJ 1 X t) (sv_t hv ht1 ht2) k hkn) RX6 2 (wVin q380 q381 q382 q2 q383) hy_X6_set ⟨(Nat.le_of_ble_eq_true rfl), (Nat.le_of_ble_eq_true rfl)⟩ ⟨rfl, rfl⟩ (rcv C.2.2.2.2.2.1 hX.1 rfl) hX (fun _ h => h) rfl rfl (Nat.le_of_ble_eq_true rfl) dL_desk_494 ⟨(Nat.le_of_ble_eq_true rfl), (Nat.le_of_ble_eq_true rfl)⟩ rfl (fun H hp hz hf => ?_)
        have hX := hp
        refine y_top (show _ = ((X.2.2.2 0).1 14 k) from rfl) ?_
        refine y_if_ne C 504 dL_desk_497 (by decide) (fun _ => ?_) (fun h => absurd h (g11.2 (by rw [es]; decide)))
        refine y_iconst C (0) dL_desk_504 (by decide) ?_
        refine y_icmp_ne C 512 dL_desk_505 (by decide) (fun h => absurd rfl h) (fun _ => ?_)
        refine y_iconst C (1) dL_desk_508 (by decide) ?_
        refine y_goto C 513 dL_desk_509 (by decide) ?_
        refine y_istore_n C dL_desk_513 rfl (by decide) rfl ?_
        refine y_iload_n C 0 dL_desk_514 rfl rfl ?_
        refine y_if_eq C 592 dL_desk_515 (by decide) (fun h => absurd h (by decide)) (fun _ => ?_)
        refine y_iload C 3 dL_desk_518 rfl ?_
        refine y_iconst C (2) dL_desk_520 (by decide) ?_
        refine y_icmp_eq C 535 dL_desk_521 (by decide) (fun h => absurd h (by decide)) (fun _ => ?_)
        refine y_aload_n C 7 dL_desk_524 rfl rfl ?_
        refine y_iload C 4 dL_desk_525 rfl ?_
        refine y_callV C [.int (nI k)] (c_X6_lacks g B0 l b (stJ 1 X t) (sv_t hv ht1 ht2) k hkn) RX6 1 (wVin q417 q418 q419 q2 q420) hy_X6_lacks ⟨(Nat.le_of_ble_eq_true rfl), (Nat.le_of_ble_eq_true rfl)⟩ ⟨rfl, rfl⟩ (rcv C.2.2.2.2.2.1 hX.1 rfl) hX (fun _ h => h) rfl rfl (Nat.le_of_ble_eq_true rfl) dL_desk_527 ⟨(Nat.le_of_ble_eq_true rfl), (Nat.le_of_ble_eq_true rfl)⟩ rfl (fun H hp hz hf => ?_)
        have hX := hp
        refine y_top (show _ = (tLks (X.2.2.2 0) k) from rfl) ?_
        refine y_bipush C (-5) dL_desk_530 (by decide) ?_
        refine y_icmp_ne C 592 dL_desk_532 (by decide) (fun h => absurd (show tLks (X.2.2.2 0) k = -5 by rw [tLks, if_neg (by rw [es]; decide)]) h) (fun _ => ?_)
        refine y_iload C 3 dL_desk_535 rfl ?_
        refine y_iconst C (2) dL_desk_537 (by decide) ?_
        refine y_icmp_eq C 558 dL_desk_538 (by decide) (fun h => absurd h (by decide)) (fun _ => ?_)
        refine y_iload C 3 dL_desk_541 rfl ?_
        refine y_iconst C (3) dL_desk_543 (by decide) ?_
        refine y_icmp_eq C 558 dL_desk_544 (by decide) (fun _ => ?_) (fun h => absurd rfl h)
        refine y_aload_n C 7 dL_desk_558 rfl rfl ?_
        refine y_iload C 4 dL_desk_559 rfl ?_
        refine y_callV C [.int (nI k)] (c_X6_waitsFor g B0 l b (stJ 1 X t) (sv_t hv ht1 ht2) k hkn) RX6 1 (wVin q422 q423 q424 q2 q425) hy_X6_waitsFor ⟨(Nat.le_of_ble_eq_true rfl), (Nat.le_of_ble_eq_true rfl)⟩ ⟨rfl, rfl⟩ (rcv C.2.2.2.2.2.1 hX.1 rfl) hX (fun _ h => h) rfl rfl (Nat.le_of_ble_eq_true rfl) dL_desk_561 ⟨(Nat.le_of_ble_eq_true rfl), (Nat.le_of_ble_eq_true rfl)⟩ rfl (fun H hp hz hf => ?_)
        have hX := hp
        refine y_top (show _ = (tWt (X.2.2.2 0) k) from rfl) ?_
        refine y_bipush C (-5) dL_desk_564 (by decide) ?_
        refine y_icmp_ne C 573 dL_desk_566 (by decide) (fun _ => ?_) (fun h => absurd h (tWt_ne (by rw [es]; decide)))
        refine y_iconst C (0) dL_desk_573 (by decide) ?_
        refine y_iload C 3 dL_desk_574 rfl ?_
        refine y_iconst C (5) dL_desk_576 (by decide) ?_
        refine y_icmp_le C 584 dL_desk_577 (by decide) (fun _ => ?_) (fun h => absurd (by decide) h)
        refine y_iconst C (0) dL_desk_584 (by decide) ?_
        refine y_icmp_ne C 592 dL_desk_585 (by decide) (fun h => absurd rfl h) (fun _ => ?_)
        refine y_iconst C (1) dL_desk_588 (by decide) ?_
        refine y_goto C 593 dL_desk_589 (by decide) ?_
        refine y_istore_n C dL_desk_593 rfl (by decide) rfl ?_
        refine y_iinc C 4 (nI (k + 1)) dL_desk_594 rfl (nI_succ _).symm (by decide) rfl ?_
        refine y_goto C 194 dL_desk_597 (by decide) ?_
        exact y_sub [0, 1, 5, 6, 7] (ih (k + 1) (by omega) _ _ hle1 hdn1 H ⟨t, ht1, ht2, hX⟩) rfl
      · suffices J2 : ∀ lent1 dn1 : Int32, lent1 = wlo (X.2.2.2 0) (k + 1) → dn1 = dnn (X.2.2.2 0) (k + 1) → ∀ H : Heap, sXt g b X H → Yx (iv b 152) pr l e rm_L_desk s m args below meth c 8 0 0 (MQ below (Qx (some (.int 1)) (sXt g b X) (iv b 152)) args s 0 0 (iv b 152)) [(7, .int (1 : Int32)), (6, .int (tHF (fl (X.2.2.2 0) k))), (5, .int (4 : Int32)), (4, .int (nI k)), (3, .int (1 : Int32)), (2, .int dn1), (1, .int lent1), (0, .ref b)] H 279 [] from by
          refine y_aload_n C 4 dL_desk_208 rfl rfl ?_
          refine y_iload C 0 dL_desk_209 rfl ?_
          refine y_bipush C (6) dL_desk_211 (by decide) ?_
          refine y_callV C [.int (nI k), .int (6 : Int32)] (c_X6_set_6 g B0 l b (stJ 1 X t) (sv_t hv ht1 ht2) k hkn) RX6 2 (wVin q380 q381 q382 q2 q383) hy_X6_set ⟨(Nat.le_of_ble_eq_true rfl), (Nat.le_of_ble_eq_true rfl)⟩ ⟨rfl, rfl⟩ (rcv C.2.2.2.2.2.1 hX.1 rfl) hX (fun _ h => h) rfl rfl (Nat.le_of_ble_eq_true rfl) dL_desk_213 ⟨(Nat.le_of_ble_eq_true rfl), (Nat.le_of_ble_eq_true rfl)⟩ rfl (fun H hp hz hf => ?_)
          have hX := hp
          refine y_top (show _ = ((X.2.2.2 0).1 18 k) from rfl) ?_
          refine y_top es ?_
          refine y_istore C dL_desk_216 (by decide) rfl ?_
          refine y_aload_n C 5 dL_desk_218 rfl rfl ?_
          refine y_iload C 1 dL_desk_219 rfl ?_
          refine y_iconst C (0) dL_desk_221 (by decide) ?_
          refine y_callV C [.int (nI k), .int (0 : Int32)] (c_X6_set_0 g B0 l b (stJ 1 X t) (sv_t hv ht1 ht2) k hkn) RX6 2 (wVin q380 q381 q382 q2 q383) hy_X6_set ⟨(Nat.le_of_ble_eq_true rfl), (Nat.le_of_ble_eq_true rfl)⟩ ⟨rfl, rfl⟩ (rcv C.2.2.2.2.2.1 hX.1 rfl) hX (fun _ h => h) rfl rfl (Nat.le_of_ble_eq_true rfl) dL_desk_222 ⟨(Nat.le_of_ble_eq_true rfl), (Nat.le_of_ble_eq_true rfl)⟩ rfl (fun H hp hz hf => ?_)
          have hX := hp
          refine y_top (show _ = ((X.2.2.2 0).1 12 k) from rfl) ?_
          refine y_top ((hv.2 0 (by decide)).1.2.2.1 _ hkn).1 ?_
          refine y_callS C [.int (nI (fl (X.2.2.2 0) k))] (c_L_hours g B0 l (fl (X.2.2.2 0) k) ((hv.2 0 (by decide)).1.2.2.1 _ hkn).2) 1 (wSin q414 q415 q125 q416) hs_L_hours ⟨(Nat.le_of_ble_eq_true rfl), (Nat.le_of_ble_eq_true rfl)⟩ ⟨rfl, rfl⟩ trivial nF.no rfl rfl (Nat.le_of_ble_eq_true rfl) dL_desk_225 ⟨(Nat.le_of_ble_eq_true rfl), (Nat.le_of_ble_eq_true rfl)⟩ rfl (fun H hp hz hf => ?_)
          have hX := sys.fr (A1 := nF) hX hf (fun _ _ z => z)
          refine y_istore C dL_desk_228 (by decide) rfl ?_
          refine y_iload C 1 dL_desk_230 rfl ?_
          refine y_iconst C (4) dL_desk_232 (by decide) ?_
          refine y_icmp_eq C 242 dL_desk_233 (by decide) (fun _ => ?_) (fun h => absurd rfl h)
          refine y_iconst C (1) dL_desk_242 (by decide) ?_
          refine y_goto C 247 dL_desk_243 (by decide) ?_
          refine y_istore C dL_desk_247 (by decide) rfl ?_
          refine y_iload_n C 6 dL_desk_249 rfl rfl ?_
          refine y_aload_n C 7 dL_desk_250 rfl rfl ?_
          refine y_iload C 3 dL_desk_251 rfl ?_
          refine y_iconst C (5) dL_desk_253 (by decide) ?_
          refine y_callV C [.int (nI k), .int (5 : Int32)] (c_X6_set_5 g B0 l b (stJ 1 X t) (sv_t hv ht1 ht2) k hkn) RX6 2 (wVin q380 q381 q382 q2 q383) hy_X6_set ⟨(Nat.le_of_ble_eq_true rfl), (Nat.le_of_ble_eq_true rfl)⟩ ⟨rfl, rfl⟩ (rcv C.2.2.2.2.2.1 hX.1 rfl) hX (fun _ h => h) rfl rfl (Nat.le_of_ble_eq_true rfl) dL_desk_254 ⟨(Nat.le_of_ble_eq_true rfl), (Nat.le_of_ble_eq_true rfl)⟩ rfl (fun H hp hz hf => ?_)
          have hX := hp
          refine y_top (show _ = ((X.2.2.2 0).1 17 k) from rfl) ?_
          refine y_iadd C dL_desk_257 ?_
          refine y_istore_n C dL_desk_258 rfl (by decide) rfl ?_
          refine y_iload_n C 6 dL_desk_259 rfl rfl ?_
          refine y_aload_n C 7 dL_desk_260 rfl rfl ?_
          refine y_iload C 4 dL_desk_261 rfl ?_
          refine y_iconst C (3) dL_desk_263 (by decide) ?_
          refine y_callV C [.int (nI k), .int (3 : Int32)] (c_X6_set_3 g B0 l b (stJ 1 X t) (sv_t hv ht1 ht2) k hkn) RX6 2 (wVin q380 q381 q382 q2 q383) hy_X6_set ⟨(Nat.le_of_ble_eq_true rfl), (Nat.le_of_ble_eq_true rfl)⟩ ⟨rfl, rfl⟩ (rcv C.2.2.2.2.2.1 hX.1 rfl) hX (fun _ h => h) rfl rfl (Nat.le_of_ble_eq_true rfl) dL_desk_264 ⟨(Nat.le_of_ble_eq_true rfl), (Nat.le_of_ble_eq_true rfl)⟩ rfl (fun H hp hz hf => ?_)
          have hX := hp
          refine y_top (show _ = ((X.2.2.2 0).1 15 k) from rfl) ?_
          refine y_iload C 2 dL_desk_267 rfl ?_
          refine y_icmp_ne C 276 dL_desk_269 (by decide) (fun hw => ?_) (fun hw => ?_)
          · refine y_iconst C (0) dL_desk_276 (by decide) ?_
            refine y_iadd C dL_desk_277 ?_
            refine y_istore_n C dL_desk_278 rfl (by decide) rfl ?_
            exact y_sub [2, 3, 4, 5, 6, 0, 1, 7] (J2 _ _ (by rw [wlo, hle]) (by rw [dnn, if_neg hw, hdn, Int32.add_zero]) _ ⟨t, ht1, ht2, hX⟩) rfl
          · refine y_iconst C (1) dL_desk_272 (by decide) ?_
            refine y_goto C 277 dL_desk_273 (by decide) ?_
            refine y_iadd C dL_desk_277 ?_
            refine y_istore_n C dL_desk_278 rfl (by decide) rfl ?_
            exact y_sub [2, 3, 4, 5, 6, 0, 1, 7] (J2 _ _ (by rw [wlo, hle]) (by rw [dnn, if_pos hw, hdn]) _ ⟨t, ht1, ht2, hX⟩) rfl
        intro lent1 dn1 hle1 hdn1 H hd
        obtain ⟨t, ht1, ht2, hX⟩ := hd
        suffices J3 :  ∀ H : Heap, sXt g b X H → Yx (iv b 152) pr l e rm_L_desk s m args below meth c 8 0 0 (MQ below (Qx (some (.int 1)) (sXt g b X) (iv b 152)) args s 0 0 (iv b 152)) [(7, .int (1 : Int32)), (6, .int (tHF (fl (X.2.2.2 0) k))), (5, .int (4 : Int32)), (4, .int (nI k)), (3, .int (1 : Int32)), (2, .int dn1), (1, .int lent1), (0, .ref b)] H 448 [] from by
          refine y_iload C 2 dL_desk_279 rfl ?_
          refine y_if_lt C 374 dL_desk_281 (by decide) (fun h => absurd h (by decide)) (fun _ => ?_)
          refine y_iload C 2 dL_desk_284 rfl ?_
          refine y_bipush C (8) dL_desk_286 (by decide) ?_
          refine y_icmp_ge C 374 dL_desk_288 (by decide) (fun h => absurd h (by decide)) (fun _ => ?_)
          refine y_aload_n C 7 dL_desk_291 rfl rfl ?_
          refine y_iload C 3 dL_desk_292 rfl ?_
          refine y_iconst C (3) dL_desk_294 (by decide) ?_
          refine y_callV C [.int (nI k), .int (3 : Int32)] (c_X6_set_3 g B0 l b (stJ 1 X t) (sv_t hv ht1 ht2) k hkn) RX6 2 (wVin q380 q381 q382 q2 q383) hy_X6_set ⟨(Nat.le_of_ble_eq_true rfl), (Nat.le_of_ble_eq_true rfl)⟩ ⟨rfl, rfl⟩ (rcv C.2.2.2.2.2.1 hX.1 rfl) hX (fun _ h => h) rfl rfl (Nat.le_of_ble_eq_true rfl) dL_desk_295 ⟨(Nat.le_of_ble_eq_true rfl), (Nat.le_of_ble_eq_true rfl)⟩ rfl (fun H hp hz hf => ?_)
          have hX := hp
          refine y_top (show _ = ((X.2.2.2 0).1 15 k) from rfl) ?_
          refine y_iload C 1 dL_desk_298 rfl ?_
          refine y_icmp_gt C 374 dL_desk_300 (by decide) (fun h => absurd h g1) (fun _ => ?_)
          refine y_iload C 2 dL_desk_303 rfl ?_
          refine y_iconst C (2) dL_desk_305 (by decide) ?_
          refine y_icmp_gt C 319 dL_desk_306 (by decide) (fun _ => ?_) (fun h => absurd (by decide) h)
          refine y_iload C 2 dL_desk_319 rfl ?_
          refine y_iconst C (3) dL_desk_321 (by decide) ?_
          refine y_icmp_ne C 337 dL_desk_322 (by decide) (fun _ => ?_) (fun h => absurd h (by decide))
          refine y_iload C 2 dL_desk_337 rfl ?_
          refine y_iconst C (4) dL_desk_339 (by decide) ?_
          refine y_icmp_ne C 355 dL_desk_340 (by decide) (fun h => absurd rfl h) (fun _ => ?_)
          refine y_aload_n C 7 dL_desk_343 rfl rfl ?_
          refine y_iload C 3 dL_desk_344 rfl ?_
          refine y_iconst C (3) dL_desk_346 (by decide) ?_
          refine y_callV C [.int (nI k), .int (3 : Int32)] (c_X6_set_3 g B0 l b (stJ 1 X t) (sv_t hv ht1 ht2) k hkn) RX6 2 (wVin q380 q381 q382 q2 q383) hy_X6_set ⟨(Nat.le_of_ble_eq_true rfl), (Nat.le_of_ble_eq_true rfl)⟩ ⟨rfl, rfl⟩ (rcv C.2.2.2.2.2.1 hX.1 rfl) hX (fun _ h => h) rfl rfl (Nat.le_of_ble_eq_true rfl) dL_desk_347 ⟨(Nat.le_of_ble_eq_true rfl), (Nat.le_of_ble_eq_true rfl)⟩ rfl (fun H hp hz hf => ?_)
          have hX := hp
          refine y_top (show _ = ((X.2.2.2 0).1 15 k) from rfl) ?_
          refine y_iload C 1 dL_desk_350 rfl ?_
          refine y_icmp_ne C 374 dL_desk_352 (by decide) (fun h => absurd (g4 es) h) (fun _ => ?_)
          refine y_aload_n C 7 dL_desk_355 rfl rfl ?_
          refine y_iload C 3 dL_desk_356 rfl ?_
          refine y_iconst C (1) dL_desk_358 (by decide) ?_
          refine y_callV C [.int (nI k), .int (1 : Int32)] (c_X6_set_1 g B0 l b (stJ 1 X t) (sv_t hv ht1 ht2) k hkn) RX6 2 (wVin q380 q381 q382 q2 q383) hy_X6_set ⟨(Nat.le_of_ble_eq_true rfl), (Nat.le_of_ble_eq_true rfl)⟩ ⟨rfl, rfl⟩ (rcv C.2.2.2.2.2.1 hX.1 rfl) hX (fun _ h => h) rfl rfl (Nat.le_of_ble_eq_true rfl) dL_desk_359 ⟨(Nat.le_of_ble_eq_true rfl), (Nat.le_of_ble_eq_true rfl)⟩ rfl (fun H hp hz hf => ?_)
          have hX := hp
          refine y_top (show _ = ((X.2.2.2 0).1 13 k) from rfl) ?_
          refine y_aload_n C 7 dL_desk_362 rfl rfl ?_
          refine y_iconst C (0) dL_desk_363 (by decide) ?_
          refine y_callV C [.int (0 : Int32)] (c_X6_count_0 g B0 l b (stJ 1 X t) (sv_t hv ht1 ht2)) RX6 1 (wVin q92 q93 q94 q2 q95) hy_X6_count ⟨(Nat.le_of_ble_eq_true rfl), (Nat.le_of_ble_eq_true rfl)⟩ ⟨rfl, rfl⟩ (rcv C.2.2.2.2.2.1 hX.1 rfl) hX (fun _ h => h) rfl rfl (Nat.le_of_ble_eq_true rfl) dL_desk_364 ⟨(Nat.le_of_ble_eq_true rfl), (Nat.le_of_ble_eq_true rfl)⟩ rfl (fun H hp hz hf => ?_)
          have hX := hp
          refine y_top (show _ = ((X.2.2.2 0).1 0 0) from rfl) ?_
          refine y_icmp_gt C 374 dL_desk_367 (by decide) (fun h => absurd h g5) (fun _ => ?_)
          refine y_iconst C (1) dL_desk_370 (by decide) ?_
          refine y_goto C 375 dL_desk_371 (by decide) ?_
          refine y_istore_n C dL_desk_375 rfl (by decide) rfl ?_
          refine y_iload_n C 0 dL_desk_376 rfl rfl ?_
          refine y_if_eq C 512 dL_desk_377 (by decide) (fun h => absurd h (by decide)) (fun _ => ?_)
          refine y_aload_n C 7 dL_desk_380 rfl rfl ?_
          refine y_iload C 4 dL_desk_381 rfl ?_
          refine y_bipush C (7) dL_desk_383 (by decide) ?_
          refine y_callV C [.int (nI k), .int (7 : Int32)] (c_X6_set_7 g B0 l b (stJ 1 X t) (sv_t hv ht1 ht2) k hkn) RX6 2 (wVin q380 q381 q382 q2 q383) hy_X6_set ⟨(Nat.le_of_ble_eq_true rfl), (Nat.le_of_ble_eq_true rfl)⟩ ⟨rfl, rfl⟩ (rcv C.2.2.2.2.2.1 hX.1 rfl) hX (fun _ h => h) rfl rfl (Nat.le_of_ble_eq_true rfl) dL_desk_385 ⟨(Nat.le_of_ble_eq_true rfl), (Nat.le_of_ble_eq_true rfl)⟩ rfl (fun H hp hz hf => ?_)
          have hX := hp
          refine y_top (show _ = ((X.2.2.2 0).1 19 k) from rfl) ?_
          refine y_if_lt C 395 dL_desk_388 (by decide) (fun h => absurd h (g6.1 (by rw [es]; decide))) (fun _ => ?_)
          refine y_iconst C (1) dL_desk_391 (by decide) ?_
          refine y_goto C 396 dL_desk_392 (by decide) ?_
          refine y_iload C 3 dL_desk_396 rfl ?_
          refine y_iconst C (3) dL_desk_398 (by decide) ?_
          refine y_icmp_le C 406 dL_desk_399 (by decide) (fun h => absurd h (by decide)) (fun _ => ?_)
          refine y_iconst C (1) dL_desk_402 (by decide) ?_
          refine y_goto C 407 dL_desk_403 (by decide) ?_
          refine y_icmp_ne C 512 dL_desk_407 (by decide) (fun h => absurd rfl h) (fun _ => ?_)
          refine y_aload_n C 7 dL_desk_410 rfl rfl ?_
          refine y_iload C 4 dL_desk_411 rfl ?_
          refine y_bipush C (8) dL_desk_413 (by decide) ?_
          refine y_callV C [.int (nI k), .int (8 : Int32)] (c_X6_set_8 g B0 l b (stJ 1 X t) (sv_t hv ht1 ht2) k hkn) RX6 2 (wVin q380 q381 q382 q2 q383) hy_X6_set ⟨(Nat.le_of_ble_eq_true rfl), (Nat.le_of_ble_eq_true rfl)⟩ ⟨rfl, rfl⟩ (rcv C.2.2.2.2.2.1 hX.1 rfl) hX (fun _ h => h) rfl rfl (Nat.le_of_ble_eq_true rfl) dL_desk_415 ⟨(Nat.le_of_ble_eq_true rfl), (Nat.le_of_ble_eq_true rfl)⟩ rfl (fun H hp hz hf => ?_)
          have hX := hp
          refine y_top (show _ = (tFee (X.2.2.2 0) k) from rfl) ?_
          refine y_if_lt C 425 dL_desk_418 (by decide) (fun h => absurd h (g7 (by rw [es]; decide))) (fun _ => ?_)
          refine y_iconst C (1) dL_desk_421 (by decide) ?_
          refine y_goto C 426 dL_desk_422 (by decide) ?_
          refine y_iload C 1 dL_desk_426 rfl ?_
          refine y_icmp_ne C 512 dL_desk_428 (by decide) (fun h => absurd rfl h) (fun _ => ?_)
          refine y_aload_n C 7 dL_desk_431 rfl rfl ?_
          refine y_iload C 4 dL_desk_432 rfl ?_
          refine y_iconst C (5) dL_desk_434 (by decide) ?_
          refine y_callV C [.int (nI k), .int (5 : Int32)] (c_X6_set_5 g B0 l b (stJ 1 X t) (sv_t hv ht1 ht2) k hkn) RX6 2 (wVin q380 q381 q382 q2 q383) hy_X6_set ⟨(Nat.le_of_ble_eq_true rfl), (Nat.le_of_ble_eq_true rfl)⟩ ⟨rfl, rfl⟩ (rcv C.2.2.2.2.2.1 hX.1 rfl) hX (fun _ h => h) rfl rfl (Nat.le_of_ble_eq_true rfl) dL_desk_435 ⟨(Nat.le_of_ble_eq_true rfl), (Nat.le_of_ble_eq_true rfl)⟩ rfl (fun H hp hz hf => ?_)
          have hX := hp
          refine y_top (show _ = ((X.2.2.2 0).1 17 k) from rfl) ?_
          refine y_if_eq C 448 dL_desk_438 (by decide) (fun hlo => ?_) (fun hlo => ?_)
          · exact y_sub [1, 2, 3, 4, 0, 5, 6, 7] (J3 _ ⟨t, ht1, ht2, hX⟩) rfl
          · refine y_iload C 3 dL_desk_441 rfl ?_
            refine y_bipush C (6) dL_desk_443 (by decide) ?_
            refine y_icmp_ge C 512 dL_desk_445 (by decide) (fun h => absurd h (by decide)) (fun _ => ?_)
            exact y_sub [1, 2, 3, 4, 0, 5, 6, 7] (J3 _ ⟨t, ht1, ht2, hX⟩) rfl
        intro  H hd
        obtain ⟨t, ht1, ht2, hX⟩ := hd
        suffices J4 :  ∀ H : Heap, sXt g b X H → Yx (iv b 152) pr l e rm_L_desk s m args below meth c 8 0 0 (MQ below (Qx (some (.int 1)) (sXt g b X) (iv b 152)) args s 0 0 (iv b 152)) [(7, .int (1 : Int32)), (6, .int (tHF (fl (X.2.2.2 0) k))), (5, .int (4 : Int32)), (4, .int (nI k)), (3, .int (1 : Int32)), (2, .int dn1), (1, .int lent1), (0, .ref b)] H 480 [] from by
          refine y_aload_n C 7 dL_desk_448 rfl rfl ?_
          refine y_iload C 3 dL_desk_449 rfl ?_
          refine y_iconst C (4) dL_desk_451 (by decide) ?_
          refine y_callV C [.int (nI k), .int (4 : Int32)] (c_X6_set_4 g B0 l b (stJ 1 X t) (sv_t hv ht1 ht2) k hkn) RX6 2 (wVin q380 q381 q382 q2 q383) hy_X6_set ⟨(Nat.le_of_ble_eq_true rfl), (Nat.le_of_ble_eq_true rfl)⟩ ⟨rfl, rfl⟩ (rcv C.2.2.2.2.2.1 hX.1 rfl) hX (fun _ h => h) rfl rfl (Nat.le_of_ble_eq_true rfl) dL_desk_452 ⟨(Nat.le_of_ble_eq_true rfl), (Nat.le_of_ble_eq_true rfl)⟩ rfl (fun H hp hz hf => ?_)
          have hX := hp
          refine y_top (show _ = ((X.2.2.2 0).1 16 k) from rfl) ?_
          refine y_if_lt C 512 dL_desk_455 (by decide) (fun h => absurd h g9) (fun _ => ?_)
          refine y_aload_n C 7 dL_desk_458 rfl rfl ?_
          refine y_iload C 3 dL_desk_459 rfl ?_
          refine y_iconst C (4) dL_desk_461 (by decide) ?_
          refine y_callV C [.int (nI k), .int (4 : Int32)] (c_X6_set_4 g B0 l b (stJ 1 X t) (sv_t hv ht1 ht2) k hkn) RX6 2 (wVin q380 q381 q382 q2 q383) hy_X6_set ⟨(Nat.le_of_ble_eq_true rfl), (Nat.le_of_ble_eq_true rfl)⟩ ⟨rfl, rfl⟩ (rcv C.2.2.2.2.2.1 hX.1 rfl) hX (fun _ h => h) rfl rfl (Nat.le_of_ble_eq_true rfl) dL_desk_462 ⟨(Nat.le_of_ble_eq_true rfl), (Nat.le_of_ble_eq_true rfl)⟩ rfl (fun H hp hz hf => ?_)
          have hX := hp
          refine y_top (show _ = ((X.2.2.2 0).1 16 k) from rfl) ?_
          refine y_if_eq C 480 dL_desk_465 (by decide) (fun hb => ?_) (fun hb => ?_)
          · exact y_sub [0, 1, 2, 3, 4, 5, 6, 7] (J4 _ ⟨t, ht1, ht2, hX⟩) rfl
          · refine y_aload_n C 7 dL_desk_468 rfl rfl ?_
            refine y_iload C 3 dL_desk_469 rfl ?_
            refine y_iconst C (3) dL_desk_471 (by decide) ?_
            refine y_callV C [.int (nI k), .int (3 : Int32)] (c_X6_set_3 g B0 l b (stJ 1 X t) (sv_t hv ht1 ht2) k hkn) RX6 2 (wVin q380 q381 q382 q2 q383) hy_X6_set ⟨(Nat.le_of_ble_eq_true rfl), (Nat.le_of_ble_eq_true rfl)⟩ ⟨rfl, rfl⟩ (rcv C.2.2.2.2.2.1 hX.1 rfl) hX (fun _ h => h) rfl rfl (Nat.le_of_ble_eq_true rfl) dL_desk_472 ⟨(Nat.le_of_ble_eq_true rfl), (Nat.le_of_ble_eq_true rfl)⟩ rfl (fun H hp hz hf => ?_)
            have hX := hp
            refine y_top (show _ = ((X.2.2.2 0).1 15 k) from rfl) ?_
            refine y_iload C 1 dL_desk_475 rfl ?_
            refine y_icmp_ne C 512 dL_desk_477 (by decide) (fun h => absurd (g10 hb) h) (fun _ => ?_)
            exact y_sub [0, 1, 2, 3, 4, 5, 6, 7] (J4 _ ⟨t, ht1, ht2, hX⟩) rfl
        intro  H hd
        obtain ⟨t, ht1, ht2, hX⟩ := hd
        refine y_iload C 2 dL_desk_480 rfl ?_
        refine y_if_ne C 489 dL_desk_482 (by decide) (fun _ => ?_) (fun h => absurd h (by decide))
        refine y_iconst C (0) dL_desk_489 (by decide) ?_
        refine y_aload_n C 7 dL_desk_490 rfl rfl ?_
        refine y_iload C 3 dL_desk_491 rfl ?_
        refine y_iconst C (2) dL_desk_493 (by decide) ?_
        refine y_callV C [.int (nI k), .int (2 : Int32)] (c_X6_set_2 g B0 l b (stJ 1 X t) (sv_t hv ht1 ht2) k hkn) RX6 2 (wVin q380 q381 q382 q2 q383) hy_X6_set ⟨(Nat.le_of_ble_eq_true rfl), (Nat.le_of_ble_eq_true rfl)⟩ ⟨rfl, rfl⟩ (rcv C.2.2.2.2.2.1 hX.1 rfl) hX (fun _ h => h) rfl rfl (Nat.le_of_ble_eq_true rfl) dL_desk_494 ⟨(Nat.le_of_ble_eq_true rfl), (Nat.le_of_ble_eq_true rfl)⟩ rfl (fun H hp hz hf => ?_)
        have hX := hp
        refine y_top (show _ = ((X.2.2.2 0).1 14 k) from rfl) ?_
        refine y_if_ne C 504 dL_desk_497 (by decide) (fun _ => ?_) (fun h => absurd h (g11.2 (by rw [es]; decide)))
        refine y_iconst C (0) dL_desk_504 (by decide) ?_
        refine y_icmp_ne C 512 dL_desk_505 (by decide) (fun h => absurd rfl h) (fun _ => ?_)
        refine y_iconst C (1) dL_desk_508 (by decide) ?_
        refine y_goto C 513 dL_desk_509 (by decide) ?_
        refine y_istore_n C dL_desk_513 rfl (by decide) rfl ?_
        refine y_iload_n C 0 dL_desk_514 rfl rfl ?_
        refine y_if_eq C 592 dL_desk_515 (by decide) (fun h => absurd h (by decide)) (fun _ => ?_)
        refine y_iload C 3 dL_desk_518 rfl ?_
        refine y_iconst C (2) dL_desk_520 (by decide) ?_
        refine y_icmp_eq C 535 dL_desk_521 (by decide) (fun h => absurd h (by decide)) (fun _ => ?_)
        refine y_aload_n C 7 dL_desk_524 rfl rfl ?_
        refine y_iload C 4 dL_desk_525 rfl ?_
        refine y_callV C [.int (nI k)] (c_X6_lacks g B0 l b (stJ 1 X t) (sv_t hv ht1 ht2) k hkn) RX6 1 (wVin q417 q418 q419 q2 q420) hy_X6_lacks ⟨(Nat.le_of_ble_eq_true rfl), (Nat.le_of_ble_eq_true rfl)⟩ ⟨rfl, rfl⟩ (rcv C.2.2.2.2.2.1 hX.1 rfl) hX (fun _ h => h) rfl rfl (Nat.le_of_ble_eq_true rfl) dL_desk_527 ⟨(Nat.le_of_ble_eq_true rfl), (Nat.le_of_ble_eq_true rfl)⟩ rfl (fun H hp hz hf => ?_)
        have hX := hp
        refine y_top (show _ = (tLks (X.2.2.2 0) k) from rfl) ?_
        refine y_bipush C (-5) dL_desk_530 (by decide) ?_
        refine y_icmp_ne C 592 dL_desk_532 (by decide) (fun h => absurd (show tLks (X.2.2.2 0) k = -5 by rw [tLks, if_neg (by rw [es]; decide)]) h) (fun _ => ?_)
        refine y_iload C 3 dL_desk_535 rfl ?_
        refine y_iconst C (2) dL_desk_537 (by decide) ?_
        refine y_icmp_eq C 558 dL_desk_538 (by decide) (fun h => absurd h (by decide)) (fun _ => ?_)
        refine y_iload C 3 dL_desk_541 rfl ?_
        refine y_iconst C (3) dL_desk_543 (by decide) ?_
        refine y_icmp_eq C 558 dL_desk_544 (by decide) (fun h => absurd h (by decide)) (fun _ => ?_)
        refine y_aload_n C 7 dL_desk_547 rfl rfl ?_
        refine y_iload C 4 dL_desk_548 rfl ?_
        refine y_callV C [.int (nI k)] (c_X6_doneIn g B0 l b (stJ 1 X t) (sv_t hv ht1 ht2) k (by have := (hv.2 0 (by decide)).1.2.1.2; omega)) RX6 1 (wVin q132 q133 q134 q2 q135) hy_X6_doneIn ⟨(Nat.le_of_ble_eq_true rfl), (Nat.le_of_ble_eq_true rfl)⟩ ⟨rfl, rfl⟩ (rcv C.2.2.2.2.2.1 hX.1 rfl) hX (fun _ h => h) rfl rfl (Nat.le_of_ble_eq_true rfl) dL_desk_550 ⟨(Nat.le_of_ble_eq_true rfl), (Nat.le_of_ble_eq_true rfl)⟩ rfl (fun H hp hz hf => ?_)
        obtain ⟨t2, ht1, ht2, hX⟩ := hp
        obtain ⟨t, rfl⟩ : ∃ z, z = t2 := ⟨_, rfl⟩
        have hX : sX g b (stJ 1 X t) H := (stJ_uu X _ t) ▸ hX
        refine y_top (show _ = (tDin X k) from rfl) ?_
        refine y_bipush C (-5) dL_desk_553 (by decide) ?_
        refine y_icmp_ne C 592 dL_desk_555 (by decide) (fun h => absurd (show tDin X k = -5 by rw [tDin, if_neg (isS_t hv hkn), if_neg (by rw [es]; decide), if_neg (by rw [es]; decide)]) h) (fun _ => ?_)
        refine y_aload_n C 7 dL_desk_558 rfl rfl ?_
        refine y_iload C 4 dL_desk_559 rfl ?_
        refine y_callV C [.int (nI k)] (c_X6_waitsFor g B0 l b (stJ 1 X t) (sv_t hv ht1 ht2) k hkn) RX6 1 (wVin q422 q423 q424 q2 q425) hy_X6_waitsFor ⟨(Nat.le_of_ble_eq_true rfl), (Nat.le_of_ble_eq_true rfl)⟩ ⟨rfl, rfl⟩ (rcv C.2.2.2.2.2.1 hX.1 rfl) hX (fun _ h => h) rfl rfl (Nat.le_of_ble_eq_true rfl) dL_desk_561 ⟨(Nat.le_of_ble_eq_true rfl), (Nat.le_of_ble_eq_true rfl)⟩ rfl (fun H hp hz hf => ?_)
        have hX := hp
        refine y_top (show _ = (tWt (X.2.2.2 0) k) from rfl) ?_
        refine y_bipush C (-5) dL_desk_564 (by decide) ?_
        refine y_icmp_ne C 573 dL_desk_566 (by decide) (fun _ => ?_) (fun h => absurd h (tWt_ne (by rw [es]; decide)))
        refine y_iconst C (0) dL_desk_573 (by decide) ?_
        refine y_iload C 3 dL_desk_574 rfl ?_
        refine y_iconst C (5) dL_desk_576 (by decide) ?_
        refine y_icmp_le C 584 dL_desk_577 (by decide) (fun _ => ?_) (fun h => absurd (by decide) h)
        refine y_iconst C (0) dL_desk_584 (by decide) ?_
        refine y_icmp_ne C 592 dL_desk_585 (by decide) (fun h => absurd rfl h) (fun _ => ?_)
        refine y_iconst C (1) dL_desk_588 (by decide) ?_
        refine y_goto C 593 dL_desk_589 (by decide) ?_
        refine y_istore_n C dL_desk_593 rfl (by decide) rfl ?_
        refine y_iinc C 4 (nI (k + 1)) dL_desk_594 rfl (nI_succ _).symm (by decide) rfl ?_
        refine y_goto C 194 dL_desk_597 (by decide) ?_
        exact y_sub [0, 1, 5, 6, 7] (ih (k + 1) (by omega) _ _ hle1 hdn1 H ⟨t, ht1, ht2, hX⟩) rfl
      · suffices J2 : ∀ lent1 dn1 : Int32, lent1 = wlo (X.2.2.2 0) (k + 1) → dn1 = dnn (X.2.2.2 0) (k + 1) → ∀ H : Heap, sXt g b X H → Yx (iv b 152) pr l e rm_L_desk s m args below meth c 8 0 0 (MQ below (Qx (some (.int 1)) (sXt g b X) (iv b 152)) args s 0 0 (iv b 152)) [(7, .int (1 : Int32)), (6, .int (tHF (fl (X.2.2.2 0) k))), (5, .int (5 : Int32)), (4, .int (nI k)), (3, .int (1 : Int32)), (2, .int dn1), (1, .int lent1), (0, .ref b)] H 279 [] from by
          refine y_aload_n C 4 dL_desk_208 rfl rfl ?_
          refine y_iload C 0 dL_desk_209 rfl ?_
          refine y_bipush C (6) dL_desk_211 (by decide) ?_
          refine y_callV C [.int (nI k), .int (6 : Int32)] (c_X6_set_6 g B0 l b (stJ 1 X t) (sv_t hv ht1 ht2) k hkn) RX6 2 (wVin q380 q381 q382 q2 q383) hy_X6_set ⟨(Nat.le_of_ble_eq_true rfl), (Nat.le_of_ble_eq_true rfl)⟩ ⟨rfl, rfl⟩ (rcv C.2.2.2.2.2.1 hX.1 rfl) hX (fun _ h => h) rfl rfl (Nat.le_of_ble_eq_true rfl) dL_desk_213 ⟨(Nat.le_of_ble_eq_true rfl), (Nat.le_of_ble_eq_true rfl)⟩ rfl (fun H hp hz hf => ?_)
          have hX := hp
          refine y_top (show _ = ((X.2.2.2 0).1 18 k) from rfl) ?_
          refine y_top es ?_
          refine y_istore C dL_desk_216 (by decide) rfl ?_
          refine y_aload_n C 5 dL_desk_218 rfl rfl ?_
          refine y_iload C 1 dL_desk_219 rfl ?_
          refine y_iconst C (0) dL_desk_221 (by decide) ?_
          refine y_callV C [.int (nI k), .int (0 : Int32)] (c_X6_set_0 g B0 l b (stJ 1 X t) (sv_t hv ht1 ht2) k hkn) RX6 2 (wVin q380 q381 q382 q2 q383) hy_X6_set ⟨(Nat.le_of_ble_eq_true rfl), (Nat.le_of_ble_eq_true rfl)⟩ ⟨rfl, rfl⟩ (rcv C.2.2.2.2.2.1 hX.1 rfl) hX (fun _ h => h) rfl rfl (Nat.le_of_ble_eq_true rfl) dL_desk_222 ⟨(Nat.le_of_ble_eq_true rfl), (Nat.le_of_ble_eq_true rfl)⟩ rfl (fun H hp hz hf => ?_)
          have hX := hp
          refine y_top (show _ = ((X.2.2.2 0).1 12 k) from rfl) ?_
          refine y_top ((hv.2 0 (by decide)).1.2.2.1 _ hkn).1 ?_
          refine y_callS C [.int (nI (fl (X.2.2.2 0) k))] (c_L_hours g B0 l (fl (X.2.2.2 0) k) ((hv.2 0 (by decide)).1.2.2.1 _ hkn).2) 1 (wSin q414 q415 q125 q416) hs_L_hours ⟨(Nat.le_of_ble_eq_true rfl), (Nat.le_of_ble_eq_true rfl)⟩ ⟨rfl, rfl⟩ trivial nF.no rfl rfl (Nat.le_of_ble_eq_true rfl) dL_desk_225 ⟨(Nat.le_of_ble_eq_true rfl), (Nat.le_of_ble_eq_true rfl)⟩ rfl (fun H hp hz hf => ?_)
          have hX := sys.fr (A1 := nF) hX hf (fun _ _ z => z)
          refine y_istore C dL_desk_228 (by decide) rfl ?_
          refine y_iload C 1 dL_desk_230 rfl ?_
          refine y_iconst C (4) dL_desk_232 (by decide) ?_
          refine y_icmp_eq C 242 dL_desk_233 (by decide) (fun h => absurd h (by decide)) (fun _ => ?_)
          refine y_iload C 1 dL_desk_236 rfl ?_
          refine y_iconst C (5) dL_desk_238 (by decide) ?_
          refine y_icmp_ne C 246 dL_desk_239 (by decide) (fun h => absurd rfl h) (fun _ => ?_)
          refine y_iconst C (1) dL_desk_242 (by decide) ?_
          refine y_goto C 247 dL_desk_243 (by decide) ?_
          refine y_istore C dL_desk_247 (by decide) rfl ?_
          refine y_iload_n C 6 dL_desk_249 rfl rfl ?_
          refine y_aload_n C 7 dL_desk_250 rfl rfl ?_
          refine y_iload C 3 dL_desk_251 rfl ?_
          refine y_iconst C (5) dL_desk_253 (by decide) ?_
          refine y_callV C [.int (nI k), .int (5 : Int32)] (c_X6_set_5 g B0 l b (stJ 1 X t) (sv_t hv ht1 ht2) k hkn) RX6 2 (wVin q380 q381 q382 q2 q383) hy_X6_set ⟨(Nat.le_of_ble_eq_true rfl), (Nat.le_of_ble_eq_true rfl)⟩ ⟨rfl, rfl⟩ (rcv C.2.2.2.2.2.1 hX.1 rfl) hX (fun _ h => h) rfl rfl (Nat.le_of_ble_eq_true rfl) dL_desk_254 ⟨(Nat.le_of_ble_eq_true rfl), (Nat.le_of_ble_eq_true rfl)⟩ rfl (fun H hp hz hf => ?_)
          have hX := hp
          refine y_top (show _ = ((X.2.2.2 0).1 17 k) from rfl) ?_
          refine y_iadd C dL_desk_257 ?_
          refine y_istore_n C dL_desk_258 rfl (by decide) rfl ?_
          refine y_iload_n C 6 dL_desk_259 rfl rfl ?_
          refine y_aload_n C 7 dL_desk_260 rfl rfl ?_
          refine y_iload C 4 dL_desk_261 rfl ?_
          refine y_iconst C (3) dL_desk_263 (by decide) ?_
          refine y_callV C [.int (nI k), .int (3 : Int32)] (c_X6_set_3 g B0 l b (stJ 1 X t) (sv_t hv ht1 ht2) k hkn) RX6 2 (wVin q380 q381 q382 q2 q383) hy_X6_set ⟨(Nat.le_of_ble_eq_true rfl), (Nat.le_of_ble_eq_true rfl)⟩ ⟨rfl, rfl⟩ (rcv C.2.2.2.2.2.1 hX.1 rfl) hX (fun _ h => h) rfl rfl (Nat.le_of_ble_eq_true rfl) dL_desk_264 ⟨(Nat.le_of_ble_eq_true rfl), (Nat.le_of_ble_eq_true rfl)⟩ rfl (fun H hp hz hf => ?_)
          have hX := hp
          refine y_top (show _ = ((X.2.2.2 0).1 15 k) from rfl) ?_
          refine y_iload C 2 dL_desk_267 rfl ?_
          refine y_icmp_ne C 276 dL_desk_269 (by decide) (fun hw => ?_) (fun hw => ?_)
          · refine y_iconst C (0) dL_desk_276 (by decide) ?_
            refine y_iadd C dL_desk_277 ?_
            refine y_istore_n C dL_desk_278 rfl (by decide) rfl ?_
            exact y_sub [2, 3, 4, 5, 6, 0, 1, 7] (J2 _ _ (by rw [wlo, hle]) (by rw [dnn, if_neg hw, hdn, Int32.add_zero]) _ ⟨t, ht1, ht2, hX⟩) rfl
          · refine y_iconst C (1) dL_desk_272 (by decide) ?_
            refine y_goto C 277 dL_desk_273 (by decide) ?_
            refine y_iadd C dL_desk_277 ?_
            refine y_istore_n C dL_desk_278 rfl (by decide) rfl ?_
            exact y_sub [2, 3, 4, 5, 6, 0, 1, 7] (J2 _ _ (by rw [wlo, hle]) (by rw [dnn, if_pos hw, hdn]) _ ⟨t, ht1, ht2, hX⟩) rfl
        intro lent1 dn1 hle1 hdn1 H hd
        obtain ⟨t, ht1, ht2, hX⟩ := hd
        suffices J3 :  ∀ H : Heap, sXt g b X H → Yx (iv b 152) pr l e rm_L_desk s m args below meth c 8 0 0 (MQ below (Qx (some (.int 1)) (sXt g b X) (iv b 152)) args s 0 0 (iv b 152)) [(7, .int (1 : Int32)), (6, .int (tHF (fl (X.2.2.2 0) k))), (5, .int (5 : Int32)), (4, .int (nI k)), (3, .int (1 : Int32)), (2, .int dn1), (1, .int lent1), (0, .ref b)] H 448 [] from by
          refine y_iload C 2 dL_desk_279 rfl ?_
          refine y_if_lt C 374 dL_desk_281 (by decide) (fun h => absurd h (by decide)) (fun _ => ?_)
          refine y_iload C 2 dL_desk_284 rfl ?_
          refine y_bipush C (8) dL_desk_286 (by decide) ?_
          refine y_icmp_ge C 374 dL_desk_288 (by decide) (fun h => absurd h (by decide)) (fun _ => ?_)
          refine y_aload_n C 7 dL_desk_291 rfl rfl ?_
          refine y_iload C 3 dL_desk_292 rfl ?_
          refine y_iconst C (3) dL_desk_294 (by decide) ?_
          refine y_callV C [.int (nI k), .int (3 : Int32)] (c_X6_set_3 g B0 l b (stJ 1 X t) (sv_t hv ht1 ht2) k hkn) RX6 2 (wVin q380 q381 q382 q2 q383) hy_X6_set ⟨(Nat.le_of_ble_eq_true rfl), (Nat.le_of_ble_eq_true rfl)⟩ ⟨rfl, rfl⟩ (rcv C.2.2.2.2.2.1 hX.1 rfl) hX (fun _ h => h) rfl rfl (Nat.le_of_ble_eq_true rfl) dL_desk_295 ⟨(Nat.le_of_ble_eq_true rfl), (Nat.le_of_ble_eq_true rfl)⟩ rfl (fun H hp hz hf => ?_)
          have hX := hp
          refine y_top (show _ = ((X.2.2.2 0).1 15 k) from rfl) ?_
          refine y_iload C 1 dL_desk_298 rfl ?_
          refine y_icmp_gt C 374 dL_desk_300 (by decide) (fun h => absurd h g1) (fun _ => ?_)
          refine y_iload C 2 dL_desk_303 rfl ?_
          refine y_iconst C (2) dL_desk_305 (by decide) ?_
          refine y_icmp_gt C 319 dL_desk_306 (by decide) (fun _ => ?_) (fun h => absurd (by decide) h)
          refine y_iload C 2 dL_desk_319 rfl ?_
          refine y_iconst C (3) dL_desk_321 (by decide) ?_
          refine y_icmp_ne C 337 dL_desk_322 (by decide) (fun _ => ?_) (fun h => absurd h (by decide))
          refine y_iload C 2 dL_desk_337 rfl ?_
          refine y_iconst C (4) dL_desk_339 (by decide) ?_
          refine y_icmp_ne C 355 dL_desk_340 (by decide) (fun _ => ?_) (fun h => absurd h (by decide))
          refine y_aload_n C 7 dL_desk_355 rfl rfl ?_
          refine y_iload C 3 dL_desk_356 rfl ?_
          refine y_iconst C (1) dL_desk_358 (by decide) ?_
          refine y_callV C [.int (nI k), .int (1 : Int32)] (c_X6_set_1 g B0 l b (stJ 1 X t) (sv_t hv ht1 ht2) k hkn) RX6 2 (wVin q380 q381 q382 q2 q383) hy_X6_set ⟨(Nat.le_of_ble_eq_true rfl), (Nat.le_of_ble_eq_true rfl)⟩ ⟨rfl, rfl⟩ (rcv C.2.2.2.2.2.1 hX.1 rfl) hX (fun _ h => h) rfl rfl (Nat.le_of_ble_eq_true rfl) dL_desk_359 ⟨(Nat.le_of_ble_eq_true rfl), (Nat.le_of_ble_eq_true rfl)⟩ rfl (fun H hp hz hf => ?_)
          have hX := hp
          refine y_top (show _ = ((X.2.2.2 0).1 13 k) from rfl) ?_
          refine y_aload_n C 7 dL_desk_362 rfl rfl ?_
          refine y_iconst C (0) dL_desk_363 (by decide) ?_
          refine y_callV C [.int (0 : Int32)] (c_X6_count_0 g B0 l b (stJ 1 X t) (sv_t hv ht1 ht2)) RX6 1 (wVin q92 q93 q94 q2 q95) hy_X6_count ⟨(Nat.le_of_ble_eq_true rfl), (Nat.le_of_ble_eq_true rfl)⟩ ⟨rfl, rfl⟩ (rcv C.2.2.2.2.2.1 hX.1 rfl) hX (fun _ h => h) rfl rfl (Nat.le_of_ble_eq_true rfl) dL_desk_364 ⟨(Nat.le_of_ble_eq_true rfl), (Nat.le_of_ble_eq_true rfl)⟩ rfl (fun H hp hz hf => ?_)
          have hX := hp
          refine y_top (show _ = ((X.2.2.2 0).1 0 0) from rfl) ?_
          refine y_icmp_gt C 374 dL_desk_367 (by decide) (fun h => absurd h g5) (fun _ => ?_)
          refine y_iconst C (1) dL_desk_370 (by decide) ?_
          refine y_goto C 375 dL_desk_371 (by decide) ?_
          refine y_istore_n C dL_desk_375 rfl (by decide) rfl ?_
          refine y_iload_n C 0 dL_desk_376 rfl rfl ?_
          refine y_if_eq C 512 dL_desk_377 (by decide) (fun h => absurd h (by decide)) (fun _ => ?_)
          refine y_aload_n C 7 dL_desk_380 rfl rfl ?_
          refine y_iload C 4 dL_desk_381 rfl ?_
          refine y_bipush C (7) dL_desk_383 (by decide) ?_
          refine y_callV C [.int (nI k), .int (7 : Int32)] (c_X6_set_7 g B0 l b (stJ 1 X t) (sv_t hv ht1 ht2) k hkn) RX6 2 (wVin q380 q381 q382 q2 q383) hy_X6_set ⟨(Nat.le_of_ble_eq_true rfl), (Nat.le_of_ble_eq_true rfl)⟩ ⟨rfl, rfl⟩ (rcv C.2.2.2.2.2.1 hX.1 rfl) hX (fun _ h => h) rfl rfl (Nat.le_of_ble_eq_true rfl) dL_desk_385 ⟨(Nat.le_of_ble_eq_true rfl), (Nat.le_of_ble_eq_true rfl)⟩ rfl (fun H hp hz hf => ?_)
          have hX := hp
          refine y_top (show _ = ((X.2.2.2 0).1 19 k) from rfl) ?_
          refine y_if_lt C 395 dL_desk_388 (by decide) (fun h => absurd h (g6.1 (by rw [es]; decide))) (fun _ => ?_)
          refine y_iconst C (1) dL_desk_391 (by decide) ?_
          refine y_goto C 396 dL_desk_392 (by decide) ?_
          refine y_iload C 3 dL_desk_396 rfl ?_
          refine y_iconst C (3) dL_desk_398 (by decide) ?_
          refine y_icmp_le C 406 dL_desk_399 (by decide) (fun h => absurd h (by decide)) (fun _ => ?_)
          refine y_iconst C (1) dL_desk_402 (by decide) ?_
          refine y_goto C 407 dL_desk_403 (by decide) ?_
          refine y_icmp_ne C 512 dL_desk_407 (by decide) (fun h => absurd rfl h) (fun _ => ?_)
          refine y_aload_n C 7 dL_desk_410 rfl rfl ?_
          refine y_iload C 4 dL_desk_411 rfl ?_
          refine y_bipush C (8) dL_desk_413 (by decide) ?_
          refine y_callV C [.int (nI k), .int (8 : Int32)] (c_X6_set_8 g B0 l b (stJ 1 X t) (sv_t hv ht1 ht2) k hkn) RX6 2 (wVin q380 q381 q382 q2 q383) hy_X6_set ⟨(Nat.le_of_ble_eq_true rfl), (Nat.le_of_ble_eq_true rfl)⟩ ⟨rfl, rfl⟩ (rcv C.2.2.2.2.2.1 hX.1 rfl) hX (fun _ h => h) rfl rfl (Nat.le_of_ble_eq_true rfl) dL_desk_415 ⟨(Nat.le_of_ble_eq_true rfl), (Nat.le_of_ble_eq_true rfl)⟩ rfl (fun H hp hz hf => ?_)
          have hX := hp
          refine y_top (show _ = (tFee (X.2.2.2 0) k) from rfl) ?_
          refine y_if_lt C 425 dL_desk_418 (by decide) (fun h => absurd h (g7 (by rw [es]; decide))) (fun _ => ?_)
          refine y_iconst C (1) dL_desk_421 (by decide) ?_
          refine y_goto C 426 dL_desk_422 (by decide) ?_
          refine y_iload C 1 dL_desk_426 rfl ?_
          refine y_icmp_ne C 512 dL_desk_428 (by decide) (fun h => absurd rfl h) (fun _ => ?_)
          refine y_aload_n C 7 dL_desk_431 rfl rfl ?_
          refine y_iload C 4 dL_desk_432 rfl ?_
          refine y_iconst C (5) dL_desk_434 (by decide) ?_
          refine y_callV C [.int (nI k), .int (5 : Int32)] (c_X6_set_5 g B0 l b (stJ 1 X t) (sv_t hv ht1 ht2) k hkn) RX6 2 (wVin q380 q381 q382 q2 q383) hy_X6_set ⟨(Nat.le_of_ble_eq_true rfl), (Nat.le_of_ble_eq_true rfl)⟩ ⟨rfl, rfl⟩ (rcv C.2.2.2.2.2.1 hX.1 rfl) hX (fun _ h => h) rfl rfl (Nat.le_of_ble_eq_true rfl) dL_desk_435 ⟨(Nat.le_of_ble_eq_true rfl), (Nat.le_of_ble_eq_true rfl)⟩ rfl (fun H hp hz hf => ?_)
          have hX := hp
          refine y_top (show _ = ((X.2.2.2 0).1 17 k) from rfl) ?_
          refine y_if_eq C 448 dL_desk_438 (by decide) (fun hlo => ?_) (fun hlo => ?_)
          · exact y_sub [1, 2, 3, 4, 0, 5, 6, 7] (J3 _ ⟨t, ht1, ht2, hX⟩) rfl
          · refine y_iload C 3 dL_desk_441 rfl ?_
            refine y_bipush C (6) dL_desk_443 (by decide) ?_
            refine y_icmp_ge C 512 dL_desk_445 (by decide) (fun h => absurd h (by decide)) (fun _ => ?_)
            exact y_sub [1, 2, 3, 4, 0, 5, 6, 7] (J3 _ ⟨t, ht1, ht2, hX⟩) rfl
        intro  H hd
        obtain ⟨t, ht1, ht2, hX⟩ := hd
        suffices J4 :  ∀ H : Heap, sXt g b X H → Yx (iv b 152) pr l e rm_L_desk s m args below meth c 8 0 0 (MQ below (Qx (some (.int 1)) (sXt g b X) (iv b 152)) args s 0 0 (iv b 152)) [(7, .int (1 : Int32)), (6, .int (tHF (fl (X.2.2.2 0) k))), (5, .int (5 : Int32)), (4, .int (nI k)), (3, .int (1 : Int32)), (2, .int dn1), (1, .int lent1), (0, .ref b)] H 480 [] from by
          refine y_aload_n C 7 dL_desk_448 rfl rfl ?_
          refine y_iload C 3 dL_desk_449 rfl ?_
          refine y_iconst C (4) dL_desk_451 (by decide) ?_
          refine y_callV C [.int (nI k), .int (4 : Int32)] (c_X6_set_4 g B0 l b (stJ 1 X t) (sv_t hv ht1 ht2) k hkn) RX6 2 (wVin q380 q381 q382 q2 q383) hy_X6_set ⟨(Nat.le_of_ble_eq_true rfl), (Nat.le_of_ble_eq_true rfl)⟩ ⟨rfl, rfl⟩ (rcv C.2.2.2.2.2.1 hX.1 rfl) hX (fun _ h => h) rfl rfl (Nat.le_of_ble_eq_true rfl) dL_desk_452 ⟨(Nat.le_of_ble_eq_true rfl), (Nat.le_of_ble_eq_true rfl)⟩ rfl (fun H hp hz hf => ?_)
          have hX := hp
          refine y_top (show _ = ((X.2.2.2 0).1 16 k) from rfl) ?_
          refine y_if_lt C 512 dL_desk_455 (by decide) (fun h => absurd h g9) (fun _ => ?_)
          refine y_aload_n C 7 dL_desk_458 rfl rfl ?_
          refine y_iload C 3 dL_desk_459 rfl ?_
          refine y_iconst C (4) dL_desk_461 (by decide) ?_
          refine y_callV C [.int (nI k), .int (4 : Int32)] (c_X6_set_4 g B0 l b (stJ 1 X t) (sv_t hv ht1 ht2) k hkn) RX6 2 (wVin q380 q381 q382 q2 q383) hy_X6_set ⟨(Nat.le_of_ble_eq_true rfl), (Nat.le_of_ble_eq_true rfl)⟩ ⟨rfl, rfl⟩ (rcv C.2.2.2.2.2.1 hX.1 rfl) hX (fun _ h => h) rfl rfl (Nat.le_of_ble_eq_true rfl) dL_desk_462 ⟨(Nat.le_of_ble_eq_true rfl), (Nat.le_of_ble_eq_true rfl)⟩ rfl (fun H hp hz hf => ?_)
          have hX := hp
          refine y_top (show _ = ((X.2.2.2 0).1 16 k) from rfl) ?_
          refine y_if_eq C 480 dL_desk_465 (by decide) (fun hb => ?_) (fun hb => ?_)
          · exact y_sub [0, 1, 2, 3, 4, 5, 6, 7] (J4 _ ⟨t, ht1, ht2, hX⟩) rfl
          · refine y_aload_n C 7 dL_desk_468 rfl rfl ?_
            refine y_iload C 3 dL_desk_469 rfl ?_
            refine y_iconst C (3) dL_desk_471 (by decide) ?_
            refine y_callV C [.int (nI k), .int (3 : Int32)] (c_X6_set_3 g B0 l b (stJ 1 X t) (sv_t hv ht1 ht2) k hkn) RX6 2 (wVin q380 q381 q382 q2 q383) hy_X6_set ⟨(Nat.le_of_ble_eq_true rfl), (Nat.le_of_ble_eq_true rfl)⟩ ⟨rfl, rfl⟩ (rcv C.2.2.2.2.2.1 hX.1 rfl) hX (fun _ h => h) rfl rfl (Nat.le_of_ble_eq_true rfl) dL_desk_472 ⟨(Nat.le_of_ble_eq_true rfl), (Nat.le_of_ble_eq_true rfl)⟩ rfl (fun H hp hz hf => ?_)
            have hX := hp
            refine y_top (show _ = ((X.2.2.2 0).1 15 k) from rfl) ?_
            refine y_iload C 1 dL_desk_475 rfl ?_
            refine y_icmp_ne C 512 dL_desk_477 (by decide) (fun h => absurd (g10 hb) h) (fun _ => ?_)
            exact y_sub [0, 1, 2, 3, 4, 5, 6, 7] (J4 _ ⟨t, ht1, ht2, hX⟩) rfl
        intro  H hd
        obtain ⟨t, ht1, ht2, hX⟩ := hd
        refine y_iload C 2 dL_desk_480 rfl ?_
        refine y_if_ne C 489 dL_desk_482 (by decide) (fun _ => ?_) (fun h => absurd h (by decide))
        refine y_iconst C (0) dL_desk_489 (by decide) ?_
        refine y_aload_n C 7 dL_desk_490 rfl rfl ?_
        refine y_iload C 3 dL_desk_491 rfl ?_
        refine y_iconst C (2) dL_desk_493 (by decide) ?_
        refine y_callV C [.int (nI k), .int (2 : Int32)] (c_X6_set_2 g B0 l b (stJ 1 X t) (sv_t hv ht1 ht2) k hkn) RX6 2 (wVin q380 q381 q382 q2 q383) hy_X6_set ⟨(Nat.le_of_ble_eq_true rfl), (Nat.le_of_ble_eq_true rfl)⟩ ⟨rfl, rfl⟩ (rcv C.2.2.2.2.2.1 hX.1 rfl) hX (fun _ h => h) rfl rfl (Nat.le_of_ble_eq_true rfl) dL_desk_494 ⟨(Nat.le_of_ble_eq_true rfl), (Nat.le_of_ble_eq_true rfl)⟩ rfl (fun H hp hz hf => ?_)
        have hX := hp
        refine y_top (show _ = ((X.2.2.2 0).1 14 k) from rfl) ?_
        refine y_if_ne C 504 dL_desk_497 (by decide) (fun _ => ?_) (fun h => absurd h (g11.2 (by rw [es]; decide)))
        refine y_iconst C (0) dL_desk_504 (by decide) ?_
        refine y_icmp_ne C 512 dL_desk_505 (by decide) (fun h => absurd rfl h) (fun _ => ?_)
        refine y_iconst C (1) dL_desk_508 (by decide) ?_
        refine y_goto C 513 dL_desk_509 (by decide) ?_
        refine y_istore_n C dL_desk_513 rfl (by decide) rfl ?_
        refine y_iload_n C 0 dL_desk_514 rfl rfl ?_
        refine y_if_eq C 592 dL_desk_515 (by decide) (fun h => absurd h (by decide)) (fun _ => ?_)
        refine y_iload C 3 dL_desk_518 rfl ?_
        refine y_iconst C (2) dL_desk_520 (by decide) ?_
        refine y_icmp_eq C 535 dL_desk_521 (by decide) (fun h => absurd h (by decide)) (fun _ => ?_)
        refine y_aload_n C 7 dL_desk_524 rfl rfl ?_
        refine y_iload C 4 dL_desk_525 rfl ?_
        refine y_callV C [.int (nI k)] (c_X6_lacks g B0 l b (stJ 1 X t) (sv_t hv ht1 ht2) k hkn) RX6 1 (wVin q417 q418 q419 q2 q420) hy_X6_lacks ⟨(Nat.le_of_ble_eq_true rfl), (Nat.le_of_ble_eq_true rfl)⟩ ⟨rfl, rfl⟩ (rcv C.2.2.2.2.2.1 hX.1 rfl) hX (fun _ h => h) rfl rfl (Nat.le_of_ble_eq_true rfl) dL_desk_527 ⟨(Nat.le_of_ble_eq_true rfl), (Nat.le_of_ble_eq_true rfl)⟩ rfl (fun H hp hz hf => ?_)
        have hX := hp
        refine y_top (show _ = (tLks (X.2.2.2 0) k) from rfl) ?_
        refine y_bipush C (-5) dL_desk_530 (by decide) ?_
        refine y_icmp_ne C 592 dL_desk_532 (by decide) (fun h => absurd (show tLks (X.2.2.2 0) k = -5 by rw [tLks, if_neg (by rw [es]; decide)]) h) (fun _ => ?_)
        refine y_iload C 3 dL_desk_535 rfl ?_
        refine y_iconst C (2) dL_desk_537 (by decide) ?_
        refine y_icmp_eq C 558 dL_desk_538 (by decide) (fun h => absurd h (by decide)) (fun _ => ?_)
        refine y_iload C 3 dL_desk_541 rfl ?_
        refine y_iconst C (3) dL_desk_543 (by decide) ?_
        refine y_icmp_eq C 558 dL_desk_544 (by decide) (fun h => absurd h (by decide)) (fun _ => ?_)
        refine y_aload_n C 7 dL_desk_547 rfl rfl ?_
        refine y_iload C 4 dL_desk_548 rfl ?_
        refine y_callV C [.int (nI k)] (c_X6_doneIn g B0 l b (stJ 1 X t) (sv_t hv ht1 ht2) k (by have := (hv.2 0 (by decide)).1.2.1.2; omega)) RX6 1 (wVin q132 q133 q134 q2 q135) hy_X6_doneIn ⟨(Nat.le_of_ble_eq_true rfl), (Nat.le_of_ble_eq_true rfl)⟩ ⟨rfl, rfl⟩ (rcv C.2.2.2.2.2.1 hX.1 rfl) hX (fun _ h => h) rfl rfl (Nat.le_of_ble_eq_true rfl) dL_desk_550 ⟨(Nat.le_of_ble_eq_true rfl), (Nat.le_of_ble_eq_true rfl)⟩ rfl (fun H hp hz hf => ?_)
        obtain ⟨t2, ht1, ht2, hX⟩ := hp
        obtain ⟨t, rfl⟩ : ∃ z, z = t2 := ⟨_, rfl⟩
        have hX : sX g b (stJ 1 X t) H := (stJ_uu X _ t) ▸ hX
        refine y_top (show _ = (tDin X k) from rfl) ?_
        refine y_bipush C (-5) dL_desk_553 (by decide) ?_
        refine y_icmp_ne C 592 dL_desk_555 (by decide) (fun h => absurd (show tDin X k = -5 by rw [tDin, if_neg (isS_t hv hkn), if_neg (by rw [es]; decide), if_neg (by rw [es]; decide)]) h) (fun _ => ?_)
        refine y_aload_n C 7 dL_desk_558 rfl rfl ?_
        refine y_iload C 4 dL_desk_559 rfl ?_
        refine y_callV C [.int (nI k)] (c_X6_waitsFor g B0 l b (stJ 1 X t) (sv_t hv ht1 ht2) k hkn) RX6 1 (wVin q422 q423 q424 q2 q425) hy_X6_waitsFor ⟨(Nat.le_of_ble_eq_true rfl), (Nat.le_of_ble_eq_true rfl)⟩ ⟨rfl, rfl⟩ (rcv C.2.2.2.2.2.1 hX.1 rfl) hX (fun _ h => h) rfl rfl (Nat.le_of_ble_eq_true rfl) dL_desk_561 ⟨(Nat.le_of_ble_eq_true rfl), (Nat.le_of_ble_eq_true rfl)⟩ rfl (fun H hp hz hf => ?_)
        have hX := hp
        refine y_top (show _ = (tWt (X.2.2.2 0) k) from rfl) ?_
        refine y_bipush C (-5) dL_desk_564 (by decide) ?_
        refine y_icmp_ne C 573 dL_desk_566 (by decide) (fun _ => ?_) (fun h => absurd h (tWt_ne (by rw [es]; decide)))
        refine y_iconst C (0) dL_desk_573 (by decide) ?_
        refine y_iload C 3 dL_desk_574 rfl ?_
        refine y_iconst C (5) dL_desk_576 (by decide) ?_
        refine y_icmp_le C 584 dL_desk_577 (by decide) (fun _ => ?_) (fun h => absurd (by decide) h)
        refine y_iconst C (0) dL_desk_584 (by decide) ?_
        refine y_icmp_ne C 592 dL_desk_585 (by decide) (fun h => absurd rfl h) (fun _ => ?_)
        refine y_iconst C (1) dL_desk_588 (by decide) ?_
        refine y_goto C 593 dL_desk_589 (by decide) ?_
        refine y_istore_n C dL_desk_593 rfl (by decide) rfl ?_
        refine y_iinc C 4 (nI (k + 1)) dL_desk_594 rfl (nI_succ _).symm (by decide) rfl ?_
        refine y_goto C 194 dL_desk_597 (by decide) ?_
        exact y_sub [0, 1, 5, 6, 7] (ih (k + 1) (by omega) _ _ hle1 hdn1 H ⟨t, ht1, ht2, hX⟩) rfl
      · suffices J2 : ∀ lent1 dn1 : Int32, lent1 = wlo (X.2.2.2 0) (k + 1) → dn1 = dnn (X.2.2.2 0) (k + 1) → ∀ H : Heap, sXt g b X H → Yx (iv b 152) pr l e rm_L_desk s m args below meth c 8 0 0 (MQ below (Qx (some (.int 1)) (sXt g b X) (iv b 152)) args s 0 0 (iv b 152)) [(7, .int (0 : Int32)), (6, .int (tHF (fl (X.2.2.2 0) k))), (5, .int (6 : Int32)), (4, .int (nI k)), (3, .int (1 : Int32)), (2, .int dn1), (1, .int lent1), (0, .ref b)] H 279 [] from by
          refine y_aload_n C 4 dL_desk_208 rfl rfl ?_
          refine y_iload C 0 dL_desk_209 rfl ?_
          refine y_bipush C (6) dL_desk_211 (by decide) ?_
          refine y_callV C [.int (nI k), .int (6 : Int32)] (c_X6_set_6 g B0 l b (stJ 1 X t) (sv_t hv ht1 ht2) k hkn) RX6 2 (wVin q380 q381 q382 q2 q383) hy_X6_set ⟨(Nat.le_of_ble_eq_true rfl), (Nat.le_of_ble_eq_true rfl)⟩ ⟨rfl, rfl⟩ (rcv C.2.2.2.2.2.1 hX.1 rfl) hX (fun _ h => h) rfl rfl (Nat.le_of_ble_eq_true rfl) dL_desk_213 ⟨(Nat.le_of_ble_eq_true rfl), (Nat.le_of_ble_eq_true rfl)⟩ rfl (fun H hp hz hf => ?_)
          have hX := hp
          refine y_top (show _ = ((X.2.2.2 0).1 18 k) from rfl) ?_
          refine y_top es ?_
          refine y_istore C dL_desk_216 (by decide) rfl ?_
          refine y_aload_n C 5 dL_desk_218 rfl rfl ?_
          refine y_iload C 1 dL_desk_219 rfl ?_
          refine y_iconst C (0) dL_desk_221 (by decide) ?_
          refine y_callV C [.int (nI k), .int (0 : Int32)] (c_X6_set_0 g B0 l b (stJ 1 X t) (sv_t hv ht1 ht2) k hkn) RX6 2 (wVin q380 q381 q382 q2 q383) hy_X6_set ⟨(Nat.le_of_ble_eq_true rfl), (Nat.le_of_ble_eq_true rfl)⟩ ⟨rfl, rfl⟩ (rcv C.2.2.2.2.2.1 hX.1 rfl) hX (fun _ h => h) rfl rfl (Nat.le_of_ble_eq_true rfl) dL_desk_222 ⟨(Nat.le_of_ble_eq_true rfl), (Nat.le_of_ble_eq_true rfl)⟩ rfl (fun H hp hz hf => ?_)
          have hX := hp
          refine y_top (show _ = ((X.2.2.2 0).1 12 k) from rfl) ?_
          refine y_top ((hv.2 0 (by decide)).1.2.2.1 _ hkn).1 ?_
          refine y_callS C [.int (nI (fl (X.2.2.2 0) k))] (c_L_hours g B0 l (fl (X.2.2.2 0) k) ((hv.2 0 (by decide)).1.2.2.1 _ hkn).2) 1 (wSin q414 q415 q125 q416) hs_L_hours ⟨(Nat.le_of_ble_eq_true rfl), (Nat.le_of_ble_eq_true rfl)⟩ ⟨rfl, rfl⟩ trivial nF.no rfl rfl (Nat.le_of_ble_eq_true rfl) dL_desk_225 ⟨(Nat.le_of_ble_eq_true rfl), (Nat.le_of_ble_eq_true rfl)⟩ rfl (fun H hp hz hf => ?_)
          have hX := sys.fr (A1 := nF) hX hf (fun _ _ z => z)
          refine y_istore C dL_desk_228 (by decide) rfl ?_
          refine y_iload C 1 dL_desk_230 rfl ?_
          refine y_iconst C (4) dL_desk_232 (by decide) ?_
          refine y_icmp_eq C 242 dL_desk_233 (by decide) (fun h => absurd h (by decide)) (fun _ => ?_)
          refine y_iload C 1 dL_desk_236 rfl ?_
          refine y_iconst C (5) dL_desk_238 (by decide) ?_
          refine y_icmp_ne C 246 dL_desk_239 (by decide) (fun _ => ?_) (fun h => absurd h (by decide))
          refine y_iconst C (0) dL_desk_246 (by decide) ?_
          refine y_istore C dL_desk_247 (by decide) rfl ?_
          refine y_iload_n C 6 dL_desk_249 rfl rfl ?_
          refine y_aload_n C 7 dL_desk_250 rfl rfl ?_
          refine y_iload C 3 dL_desk_251 rfl ?_
          refine y_iconst C (5) dL_desk_253 (by decide) ?_
          refine y_callV C [.int (nI k), .int (5 : Int32)] (c_X6_set_5 g B0 l b (stJ 1 X t) (sv_t hv ht1 ht2) k hkn) RX6 2 (wVin q380 q381 q382 q2 q383) hy_X6_set ⟨(Nat.le_of_ble_eq_true rfl), (Nat.le_of_ble_eq_true rfl)⟩ ⟨rfl, rfl⟩ (rcv C.2.2.2.2.2.1 hX.1 rfl) hX (fun _ h => h) rfl rfl (Nat.le_of_ble_eq_true rfl) dL_desk_254 ⟨(Nat.le_of_ble_eq_true rfl), (Nat.le_of_ble_eq_true rfl)⟩ rfl (fun H hp hz hf => ?_)
          have hX := hp
          refine y_top (show _ = ((X.2.2.2 0).1 17 k) from rfl) ?_
          refine y_iadd C dL_desk_257 ?_
          refine y_istore_n C dL_desk_258 rfl (by decide) rfl ?_
          refine y_iload_n C 6 dL_desk_259 rfl rfl ?_
          refine y_aload_n C 7 dL_desk_260 rfl rfl ?_
          refine y_iload C 4 dL_desk_261 rfl ?_
          refine y_iconst C (3) dL_desk_263 (by decide) ?_
          refine y_callV C [.int (nI k), .int (3 : Int32)] (c_X6_set_3 g B0 l b (stJ 1 X t) (sv_t hv ht1 ht2) k hkn) RX6 2 (wVin q380 q381 q382 q2 q383) hy_X6_set ⟨(Nat.le_of_ble_eq_true rfl), (Nat.le_of_ble_eq_true rfl)⟩ ⟨rfl, rfl⟩ (rcv C.2.2.2.2.2.1 hX.1 rfl) hX (fun _ h => h) rfl rfl (Nat.le_of_ble_eq_true rfl) dL_desk_264 ⟨(Nat.le_of_ble_eq_true rfl), (Nat.le_of_ble_eq_true rfl)⟩ rfl (fun H hp hz hf => ?_)
          have hX := hp
          refine y_top (show _ = ((X.2.2.2 0).1 15 k) from rfl) ?_
          refine y_iload C 2 dL_desk_267 rfl ?_
          refine y_icmp_ne C 276 dL_desk_269 (by decide) (fun hw => ?_) (fun hw => ?_)
          · refine y_iconst C (0) dL_desk_276 (by decide) ?_
            refine y_iadd C dL_desk_277 ?_
            refine y_istore_n C dL_desk_278 rfl (by decide) rfl ?_
            exact y_sub [2, 3, 4, 5, 6, 0, 1, 7] (J2 _ _ (by rw [wlo, hle]) (by rw [dnn, if_neg hw, hdn, Int32.add_zero]) _ ⟨t, ht1, ht2, hX⟩) rfl
          · refine y_iconst C (1) dL_desk_272 (by decide) ?_
            refine y_goto C 277 dL_desk_273 (by decide) ?_
            refine y_iadd C dL_desk_277 ?_
            refine y_istore_n C dL_desk_278 rfl (by decide) rfl ?_
            exact y_sub [2, 3, 4, 5, 6, 0, 1, 7] (J2 _ _ (by rw [wlo, hle]) (by rw [dnn, if_pos hw, hdn]) _ ⟨t, ht1, ht2, hX⟩) rfl
        intro lent1 dn1 hle1 hdn1 H hd
        obtain ⟨t, ht1, ht2, hX⟩ := hd
        suffices J3 :  ∀ H : Heap, sXt g b X H → Yx (iv b 152) pr l e rm_L_desk s m args below meth c 8 0 0 (MQ below (Qx (some (.int 1)) (sXt g b X) (iv b 152)) args s 0 0 (iv b 152)) [(7, .int (0 : Int32)), (6, .int (tHF (fl (X.2.2.2 0) k))), (5, .int (6 : Int32)), (4, .int (nI k)), (3, .int (1 : Int32)), (2, .int dn1), (1, .int lent1), (0, .ref b)] H 448 [] from by
          refine y_iload C 2 dL_desk_279 rfl ?_
          refine y_if_lt C 374 dL_desk_281 (by decide) (fun h => absurd h (by decide)) (fun _ => ?_)
          refine y_iload C 2 dL_desk_284 rfl ?_
          refine y_bipush C (8) dL_desk_286 (by decide) ?_
          refine y_icmp_ge C 374 dL_desk_288 (by decide) (fun h => absurd h (by decide)) (fun _ => ?_)
          refine y_aload_n C 7 dL_desk_291 rfl rfl ?_
          refine y_iload C 3 dL_desk_292 rfl ?_
          refine y_iconst C (3) dL_desk_294 (by decide) ?_
          refine y_callV C [.int (nI k), .int (3 : Int32)] (c_X6_set_3 g B0 l b (stJ 1 X t) (sv_t hv ht1 ht2) k hkn) RX6 2 (wVin q380 q381 q382 q2 q383) hy_X6_set ⟨(Nat.le_of_ble_eq_true rfl), (Nat.le_of_ble_eq_true rfl)⟩ ⟨rfl, rfl⟩ (rcv C.2.2.2.2.2.1 hX.1 rfl) hX (fun _ h => h) rfl rfl (Nat.le_of_ble_eq_true rfl) dL_desk_295 ⟨(Nat.le_of_ble_eq_true rfl), (Nat.le_of_ble_eq_true rfl)⟩ rfl (fun H hp hz hf => ?_)
          have hX := hp
          refine y_top (show _ = ((X.2.2.2 0).1 15 k) from rfl) ?_
          refine y_iload C 1 dL_desk_298 rfl ?_
          refine y_icmp_gt C 374 dL_desk_300 (by decide) (fun h => absurd h g1) (fun _ => ?_)
          refine y_iload C 2 dL_desk_303 rfl ?_
          refine y_iconst C (2) dL_desk_305 (by decide) ?_
          refine y_icmp_gt C 319 dL_desk_306 (by decide) (fun _ => ?_) (fun h => absurd (by decide) h)
          refine y_iload C 2 dL_desk_319 rfl ?_
          refine y_iconst C (3) dL_desk_321 (by decide) ?_
          refine y_icmp_ne C 337 dL_desk_322 (by decide) (fun _ => ?_) (fun h => absurd h (by decide))
          refine y_iload C 2 dL_desk_337 rfl ?_
          refine y_iconst C (4) dL_desk_339 (by decide) ?_
          refine y_icmp_ne C 355 dL_desk_340 (by decide) (fun _ => ?_) (fun h => absurd h (by decide))
          refine y_aload_n C 7 dL_desk_355 rfl rfl ?_
          refine y_iload C 3 dL_desk_356 rfl ?_
          refine y_iconst C (1) dL_desk_358 (by decide) ?_
          refine y_callV C [.int (nI k), .int (1 : Int32)] (c_X6_set_1 g B0 l b (stJ 1 X t) (sv_t hv ht1 ht2) k hkn) RX6 2 (wVin q380 q381 q382 q2 q383) hy_X6_set ⟨(Nat.le_of_ble_eq_true rfl), (Nat.le_of_ble_eq_true rfl)⟩ ⟨rfl, rfl⟩ (rcv C.2.2.2.2.2.1 hX.1 rfl) hX (fun _ h => h) rfl rfl (Nat.le_of_ble_eq_true rfl) dL_desk_359 ⟨(Nat.le_of_ble_eq_true rfl), (Nat.le_of_ble_eq_true rfl)⟩ rfl (fun H hp hz hf => ?_)
          have hX := hp
          refine y_top (show _ = ((X.2.2.2 0).1 13 k) from rfl) ?_
          refine y_aload_n C 7 dL_desk_362 rfl rfl ?_
          refine y_iconst C (0) dL_desk_363 (by decide) ?_
          refine y_callV C [.int (0 : Int32)] (c_X6_count_0 g B0 l b (stJ 1 X t) (sv_t hv ht1 ht2)) RX6 1 (wVin q92 q93 q94 q2 q95) hy_X6_count ⟨(Nat.le_of_ble_eq_true rfl), (Nat.le_of_ble_eq_true rfl)⟩ ⟨rfl, rfl⟩ (rcv C.2.2.2.2.2.1 hX.1 rfl) hX (fun _ h => h) rfl rfl (Nat.le_of_ble_eq_true rfl) dL_desk_364 ⟨(Nat.le_of_ble_eq_true rfl), (Nat.le_of_ble_eq_true rfl)⟩ rfl (fun H hp hz hf => ?_)
          have hX := hp
          refine y_top (show _ = ((X.2.2.2 0).1 0 0) from rfl) ?_
          refine y_icmp_gt C 374 dL_desk_367 (by decide) (fun h => absurd h g5) (fun _ => ?_)
          refine y_iconst C (1) dL_desk_370 (by decide) ?_
          refine y_goto C 375 dL_desk_371 (by decide) ?_
          refine y_istore_n C dL_desk_375 rfl (by decide) rfl ?_
          refine y_iload_n C 0 dL_desk_376 rfl rfl ?_
          refine y_if_eq C 512 dL_desk_377 (by decide) (fun h => absurd h (by decide)) (fun _ => ?_)
          refine y_aload_n C 7 dL_desk_380 rfl rfl ?_
          refine y_iload C 4 dL_desk_381 rfl ?_
          refine y_bipush C (7) dL_desk_383 (by decide) ?_
          refine y_callV C [.int (nI k), .int (7 : Int32)] (c_X6_set_7 g B0 l b (stJ 1 X t) (sv_t hv ht1 ht2) k hkn) RX6 2 (wVin q380 q381 q382 q2 q383) hy_X6_set ⟨(Nat.le_of_ble_eq_true rfl), (Nat.le_of_ble_eq_true rfl)⟩ ⟨rfl, rfl⟩ (rcv C.2.2.2.2.2.1 hX.1 rfl) hX (fun _ h => h) rfl rfl (Nat.le_of_ble_eq_true rfl) dL_desk_385 ⟨(Nat.le_of_ble_eq_true rfl), (Nat.le_of_ble_eq_true rfl)⟩ rfl (fun H hp hz hf => ?_)
          have hX := hp
          refine y_top (show _ = ((X.2.2.2 0).1 19 k) from rfl) ?_
          refine y_if_lt C 395 dL_desk_388 (by decide) (fun h => absurd h (g6.1 (by rw [es]; decide))) (fun _ => ?_)
          refine y_iconst C (1) dL_desk_391 (by decide) ?_
          refine y_goto C 396 dL_desk_392 (by decide) ?_
          refine y_iload C 3 dL_desk_396 rfl ?_
          refine y_iconst C (3) dL_desk_398 (by decide) ?_
          refine y_icmp_le C 406 dL_desk_399 (by decide) (fun h => absurd h (by decide)) (fun _ => ?_)
          refine y_iconst C (1) dL_desk_402 (by decide) ?_
          refine y_goto C 407 dL_desk_403 (by decide) ?_
          refine y_icmp_ne C 512 dL_desk_407 (by decide) (fun h => absurd rfl h) (fun _ => ?_)
          refine y_aload_n C 7 dL_desk_410 rfl rfl ?_
          refine y_iload C 4 dL_desk_411 rfl ?_
          refine y_bipush C (8) dL_desk_413 (by decide) ?_
          refine y_callV C [.int (nI k), .int (8 : Int32)] (c_X6_set_8 g B0 l b (stJ 1 X t) (sv_t hv ht1 ht2) k hkn) RX6 2 (wVin q380 q381 q382 q2 q383) hy_X6_set ⟨(Nat.le_of_ble_eq_true rfl), (Nat.le_of_ble_eq_true rfl)⟩ ⟨rfl, rfl⟩ (rcv C.2.2.2.2.2.1 hX.1 rfl) hX (fun _ h => h) rfl rfl (Nat.le_of_ble_eq_true rfl) dL_desk_415 ⟨(Nat.le_of_ble_eq_true rfl), (Nat.le_of_ble_eq_true rfl)⟩ rfl (fun H hp hz hf => ?_)
          have hX := hp
          refine y_top (show _ = (tFee (X.2.2.2 0) k) from rfl) ?_
          refine y_if_lt C 425 dL_desk_418 (by decide) (fun _ => ?_) (fun h => absurd (tFee_neg (by rw [es]; decide) (by rw [es]; decide)) h)
          refine y_iconst C (0) dL_desk_425 (by decide) ?_
          refine y_iload C 1 dL_desk_426 rfl ?_
          refine y_icmp_ne C 512 dL_desk_428 (by decide) (fun h => absurd rfl h) (fun _ => ?_)
          refine y_aload_n C 7 dL_desk_431 rfl rfl ?_
          refine y_iload C 4 dL_desk_432 rfl ?_
          refine y_iconst C (5) dL_desk_434 (by decide) ?_
          refine y_callV C [.int (nI k), .int (5 : Int32)] (c_X6_set_5 g B0 l b (stJ 1 X t) (sv_t hv ht1 ht2) k hkn) RX6 2 (wVin q380 q381 q382 q2 q383) hy_X6_set ⟨(Nat.le_of_ble_eq_true rfl), (Nat.le_of_ble_eq_true rfl)⟩ ⟨rfl, rfl⟩ (rcv C.2.2.2.2.2.1 hX.1 rfl) hX (fun _ h => h) rfl rfl (Nat.le_of_ble_eq_true rfl) dL_desk_435 ⟨(Nat.le_of_ble_eq_true rfl), (Nat.le_of_ble_eq_true rfl)⟩ rfl (fun H hp hz hf => ?_)
          have hX := hp
          refine y_top (show _ = ((X.2.2.2 0).1 17 k) from rfl) ?_
          refine y_if_eq C 448 dL_desk_438 (by decide) (fun hlo => ?_) (fun hlo => ?_)
          · exact y_sub [1, 2, 3, 4, 0, 5, 6, 7] (J3 _ ⟨t, ht1, ht2, hX⟩) rfl
          · refine y_iload C 3 dL_desk_441 rfl ?_
            refine y_bipush C (6) dL_desk_443 (by decide) ?_
            exact absurd (by rw [es]; decide) (g8 hlo)
        intro  H hd
        obtain ⟨t, ht1, ht2, hX⟩ := hd
        suffices J4 :  ∀ H : Heap, sXt g b X H → Yx (iv b 152) pr l e rm_L_desk s m args below meth c 8 0 0 (MQ below (Qx (some (.int 1)) (sXt g b X) (iv b 152)) args s 0 0 (iv b 152)) [(7, .int (0 : Int32)), (6, .int (tHF (fl (X.2.2.2 0) k))), (5, .int (6 : Int32)), (4, .int (nI k)), (3, .int (1 : Int32)), (2, .int dn1), (1, .int lent1), (0, .ref b)] H 480 [] from by
          refine y_aload_n C 7 dL_desk_448 rfl rfl ?_
          refine y_iload C 3 dL_desk_449 rfl ?_
          refine y_iconst C (4) dL_desk_451 (by decide) ?_
          refine y_callV C [.int (nI k), .int (4 : Int32)] (c_X6_set_4 g B0 l b (stJ 1 X t) (sv_t hv ht1 ht2) k hkn) RX6 2 (wVin q380 q381 q382 q2 q383) hy_X6_set ⟨(Nat.le_of_ble_eq_true rfl), (Nat.le_of_ble_eq_true rfl)⟩ ⟨rfl, rfl⟩ (rcv C.2.2.2.2.2.1 hX.1 rfl) hX (fun _ h => h) rfl rfl (Nat.le_of_ble_eq_true rfl) dL_desk_452 ⟨(Nat.le_of_ble_eq_true rfl), (Nat.le_of_ble_eq_true rfl)⟩ rfl (fun H hp hz hf => ?_)
          have hX := hp
          refine y_top (show _ = ((X.2.2.2 0).1 16 k) from rfl) ?_
          refine y_if_lt C 512 dL_desk_455 (by decide) (fun h => absurd h g9) (fun _ => ?_)
          refine y_aload_n C 7 dL_desk_458 rfl rfl ?_
          refine y_iload C 3 dL_desk_459 rfl ?_
          refine y_iconst C (4) dL_desk_461 (by decide) ?_
          refine y_callV C [.int (nI k), .int (4 : Int32)] (c_X6_set_4 g B0 l b (stJ 1 X t) (sv_t hv ht1 ht2) k hkn) RX6 2 (wVin q380 q381 q382 q2 q383) hy_X6_set ⟨(Nat.le_of_ble_eq_true rfl), (Nat.le_of_ble_eq_true rfl)⟩ ⟨rfl, rfl⟩ (rcv C.2.2.2.2.2.1 hX.1 rfl) hX (fun _ h => h) rfl rfl (Nat.le_of_ble_eq_true rfl) dL_desk_462 ⟨(Nat.le_of_ble_eq_true rfl), (Nat.le_of_ble_eq_true rfl)⟩ rfl (fun H hp hz hf => ?_)
          have hX := hp
          refine y_top (show _ = ((X.2.2.2 0).1 16 k) from rfl) ?_
          refine y_if_eq C 480 dL_desk_465 (by decide) (fun hb => ?_) (fun hb => ?_)
          · exact y_sub [0, 1, 2, 3, 4, 5, 6, 7] (J4 _ ⟨t, ht1, ht2, hX⟩) rfl
          · refine y_aload_n C 7 dL_desk_468 rfl rfl ?_
            refine y_iload C 3 dL_desk_469 rfl ?_
            refine y_iconst C (3) dL_desk_471 (by decide) ?_
            refine y_callV C [.int (nI k), .int (3 : Int32)] (c_X6_set_3 g B0 l b (stJ 1 X t) (sv_t hv ht1 ht2) k hkn) RX6 2 (wVin q380 q381 q382 q2 q383) hy_X6_set ⟨(Nat.le_of_ble_eq_true rfl), (Nat.le_of_ble_eq_true rfl)⟩ ⟨rfl, rfl⟩ (rcv C.2.2.2.2.2.1 hX.1 rfl) hX (fun _ h => h) rfl rfl (Nat.le_of_ble_eq_true rfl) dL_desk_472 ⟨(Nat.le_of_ble_eq_true rfl), (Nat.le_of_ble_eq_true rfl)⟩ rfl (fun H hp hz hf => ?_)
            have hX := hp
            refine y_top (show _ = ((X.2.2.2 0).1 15 k) from rfl) ?_
            refine y_iload C 1 dL_desk_475 rfl ?_
            refine y_icmp_ne C 512 dL_desk_477 (by decide) (fun h => absurd (g10 hb) h) (fun _ => ?_)
            exact y_sub [0, 1, 2, 3, 4, 5, 6, 7] (J4 _ ⟨t, ht1, ht2, hX⟩) rfl
        intro  H hd
        obtain ⟨t, ht1, ht2, hX⟩ := hd
        refine y_iload C 2 dL_desk_480 rfl ?_
        refine y_if_ne C 489 dL_desk_482 (by decide) (fun _ => ?_) (fun h => absurd h (by decide))
        refine y_iconst C (0) dL_desk_489 (by decide) ?_
        refine y_aload_n C 7 dL_desk_490 rfl rfl ?_
        refine y_iload C 3 dL_desk_491 rfl ?_
        refine y_iconst C (2) dL_desk_493 (by decide) ?_
        refine y_callV C [.int (nI k), .int (2 : Int32)] (c_X6_set_2 g B0 l b (stJ 1 X t) (sv_t hv ht1 ht2) k hkn) RX6 2 (wVin q380 q381 q382 q2 q383) hy_X6_set ⟨(Nat.le_of_ble_eq_true rfl), (Nat.le_of_ble_eq_true rfl)⟩ ⟨rfl, rfl⟩ (rcv C.2.2.2.2.2.1 hX.1 rfl) hX (fun _ h => h) rfl rfl (Nat.le_of_ble_eq_true rfl) dL_desk_494 ⟨(Nat.le_of_ble_eq_true rfl), (Nat.le_of_ble_eq_true rfl)⟩ rfl (fun H hp hz hf => ?_)
        have hX := hp
        refine y_top (show _ = ((X.2.2.2 0).1 14 k) from rfl) ?_
        refine y_if_ne C 504 dL_desk_497 (by decide) (fun _ => ?_) (fun h => absurd h (g11.2 (by rw [es]; decide)))
        refine y_iconst C (0) dL_desk_504 (by decide) ?_
        refine y_icmp_ne C 512 dL_desk_505 (by decide) (fun h => absurd rfl h) (fun _ => ?_)
        refine y_iconst C (1) dL_desk_508 (by decide) ?_
        refine y_goto C 513 dL_desk_509 (by decide) ?_
        refine y_istore_n C dL_desk_513 rfl (by decide) rfl ?_
        refine y_iload_n C 0 dL_desk_514 rfl rfl ?_
        refine y_if_eq C 592 dL_desk_515 (by decide) (fun h => absurd h (by decide)) (fun _ => ?_)
        refine y_iload C 3 dL_desk_518 rfl ?_
        refine y_iconst C (2) dL_desk_520 (by decide) ?_
        refine y_icmp_eq C 535 dL_desk_521 (by decide) (fun h => absurd h (by decide)) (fun _ => ?_)
        refine y_aload_n C 7 dL_desk_524 rfl rfl ?_
        refine y_iload C 4 dL_desk_525 rfl ?_
        refine y_callV C [.int (nI k)] (c_X6_lacks g B0 l b (stJ 1 X t) (sv_t hv ht1 ht2) k hkn) RX6 1 (wVin q417 q418 q419 q2 q420) hy_X6_lacks ⟨(Nat.le_of_ble_eq_true rfl), (Nat.le_of_ble_eq_true rfl)⟩ ⟨rfl, rfl⟩ (rcv C.2.2.2.2.2.1 hX.1 rfl) hX (fun _ h => h) rfl rfl (Nat.le_of_ble_eq_true rfl) dL_desk_527 ⟨(Nat.le_of_ble_eq_true rfl), (Nat.le_of_ble_eq_true rfl)⟩ rfl (fun H hp hz hf => ?_)
        have hX := hp
        refine y_top (show _ = (tLks (X.2.2.2 0) k) from rfl) ?_
        refine y_bipush C (-5) dL_desk_530 (by decide) ?_
        refine y_icmp_ne C 592 dL_desk_532 (by decide) (fun h => absurd (show tLks (X.2.2.2 0) k = -5 by rw [tLks, if_neg (by rw [es]; decide)]) h) (fun _ => ?_)
        refine y_iload C 3 dL_desk_535 rfl ?_
        refine y_iconst C (2) dL_desk_537 (by decide) ?_
        refine y_icmp_eq C 558 dL_desk_538 (by decide) (fun h => absurd h (by decide)) (fun _ => ?_)
        refine y_iload C 3 dL_desk_541 rfl ?_
        refine y_iconst C (3) dL_desk_543 (by decide) ?_
        refine y_icmp_eq C 558 dL_desk_544 (by decide) (fun h => absurd h (by decide)) (fun _ => ?_)
        refine y_aload_n C 7 dL_desk_547 rfl rfl ?_
        refine y_iload C 4 dL_desk_548 rfl ?_
        refine y_callV C [.int (nI k)] (c_X6_doneIn g B0 l b (stJ 1 X t) (sv_t hv ht1 ht2) k (by have := (hv.2 0 (by decide)).1.2.1.2; omega)) RX6 1 (wVin q132 q133 q134 q2 q135) hy_X6_doneIn ⟨(Nat.le_of_ble_eq_true rfl), (Nat.le_of_ble_eq_true rfl)⟩ ⟨rfl, rfl⟩ (rcv C.2.2.2.2.2.1 hX.1 rfl) hX (fun _ h => h) rfl rfl (Nat.le_of_ble_eq_true rfl) dL_desk_550 ⟨(Nat.le_of_ble_eq_true rfl), (Nat.le_of_ble_eq_true rfl)⟩ rfl (fun H hp hz hf => ?_)
        obtain ⟨t2, ht1, ht2, hX⟩ := hp
        obtain ⟨t, rfl⟩ : ∃ z, z = t2 := ⟨_, rfl⟩
        have hX : sX g b (stJ 1 X t) H := (stJ_uu X _ t) ▸ hX
        refine y_top (show _ = (tDin X k) from rfl) ?_
        refine y_bipush C (-5) dL_desk_553 (by decide) ?_
        refine y_icmp_ne C 592 dL_desk_555 (by decide) (fun h => absurd (show tDin X k = -5 by rw [tDin, if_neg (isS_t hv hkn), if_neg (by rw [es]; decide), if_neg (by rw [es]; decide)]) h) (fun _ => ?_)
        refine y_aload_n C 7 dL_desk_558 rfl rfl ?_
        refine y_iload C 4 dL_desk_559 rfl ?_
        refine y_callV C [.int (nI k)] (c_X6_waitsFor g B0 l b (stJ 1 X t) (sv_t hv ht1 ht2) k hkn) RX6 1 (wVin q422 q423 q424 q2 q425) hy_X6_waitsFor ⟨(Nat.le_of_ble_eq_true rfl), (Nat.le_of_ble_eq_true rfl)⟩ ⟨rfl, rfl⟩ (rcv C.2.2.2.2.2.1 hX.1 rfl) hX (fun _ h => h) rfl rfl (Nat.le_of_ble_eq_true rfl) dL_desk_561 ⟨(Nat.le_of_ble_eq_true rfl), (Nat.le_of_ble_eq_true rfl)⟩ rfl (fun H hp hz hf => ?_)
        have hX := hp
        refine y_top (show _ = (tWt (X.2.2.2 0) k) from rfl) ?_
        refine y_bipush C (-5) dL_desk_564 (by decide) ?_
        refine y_icmp_ne C 573 dL_desk_566 (by decide) (fun h => absurd (tWt_eq (by rw [es]; decide)) h) (fun _ => ?_)
        refine y_iconst C (1) dL_desk_569 (by decide) ?_
        refine y_goto C 574 dL_desk_570 (by decide) ?_
        refine y_iload C 3 dL_desk_574 rfl ?_
        refine y_iconst C (5) dL_desk_576 (by decide) ?_
        refine y_icmp_le C 584 dL_desk_577 (by decide) (fun h => absurd h (by decide)) (fun _ => ?_)
        refine y_iconst C (1) dL_desk_580 (by decide) ?_
        refine y_goto C 585 dL_desk_581 (by decide) ?_
        refine y_icmp_ne C 592 dL_desk_585 (by decide) (fun h => absurd rfl h) (fun _ => ?_)
        refine y_iconst C (1) dL_desk_588 (by decide) ?_
        refine y_goto C 593 dL_desk_589 (by decide) ?_
        refine y_istore_n C dL_desk_593 rfl (by decide) rfl ?_
        refine y_iinc C 4 (nI (k + 1)) dL_desk_594 rfl (nI_succ _).symm (by decide) rfl ?_
        refine y_goto C 194 dL_desk_597 (by decide) ?_
        exact y_sub [0, 1, 5, 6, 7] (ih (k + 1) (by omega) _ _ hle1 hdn1 H ⟨t, ht1, ht2, hX⟩) rfl
      · suffices J2 : ∀ lent1 dn1 : Int32, lent1 = wlo (X.2.2.2 0) (k + 1) → dn1 = dnn (X.2.2.2 0) (k + 1) → ∀ H : Heap, sXt g b X H → Yx (iv b 152) pr l e rm_L_desk s m args below meth c 8 0 0 (MQ below (Qx (some (.int 1)) (sXt g b X) (iv b 152)) args s 0 0 (iv b 152)) [(7, .int (0 : Int32)), (6, .int (tHF (fl (X.2.2.2 0) k))), (5, .int (7 : Int32)), (4, .int (nI k)), (3, .int (1 : Int32)), (2, .int dn1), (1, .int lent1), (0, .ref b)] H 279 [] from by
          refine y_aload_n C 4 dL_desk_208 rfl rfl ?_
          refine y_iload C 0 dL_desk_209 rfl ?_
          refine y_bipush C (6) dL_desk_211 (by decide) ?_
          refine y_callV C [.int (nI k), .int (6 : Int32)] (c_X6_set_6 g B0 l b (stJ 1 X t) (sv_t hv ht1 ht2) k hkn) RX6 2 (wVin q380 q381 q382 q2 q383) hy_X6_set ⟨(Nat.le_of_ble_eq_true rfl), (Nat.le_of_ble_eq_true rfl)⟩ ⟨rfl, rfl⟩ (rcv C.2.2.2.2.2.1 hX.1 rfl) hX (fun _ h => h) rfl rfl (Nat.le_of_ble_eq_true rfl) dL_desk_213 ⟨(Nat.le_of_ble_eq_true rfl), (Nat.le_of_ble_eq_true rfl)⟩ rfl (fun H hp hz hf => ?_)
          have hX := hp
          refine y_top (show _ = ((X.2.2.2 0).1 18 k) from rfl) ?_
          refine y_top es ?_
          refine y_istore C dL_desk_216 (by decide) rfl ?_
          refine y_aload_n C 5 dL_desk_218 rfl rfl ?_
          refine y_iload C 1 dL_desk_219 rfl ?_
          refine y_iconst C (0) dL_desk_221 (by decide) ?_
          refine y_callV C [.int (nI k), .int (0 : Int32)] (c_X6_set_0 g B0 l b (stJ 1 X t) (sv_t hv ht1 ht2) k hkn) RX6 2 (wVin q380 q381 q382 q2 q383) hy_X6_set ⟨(Nat.le_of_ble_eq_true rfl), (Nat.le_of_ble_eq_true rfl)⟩ ⟨rfl, rfl⟩ (rcv C.2.2.2.2.2.1 hX.1 rfl) hX (fun _ h => h) rfl rfl (Nat.le_of_ble_eq_true rfl) dL_desk_222 ⟨(Nat.le_of_ble_eq_true rfl), (Nat.le_of_ble_eq_true rfl)⟩ rfl (fun H hp hz hf => ?_)
          have hX := hp
          refine y_top (show _ = ((X.2.2.2 0).1 12 k) from rfl) ?_
          refine y_top ((hv.2 0 (by decide)).1.2.2.1 _ hkn).1 ?_
          refine y_callS C [.int (nI (fl (X.2.2.2 0) k))] (c_L_hours g B0 l (fl (X.2.2.2 0) k) ((hv.2 0 (by decide)).1.2.2.1 _ hkn).2) 1 (wSin q414 q415 q125 q416) hs_L_hours ⟨(Nat.le_of_ble_eq_true rfl), (Nat.le_of_ble_eq_true rfl)⟩ ⟨rfl, rfl⟩ trivial nF.no rfl rfl (Nat.le_of_ble_eq_true rfl) dL_desk_225 ⟨(Nat.le_of_ble_eq_true rfl), (Nat.le_of_ble_eq_true rfl)⟩ rfl (fun H hp hz hf => ?_)
          have hX := sys.fr (A1 := nF) hX hf (fun _ _ z => z)
          refine y_istore C dL_desk_228 (by decide) rfl ?_
          refine y_iload C 1 dL_desk_230 rfl ?_
          refine y_iconst C (4) dL_desk_232 (by decide) ?_
          refine y_icmp_eq C 242 dL_desk_233 (by decide) (fun h => absurd h (by decide)) (fun _ => ?_)
          refine y_iload C 1 dL_desk_236 rfl ?_
          refine y_iconst C (5) dL_desk_238 (by decide) ?_
          refine y_icmp_ne C 246 dL_desk_239 (by decide) (fun _ => ?_) (fun h => absurd h (by decide))
          refine y_iconst C (0) dL_desk_246 (by decide) ?_
          refine y_istore C dL_desk_247 (by decide) rfl ?_
          refine y_iload_n C 6 dL_desk_249 rfl rfl ?_
          refine y_aload_n C 7 dL_desk_250 rfl rfl ?_
          refine y_iload C 3 dL_desk_251 rfl ?_
          refine y_iconst C (5) dL_desk_253 (by decide) ?_
          refine y_callV C [.int (nI k), .int (5 : Int32)] (c_X6_set_5 g B0 l b (stJ 1 X t) (sv_t hv ht1 ht2) k hkn) RX6 2 (wVin q380 q381 q382 q2 q383) hy_X6_set ⟨(Nat.le_of_ble_eq_true rfl), (Nat.le_of_ble_eq_true rfl)⟩ ⟨rfl, rfl⟩ (rcv C.2.2.2.2.2.1 hX.1 rfl) hX (fun _ h => h) rfl rfl (Nat.le_of_ble_eq_true rfl) dL_desk_254 ⟨(Nat.le_of_ble_eq_true rfl), (Nat.le_of_ble_eq_true rfl)⟩ rfl (fun H hp hz hf => ?_)
          have hX := hp
          refine y_top (show _ = ((X.2.2.2 0).1 17 k) from rfl) ?_
          refine y_iadd C dL_desk_257 ?_
          refine y_istore_n C dL_desk_258 rfl (by decide) rfl ?_
          refine y_iload_n C 6 dL_desk_259 rfl rfl ?_
          refine y_aload_n C 7 dL_desk_260 rfl rfl ?_
          refine y_iload C 4 dL_desk_261 rfl ?_
          refine y_iconst C (3) dL_desk_263 (by decide) ?_
          refine y_callV C [.int (nI k), .int (3 : Int32)] (c_X6_set_3 g B0 l b (stJ 1 X t) (sv_t hv ht1 ht2) k hkn) RX6 2 (wVin q380 q381 q382 q2 q383) hy_X6_set ⟨(Nat.le_of_ble_eq_true rfl), (Nat.le_of_ble_eq_true rfl)⟩ ⟨rfl, rfl⟩ (rcv C.2.2.2.2.2.1 hX.1 rfl) hX (fun _ h => h) rfl rfl (Nat.le_of_ble_eq_true rfl) dL_desk_264 ⟨(Nat.le_of_ble_eq_true rfl), (Nat.le_of_ble_eq_true rfl)⟩ rfl (fun H hp hz hf => ?_)
          have hX := hp
          refine y_top (show _ = ((X.2.2.2 0).1 15 k) from rfl) ?_
          refine y_iload C 2 dL_desk_267 rfl ?_
          refine y_icmp_ne C 276 dL_desk_269 (by decide) (fun hw => ?_) (fun hw => ?_)
          · refine y_iconst C (0) dL_desk_276 (by decide) ?_
            refine y_iadd C dL_desk_277 ?_
            refine y_istore_n C dL_desk_278 rfl (by decide) rfl ?_
            exact y_sub [2, 3, 4, 5, 6, 0, 1, 7] (J2 _ _ (by rw [wlo, hle]) (by rw [dnn, if_neg hw, hdn, Int32.add_zero]) _ ⟨t, ht1, ht2, hX⟩) rfl
          · refine y_iconst C (1) dL_desk_272 (by decide) ?_
            refine y_goto C 277 dL_desk_273 (by decide) ?_
            refine y_iadd C dL_desk_277 ?_
            refine y_istore_n C dL_desk_278 rfl (by decide) rfl ?_
            exact y_sub [2, 3, 4, 5, 6, 0, 1, 7] (J2 _ _ (by rw [wlo, hle]) (by rw [dnn, if_pos hw, hdn]) _ ⟨t, ht1, ht2, hX⟩) rfl
        intro lent1 dn1 hle1 hdn1 H hd
        obtain ⟨t, ht1, ht2, hX⟩ := hd
        suffices J3 :  ∀ H : Heap, sXt g b X H → Yx (iv b 152) pr l e rm_L_desk s m args below meth c 8 0 0 (MQ below (Qx (some (.int 1)) (sXt g b X) (iv b 152)) args s 0 0 (iv b 152)) [(7, .int (0 : Int32)), (6, .int (tHF (fl (X.2.2.2 0) k))), (5, .int (7 : Int32)), (4, .int (nI k)), (3, .int (1 : Int32)), (2, .int dn1), (1, .int lent1), (0, .ref b)] H 448 [] from by
          refine y_iload C 2 dL_desk_279 rfl ?_
          refine y_if_lt C 374 dL_desk_281 (by decide) (fun h => absurd h (by decide)) (fun _ => ?_)
          refine y_iload C 2 dL_desk_284 rfl ?_
          refine y_bipush C (8) dL_desk_286 (by decide) ?_
          refine y_icmp_ge C 374 dL_desk_288 (by decide) (fun h => absurd h (by decide)) (fun _ => ?_)
          refine y_aload_n C 7 dL_desk_291 rfl rfl ?_
          refine y_iload C 3 dL_desk_292 rfl ?_
          refine y_iconst C (3) dL_desk_294 (by decide) ?_
          refine y_callV C [.int (nI k), .int (3 : Int32)] (c_X6_set_3 g B0 l b (stJ 1 X t) (sv_t hv ht1 ht2) k hkn) RX6 2 (wVin q380 q381 q382 q2 q383) hy_X6_set ⟨(Nat.le_of_ble_eq_true rfl), (Nat.le_of_ble_eq_true rfl)⟩ ⟨rfl, rfl⟩ (rcv C.2.2.2.2.2.1 hX.1 rfl) hX (fun _ h => h) rfl rfl (Nat.le_of_ble_eq_true rfl) dL_desk_295 ⟨(Nat.le_of_ble_eq_true rfl), (Nat.le_of_ble_eq_true rfl)⟩ rfl (fun H hp hz hf => ?_)
          have hX := hp
          refine y_top (show _ = ((X.2.2.2 0).1 15 k) from rfl) ?_
          refine y_iload C 1 dL_desk_298 rfl ?_
          refine y_icmp_gt C 374 dL_desk_300 (by decide) (fun h => absurd h g1) (fun _ => ?_)
          refine y_iload C 2 dL_desk_303 rfl ?_
          refine y_iconst C (2) dL_desk_305 (by decide) ?_
          refine y_icmp_gt C 319 dL_desk_306 (by decide) (fun _ => ?_) (fun h => absurd (by decide) h)
          refine y_iload C 2 dL_desk_319 rfl ?_
          refine y_iconst C (3) dL_desk_321 (by decide) ?_
          refine y_icmp_ne C 337 dL_desk_322 (by decide) (fun _ => ?_) (fun h => absurd h (by decide))
          refine y_iload C 2 dL_desk_337 rfl ?_
          refine y_iconst C (4) dL_desk_339 (by decide) ?_
          refine y_icmp_ne C 355 dL_desk_340 (by decide) (fun _ => ?_) (fun h => absurd h (by decide))
          refine y_aload_n C 7 dL_desk_355 rfl rfl ?_
          refine y_iload C 3 dL_desk_356 rfl ?_
          refine y_iconst C (1) dL_desk_358 (by decide) ?_
          refine y_callV C [.int (nI k), .int (1 : Int32)] (c_X6_set_1 g B0 l b (stJ 1 X t) (sv_t hv ht1 ht2) k hkn) RX6 2 (wVin q380 q381 q382 q2 q383) hy_X6_set ⟨(Nat.le_of_ble_eq_true rfl), (Nat.le_of_ble_eq_true rfl)⟩ ⟨rfl, rfl⟩ (rcv C.2.2.2.2.2.1 hX.1 rfl) hX (fun _ h => h) rfl rfl (Nat.le_of_ble_eq_true rfl) dL_desk_359 ⟨(Nat.le_of_ble_eq_true rfl), (Nat.le_of_ble_eq_true rfl)⟩ rfl (fun H hp hz hf => ?_)
          have hX := hp
          refine y_top (show _ = ((X.2.2.2 0).1 13 k) from rfl) ?_
          refine y_aload_n C 7 dL_desk_362 rfl rfl ?_
          refine y_iconst C (0) dL_desk_363 (by decide) ?_
          refine y_callV C [.int (0 : Int32)] (c_X6_count_0 g B0 l b (stJ 1 X t) (sv_t hv ht1 ht2)) RX6 1 (wVin q92 q93 q94 q2 q95) hy_X6_count ⟨(Nat.le_of_ble_eq_true rfl), (Nat.le_of_ble_eq_true rfl)⟩ ⟨rfl, rfl⟩ (rcv C.2.2.2.2.2.1 hX.1 rfl) hX (fun _ h => h) rfl rfl (Nat.le_of_ble_eq_true rfl) dL_desk_364 ⟨(Nat.le_of_ble_eq_true rfl), (Nat.le_of_ble_eq_true rfl)⟩ rfl (fun H hp hz hf => ?_)
          have hX := hp
          refine y_top (show _ = ((X.2.2.2 0).1 0 0) from rfl) ?_
          refine y_icmp_gt C 374 dL_desk_367 (by decide) (fun h => absurd h g5) (fun _ => ?_)
          refine y_iconst C (1) dL_desk_370 (by decide) ?_
          refine y_goto C 375 dL_desk_371 (by decide) ?_
          refine y_istore_n C dL_desk_375 rfl (by decide) rfl ?_
          refine y_iload_n C 0 dL_desk_376 rfl rfl ?_
          refine y_if_eq C 512 dL_desk_377 (by decide) (fun h => absurd h (by decide)) (fun _ => ?_)
          refine y_aload_n C 7 dL_desk_380 rfl rfl ?_
          refine y_iload C 4 dL_desk_381 rfl ?_
          refine y_bipush C (7) dL_desk_383 (by decide) ?_
          refine y_callV C [.int (nI k), .int (7 : Int32)] (c_X6_set_7 g B0 l b (stJ 1 X t) (sv_t hv ht1 ht2) k hkn) RX6 2 (wVin q380 q381 q382 q2 q383) hy_X6_set ⟨(Nat.le_of_ble_eq_true rfl), (Nat.le_of_ble_eq_true rfl)⟩ ⟨rfl, rfl⟩ (rcv C.2.2.2.2.2.1 hX.1 rfl) hX (fun _ h => h) rfl rfl (Nat.le_of_ble_eq_true rfl) dL_desk_385 ⟨(Nat.le_of_ble_eq_true rfl), (Nat.le_of_ble_eq_true rfl)⟩ rfl (fun H hp hz hf => ?_)
          have hX := hp
          refine y_top (show _ = ((X.2.2.2 0).1 19 k) from rfl) ?_
          refine y_if_lt C 395 dL_desk_388 (by decide) (fun h => absurd h (g6.1 (by rw [es]; decide))) (fun _ => ?_)
          refine y_iconst C (1) dL_desk_391 (by decide) ?_
          refine y_goto C 396 dL_desk_392 (by decide) ?_
          refine y_iload C 3 dL_desk_396 rfl ?_
          refine y_iconst C (3) dL_desk_398 (by decide) ?_
          refine y_icmp_le C 406 dL_desk_399 (by decide) (fun h => absurd h (by decide)) (fun _ => ?_)
          refine y_iconst C (1) dL_desk_402 (by decide) ?_
          refine y_goto C 407 dL_desk_403 (by decide) ?_
          refine y_icmp_ne C 512 dL_desk_407 (by decide) (fun h => absurd rfl h) (fun _ => ?_)
          refine y_aload_n C 7 dL_desk_410 rfl rfl ?_
          refine y_iload C 4 dL_desk_411 rfl ?_
          refine y_bipush C (8) dL_desk_413 (by decide) ?_
          refine y_callV C [.int (nI k), .int (8 : Int32)] (c_X6_set_8 g B0 l b (stJ 1 X t) (sv_t hv ht1 ht2) k hkn) RX6 2 (wVin q380 q381 q382 q2 q383) hy_X6_set ⟨(Nat.le_of_ble_eq_true rfl), (Nat.le_of_ble_eq_true rfl)⟩ ⟨rfl, rfl⟩ (rcv C.2.2.2.2.2.1 hX.1 rfl) hX (fun _ h => h) rfl rfl (Nat.le_of_ble_eq_true rfl) dL_desk_415 ⟨(Nat.le_of_ble_eq_true rfl), (Nat.le_of_ble_eq_true rfl)⟩ rfl (fun H hp hz hf => ?_)
          have hX := hp
          refine y_top (show _ = (tFee (X.2.2.2 0) k) from rfl) ?_
          refine y_if_lt C 425 dL_desk_418 (by decide) (fun _ => ?_) (fun h => absurd (tFee_neg (by rw [es]; decide) (by rw [es]; decide)) h)
          refine y_iconst C (0) dL_desk_425 (by decide) ?_
          refine y_iload C 1 dL_desk_426 rfl ?_
          refine y_icmp_ne C 512 dL_desk_428 (by decide) (fun h => absurd rfl h) (fun _ => ?_)
          refine y_aload_n C 7 dL_desk_431 rfl rfl ?_
          refine y_iload C 4 dL_desk_432 rfl ?_
          refine y_iconst C (5) dL_desk_434 (by decide) ?_
          refine y_callV C [.int (nI k), .int (5 : Int32)] (c_X6_set_5 g B0 l b (stJ 1 X t) (sv_t hv ht1 ht2) k hkn) RX6 2 (wVin q380 q381 q382 q2 q383) hy_X6_set ⟨(Nat.le_of_ble_eq_true rfl), (Nat.le_of_ble_eq_true rfl)⟩ ⟨rfl, rfl⟩ (rcv C.2.2.2.2.2.1 hX.1 rfl) hX (fun _ h => h) rfl rfl (Nat.le_of_ble_eq_true rfl) dL_desk_435 ⟨(Nat.le_of_ble_eq_true rfl), (Nat.le_of_ble_eq_true rfl)⟩ rfl (fun H hp hz hf => ?_)
          have hX := hp
          refine y_top (show _ = ((X.2.2.2 0).1 17 k) from rfl) ?_
          refine y_if_eq C 448 dL_desk_438 (by decide) (fun hlo => ?_) (fun hlo => ?_)
          · exact y_sub [1, 2, 3, 4, 0, 5, 6, 7] (J3 _ ⟨t, ht1, ht2, hX⟩) rfl
          · refine y_iload C 3 dL_desk_441 rfl ?_
            refine y_bipush C (6) dL_desk_443 (by decide) ?_
            exact absurd (by rw [es]; decide) (g8 hlo)
        intro  H hd
        obtain ⟨t, ht1, ht2, hX⟩ := hd
        suffices J4 :  ∀ H : Heap, sXt g b X H → Yx (iv b 152) pr l e rm_L_desk s m args below meth c 8 0 0 (MQ below (Qx (some (.int 1)) (sXt g b X) (iv b 152)) args s 0 0 (iv b 152)) [(7, .int (0 : Int32)), (6, .int (tHF (fl (X.2.2.2 0) k))), (5, .int (7 : Int32)), (4, .int (nI k)), (3, .int (1 : Int32)), (2, .int dn1), (1, .int lent1), (0, .ref b)] H 480 [] from by
          refine y_aload_n C 7 dL_desk_448 rfl rfl ?_
          refine y_iload C 3 dL_desk_449 rfl ?_
          refine y_iconst C (4) dL_desk_451 (by decide) ?_
          refine y_callV C [.int (nI k), .int (4 : Int32)] (c_X6_set_4 g B0 l b (stJ 1 X t) (sv_t hv ht1 ht2) k hkn) RX6 2 (wVin q380 q381 q382 q2 q383) hy_X6_set ⟨(Nat.le_of_ble_eq_true rfl), (Nat.le_of_ble_eq_true rfl)⟩ ⟨rfl, rfl⟩ (rcv C.2.2.2.2.2.1 hX.1 rfl) hX (fun _ h => h) rfl rfl (Nat.le_of_ble_eq_true rfl) dL_desk_452 ⟨(Nat.le_of_ble_eq_true rfl), (Nat.le_of_ble_eq_true rfl)⟩ rfl (fun H hp hz hf => ?_)
          have hX := hp
          refine y_top (show _ = ((X.2.2.2 0).1 16 k) from rfl) ?_
          refine y_if_lt C 512 dL_desk_455 (by decide) (fun h => absurd h g9) (fun _ => ?_)
          refine y_aload_n C 7 dL_desk_458 rfl rfl ?_
          refine y_iload C 3 dL_desk_459 rfl ?_
          refine y_iconst C (4) dL_desk_461 (by decide) ?_
          refine y_callV C [.int (nI k), .int (4 : Int32)] (c_X6_set_4 g B0 l b (stJ 1 X t) (sv_t hv ht1 ht2) k hkn) RX6 2 (wVin q380 q381 q382 q2 q383) hy_X6_set ⟨(Nat.le_of_ble_eq_true rfl), (Nat.le_of_ble_eq_true rfl)⟩ ⟨rfl, rfl⟩ (rcv C.2.2.2.2.2.1 hX.1 rfl) hX (fun _ h => h) rfl rfl (Nat.le_of_ble_eq_true rfl) dL_desk_462 ⟨(Nat.le_of_ble_eq_true rfl), (Nat.le_of_ble_eq_true rfl)⟩ rfl (fun H hp hz hf => ?_)
          have hX := hp
          refine y_top (show _ = ((X.2.2.2 0).1 16 k) from rfl) ?_
          refine y_if_eq C 480 dL_desk_465 (by decide) (fun hb => ?_) (fun hb => ?_)
          · exact y_sub [0, 1, 2, 3, 4, 5, 6, 7] (J4 _ ⟨t, ht1, ht2, hX⟩) rfl
          · refine y_aload_n C 7 dL_desk_468 rfl rfl ?_
            refine y_iload C 3 dL_desk_469 rfl ?_
            refine y_iconst C (3) dL_desk_471 (by decide) ?_
            refine y_callV C [.int (nI k), .int (3 : Int32)] (c_X6_set_3 g B0 l b (stJ 1 X t) (sv_t hv ht1 ht2) k hkn) RX6 2 (wVin q380 q381 q382 q2 q383) hy_X6_set ⟨(Nat.le_of_ble_eq_true rfl), (Nat.le_of_ble_eq_true rfl)⟩ ⟨rfl, rfl⟩ (rcv C.2.2.2.2.2.1 hX.1 rfl) hX (fun _ h => h) rfl rfl (Nat.le_of_ble_eq_true rfl) dL_desk_472 ⟨(Nat.le_of_ble_eq_true rfl), (Nat.le_of_ble_eq_true rfl)⟩ rfl (fun H hp hz hf => ?_)
            have hX := hp
            refine y_top (show _ = ((X.2.2.2 0).1 15 k) from rfl) ?_
            refine y_iload C 1 dL_desk_475 rfl ?_
            refine y_icmp_ne C 512 dL_desk_477 (by decide) (fun h => absurd (g10 hb) h) (fun _ => ?_)
            exact y_sub [0, 1, 2, 3, 4, 5, 6, 7] (J4 _ ⟨t, ht1, ht2, hX⟩) rfl
        intro  H hd
        obtain ⟨t, ht1, ht2, hX⟩ := hd
        refine y_iload C 2 dL_desk_480 rfl ?_
        refine y_if_ne C 489 dL_desk_482 (by decide) (fun _ => ?_) (fun h => absurd h (by decide))
        refine y_iconst C (0) dL_desk_489 (by decide) ?_
        refine y_aload_n C 7 dL_desk_490 rfl rfl ?_
        refine y_iload C 3 dL_desk_491 rfl ?_
        refine y_iconst C (2) dL_desk_493 (by decide) ?_
        refine y_callV C [.int (nI k), .int (2 : Int32)] (c_X6_set_2 g B0 l b (stJ 1 X t) (sv_t hv ht1 ht2) k hkn) RX6 2 (wVin q380 q381 q382 q2 q383) hy_X6_set ⟨(Nat.le_of_ble_eq_true rfl), (Nat.le_of_ble_eq_true rfl)⟩ ⟨rfl, rfl⟩ (rcv C.2.2.2.2.2.1 hX.1 rfl) hX (fun _ h => h) rfl rfl (Nat.le_of_ble_eq_true rfl) dL_desk_494 ⟨(Nat.le_of_ble_eq_true rfl), (Nat.le_of_ble_eq_true rfl)⟩ rfl (fun H hp hz hf => ?_)
        have hX := hp
        refine y_top (show _ = ((X.2.2.2 0).1 14 k) from rfl) ?_
        refine y_if_ne C 504 dL_desk_497 (by decide) (fun _ => ?_) (fun h => absurd h (g11.2 (by rw [es]; decide)))
        refine y_iconst C (0) dL_desk_504 (by decide) ?_
        refine y_icmp_ne C 512 dL_desk_505 (by decide) (fun h => absurd rfl h) (fun _ => ?_)
        refine y_iconst C (1) dL_desk_508 (by decide) ?_
        refine y_goto C 513 dL_desk_509 (by decide) ?_
        refine y_istore_n C dL_desk_513 rfl (by decide) rfl ?_
        refine y_iload_n C 0 dL_desk_514 rfl rfl ?_
        refine y_if_eq C 592 dL_desk_515 (by decide) (fun h => absurd h (by decide)) (fun _ => ?_)
        refine y_iload C 3 dL_desk_518 rfl ?_
        refine y_iconst C (2) dL_desk_520 (by decide) ?_
        refine y_icmp_eq C 535 dL_desk_521 (by decide) (fun h => absurd h (by decide)) (fun _ => ?_)
        refine y_aload_n C 7 dL_desk_524 rfl rfl ?_
        refine y_iload C 4 dL_desk_525 rfl ?_
        refine y_callV C [.int (nI k)] (c_X6_lacks g B0 l b (stJ 1 X t) (sv_t hv ht1 ht2) k hkn) RX6 1 (wVin q417 q418 q419 q2 q420) hy_X6_lacks ⟨(Nat.le_of_ble_eq_true rfl), (Nat.le_of_ble_eq_true rfl)⟩ ⟨rfl, rfl⟩ (rcv C.2.2.2.2.2.1 hX.1 rfl) hX (fun _ h => h) rfl rfl (Nat.le_of_ble_eq_true rfl) dL_desk_527 ⟨(Nat.le_of_ble_eq_true rfl), (Nat.le_of_ble_eq_true rfl)⟩ rfl (fun H hp hz hf => ?_)
        have hX := hp
        refine y_top (show _ = (tLks (X.2.2.2 0) k) from rfl) ?_
        refine y_bipush C (-5) dL_desk_530 (by decide) ?_
        refine y_icmp_ne C 592 dL_desk_532 (by decide) (fun h => absurd (show tLks (X.2.2.2 0) k = -5 by rw [tLks, if_neg (by rw [es]; decide)]) h) (fun _ => ?_)
        refine y_iload C 3 dL_desk_535 rfl ?_
        refine y_iconst C (2) dL_desk_537 (by decide) ?_
        refine y_icmp_eq C 558 dL_desk_538 (by decide) (fun h => absurd h (by decide)) (fun _ => ?_)
        refine y_iload C 3 dL_desk_541 rfl ?_
        refine y_iconst C (3) dL_desk_543 (by decide) ?_
        refine y_icmp_eq C 558 dL_desk_544 (by decide) (fun h => absurd h (by decide)) (fun _ => ?_)
        refine y_aload_n C 7 dL_desk_547 rfl rfl ?_
        refine y_iload C 4 dL_desk_548 rfl ?_
        refine y_callV C [.int (nI k)] (c_X6_doneIn g B0 l b (stJ 1 X t) (sv_t hv ht1 ht2) k (by have := (hv.2 0 (by decide)).1.2.1.2; omega)) RX6 1 (wVin q132 q133 q134 q2 q135) hy_X6_doneIn ⟨(Nat.le_of_ble_eq_true rfl), (Nat.le_of_ble_eq_true rfl)⟩ ⟨rfl, rfl⟩ (rcv C.2.2.2.2.2.1 hX.1 rfl) hX (fun _ h => h) rfl rfl (Nat.le_of_ble_eq_true rfl) dL_desk_550 ⟨(Nat.le_of_ble_eq_true rfl), (Nat.le_of_ble_eq_true rfl)⟩ rfl (fun H hp hz hf => ?_)
        obtain ⟨t2, ht1, ht2, hX⟩ := hp
        obtain ⟨t, rfl⟩ : ∃ z, z = t2 := ⟨_, rfl⟩
        have hX : sX g b (stJ 1 X t) H := (stJ_uu X _ t) ▸ hX
        refine y_top (show _ = (tDin X k) from rfl) ?_
        refine y_bipush C (-5) dL_desk_553 (by decide) ?_
        refine y_icmp_ne C 592 dL_desk_555 (by decide) (fun h => absurd (show tDin X k = -5 by rw [tDin, if_neg (isS_t hv hkn), if_neg (by rw [es]; decide), if_neg (by rw [es]; decide)]) h) (fun _ => ?_)
        refine y_aload_n C 7 dL_desk_558 rfl rfl ?_
        refine y_iload C 4 dL_desk_559 rfl ?_
        refine y_callV C [.int (nI k)] (c_X6_waitsFor g B0 l b (stJ 1 X t) (sv_t hv ht1 ht2) k hkn) RX6 1 (wVin q422 q423 q424 q2 q425) hy_X6_waitsFor ⟨(Nat.le_of_ble_eq_true rfl), (Nat.le_of_ble_eq_true rfl)⟩ ⟨rfl, rfl⟩ (rcv C.2.2.2.2.2.1 hX.1 rfl) hX (fun _ h => h) rfl rfl (Nat.le_of_ble_eq_true rfl) dL_desk_561 ⟨(Nat.le_of_ble_eq_true rfl), (Nat.le_of_ble_eq_true rfl)⟩ rfl (fun H hp hz hf => ?_)
        have hX := hp
        refine y_top (show _ = (tWt (X.2.2.2 0) k) from rfl) ?_
        refine y_bipush C (-5) dL_desk_564 (by decide) ?_
        refine y_icmp_ne C 573 dL_desk_566 (by decide) (fun h => absurd (tWt_eq (by rw [es]; decide)) h) (fun _ => ?_)
        refine y_iconst C (1) dL_desk_569 (by decide) ?_
        refine y_goto C 574 dL_desk_570 (by decide) ?_
        refine y_iload C 3 dL_desk_574 rfl ?_
        refine y_iconst C (5) dL_desk_576 (by decide) ?_
        refine y_icmp_le C 584 dL_desk_577 (by decide) (fun h => absurd h (by decide)) (fun _ => ?_)
        refine y_iconst C (1) dL_desk_580 (by decide) ?_
        refine y_goto C 585 dL_desk_581 (by decide) ?_
        refine y_icmp_ne C 592 dL_desk_585 (by decide) (fun h => absurd rfl h) (fun _ => ?_)
        refine y_iconst C (1) dL_desk_588 (by decide) ?_
        refine y_goto C 593 dL_desk_589 (by decide) ?_
        refine y_istore_n C dL_desk_593 rfl (by decide) rfl ?_
        refine y_iinc C 4 (nI (k + 1)) dL_desk_594 rfl (nI_succ _).symm (by decide) rfl ?_
        refine y_goto C 194 dL_desk_597 (by decide) ?_
        exact y_sub [0, 1, 5, 6, 7] (ih (k + 1) (by omega) _ _ hle1 hdn1 H ⟨t, ht1, ht2, hX⟩) rfl
    | zero =>
      intro k hkr lent dn hle hdn H hd
      obtain ⟨t, ht1, ht2, hX⟩ := hd
      obtain rfl : k = nm (X.2.2.2 0) := by omega
      refine y_iload C 0 dL_desk_194 rfl ?_
      refine y_aload_n C 4 dL_desk_196 rfl rfl ?_
      refine y_iconst C (1) dL_desk_197 (by decide) ?_
      refine y_callV C [.int (1 : Int32)] (c_X6_count_1 g B0 l b (stJ 1 X t) (sv_t hv ht1 ht2)) RX6 1 (wVin q92 q93 q94 q2 q95) hy_X6_count ⟨(Nat.le_of_ble_eq_true rfl), (Nat.le_of_ble_eq_true rfl)⟩ ⟨rfl, rfl⟩ (rcv C.2.2.2.2.2.1 hX.1 rfl) hX (fun _ h => h) rfl rfl (Nat.le_of_ble_eq_true rfl) dL_desk_198 ⟨(Nat.le_of_ble_eq_true rfl), (Nat.le_of_ble_eq_true rfl)⟩ rfl (fun H hp hz hf => ?_)
      have hX := hp
      refine y_top (show _ = ((X.2.2.2 0).1 11 0) from rfl) ?_
      refine y_icmp_ge C 600 dL_desk_201 (by decide) (fun _ => ?_) (fun h => absurd (ge_t rfl (hv.2 0 (by decide)).1.2.1.1 (Nat.le_refl _) (by have := (hv.2 0 (by decide)).1.2.1.2; omega)) h)
      refine y_iconst C (0) dL_desk_600 (by decide) ?_
      refine y_istore C dL_desk_601 (by decide) rfl ?_
      refine y_iconst C (0) dL_desk_603 (by decide) ?_
      refine y_istore C dL_desk_604 (by decide) rfl ?_
      suffices KC : ∀ rem j : Nat, j + rem = 8 → ∀ sum : Int32, sum = smm (X.2.2.2 0) j → ∀ H : Heap, sXt g b X H → Yx (iv b 152) pr l e rm_L_desk s m args below meth c 8 0 0 (MQ below (Qx (some (.int 1)) (sXt g b X) (iv b 152)) args s 0 0 (iv b 152)) [(5, .int (nI j)), (4, .int sum), (3, .int (1 : Int32)), (2, .int dn), (1, .int lent), (0, .ref b)] H 606 [] from y_sub [0, 1, 2, 3, 4, 5] (KC 8 0 (Nat.zero_add _) _ rfl _ ⟨t, ht1, ht2, hX⟩) rfl
      intro rem3
      induction rem3 with
      | succ rem3 ih3 =>
        intro j hj sum hs H hd
        obtain ⟨t, ht1, ht2, hX⟩ := hd
        have hlt : j < 8 := by omega
        refine y_iload C 0 dL_desk_606 rfl ?_
        refine y_bipush C (8) dL_desk_608 (by decide) ?_
        refine y_icmp_ge C 632 dL_desk_610 (by decide) (fun h => absurd h (ge_f rfl rfl hlt (by decide))) (fun _ => ?_)
        refine y_iload C 1 dL_desk_613 rfl ?_
        refine y_aload_n C 5 dL_desk_615 rfl rfl ?_
        refine y_iconst C (2) dL_desk_616 (by decide) ?_
        refine y_iload C 0 dL_desk_617 rfl ?_
        refine y_iadd C dL_desk_619 ?_
        refine y_top (show (2 : Int32) + nI j = nI (2 + j) from nI_add 2 j) ?_
        refine y_callV C [.int (nI (2 + j))] (c_X6_count_st g B0 l b (stJ 1 X t) (sv_t hv ht1 ht2) j hlt) RX6 1 (wVin q92 q93 q94 q2 q95) hy_X6_count ⟨(Nat.le_of_ble_eq_true rfl), (Nat.le_of_ble_eq_true rfl)⟩ ⟨rfl, rfl⟩ (rcv C.2.2.2.2.2.1 hX.1 rfl) hX (fun _ h => h) rfl rfl (Nat.le_of_ble_eq_true rfl) dL_desk_620 ⟨(Nat.le_of_ble_eq_true rfl), (Nat.le_of_ble_eq_true rfl)⟩ rfl (fun H hp hz hf => ?_)
        have hX := hp
        refine y_top (show _ = (ins (X.2.2.2 0) (nI j) (nm (X.2.2.2 0))) from rfl) ?_
        refine y_iadd C dL_desk_623 ?_
        refine y_istore C dL_desk_624 (by decide) rfl ?_
        refine y_iinc C 1 (nI (j + 1)) dL_desk_626 rfl (nI_succ _).symm (by decide) rfl ?_
        refine y_goto C 606 dL_desk_629 (by decide) ?_
        exact y_sub [0, 1, 2, 3, 4, 5] (ih3 (j + 1) (by omega) _ (by rw [smm, hs]) H ⟨t, ht1, ht2, hX⟩) rfl
      | zero =>
        intro j hj sum hs H hd
        obtain ⟨t, ht1, ht2, hX⟩ := hd
        obtain rfl : j = 8 := by omega
        refine y_iload C 0 dL_desk_606 rfl ?_
        refine y_bipush C (8) dL_desk_608 (by decide) ?_
        refine y_icmp_ge C 632 dL_desk_610 (by decide) (fun _ => ?_) (fun h => absurd (ge_t rfl rfl (Nat.le_refl 8) (by decide)) h)
        refine y_iload_n C 2 dL_desk_632 rfl rfl ?_
        refine y_if_eq C 686 dL_desk_633 (by decide) (fun h => absurd h (by decide)) (fun _ => ?_)
        refine y_iload C 1 dL_desk_636 rfl ?_
        refine y_aload_n C 5 dL_desk_638 rfl rfl ?_
        refine y_iconst C (1) dL_desk_639 (by decide) ?_
        refine y_callV C [.int (1 : Int32)] (c_X6_count_1 g B0 l b (stJ 1 X t) (sv_t hv ht1 ht2)) RX6 1 (wVin q92 q93 q94 q2 q95) hy_X6_count ⟨(Nat.le_of_ble_eq_true rfl), (Nat.le_of_ble_eq_true rfl)⟩ ⟨rfl, rfl⟩ (rcv C.2.2.2.2.2.1 hX.1 rfl) hX (fun _ h => h) rfl rfl (Nat.le_of_ble_eq_true rfl) dL_desk_640 ⟨(Nat.le_of_ble_eq_true rfl), (Nat.le_of_ble_eq_true rfl)⟩ rfl (fun H hp hz hf => ?_)
        have hX := hp
        refine y_top (show _ = ((X.2.2.2 0).1 11 0) from rfl) ?_
        refine y_icmp_ne C 686 dL_desk_643 (by decide) (fun h => absurd (by rw [hs]; exact hg.2.2.1) h) (fun _ => ?_)
        refine y_aload_n C 5 dL_desk_646 rfl rfl ?_
        refine y_bipush C (11) dL_desk_647 (by decide) ?_
        refine y_callV C [.int (11 : Int32)] (c_X6_count_11 g B0 l b (stJ 1 X t) (sv_t hv ht1 ht2)) RX6 1 (wVin q92 q93 q94 q2 q95) hy_X6_count ⟨(Nat.le_of_ble_eq_true rfl), (Nat.le_of_ble_eq_true rfl)⟩ ⟨rfl, rfl⟩ (rcv C.2.2.2.2.2.1 hX.1 rfl) hX (fun _ h => h) rfl rfl (Nat.le_of_ble_eq_true rfl) dL_desk_649 ⟨(Nat.le_of_ble_eq_true rfl), (Nat.le_of_ble_eq_true rfl)⟩ rfl (fun H hp hz hf => ?_)
        have hX := hp
        refine y_top (show _ = (lth (X.2.2.2 0)) from rfl) ?_
        refine y_aload_n C 5 dL_desk_652 rfl rfl ?_
        refine y_iconst C (4) dL_desk_653 (by decide) ?_
        refine y_callV C [.int (4 : Int32)] (c_X6_number g B0 l b (stJ 1 X t) (sv_t hv ht1 ht2) 4 (by decide)) RX6 1 (wVin q431 q432 q433 q2 q434) hy_X6_number ⟨(Nat.le_of_ble_eq_true rfl), (Nat.le_of_ble_eq_true rfl)⟩ ⟨rfl, rfl⟩ (rcv C.2.2.2.2.2.1 hX.1 rfl) hX (fun _ h => h) rfl rfl (Nat.le_of_ble_eq_true rfl) dL_desk_654 ⟨(Nat.le_of_ble_eq_true rfl), (Nat.le_of_ble_eq_true rfl)⟩ rfl (fun H hp hz hf => ?_)
        have hX := hp
        refine y_top (show _ = ((X.2.2.2 0).1 2 4) from rfl) ?_
        refine y_iload_n C 4 dL_desk_657 rfl rfl ?_
        refine y_isub C dL_desk_658 ?_
        refine y_icmp_ne C 686 dL_desk_659 (by decide) (fun h => absurd (by rw [hle]; rfl) h) (fun _ => ?_)
        refine y_aload_n C 5 dL_desk_662 rfl rfl ?_
        refine y_bipush C (11) dL_desk_663 (by decide) ?_
        refine y_callV C [.int (11 : Int32)] (c_X6_count_11 g B0 l b (stJ 1 X t) (sv_t hv ht1 ht2)) RX6 1 (wVin q92 q93 q94 q2 q95) hy_X6_count ⟨(Nat.le_of_ble_eq_true rfl), (Nat.le_of_ble_eq_true rfl)⟩ ⟨rfl, rfl⟩ (rcv C.2.2.2.2.2.1 hX.1 rfl) hX (fun _ h => h) rfl rfl (Nat.le_of_ble_eq_true rfl) dL_desk_665 ⟨(Nat.le_of_ble_eq_true rfl), (Nat.le_of_ble_eq_true rfl)⟩ rfl (fun H hp hz hf => ?_)
        have hX := hp
        refine y_top (show _ = (lth (X.2.2.2 0)) from rfl) ?_
        refine y_if_lt C 686 dL_desk_668 (by decide) (fun h => absurd h hg.2.2.2.1) (fun _ => ?_)
        refine y_aload_n C 5 dL_desk_671 rfl rfl ?_
        refine y_bipush C (10) dL_desk_672 (by decide) ?_
        refine y_callV C [.int (10 : Int32)] (c_X6_count_10 g B0 l b (stJ 1 X t) (sv_t hv ht1 ht2)) RX6 1 (wVin q92 q93 q94 q2 q95) hy_X6_count ⟨(Nat.le_of_ble_eq_true rfl), (Nat.le_of_ble_eq_true rfl)⟩ ⟨rfl, rfl⟩ (rcv C.2.2.2.2.2.1 hX.1 rfl) hX (fun _ h => h) rfl rfl (Nat.le_of_ble_eq_true rfl) dL_desk_674 ⟨(Nat.le_of_ble_eq_true rfl), (Nat.le_of_ble_eq_true rfl)⟩ rfl (fun H hp hz hf => ?_)
        have hX := hp
        refine y_top (show _ = ((X.2.2.2 0).1 3 0) from rfl) ?_
        refine y_bipush C (12) dL_desk_677 (by decide) ?_
        refine y_icmp_gt C 686 dL_desk_679 (by decide) (fun h => absurd h (fun z => by have e := (hv.2 0 (by decide)).1.1; rw [e.1] at z; exact nI_nlt (a := 12) (b := no (X.2.2.2 0)) e.2 (by decide) z)) (fun _ => ?_)
        refine y_iconst C (1) dL_desk_682 (by decide) ?_
        refine y_goto C 687 dL_desk_683 (by decide) ?_
        refine y_istore_n C dL_desk_687 rfl (by decide) rfl ?_
        refine y_iconst C (0) dL_desk_688 (by decide) ?_
        refine y_istore C dL_desk_689 (by decide) rfl ?_
        suffices KD : ∀ rem f : Nat, f + rem = 5 → ∀ H : Heap, sXt g b X H → Yx (iv b 152) pr l e rm_L_desk s m args below meth c 8 0 0 (MQ below (Qx (some (.int 1)) (sXt g b X) (iv b 152)) args s 0 0 (iv b 152)) [(5, .int (nI f)), (3, .int (1 : Int32)), (2, .int dn), (0, .ref b)] H 691 [] from y_sub [0, 1, 3, 5] (KD 5 0 (Nat.zero_add _) _ ⟨t, ht1, ht2, hX⟩) rfl
        intro rem4
        induction rem4 with
        | succ rem4 ih4 =>
          intro f hf H hd
          obtain ⟨t, ht1, ht2, hX⟩ := hd
          have hf5 : f < 5 := by omega
          refine y_iload C 0 dL_desk_691 rfl ?_
          refine y_iconst C (5) dL_desk_693 (by decide) ?_
          refine y_icmp_ge C 728 dL_desk_694 (by decide) (fun h => absurd h (ge_f rfl rfl hf5 (by decide))) (fun _ => ?_)
          refine y_iload_n C 1 dL_desk_697 rfl rfl ?_
          refine y_if_eq C 728 dL_desk_698 (by decide) (fun h => absurd h (by decide)) (fun _ => ?_)
          refine y_aload_n C 3 dL_desk_701 rfl rfl ?_
          refine y_iload C 0 dL_desk_702 rfl ?_
          refine y_callV C [.int (nI f)] (c_X6_costOf g B0 l b (stJ 1 X t) (sv_t hv ht1 ht2) f hf5) RX6 1 (wVin q435 q436 q437 q2 q438) hy_X6_costOf ⟨(Nat.le_of_ble_eq_true rfl), (Nat.le_of_ble_eq_true rfl)⟩ ⟨rfl, rfl⟩ (rcv C.2.2.2.2.2.1 hX.1 rfl) hX (fun _ h => h) rfl rfl (Nat.le_of_ble_eq_true rfl) dL_desk_704 ⟨(Nat.le_of_ble_eq_true rfl), (Nat.le_of_ble_eq_true rfl)⟩ rfl (fun H hp hz hf => ?_)
          have hX := hp
          refine y_top (show _ = (cost (X.2.2.2 0) f) from rfl) ?_
          refine y_aload_n C 3 dL_desk_707 rfl rfl ?_
          refine y_iload C 0 dL_desk_708 rfl ?_
          refine y_callS C [.ref b, .int (nI f)] (c_L_cost g B0 l b X hv f hf5) 2 (wSin q439 q440 q125 q441) hs_L_cost ⟨(Nat.le_of_ble_eq_true rfl), (Nat.le_of_ble_eq_true rfl)⟩ ⟨rfl, rfl⟩ ⟨t, ht1, ht2, hX⟩ (fun _ h => h) rfl rfl (Nat.le_of_ble_eq_true rfl) dL_desk_710 ⟨(Nat.le_of_ble_eq_true rfl), (Nat.le_of_ble_eq_true rfl)⟩ rfl (fun H hp hz hf => ?_)
          obtain ⟨t, ht1, ht2, hX⟩ := hp
          refine y_icmp_ne C 720 dL_desk_713 (by decide) (fun h => absurd rfl h) (fun _ => ?_)
          refine y_iconst C (1) dL_desk_716 (by decide) ?_
          refine y_goto C 721 dL_desk_717 (by decide) ?_
          refine y_istore_n C dL_desk_721 rfl (by decide) rfl ?_
          refine y_iinc C 1 (nI (f + 1)) dL_desk_722 rfl (nI_succ _).symm (by decide) rfl ?_
          refine y_goto C 691 dL_desk_725 (by decide) ?_
          exact y_sub [0, 1, 2, 3] (ih4 (f + 1) (by omega) H ⟨t, ht1, ht2, hX⟩) rfl
        | zero =>
          intro f hf H hd
          obtain ⟨t, ht1, ht2, hX⟩ := hd
          obtain rfl : f = 5 := by omega
          refine y_iload C 0 dL_desk_691 rfl ?_
          refine y_iconst C (5) dL_desk_693 (by decide) ?_
          refine y_icmp_ge C 728 dL_desk_694 (by decide) (fun _ => ?_) (fun h => absurd (ge_t rfl rfl (Nat.le_refl 5) (by decide)) h)
          refine y_aload_n C 3 dL_desk_728 rfl rfl ?_
          refine y_callV C [] (c_X6_meanDays g B0 l b (stJ 1 X t) (sv_t hv ht1 ht2)) RX6 0 (wVin q450 q451 q452 q2 q453) hy_X6_meanDays ⟨(Nat.le_of_ble_eq_true rfl), (Nat.le_of_ble_eq_true rfl)⟩ ⟨rfl, rfl⟩ (rcv C.2.2.2.2.2.1 hX.1 rfl) hX (fun _ h => h) rfl rfl (Nat.le_of_ble_eq_true rfl) dL_desk_729 ⟨(Nat.le_of_ble_eq_true rfl), (Nat.le_of_ble_eq_true rfl)⟩ rfl (fun H hp hz hf => ?_)
          have hX := hp
          refine y_fstore C dL_desk_732 (by decide) rfl ?_
          refine y_iload_n C 1 dL_desk_734 rfl rfl ?_
          refine y_if_eq C 764 dL_desk_735 (by decide) (fun h => absurd h (by decide)) (fun _ => ?_)
          refine y_iload_n C 2 dL_desk_738 rfl rfl ?_
          refine y_if_ne C 753 dL_desk_739 (by decide) (fun hz => ?_) (fun hz => ?_)
          · refine y_fload C 0 dL_desk_753 rfl ?_
            refine y_fconst0 C dL_desk_755 ?_
            refine y_fcmp C dL_desk_756 ?_
            refine y_if_lt C 764 dL_desk_757 (by decide) (fun h => absurd h (hg.2.2.2.2.2 (by rw [← hdn]; exact hz))) (fun _ => ?_)
            refine y_iconst C (1) dL_desk_760 (by decide) ?_
            refine y_goto C 765 dL_desk_761 (by decide) ?_
            exact y_zret C hr (by first | exact Or.inl rfl | exact Or.inr rfl) rfl ⟨t, ht1, ht2, hX⟩ dL_desk_765
          · refine y_fload C 0 dL_desk_742 rfl ?_
            refine y_fload C 0 dL_desk_744 rfl ?_
            refine y_fcmp C dL_desk_746 ?_
            refine y_if_eq C 764 dL_desk_747 (by decide) (fun h => absurd h (by show ¬ Op.cmpValue (FP.fcmp (tMean (X.2.2.2 0)) (tMean (X.2.2.2 0))) .l = 0; rw [hg.2.2.2.2.1 (by rw [← hdn]; exact hz)]; decide +kernel)) (fun _ => ?_)
            refine y_goto C 760 dL_desk_750 (by decide) ?_
            refine y_iconst C (1) dL_desk_760 (by decide) ?_
            refine y_goto C 765 dL_desk_761 (by decide) ?_
            exact y_zret C hr (by first | exact Or.inl rfl | exact Or.inr rfl) rfl ⟨t, ht1, ht2, hX⟩ dL_desk_765
