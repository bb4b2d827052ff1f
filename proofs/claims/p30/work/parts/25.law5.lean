/-! THE LAW's own body -/
theorem y_widen {A : Nat → Prop} {p : Program} {l : Launch} {e : Env} {R : Room} {s : State} {m : MethodId} {args : Array Value} {below : List Frame} {meth : Method} {c : Code} {nL cells slots k n : Nat} {Q : State → Prop} {lv : List (Nat × Value)} {H : Heap} {pc : Nat} {st : List Value} (h1 : cells ≤ k) (h2 : slots ≤ n) (kk : Yx A p l e R s m args below meth c nL k n Q lv H pc st) : Yx A p l e R s m args below meth c nL cells slots Q lv H pc st := fun ls locs hl hS => W.widen h1 h2 (kk ls locs hl hS)
/-- what the invariant of the turns must say -/
def OkS (Ok : Nat → SV → Prop) : Prop :=
  Ok 0 (0, 0, 0, fun _ => dNew) ∧ (∀ n X, Ok n X → sv X) ∧ (∀ n X t, Ok n X → sf t → fr t → Ok n (stJ 1 X t)) ∧
  (∀ n X c a bb, n < 40 → Ok n X → c < 22 → Ok (n + 1) (lAct X c a bb).2) ∧ (∀ n X, Ok n X → gd (X.2.2.2 0)) ∧
  (∀ n X c a bb, n < 40 → Ok n X → c < 22 → ¬ 0 ≤ (lAct X c a bb).1 → (lAct X c a bb).2.2.1 = X.2.1 ∧ ((lAct X c a bb).2.2.2.2 0).1 0 0 = (X.2.2.2 0).1 0 0 ∧ ((lAct X c a bb).2.2.2.2 0).1 11 0 = (X.2.2.2 0).1 11 0) ∧
  (∀ n X c a bb, n < 40 → Ok n X → 18 < c → c < 22 → ¬ (lAct X c a bb).1 < 0 ∧ ((lAct X c a bb).2.2.2.2 0).1 0 0 = (X.2.2.2 0).1 0 0 + nI (1 + lw bb 5) ∧ ∀ k, k < 10 → ¬ tDin X k < 0 → k < nm ((lAct X c a bb).2.2.2.2 0) ∧ (((lAct X c a bb).2.2.2.2 0).1 18 k ≤ 3 ↔ nI (1 + lw bb 5) < tDin X k))
theorem nI_div3 {L : Nat} (hL : L ≤ 260) : nI L / 3 = nI (L / 3) := pk_div (d := 3) (by omega) (by decide) (by decide)
def trn (L : Nat) : Nat := if L / 3 ≤ 40 then L / 3 else 40
set_option maxRecDepth 100000 in
set_option maxHeartbeats 8000000 in
/-- the law from its entry, for any invariant that says enough -/
theorem law_body {g : KG} {p : Program} {l : Launch} {e : Env} {s : State} {m : MethodId} {below : List Frame} {meth : Method} {c : Code} {sb L : Nat} {xs : Nat → Int32} (hL : L ≤ 260) (Ok : Nat → SV → Prop) (hS0 : OkS Ok) (C : Cx g s.heap.size (fun q : Nat => s.heap.size ≤ q) p s m #[Value.ref sb] meth c cL_law 12 RL) (hr : meth.sig.returnType = ret) (hlocks : meth.locks = false) (hSc : scr s.heap.size sb L xs s s.heap) : Yx (fun q : Nat => s.heap.size ≤ q) p l e room_1 s m #[Value.ref sb] below meth c 12 0 0 (lw_Z below #[Value.ref sb] s) [(0, .ref sb)] s.heap 0 [] := by
  obtain ⟨hI0, hIv, hIt, hIa, hIg, hIe, hIp⟩ := hS0
  obtain ⟨b, hbb⟩ : ∃ b, b = s.heap.size := ⟨_, rfl⟩
  have hL31 : L < 2 ^ 31 := by omega
  have hz : s.heap.size = b := hbb.symm
  suffices KK : b = s.heap.size → ∀ rem k : Nat, k + rem = trn L → ∀ X : SV, Ok k X → ∀ H : Heap, sX g b X H → Yx (fun q : Nat => s.heap.size ≤ q) p l e room_1 s m #[Value.ref sb] below meth c 12 152 1880 (lw_Z below #[Value.ref sb] s) [(4, .int (nI k)), (3, .int (nI (trn L))), (2, .int (1 : Int32)), (1, .ref b), (0, .ref sb)] H 32 [] from by
    have K := fun H hX => KK hbb (trn L) 0 (Nat.zero_add _) _ hI0 H hX
    refine y_new6 C (fs := [.null, .null, .null, .int 0, .null, .null]) q0 q1 q2 (fun j hj => match j, hj with | 0, _ => rfl | 1, _ => rfl | 2, _ => rfl | 3, _ => rfl | 4, _ => rfl | 5, _ => rfl | n + 6, hj => absurd hj (by omega)) (Nat.le_of_ble_eq_true rfl) (Nat.le_of_ble_eq_true rfl) dL_law_0 hz (fun H hnw zn on => ?_)
    refine y_dup C dL_law_3 rfl ?_
    refine y_callI C (c_X6_init g _ l b) q3 q4 q2 q5 rfl hi_X6_init ⟨(Nat.le_of_ble_eq_true rfl), (Nat.le_of_ble_eq_true rfl)⟩ ⟨rfl, rfl⟩ ⟨zn, hnw⟩ (fun q hq => by show _ ≤ _; rw [hz]; exact hq) (Nat.le_of_ble_eq_true rfl) dL_law_4 ⟨(Nat.le_of_ble_eq_true rfl), (Nat.le_of_ble_eq_true rfl)⟩ (fun H hp hzz hf => ?_)
    have hX := hp.2
    have hAiv : ∀ q, iv b 152 q → s.heap.size ≤ q := fun q hq => by rw [hz]; exact hq.1
    refine y_astore_n C dL_law_7 rfl (by decide) rfl ?_
    refine y_iconst C (1) dL_law_8 (by decide) ?_
    refine y_istore_n C dL_law_9 rfl (by decide) rfl ?_
    refine y_aload_n C 2 dL_law_10 rfl rfl ?_
    refine y_xlen C hSc dL_law_11 ?_
    refine y_iconst C (3) dL_law_12 (by decide) ?_
    refine y_idiv C dL_law_13 (by decide) ?_
    refine y_top (nI_div3 hL) ?_
    refine y_bipush C (40) dL_law_14 (by decide) ?_
    refine y_icmp_le C 24 dL_law_16 (by decide) (fun hT => ?_) (fun hT => ?_)
    · refine y_aload_n C 2 dL_law_24 rfl rfl ?_
      refine y_xlen C hSc dL_law_25 ?_
      refine y_iconst C (3) dL_law_26 (by decide) ?_
      refine y_idiv C dL_law_27 (by decide) ?_
      refine y_top (nI_div3 hL) ?_
      refine y_top (show nI (L / 3) = nI (trn L) from congrArg nI (by rw [trn]; exact (if_pos ((nI_leI (b := 40) (by omega) (by decide)).mp hT)).symm)) ?_
      refine y_istore_n C dL_law_28 rfl (by decide) rfl ?_
      refine y_iconst C (0) dL_law_29 (by decide) ?_
      refine y_istore C dL_law_30 (by decide) rfl ?_
      exact y_sub [0, 1, 2, 3, 4] (K _ hX) rfl
    · refine y_bipush C (40) dL_law_19 (by decide) ?_
      refine y_goto C 28 dL_law_21 (by decide) ?_
      refine y_top (show (40 : Int32) = nI (trn L) from congrArg nI (a₁ := 40) (by rw [trn]; exact (if_neg (fun z => hT ((nI_leI (b := 40) (by omega) (by decide)).mpr z))).symm)) ?_
      refine y_istore_n C dL_law_28 rfl (by decide) rfl ?_
      refine y_iconst C (0) dL_law_29 (by decide) ?_
      refine y_istore C dL_law_30 (by decide) rfl ?_
      exact y_sub [0, 1, 2, 3, 4] (K _ hX) rfl
  clear hz hbb
  intro hbb
  have hAiv : ∀ q, iv b 152 q → s.heap.size ≤ q := fun q hq => by rw [← hbb]; exact hq.1
  have hT40 : trn L ≤ 40 := by rw [trn]; split <;> omega
  intro rem
  induction rem with
  | zero =>
    intro k hk X hOk H hX
    obtain rfl : k = trn L := by omega
    refine y_iload C 0 dL_law_32 rfl ?_
    refine y_iload_n C 1 dL_law_34 rfl rfl ?_
    refine y_icmp_ge C 266 dL_law_35 (by decide) (fun _ => ?_) (fun h => absurd (ge_t rfl rfl (Nat.le_refl _) (by omega)) h)
    refine y_iload_n C 2 dL_law_266 rfl rfl ?_
    refine y_widen (k := 600000) (n := 7302250) (by decide) (by decide) ?_
    intro ls locs hl hS
    refine va_forget (fun q hq => hS.2.2 q hq) ?_
    refine W.base ?_
    exact lw_ret (Drawn.sameBut.refl s.drawn lw_cs) C.1 C.2.1 hr hlocks dL_law_267
  | succ rem ih =>
    intro k hk X hOk H hX
    have hkT : k < trn L := by omega
    have hk40 : k < 40 := by omega
    have hv := hIv _ _ hOk
    refine y_iload C 0 dL_law_32 rfl ?_
    refine y_iload_n C 1 dL_law_34 rfl rfl ?_
    refine y_icmp_ge C 266 dL_law_35 (by decide) (fun h => absurd h (ge_f rfl rfl hkT (by omega))) (fun _ => ?_)
    refine y_iload_n C 2 dL_law_38 rfl rfl ?_
    refine y_if_eq C 266 dL_law_39 (by decide) (fun h => absurd h (by decide)) (fun _ => ?_)
    refine y_aload_n C 3 dL_law_42 rfl rfl ?_
    refine y_bipush C (16) dL_law_43 (by decide) ?_
    refine y_callV C [.int (16 : Int32)] (c_X6_count_16 g _ l b X hv) RX6 1 (wVin q92 q93 q94 q2 q95) hy_X6_count ⟨(Nat.le_of_ble_eq_true rfl), (Nat.le_of_ble_eq_true rfl)⟩ ⟨rfl, rfl⟩ (rcv C.2.2.2.2.2.1 hX.1 rfl) hX hAiv rfl rfl (Nat.le_of_ble_eq_true rfl) dL_law_45 ⟨(Nat.le_of_ble_eq_true rfl), (Nat.le_of_ble_eq_true rfl)⟩ rfl (fun H hp hz hf => ?_)
    have hX := hp
    refine y_istore C dL_law_48 (by decide) rfl ?_
    refine y_aload_n C 4 dL_law_50 rfl rfl ?_
    refine y_iconst C (0) dL_law_51 (by decide) ?_
    refine y_callV C [.int (0 : Int32)] (c_X6_count_0 g _ l b X hv) RX6 1 (wVin q92 q93 q94 q2 q95) hy_X6_count ⟨(Nat.le_of_ble_eq_true rfl), (Nat.le_of_ble_eq_true rfl)⟩ ⟨rfl, rfl⟩ (rcv C.2.2.2.2.2.1 hX.1 rfl) hX hAiv rfl rfl (Nat.le_of_ble_eq_true rfl) dL_law_52 ⟨(Nat.le_of_ble_eq_true rfl), (Nat.le_of_ble_eq_true rfl)⟩ rfl (fun H hp hz hf => ?_)
    have hX := hp
    refine y_istore C dL_law_55 (by decide) rfl ?_
    refine y_aload_n C 5 dL_law_57 rfl rfl ?_
    refine y_iconst C (1) dL_law_58 (by decide) ?_
    refine y_callV C [.int (1 : Int32)] (c_X6_count_1 g _ l b X hv) RX6 1 (wVin q92 q93 q94 q2 q95) hy_X6_count ⟨(Nat.le_of_ble_eq_true rfl), (Nat.le_of_ble_eq_true rfl)⟩ ⟨rfl, rfl⟩ (rcv C.2.2.2.2.2.1 hX.1 rfl) hX hAiv rfl rfl (Nat.le_of_ble_eq_true rfl) dL_law_59 ⟨(Nat.le_of_ble_eq_true rfl), (Nat.le_of_ble_eq_true rfl)⟩ rfl (fun H hp hz hf => ?_)
    have hX := hp
    refine y_istore C dL_law_62 (by decide) rfl ?_
    refine y_aload_n C 7 dL_law_64 rfl rfl ?_
    refine y_iconst C (3) dL_law_65 (by decide) ?_
    refine y_iload C 3 dL_law_66 rfl ?_
    refine y_imul C dL_law_68 ?_
    refine y_top (pk_mul 3 k) ?_
    refine y_iconst C (1) dL_law_69 (by decide) ?_
    refine y_iadd C dL_law_70 ?_
    refine y_top (nI_add (3 * k) 1) ?_
    refine y_callSS C hSc [.ref sb, .int (nI ((3 * k) + 1))] (c_L_cell g _ sb L xs l hL31 ((3 * k) + 1) (by omega)) 2 (wSin q123 q124 q125 q126) hs_L_cell ⟨(Nat.le_of_ble_eq_true rfl), (Nat.le_of_ble_eq_true rfl)⟩ ⟨rfl, rfl⟩ trivial nF.no rfl rfl (Nat.le_of_ble_eq_true rfl) dL_law_71 ⟨(Nat.le_of_ble_eq_true rfl), (Nat.le_of_ble_eq_true rfl)⟩ rfl (fun H hp hz hf => ?_)
    have hX := sys.fr (A1 := nF) hX hf (fun _ _ z => z)
    refine y_bipush C (10) dL_law_74 (by decide) ?_
    refine y_callS C [.int (cl L xs ((3 * k) + 1)), .int (10 : Int32)] (c_L_low g _ l (cl L xs ((3 * k) + 1)) 10 (by decide) (by decide)) 2 (wSin q128 q129 q125 q130) hs_L_low ⟨(Nat.le_of_ble_eq_true rfl), (Nat.le_of_ble_eq_true rfl)⟩ ⟨rfl, rfl⟩ trivial nF.no rfl rfl (Nat.le_of_ble_eq_true rfl) dL_law_76 ⟨(Nat.le_of_ble_eq_true rfl), (Nat.le_of_ble_eq_true rfl)⟩ rfl (fun H hp hz hf => ?_)
    have hX := sys.fr (A1 := nF) hX hf (fun _ _ z => z)
    refine y_istore C dL_law_79 (by decide) rfl ?_
    refine y_aload_n C 7 dL_law_81 rfl rfl ?_
    refine y_iload C 0 dL_law_82 rfl ?_
    refine y_callV C [.int (nI (lw (cl L xs ((3 * k) + 1)) 10))] (c_X6_doneIn g _ l b X hv (lw (cl L xs ((3 * k) + 1)) 10) (Nat.lt_trans (lw_lt (by decide)) (by decide))) RX6 1 (wVin q132 q133 q134 q2 q135) hy_X6_doneIn ⟨(Nat.le_of_ble_eq_true rfl), (Nat.le_of_ble_eq_true rfl)⟩ ⟨rfl, rfl⟩ (rcv C.2.2.2.2.2.1 hX.1 rfl) hX hAiv rfl rfl (Nat.le_of_ble_eq_true rfl) dL_law_84 ⟨(Nat.le_of_ble_eq_true rfl), (Nat.le_of_ble_eq_true rfl)⟩ rfl (fun H hp hz hf => ?_)
    obtain ⟨t, ht1, ht2, hX⟩ := hp
    have hOk1 := hIt _ _ t hOk ht1 ht2
    have hv1 := hIv _ _ hOk1
    refine y_istore C dL_law_87 (by decide) rfl ?_
    refine y_aload_n C 8 dL_law_89 rfl rfl ?_
    refine y_aload_n C 9 dL_law_90 rfl rfl ?_
    refine y_iconst C (3) dL_law_91 (by decide) ?_
    refine y_iload C 5 dL_law_92 rfl ?_
    refine y_imul C dL_law_94 ?_
    refine y_top (pk_mul 3 k) ?_
    obtain ⟨td, X2, hAct⟩ : ∃ td X2, lAct (stJ 1 X t) (lw (cl L xs (3 * k)) 22) (cl L xs (3 * k + 1)) (cl L xs (3 * k + 2)) = (td, X2) := ⟨_, _, rfl⟩
    have hM := c_L_act g s.heap.size sb L xs l hL31 b (stJ 1 X t) hv1 (3 * k) (by omega)
    rw [hAct] at hM
    have hOk2 := hIa k (stJ 1 X t) (lw (cl L xs (3 * k)) 22) (cl L xs (3 * k + 1)) (cl L xs (3 * k + 2)) hk40 hOk1 (lw_lt (by decide))
    rw [hAct] at hOk2
    have hE2 := hIe k (stJ 1 X t) (lw (cl L xs (3 * k)) 22) (cl L xs (3 * k + 1)) (cl L xs (3 * k + 2)) hk40 hOk1 (lw_lt (by decide))
    rw [hAct] at hE2
    have hP2 := hIp k (stJ 1 X t) (lw (cl L xs (3 * k)) 22) (cl L xs (3 * k + 1)) (cl L xs (3 * k + 2)) hk40 hOk1
    rw [hAct] at hP2
    have hv2 := hIv _ _ hOk2
    refine y_callSS C hSc [.ref b, .ref sb, .int (nI (3 * k))] (hM) 3 (wSin q261 q262 q125 q263) hs_L_act ⟨(Nat.le_of_ble_eq_true rfl), (Nat.le_of_ble_eq_true rfl)⟩ ⟨rfl, rfl⟩ hX hAiv rfl rfl (Nat.le_of_ble_eq_true rfl) dL_law_95 ⟨(Nat.le_of_ble_eq_true rfl), (Nat.le_of_ble_eq_true rfl)⟩ rfl (fun H hp hz hf => ?_)
    have hX : sX g b X2 H := hp
    refine y_istore C dL_law_98 (by decide) rfl ?_
    suffices J5 : ∀ H : Heap, sX g b X2 H → Yx (fun q : Nat => s.heap.size ≤ q) p l e room_1 s m #[Value.ref sb] below meth c 12 152 1880 (lw_Z below #[Value.ref sb] s) [(10, .int td), (9, .int (tDin X (lw (cl L xs (3 * k + 1)) 10))), (8, .int (nI (lw (cl L xs (3 * k + 1)) 10))), (6, .int ((X.2.2.2 0).1 0 0)), (4, .int (nI k)), (3, .int (nI (trn L))), (2, .int (1 : Int32)), (1, .ref b), (0, .ref sb)] H 142 [] from by
      refine y_iload C 0 dL_law_100 rfl ?_
      refine y_if_ge C 136 dL_law_102 (by decide) (fun hneg => ?_) (fun hneg => ?_)
      · refine y_iconst C (1) dL_law_136 (by decide) ?_
        refine y_goto C 141 dL_law_137 (by decide) ?_
        refine y_istore_n C dL_law_141 rfl (by decide) rfl ?_
        exact y_sub [1, 2, 3, 5, 7, 8, 0, 9, 10] (J5 _ hX) rfl
      · refine y_aload_n C 9 dL_law_105 rfl rfl ?_
        refine y_bipush C (16) dL_law_106 (by decide) ?_
        refine y_callV C [.int (16 : Int32)] (c_X6_count_16 g _ l b X2 hv2) RX6 1 (wVin q92 q93 q94 q2 q95) hy_X6_count ⟨(Nat.le_of_ble_eq_true rfl), (Nat.le_of_ble_eq_true rfl)⟩ ⟨rfl, rfl⟩ (rcv C.2.2.2.2.2.1 hX.1 rfl) hX hAiv rfl rfl (Nat.le_of_ble_eq_true rfl) dL_law_108 ⟨(Nat.le_of_ble_eq_true rfl), (Nat.le_of_ble_eq_true rfl)⟩ rfl (fun H hp hz hf => ?_)
        have hX := hp
        refine y_iload C 5 dL_law_111 rfl ?_
        refine y_icmp_ne C 140 dL_law_113 (by decide) (fun h => absurd (congrArg nI (hE2 hneg).1) h) (fun _ => ?_)
        refine y_aload_n C 9 dL_law_116 rfl rfl ?_
        refine y_iconst C (0) dL_law_117 (by decide) ?_
        refine y_callV C [.int (0 : Int32)] (c_X6_count_0 g _ l b X2 hv2) RX6 1 (wVin q92 q93 q94 q2 q95) hy_X6_count ⟨(Nat.le_of_ble_eq_true rfl), (Nat.le_of_ble_eq_true rfl)⟩ ⟨rfl, rfl⟩ (rcv C.2.2.2.2.2.1 hX.1 rfl) hX hAiv rfl rfl (Nat.le_of_ble_eq_true rfl) dL_law_118 ⟨(Nat.le_of_ble_eq_true rfl), (Nat.le_of_ble_eq_true rfl)⟩ rfl (fun H hp hz hf => ?_)
        have hX := hp
        refine y_iload C 4 dL_law_121 rfl ?_
        refine y_icmp_ne C 140 dL_law_123 (by decide) (fun h => absurd (hE2 hneg).2.1 h) (fun _ => ?_)
        refine y_aload_n C 9 dL_law_126 rfl rfl ?_
        refine y_iconst C (1) dL_law_127 (by decide) ?_
        refine y_callV C [.int (1 : Int32)] (c_X6_count_1 g _ l b X2 hv2) RX6 1 (wVin q92 q93 q94 q2 q95) hy_X6_count ⟨(Nat.le_of_ble_eq_true rfl), (Nat.le_of_ble_eq_true rfl)⟩ ⟨rfl, rfl⟩ (rcv C.2.2.2.2.2.1 hX.1 rfl) hX hAiv rfl rfl (Nat.le_of_ble_eq_true rfl) dL_law_128 ⟨(Nat.le_of_ble_eq_true rfl), (Nat.le_of_ble_eq_true rfl)⟩ rfl (fun H hp hz hf => ?_)
        have hX := hp
        refine y_iload C 3 dL_law_131 rfl ?_
        refine y_icmp_ne C 140 dL_law_133 (by decide) (fun h => absurd (hE2 hneg).2.2 h) (fun _ => ?_)
        refine y_iconst C (1) dL_law_136 (by decide) ?_
        refine y_goto C 141 dL_law_137 (by decide) ?_
        refine y_istore_n C dL_law_141 rfl (by decide) rfl ?_
        exact y_sub [1, 2, 3, 5, 7, 8, 0, 9, 10] (J5 _ hX) rfl
    intro H hX
    suffices J6 : ∀ H : Heap, sX g b X2 H → Yx (fun q : Nat => s.heap.size ≤ q) p l e room_1 s m #[Value.ref sb] below meth c 12 152 1880 (lw_Z below #[Value.ref sb] s) [(4, .int (nI k)), (3, .int (nI (trn L))), (2, .int (1 : Int32)), (1, .ref b), (0, .ref sb)] H 243 [] from by
      refine y_aload_n C 8 dL_law_142 rfl rfl ?_
      refine y_iconst C (3) dL_law_143 (by decide) ?_
      refine y_iload C 4 dL_law_144 rfl ?_
      refine y_imul C dL_law_146 ?_
      refine y_top (pk_mul 3 k) ?_
      refine y_callSS C hSc [.ref sb, .int (nI (3 * k))] (c_L_cell g _ sb L xs l hL31 (3 * k) (by omega)) 2 (wSin q123 q124 q125 q126) hs_L_cell ⟨(Nat.le_of_ble_eq_true rfl), (Nat.le_of_ble_eq_true rfl)⟩ ⟨rfl, rfl⟩ trivial nF.no rfl rfl (Nat.le_of_ble_eq_true rfl) dL_law_147 ⟨(Nat.le_of_ble_eq_true rfl), (Nat.le_of_ble_eq_true rfl)⟩ rfl (fun H hp hz hf => ?_)
      have hX := sys.fr (A1 := nF) hX hf (fun _ _ z => z)
      refine y_bipush C (22) dL_law_150 (by decide) ?_
      refine y_callS C [.int (cl L xs (3 * k)), .int (22 : Int32)] (c_L_low g _ l (cl L xs (3 * k)) 22 (by decide) (by decide)) 2 (wSin q128 q129 q125 q130) hs_L_low ⟨(Nat.le_of_ble_eq_true rfl), (Nat.le_of_ble_eq_true rfl)⟩ ⟨rfl, rfl⟩ trivial nF.no rfl rfl (Nat.le_of_ble_eq_true rfl) dL_law_152 ⟨(Nat.le_of_ble_eq_true rfl), (Nat.le_of_ble_eq_true rfl)⟩ rfl (fun H hp hz hf => ?_)
      have hX := sys.fr (A1 := nF) hX hf (fun _ _ z => z)
      refine y_bipush C (18) dL_law_155 (by decide) ?_
      refine y_icmp_le C 243 dL_law_157 (by decide) (fun hc18 => ?_) (fun hc18 => ?_)
      · exact y_sub [4, 5, 6, 7, 8] (J6 _ hX) rfl
      · have hp2 := hP2 (Nat.lt_of_not_le (fun z => hc18 (nI_le (b := 18) z (by decide)))) (lw_lt (by decide))
        refine y_iconst C (1) dL_law_160 (by decide) ?_
        refine y_aload_n C 8 dL_law_161 rfl rfl ?_
        refine y_iconst C (3) dL_law_162 (by decide) ?_
        refine y_iload C 4 dL_law_163 rfl ?_
        refine y_imul C dL_law_165 ?_
        refine y_top (pk_mul 3 k) ?_
        refine y_iconst C (2) dL_law_166 (by decide) ?_
        refine y_iadd C dL_law_167 ?_
        refine y_top (nI_add (3 * k) 2) ?_
        refine y_callSS C hSc [.ref sb, .int (nI ((3 * k) + 2))] (c_L_cell g _ sb L xs l hL31 ((3 * k) + 2) (by omega)) 2 (wSin q123 q124 q125 q126) hs_L_cell ⟨(Nat.le_of_ble_eq_true rfl), (Nat.le_of_ble_eq_true rfl)⟩ ⟨rfl, rfl⟩ trivial nF.no rfl rfl (Nat.le_of_ble_eq_true rfl) dL_law_168 ⟨(Nat.le_of_ble_eq_true rfl), (Nat.le_of_ble_eq_true rfl)⟩ rfl (fun H hp hz hf => ?_)
        have hX := sys.fr (A1 := nF) hX hf (fun _ _ z => z)
        refine y_iconst C (5) dL_law_171 (by decide) ?_
        refine y_callS C [.int (cl L xs ((3 * k) + 2)), .int (5 : Int32)] (c_L_low g _ l (cl L xs ((3 * k) + 2)) 5 (by decide) (by decide)) 2 (wSin q128 q129 q125 q130) hs_L_low ⟨(Nat.le_of_ble_eq_true rfl), (Nat.le_of_ble_eq_true rfl)⟩ ⟨rfl, rfl⟩ trivial nF.no rfl rfl (Nat.le_of_ble_eq_true rfl) dL_law_172 ⟨(Nat.le_of_ble_eq_true rfl), (Nat.le_of_ble_eq_true rfl)⟩ rfl (fun H hp hz hf => ?_)
        have hX := sys.fr (A1 := nF) hX hf (fun _ _ z => z)
        refine y_iadd C dL_law_175 ?_
        refine y_top (nI_add 1 (lw (cl L xs ((3 * k) + 2)) 5)) ?_
        refine y_istore C dL_law_176 (by decide) rfl ?_
        refine y_iload_n C 7 dL_law_178 rfl rfl ?_
        refine y_if_eq C 241 dL_law_179 (by decide) (fun h => absurd h (by decide)) (fun _ => ?_)
        refine y_iload C 1 dL_law_182 rfl ?_
        refine y_if_lt C 241 dL_law_184 (by decide) (fun h => absurd h hp2.1) (fun _ => ?_)
        refine y_aload_n C 8 dL_law_187 rfl rfl ?_
        refine y_iconst C (0) dL_law_188 (by decide) ?_
        refine y_callV C [.int (0 : Int32)] (c_X6_count_0 g _ l b X2 hv2) RX6 1 (wVin q92 q93 q94 q2 q95) hy_X6_count ⟨(Nat.le_of_ble_eq_true rfl), (Nat.le_of_ble_eq_true rfl)⟩ ⟨rfl, rfl⟩ (rcv C.2.2.2.2.2.1 hX.1 rfl) hX hAiv rfl rfl (Nat.le_of_ble_eq_true rfl) dL_law_189 ⟨(Nat.le_of_ble_eq_true rfl), (Nat.le_of_ble_eq_true rfl)⟩ rfl (fun H hp hz hf => ?_)
        have hX := hp
        refine y_iload C 4 dL_law_192 rfl ?_
        refine y_iload C 0 dL_law_194 rfl ?_
        refine y_iadd C dL_law_196 ?_
        refine y_icmp_ne C 241 dL_law_197 (by decide) (fun h => absurd hp2.2.1 h) (fun _ => ?_)
        refine y_iload C 2 dL_law_200 rfl ?_
        refine y_if_lt C 237 dL_law_202 (by decide) (fun hin => ?_) (fun hin => ?_)
        · refine y_iconst C (1) dL_law_237 (by decide) ?_
          refine y_goto C 242 dL_law_238 (by decide) ?_
          refine y_istore_n C dL_law_242 rfl (by decide) rfl ?_
          exact y_sub [6, 7, 0, 8, 9] (J6 _ hX) rfl
        · have hq := hp2.2.2 (lw (cl L xs (3 * k + 1)) 10) (lw_lt (by decide)) hin
          have hkn := hq.1
          refine y_aload_n C 8 dL_law_205 rfl rfl ?_
          refine y_iload C 3 dL_law_206 rfl ?_
          refine y_bipush C (6) dL_law_208 (by decide) ?_
          refine y_callV C [.int (nI (lw (cl L xs (3 * k + 1)) 10)), .int (6 : Int32)] (c_X6_set_6 g _ l b X2 hv2 (lw (cl L xs (3 * k + 1)) 10) hkn) RX6 2 (wVin q380 q381 q382 q2 q383) hy_X6_set ⟨(Nat.le_of_ble_eq_true rfl), (Nat.le_of_ble_eq_true rfl)⟩ ⟨rfl, rfl⟩ (rcv C.2.2.2.2.2.1 hX.1 rfl) hX hAiv rfl rfl (Nat.le_of_ble_eq_true rfl) dL_law_210 ⟨(Nat.le_of_ble_eq_true rfl), (Nat.le_of_ble_eq_true rfl)⟩ rfl (fun H hp hz hf => ?_)
          have hX := hp
          refine y_iconst C (3) dL_law_213 (by decide) ?_
          refine y_icmp_le C 221 dL_law_214 (by decide) (fun h3 => ?_) (fun h3 => ?_)
          · refine y_iconst C (0) dL_law_221 (by decide) ?_
            refine y_iload C 2 dL_law_222 rfl ?_
            refine y_iload C 0 dL_law_224 rfl ?_
            refine y_icmp_gt C 233 dL_law_226 (by decide) (fun hgt => ?_) (fun hgt => ?_)
            · refine y_iconst C (0) dL_law_233 (by decide) ?_
              refine y_icmp_ne C 241 dL_law_234 (by decide) (fun h => absurd rfl h) (fun _ => ?_)
              refine y_iconst C (1) dL_law_237 (by decide) ?_
              refine y_goto C 242 dL_law_238 (by decide) ?_
              refine y_istore_n C dL_law_242 rfl (by decide) rfl ?_
              exact y_sub [6, 7, 0, 8, 9] (J6 _ hX) rfl
            · refine y_iconst C (1) dL_law_229 (by decide) ?_
              refine y_goto C 234 dL_law_230 (by decide) ?_
              exact absurd (hq.2.mp h3) hgt
          · refine y_iconst C (1) dL_law_217 (by decide) ?_
            refine y_goto C 222 dL_law_218 (by decide) ?_
            refine y_iload C 2 dL_law_222 rfl ?_
            refine y_iload C 0 dL_law_224 rfl ?_
            refine y_icmp_gt C 233 dL_law_226 (by decide) (fun hgt => ?_) (fun hgt => ?_)
            · refine y_iconst C (0) dL_law_233 (by decide) ?_
              exact absurd (hq.2.mpr hgt) h3
            · refine y_iconst C (1) dL_law_229 (by decide) ?_
              refine y_goto C 234 dL_law_230 (by decide) ?_
              refine y_icmp_ne C 241 dL_law_234 (by decide) (fun h => absurd rfl h) (fun _ => ?_)
              refine y_iconst C (1) dL_law_237 (by decide) ?_
              refine y_goto C 242 dL_law_238 (by decide) ?_
              refine y_istore_n C dL_law_242 rfl (by decide) rfl ?_
              exact y_sub [6, 7, 0, 8, 9] (J6 _ hX) rfl
    intro H hX
    refine y_iload_n C 2 dL_law_243 rfl rfl ?_
    refine y_if_eq C 258 dL_law_244 (by decide) (fun h => absurd h (by decide)) (fun _ => ?_)
    refine y_aload_n C 3 dL_law_247 rfl rfl ?_
    refine y_callS C [.ref b] (c_L_desk g _ l b X2 hv2 (hIg _ _ hOk2)) 1 (wSin q389 q390 q125 q391) hs_L_desk ⟨(Nat.le_of_ble_eq_true rfl), (Nat.le_of_ble_eq_true rfl)⟩ ⟨rfl, rfl⟩ (hX.t hv2) hAiv rfl rfl (Nat.le_of_ble_eq_true rfl) dL_law_248 ⟨(Nat.le_of_ble_eq_true rfl), (Nat.le_of_ble_eq_true rfl)⟩ rfl (fun H hp hz hf => ?_)
    obtain ⟨t3, ht3, ht4, hX⟩ := hp
    have hOk3 := hIt _ _ t3 hOk2 ht3 ht4
    refine y_if_eq C 258 dL_law_251 (by decide) (fun h => absurd h (by decide)) (fun _ => ?_)
    refine y_iconst C (1) dL_law_254 (by decide) ?_
    refine y_goto C 259 dL_law_255 (by decide) ?_
    refine y_istore_n C dL_law_259 rfl (by decide) rfl ?_
    refine y_iinc C 1 (nI (k + 1)) dL_law_260 rfl (nI_succ _).symm (by decide) rfl ?_
    refine y_goto C 32 dL_law_263 (by decide) ?_
    exact y_sub [0, 2, 1, 3, 4] (ih (k + 1) (by omega) _ hOk3 H hX) rfl
