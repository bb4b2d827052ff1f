/-! THE LAW's invariant: the day a set is done; there is an invariant -/
theorem pN_s (d : DV) (n : Nat) : pN d (n + 1) = psd (pN d n) := by rw [pN]
theorem pN_z (d : DV) : pN d 0 = d := by rw [pN]
theorem pN_sh (d : DV) (j : Nat) : pN (psd d) j = pN d (j + 1) := by
  induction j with
  | zero => rw [pN_z, pN_s, pN_z]
  | succ j ih => rw [pN_s, ih, ← pN_s]
theorem din_c (k : Nat) (r : Nat) : ∀ (n : Nat) (d : DV), din r n d k = -5 ∨ ∃ m, m < r ∧ din r n d k = nI (n + m) ∧ (pN d (m + 1)).1 18 k = 4 ∧ ∀ j, j < m → (pN d (j + 1)).1 18 k ≠ 4 := by
  induction r with
  | zero => intro n d; left; rw [din]
  | succ r ih =>
    intro n d
    have K : (if (psd d).1 18 k = 4 then nI n else din r (n + 1) (psd d) k) = -5 ∨ ∃ m, m < r + 1 ∧ (if (psd d).1 18 k = 4 then nI n else din r (n + 1) (psd d) k) = nI (n + m) ∧ (pN d (m + 1)).1 18 k = 4 ∧ ∀ j, j < m → (pN d (j + 1)).1 18 k ≠ 4 := by
      by_cases q : (psd d).1 18 k = 4
      · rw [if_pos q]
        refine Or.inr ⟨0, by omega, rfl, ?_, fun j hj => absurd hj (by omega)⟩
        rw [pN_s, pN_z]; exact q
      · rw [if_neg q]
        rcases ih (n + 1) (psd d) with z | ⟨m, h1, h2, h3, h4⟩
        · exact Or.inl z
        · refine Or.inr ⟨m + 1, by omega, ?_, ?_, fun j hj => ?_⟩
          · rw [h2]; exact congrArg nI (show n + 1 + m = n + (m + 1) by omega)
          · rw [← pN_sh]; exact h3
          · match j, hj with
            | 0, _ => rw [pN_s, pN_z]; exact q
            | j + 1, hj => rw [← pN_sh]; exact h4 j (by omega)
    rw [din]
    by_cases q2 : d.1 18 k = 2
    · rw [if_pos q2]
      by_cases q3 : d.1 3 0 = 0
      · rw [if_pos q3]; exact Or.inl rfl
      · rw [if_neg q3]; exact K
    · rw [if_neg q2]; exact K
theorem pN_low {D S : Int} {d : DV} (h : ID D S d) (hD : D ≤ 195) (hS : S ≤ 10000) {k : Nat} (h0 : (d.1 18 k).toInt ≤ 3) (n : Nat) : n ≤ 5 → (∀ j, j < n → (pN d (j + 1)).1 18 k ≠ 4) → ((pN d n).1 18 k).toInt ≤ 3 := by
  induction n with
  | zero => intro _ _; rw [pN_z]; exact h0
  | succ n ih =>
    intro hn hq
    have h1 := ih (by omega) (fun j hj => hq j (by omega))
    obtain ⟨p1, -, -⟩ := pN_ok h n (by omega) (by omega)
    obtain ⟨-, -, -, q⟩ := psd_ok (by omega) (by omega) p1
    have h2 := (q k).2 h1
    have h3 := hq n (by omega)
    rw [pN_s] at h3 ⊢
    have h4 := mt i_eq.mpr h3
    have t4 : (4 : Int32).toInt = 4 := rfl
    omega
theorem pN_high {D S : Int} {d : DV} (h : ID D S d) (hD : D ≤ 195) (hS : S ≤ 10000) {k i : Nat} (hi : 3 < ((pN d i).1 18 k).toInt) (n : Nat) : n ≤ 5 → i ≤ n → 3 < ((pN d n).1 18 k).toInt := by
  induction n with
  | zero => intro _ hn; rw [show i = 0 by omega] at hi; exact hi
  | succ n ih =>
    intro hn hin
    by_cases e : i = n + 1
    · rw [← e]; exact hi
    · obtain ⟨p1, -, -⟩ := pN_ok h n (by omega) (by omega)
      obtain ⟨-, -, -, q⟩ := psd_ok (by omega) (by omega) p1
      rw [pN_s]
      exact (q k).1 (ih (by omega) (by omega))
theorem okDone {n : Nat} (hn : n < 40) {X : SV} (h : OkT n X) {m : Nat} (hm : m ≤ 5) {k : Nat} (hk : k < 10) (ht : ¬ tDin X k < 0) : k < nm (pN (X.2.2.2 0) m) ∧ ((pN (X.2.2.2 0) m).1 18 k ≤ 3 ↔ nI m < tDin X k) := by
  have hd := h.dk
  have t3 : (3 : Int32).toInt = 3 := rfl
  have K : (X.2.2.2 0).1 18 k = 2 ∨ (X.2.2.2 0).1 18 k = 3 → ¬ isS X k = 0 → tDin X k = din 200 1 (X.2.2.2 0) k → k < nm (pN (X.2.2.2 0) m) ∧ ((pN (X.2.2.2 0) m).1 18 k ≤ 3 ↔ nI m < tDin X k) := by
    intro hst hi e
    rw [e] at ht ⊢
    have hkn : k < nm (X.2.2.2 0) := isS_lt h.sv (by omega) hi
    have hnm : ∀ j, nm (pN (X.2.2.2 0) j) = nm (X.2.2.2 0) := fun j => by
      induction j with
      | zero => rw [pN_z]
      | succ j ih =>
        rw [pN_s, ← ih]
        refine nm_of ?_
        unfold psd ps3 ps2 ps1
        rw [sel_ne _ _ (by decide) (by decide) (by decide), wrk_ne _ _ (by decide) (by decide) (by decide) (by decide) (by decide) (by decide) (by decide), wrk_ne _ _ (by decide) (by decide) (by decide) (by decide) (by decide) (by decide) (by decide), tkd_ne _ _ (by decide) (by decide) (by decide) (by decide) (by decide) (by decide) (by decide), dset_ne _ _ _ _ _ (by decide)]
    refine ⟨by rw [hnm]; exact hkn, ?_⟩
    have h0 : ((X.2.2.2 0).1 18 k).toInt ≤ 3 := by rcases hst with z | z <;> rw [z] <;> decide
    rcases din_c k 200 1 (X.2.2.2 0) with z | ⟨i, h1, h2, h3, h4⟩
    · rw [z] at ht; exact absurd (by decide) ht
    · rw [h2, i_le, i_lt, t3, i_nI (by omega), i_nI (by omega)]
      by_cases hc : m < 1 + i
      · refine iff_of_true ?_ (by omega)
        exact pN_low hd (by omega) (by omega) h0 m hm (fun j hj => h4 j (by omega))
      · refine iff_of_false ?_ (by omega)
        have := pN_high hd (by omega) (by omega) (i := i + 1) (k := k) (by rw [h3]; decide) m hm (by omega)
        omega
  by_cases hi : isS X k = 0
  · exfalso
    refine ht ?_
    unfold tDin
    rw [if_pos hi]; decide
  · by_cases q2 : (X.2.2.2 0).1 18 k = 2
    · exact K (Or.inl q2) hi (by unfold tDin; rw [if_neg hi, if_pos q2])
    · by_cases q3 : (X.2.2.2 0).1 18 k = 3
      · exact K (Or.inr q3) hi (by unfold tDin; rw [if_neg hi, if_neg q2, if_pos q3])
      · exfalso
        refine ht ?_
        unfold tDin
        rw [if_neg hi, if_neg q2, if_neg q3]; decide
theorem lAct_pass {X : SV} {c : Nat} (hc : 18 < c) (a bb : Int32) : lAct X c a bb = aPass X (1 + lw bb 5) := by
  unfold lAct
  rw [if_neg (by omega), if_neg (by omega), if_neg (by omega), if_neg (by omega), if_neg (by omega), if_neg (by omega), if_neg (by omega), if_neg (by omega), if_neg (by omega), if_neg (by omega), if_neg (by omega)]
theorem okS_exists : ∃ Ok, OkS Ok := by
  refine ⟨fun n X => n ≤ 40 ∧ OkT n X, ?_, fun n X h => h.2.sv, fun n X t h h1 h2 => ?_, fun n X c a bb hn h _ => ⟨hn, (okAct hn h.2 c a bb).1⟩, ?_, ?_, ?_⟩
  · have hID : ID (5 * ((0 : Nat) : Int)) (244 * ((0 : Nat) : Int)) dNew := ID_new
    exact ⟨by omega, by show 0 ≤ 4; omega, ⟨ID_new.1.1, ID_new.fr⟩, fun j hj => hID⟩
  · obtain ⟨hn, h⟩ := h
    refine ⟨hn, h.1, ?_, fun j hj => ?_⟩
    · show sf (va_up X.2.2.2 1 t 1) ∧ fr (va_up X.2.2.2 1 t 1)
      rw [va_up_self]; exact ⟨h1, h2⟩
    · show ID _ _ (va_up X.2.2.2 1 t j)
      rw [va_up_ne _ _ hj]; exact h.2.2 j hj
  · intro n X h
    have hn := h.1
    exact gd_ok (by omega) h.2.dk
  · intro n X c a bb hn h _ hneg
    replace h := h.2
    rcases (okAct hn h c a bb).2 with z | z
    · exact absurd z hneg
    · rw [z]; exact ⟨rfl, rfl, rfl⟩
  · intro n X c a bb hn h hc _
    replace h := h.2
    have l5 : lw bb 5 < 5 := lw_lt (by decide)
    have hm : 1 + lw bb 5 ≤ 5 := by omega
    obtain ⟨-, h2, -⟩ := pN_ok h.dk (1 + lw bb 5) (by omega) (by omega)
    have hnn := pass_nn hn h hm
    have e : lAct X c a bb = ((pN (X.2.2.2 0) (1 + lw bb 5)).1 20 4 - (X.2.2.2 0).1 20 4, acX X (pN (X.2.2.2 0) (1 + lw bb 5))) := by
      rw [lAct_pass hc]
      unfold aPass
      rw [if_pos (pass_day hn h hm)]
    rw [e]
    have e0 : (acX X (pN (X.2.2.2 0) (1 + lw bb 5))).2.2.2 0 = pN (X.2.2.2 0) (1 + lw bb 5) := by
      show va_up (rcX X).2.2.2 0 (pN (X.2.2.2 0) (1 + lw bb 5)) 0 = _
      exact va_up_self _ _ _
    refine ⟨fun z => ?_, ?_, fun k hk ht => ?_⟩
    · have h3 := i_le.mp hnn
      have z1 : (pN (X.2.2.2 0) (1 + lw bb 5)).1 20 4 - (X.2.2.2 0).1 20 4 < 0 := z
      have h4 := i_lt.mp z1
      omega
    · show ((acX X (pN (X.2.2.2 0) (1 + lw bb 5))).2.2.2 0).1 0 0 = _
      rw [e0]; exact h2
    · show k < nm ((acX X (pN (X.2.2.2 0) (1 + lw bb 5))).2.2.2 0) ∧ (((acX X (pN (X.2.2.2 0) (1 + lw bb 5))).2.2.2 0).1 18 k ≤ 3 ↔ _)
      rw [e0]; exact okDone hn h hm hk ht
