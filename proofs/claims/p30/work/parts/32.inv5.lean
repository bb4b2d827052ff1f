/-! THE LAW's invariant: a whole day; what the law asks of a desk -/
theorem ID_day {D S : Int} {d : DV} (hD : D ≤ 199) (h : ID D S d) : ID (D + 1) S (dset d 0 0 (d.1 0 0 + 1)) := by
  obtain ⟨hN, hP, hK, hL, hM⟩ := h
  have hday := hN.2.1
  have t1 : (1 : Int32).toInt = 1 := rfl
  have e0 : (dset d 0 0 (d.1 0 0 + 1)).1 0 0 = d.1 0 0 + 1 := by rw [dset_at, upd_at]
  have ed : (d.1 0 0 + 1).toInt = (d.1 0 0).toInt + 1 := i_add (by omega) (by omega)
  refine ⟨⟨hN.1.to rfl rfl rfl rfl, ?_, hN.2.2⟩, hP.to (fun i hi => dset_ne _ _ _ _ _ (by omega)), ?_, hL.to (fun i hi => dset_ne _ _ _ _ _ (by omega)), hM.to (fun i hi => dset_ne _ _ _ _ _ (by omega))⟩
  · rw [e0, ed]; omega
  · intro k hk
    have hp : PSd d k := hK k hk
    unfold PSd at hp
    refine PSd.mk (day := (d.1 0 0).toInt + 1) (hf := (tHF (fl d k)).toInt) (st := (d.1 18 k).toInt) (wk := (d.1 15 k).toInt) (cm := (d.1 13 k).toInt) (rd := (d.1 19 k).toInt) (bl := (d.1 16 k).toInt) (lo := (d.1 17 k).toInt) (es := (d.1 14 k).toInt) ?_ (by rw [e0, ed]) rfl rfl rfl rfl rfl rfl rfl rfl
    unfold PS at hp ⊢
    omega
theorem psd_ok {D S : Int} {d : DV} (hD : D ≤ 199) (hS : S ≤ 18000) (h : ID D S d) : ID (D + 1) (S + 48) (psd d) ∧ (psd d).1 0 0 = d.1 0 0 + 1 ∧ (d.1 20 4).toInt ≤ ((psd d).1 20 4).toInt ∧ ∀ j, (3 < (d.1 18 j).toInt → 3 < ((psd d).1 18 j).toInt) ∧ ((d.1 18 j).toInt ≤ 3 → ((psd d).1 18 j).toInt ≤ 4) := by
  have h0 := ID_day hD h
  have hno := h0.1.1.1.2
  obtain ⟨a1, a2⟩ := tko_ok (by omega) h0 _ (Nat.le_refl _) hno
  obtain ⟨b1, b2⟩ := dofd_ok a1 ((tko (dset d 0 0 (d.1 0 0 + 1)) (no (dset d 0 0 (d.1 0 0 + 1)))).1 0 0)
  have p1 : ID (D + 1) (S + 48) (ps1 d) := b1.mono (Int.le_refl _) (by omega)
  have q1 : ∀ j, Tk j (dset d 0 0 (d.1 0 0 + 1)) (ps1 d) := fun j => (a2 j).tr (b2 j)
  obtain ⟨p2, q2⟩ := wrk_ok (by omega) (by omega) 1 (nm (ps1 d)) 0 (ps1 d) ((ps1 d).1 2 0) (by omega) p1
  obtain ⟨p3, q3⟩ := wrk_ok (by omega) (by omega) 0 (nm (ps2 d).1) 0 (ps2 d).1 (ps2 d).2 (by omega) p2
  obtain ⟨p4, q4⟩ := sel_ok p3 (nm (ps3 d)) (Nat.le_refl _)
  have q : ∀ j, Tk j (dset d 0 0 (d.1 0 0 + 1)) (psd d) := fun j => (((q1 j).tr (q2 j)).tr (q3 j)).tr (q4 j)
  refine ⟨p4, ?_, (q 0).2.1, fun j => ⟨(q j).2.2.1, fun hl => ?_⟩⟩
  · rw [(q 0).1, dset_at, upd_at]
  · rcases (q j).2.2.2 (Or.inl hl) with z | z
    · omega
    · omega
theorem nI_s1 (n : Nat) : nI (n + 1) = nI n + 1 := (nI_add n 1).symm
theorem nI_z : nI 0 = 0 := rfl
theorem pN_ok {D S : Int} {d : DV} (h : ID D S d) (n : Nat) : D + n ≤ 200 → S + 48 * n ≤ 18000 → ID (D + n) (S + 48 * n) (pN d n) ∧ (pN d n).1 0 0 = d.1 0 0 + nI n ∧ (d.1 20 4).toInt ≤ ((pN d n).1 20 4).toInt := by
  induction n with
  | zero =>
    intro _ _
    refine ⟨h.mono (by omega) (by omega), ?_, Int.le_refl _⟩
    rw [nI_z, Int32.add_zero]; rfl
  | succ n ih =>
    intro hn hs
    obtain ⟨h1, h2, h3⟩ := ih (by omega) (by omega)
    obtain ⟨k1, k2, k3, -⟩ := psd_ok (by omega) (by omega) h1
    have e : pN d (n + 1) = psd (pN d n) := by rw [pN]
    rw [e, nI_s1]
    refine ⟨k1.mono (by omega) (by omega), ?_, Int.le_trans h3 k3⟩
    rw [k2, h2, Int32.add_assoc]
theorem st_cases {x : Int32} (h : 0 ≤ x.toInt ∧ x.toInt ≤ 7) : x = 0 ∨ x = 1 ∨ x = 2 ∨ x = 3 ∨ x = 4 ∨ x = 5 ∨ x = 6 ∨ x = 7 := by
  rcases (by omega : x.toInt = 0 ∨ x.toInt = 1 ∨ x.toInt = 2 ∨ x.toInt = 3 ∨ x.toInt = 4 ∨ x.toInt = 5 ∨ x.toInt = 6 ∨ x.toInt = 7) with z | z | z | z | z | z | z | z
  · exact Or.inl (i_eq.mpr z)
  · exact Or.inr (Or.inl (i_eq.mpr z))
  · exact Or.inr (Or.inr (Or.inl (i_eq.mpr z)))
  · exact Or.inr (Or.inr (Or.inr (Or.inl (i_eq.mpr z))))
  · exact Or.inr (Or.inr (Or.inr (Or.inr (Or.inl (i_eq.mpr z)))))
  · exact Or.inr (Or.inr (Or.inr (Or.inr (Or.inr (Or.inl (i_eq.mpr z))))))
  · exact Or.inr (Or.inr (Or.inr (Or.inr (Or.inr (Or.inr (Or.inl (i_eq.mpr z)))))))
  · exact Or.inr (Or.inr (Or.inr (Or.inr (Or.inr (Or.inr (Or.inr (i_eq.mpr z)))))))
/-- the fee is a small number -/
theorem sfee_bd {D S : Int} {d : DV} (hD : D ≤ 200) (h : ID D S d) {k : Nat} (hk : k < nm d) (hst : 3 < (d.1 18 k).toInt) : 0 ≤ (sfee d k).toInt ∧ (sfee d k).toInt ≤ 10000 := by
  have hp : PSd d k := h.2.2.1 k hk
  unfold PSd PS at hp
  have hday := h.1.2.1
  have hg := h.1.2.2.2.1 2 (by omega)
  have t0 : (0 : Int32).toInt = 0 := rfl
  unfold sfee
  split
  · rename_i hh
    have e1 : (d.1 0 0 - d.1 19 k).toInt = (d.1 0 0).toInt - (d.1 19 k).toInt := i_sub (by omega) (by omega)
    have e2 : (d.1 0 0 - d.1 19 k - d.1 2 2).toInt = (d.1 0 0 - d.1 19 k).toInt - (d.1 2 2).toInt := i_sub (by omega) (by omega)
    have h3 := i_lt.mp hh
    generalize d.1 0 0 - d.1 19 k - d.1 2 2 = v at *
    obtain ⟨m, hm⟩ : ∃ m : Nat, v.toInt = m := ⟨v.toInt.toNat, by omega⟩
    rw [i_nIeq hm, h.1.2.2.2.2.2.1.2.1]
    exact fee_all m (by omega)
  · decide
theorem ins_all {d : DV} : ∀ m, (∀ k, k < m → d.1 18 k = 0 ∨ d.1 18 k = 1 ∨ d.1 18 k = 2 ∨ d.1 18 k = 3 ∨ d.1 18 k = 4 ∨ d.1 18 k = 5 ∨ d.1 18 k = 6 ∨ d.1 18 k = 7) → 0 + ins d 0 m + ins d 1 m + ins d 2 m + ins d 3 m + ins d 4 m + ins d 5 m + ins d 6 m + ins d 7 m = nI m
  | 0, _ => by simp only [ins]; decide
  | m + 1, h => by
    have ih := ins_all m (fun k hk => h k (Nat.lt_succ_of_lt hk))
    have e : nI (m + 1) = nI m + 1 := nI_s1 m
    rw [e, ← ih]
    simp only [ins]
    rcases h m (Nat.lt_succ_self m) with z | z | z | z | z | z | z | z <;> rw [z] <;> simp (decide := true) only [if_true, if_false] <;> ac_rfl
theorem gd_ok {D S : Int} {d : DV} (hD : D ≤ 200) (h : ID D S d) : gd d := by
  have hID := h
  obtain ⟨hN, hP, hK, hL, hM⟩ := h
  have hs := hN.1
  have t0 : (0 : Int32).toInt = 0 := rfl
  have t1 : (1 : Int32).toInt = 1 := rfl
  have t2 : (2 : Int32).toInt = 2 := rfl
  have t3 : (3 : Int32).toInt = 3 := rfl
  have t4 : (4 : Int32).toInt = 4 := rfl
  have t5 : (5 : Int32).toInt = 5 := rfl
  have t6 : (6 : Int32).toInt = 6 := rfl
  have hst : ∀ k, k < nm d → d.1 18 k = 0 ∨ d.1 18 k = 1 ∨ d.1 18 k = 2 ∨ d.1 18 k = 3 ∨ d.1 18 k = 4 ∨ d.1 18 k = 5 ∨ d.1 18 k = 6 ∨ d.1 18 k = 7 := fun k hk => by
    have hp : PSd d k := hK k hk
    unfold PSd PS at hp
    exact st_cases hp.1
  refine ⟨fun p hp => ?_, fun k hk => ?_, ?_, ?_, fun h0 => ?_, fun h0 => ?_⟩
  · obtain ⟨p1, p2, p3⟩ := hP p hp
    refine ⟨p1, fun z => ?_⟩
    have := i_lt.mp z
    rw [← p1] at this
    omega
  · have hp : PSd d k := hK k hk
    have hst := hst k hk
    have hfee : 3 < (d.1 18 k).toInt → 0 ≤ (sfee d k).toInt := fun z => (sfee_bd hD hID hk z).1
    unfold PSd PS at hp
    refine ⟨hst, ?_, ?_, ?_, ?_, ?_, ⟨?_, ?_⟩, ?_, ?_, ?_, ?_, ⟨?_, ?_⟩⟩
    · rw [i_lt]; omega
    · rintro (z | z | z) <;> (rw [z] at hp; rw [i_eq]; omega)
    · intro z; rw [z] at hp; rw [i_le]; omega
    · intro z; rw [z] at hp; rw [i_eq]; omega
    · rw [i_lt]; omega
    · rw [i_lt, i_lt]; omega
    · rw [i_lt, i_lt]; omega
    · intro z
      have h3 : 3 < (d.1 18 k).toInt := by rcases z with z | z <;> rw [z] <;> decide
      have hR : ¬ isR d k = 0 := by
        unfold isR
        rcases z with z | z
        · rw [if_pos z]; decide
        · rw [z]; decide
      unfold tFee
      rw [if_neg hR, i_lt]
      have := hfee h3
      omega
    · rw [i_eq, i_le]; omega
    · rw [i_lt]; omega
    · rw [i_eq, i_eq]; omega
    · rw [i_eq, i_eq]; omega
    · rw [i_eq, i_eq]; omega
  · rw [hs.2.1.1]
    exact ins_all (nm d) hst
  · have hb := wlo_bd hs hK
    have hn := hN.2.2.2.1 4 (by omega)
    unfold IL at hL
    unfold lth
    rw [i_lt, i_sub (by omega) (by omega)]
    omega
  · unfold tMean
    rw [if_neg]
    rw [hM.1, h0]; decide
  · have hb := dnn_bd hs
    have h1 : 0 < (d.1 20 4).toInt := by
      rw [hM.1]
      have := mt i_eq.mpr h0
      omega
    unfold tMean
    rw [if_pos (show (0 : Int32) < d.1 20 4 from i_lt.mpr (show (0 : Int32).toInt < (d.1 20 4).toInt from h1))]
    exact mean_nn hM.2.1 h1
