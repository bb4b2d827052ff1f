/-! THE LAW's invariant: the steps of a day -/
theorem pop_bd {d : DV} {f : Nat} (hf : f < 5) (h4 : ∀ p, p < 6 → 1 ≤ (d.1 4 p).toInt ∧ (d.1 4 p).toInt ≤ 50000) : ∀ n, n ≤ 6 → 0 ≤ (pop d f n).toInt ∧ (pop d f n).toInt ≤ n * 100000
  | 0, _ => by rw [pop]; exact ⟨by decide, by decide⟩
  | n + 1, hn => by
    have h1 := pop_bd hf h4 n (by omega)
    have h2 := h4 n (by omega)
    have h3 : 0 ≤ (need f n * d.1 4 n).toInt ∧ (need f n * d.1 4 n).toInt ≤ 100000 := by
      rcases need_all f hf n (by omega) with h | h | h
      · rw [h, Int32.zero_mul]; decide
      · rw [h, Int32.one_mul]; omega
      · have h5 : (2 : Int32) * d.1 4 n = d.1 4 n + d.1 4 n := by rw [show (2 : Int32) = 1 + 1 from rfl, Int32.add_mul, Int32.one_mul]
        rw [h, h5, i_add (by omega) (by omega)]; omega
    rw [pop, i_add (by omega) (by omega), Int.natCast_add]
    omega
theorem tHF_wage : ∀ f, f < 5 → ∃ h : Nat, 1 ≤ h ∧ h < 6 ∧ tHF f * 4500 = nI (h * 4500)
  | 0, _ => ⟨2, by decide, by decide, by decide⟩
  | 1, _ => ⟨3, by decide, by decide, by decide⟩
  | 2, _ => ⟨1, by decide, by decide, by decide⟩
  | 3, _ => ⟨5, by decide, by decide, by decide⟩
  | 4, _ => ⟨4, by decide, by decide, by decide⟩
  | f + 5, h => absurd h (by omega)
theorem cost_bd {D : Int} {d : DV} (h : IN D d) {f : Nat} (hf : f < 5) : 0 < (cost d f).toInt ∧ (cost d f).toInt ≤ 1073741824 := by
  obtain ⟨w, h1, h2, h3⟩ := tHF_wage f hf
  have h4 := pop_bd (d := d) hf (fun p hp => (h.2.2.2.2.2.2.1 p hp).1) 6 (Nat.le_refl 6)
  rw [cost, h.2.2.2.2.2.1.1, h.2.2.1, h3]
  exact cost_ok h4.1 (by omega) h1 h2
theorem bil_bd {D : Int} {d : DV} (h : IN D d) {k : Nat} (hk : k < nm d) (h14 : 0 ≤ (d.1 14 k).toInt) : 0 ≤ (bil d k).toInt ∧ (bil d k).toInt ≤ 1073741824 := by
  have h1 : IN D (trv d (fl d k) 6) := h.to (fun i hi => trv_ne _ _ _ (by omega) (by omega) _) (trv_2 _ _ _)
  have h2 := cost_bd h1 (f := fl d k) (h.1.2.2.1 k hk).2
  have h3 := mul_nn h14 h.2.2.2.2.2.1.2.2.2.1 h.2.2.2.2.2.1.2.2.2.2
  unfold bil
  split
  · rename_i hh
    have := i_lt.mp hh
    omega
  · omega
def Qk (k : Nat) (d : DV) : Prop := (d.1 18 k).toInt ≤ 3 ∨ ((d.1 18 k).toInt = 4 ∧ d.1 19 k = d.1 0 0)
/-- what is the same, or more, of a set and of the books while a day passes -/
def Tk (k : Nat) (d d' : DV) : Prop := d'.1 0 = d.1 0 ∧ (d.1 20 4).toInt ≤ (d'.1 20 4).toInt ∧ (3 < (d.1 18 k).toInt → 3 < (d'.1 18 k).toInt) ∧ (Qk k d → Qk k d')
theorem Tk.rf {k : Nat} {d : DV} : Tk k d d := ⟨rfl, Int.le_refl _, id, id⟩
theorem Tk.tr {k : Nat} {d d' d'' : DV} (h : Tk k d d') (h' : Tk k d' d'') : Tk k d d'' := ⟨h'.1.trans h.1, Int.le_trans h.2.1 h'.2.1, fun z => h'.2.2.1 (h.2.2.1 z), fun z => h'.2.2.2 (h.2.2.2 z)⟩
theorem Tk.same {k : Nat} {d d' : DV} (e0 : d'.1 0 = d.1 0) (e20 : d'.1 20 4 = d.1 20 4) (e18 : d'.1 18 k = d.1 18 k) (e19 : d'.1 19 k = d.1 19 k) : Tk k d d' := by
  refine ⟨e0, ?_, ?_, ?_⟩
  · rw [e20]; exact Int.le_refl _
  · rw [e18]; exact id
  · unfold Qk; rw [e18, e19, e0]; exact id
theorem Tk.low {k : Nat} {d d' : DV} (e0 : d'.1 0 = d.1 0) (e20 : d'.1 20 4 = d.1 20 4) (h : (d.1 18 k).toInt ≤ 3) (h' : (d'.1 18 k).toInt ≤ 3) : Tk k d d' := by
  refine ⟨e0, ?_, fun z => absurd z (by omega), fun _ => Or.inl h'⟩
  rw [e20]; exact Int.le_refl _
theorem itf_st {d : DV} {k : Nat} {st lo : Int32} (h : ¬ itf d k st lo = 0) : d.1 18 k = st := by
  unfold itf at h
  split at h
  · assumption
  · exact absurd rfl h
theorem rpw_ok {D S : Int} (hS : S ≤ 20000) (lo : Int32) {d : DV} (h : ID D S d) : ∀ n, n ≤ nm d → ID D S (rpw d lo n) ∧ ∀ j, Tk j d (rpw d lo n)
  | 0, _ => ⟨h, fun _ => Tk.rf⟩
  | n + 1, hn => by
    obtain ⟨h1, h2⟩ := rpw_ok hS lo h n (by omega)
    have hm : nm (rpw d lo n) = nm d := nm_of (rpw_ne _ _ _ (by decide) (by decide) _)
    rw [rpw]
    split
    · exact ⟨h1, h2⟩
    · rename_i hi
      split
      · rename_i hl
        have hst := itf_st hi
        refine ⟨ID_res hS h1 (by omega) hst (fun p hp => lsf_all _ _ 6 0 (by omega) hl p (by omega) (by omega)), fun j => (h2 j).tr ?_⟩
        have e0 : ∀ i, i ≠ 7 → i ≠ 18 → (dset (rsv (rpw d lo n) (fl (rpw d lo n) n) 6) 18 n 3).1 i = (rpw d lo n).1 i := fun i h7 h18 => by rw [dset_ne _ _ _ _ _ h18, rsv_ne _ _ _ h7]
        by_cases hj : j = n
        · subst hj
          refine Tk.low (e0 0 (by decide) (by decide)) (by rw [e0 20 (by decide) (by decide)]) (by rw [hst]; decide) ?_
          rw [dset_at, upd_at]; decide
        · refine Tk.same (e0 0 (by decide) (by decide)) (by rw [e0 20 (by decide) (by decide)]) ?_ (by rw [e0 19 (by decide) (by decide)])
          rw [dset_at, upd_ne _ _ hj, rsv_ne _ _ _ (by decide)]
      · exact ⟨h1, h2⟩
theorem rpa_ok {D S : Int} (hS : S ≤ 20000) {d : DV} (h : ID D S d) : ID D S (rpa d) ∧ ∀ j, Tk j d (rpa d) := by
  obtain ⟨h1, h2⟩ := rpw_ok hS 1 h (nm d) (Nat.le_refl _)
  obtain ⟨h3, h4⟩ := rpw_ok hS 0 h1 _ (Nat.le_refl _)
  exact ⟨h3, fun j => (h2 j).tr (h4 j)⟩
/-- parts come into the stock -/
theorem ID_add {D S : Int} (hS : S ≤ 20000) {d : DV} (h : ID D S d) {p : Nat} (m : Int32) (hm0 : 0 ≤ m.toInt) (hm : m.toInt ≤ 4) : ID D (S + 4) (dset d 6 p (d.1 6 p + m)) := by
  have hs := h.1.1
  have e1 : ∀ i, i ≠ 6 → (dset d 6 p (d.1 6 p + m)).1 i = d.1 i := fun i hi => dset_ne _ _ _ _ _ hi
  have e6 : ∀ j, (dset d 6 p (d.1 6 p + m)).1 6 j = upd (d.1 6) p (d.1 6 p + m) j := fun j => by rw [dset_at]
  have er : (dset d 6 p (d.1 6 p + m)).2 = d.2 := rfl
  generalize dset d 6 p (d.1 6 p + m) = d' at *
  obtain ⟨hN, hP, hK, hL, hM⟩ := h
  refine ⟨hN.to (fun i hi => e1 i (by omega)) er, ?_, hK.to (fun i hi => e1 i (by omega)), hL.to (fun i hi => e1 i (by omega)), hM.to (fun i hi => e1 i (by omega))⟩
  intro q hq
  obtain ⟨p1, p2, p3⟩ := hP q hq
  have b1 := rsm_bd hs hq
  rw [← p1] at b1
  rw [e1 7 (by decide), nm_of (e1 11 (by decide)), rsm_of (e1 18 (by decide)) (e1 12 (by decide)), e6]
  refine ⟨p1, ?_⟩
  by_cases e : q = p
  · subst e
    rw [upd_at, i_add (by omega) (by omega)]
    omega
  · rw [upd_ne _ _ e]
    omega
theorem tko_ok {D S : Int} (hS : S ≤ 19000) {d : DV} (h : ID D S d) : ∀ n, n ≤ no d → n ≤ 12 → ID D (S + 4 * n) (tko d n) ∧ ∀ j, Tk j d (tko d n)
  | 0, _, _ => ⟨h.mono (Int.le_refl _) (by omega), fun _ => Tk.rf⟩
  | n + 1, hn, hn2 => by
    obtain ⟨h1, h2⟩ := tko_ok hS h n (by omega) (by omega)
    have hm : no (tko d n) = no d := no_of (tko_ne _ _ (by decide) (by decide) (by decide) _)
    rw [tko]
    split
    · have h9 := h1.1.2.2.2.2.2.2.2 n (by omega)
      have h3 := ID_add (by omega) h1 (p := opa (tko d n) n) _ h9.1 h9.2
      obtain ⟨h4, h5⟩ := rpa_ok (by omega) h3
      refine ⟨h4.mono (Int.le_refl _) (by omega), fun j => ((h2 j).tr ?_).tr (h5 j)⟩
      exact Tk.same rfl rfl rfl rfl
    · exact ⟨h1.mono (Int.le_refl _) (by omega), h2⟩
theorem dof_9 {d : DV} (day : Int32) {N : Nat} (h : ∀ i, i < N → 0 ≤ (d.1 9 i).toInt ∧ (d.1 9 i).toInt ≤ 4) : ∀ n, n ≤ N → ∀ i, i < N → 0 ≤ ((dof d day n).1.1 9 i).toInt ∧ ((dof d day n).1.1 9 i).toInt ≤ 4
  | 0, _, i, hi => h i hi
  | n + 1, hn, i, hi => by
    have h1 := dof_9 day h n (by omega)
    rw [dof]
    split
    · exact h1 i hi
    · show 0 ≤ ((dset (dset (dset (dof d day n).1 8 (dof d day n).2 _) 9 (dof d day n).2 _) 10 _ _).1 9 i).toInt ∧ ((dset (dset (dset (dof d day n).1 8 (dof d day n).2 _) 9 (dof d day n).2 _) 10 _ _).1 9 i).toInt ≤ 4
      rw [dset_ne _ 10 _ _ _ (by decide), dset_at]
      by_cases e : i = (dof d day n).2
      · rw [e, upd_at]; exact h1 n (by omega)
      · rw [upd_ne _ _ e, dset_ne _ _ _ _ _ (by decide)]; exact h1 i hi
theorem dofd_ok {D S : Int} {d : DV} (h : ID D S d) (day : Int32) : ID D S (dofd d day) ∧ ∀ j, Tk j d (dofd d day) := by
  have e1 : ∀ i, i ≠ 3 → i ≠ 8 → i ≠ 9 → i ≠ 10 → (dofd d day).1 i = d.1 i := fun i h3 h8 h9 h10 => by rw [dofd, dset_ne _ _ _ _ _ h3, dof_ne _ _ _ h8 h9 h10]
  have er : (dofd d day).2 = d.2 := dof_2 _ _ _
  have hs := sf_dofd h.1.1 day
  have hno : no (dofd d day) ≤ no d := by
    have h1 := dof_le d day (no d)
    have h2 := h.1.1.1.2
    have h3 := hs.1.1
    have h4 : (dofd d day).1 3 0 = nI (dof d day (no d)).2 := by rw [dofd, dset_at, upd_at]
    have h5 := hs.1.2
    have h6 := i_eq.mp (h3.symm.trans h4)
    rw [i_nI (by omega), i_nI (by omega)] at h6
    omega
  have e9 : ∀ i, i < no d → 0 ≤ ((dofd d day).1 9 i).toInt ∧ ((dofd d day).1 9 i).toInt ≤ 4 := fun i hi => by
    rw [dofd, dset_ne _ _ _ _ _ (by decide)]
    exact dof_9 day h.1.2.2.2.2.2.2.2 (no d) (Nat.le_refl _) i hi
  generalize dofd d day = d' at *
  obtain ⟨hN, hP, hK, hL, hM⟩ := h
  refine ⟨⟨⟨hs, ?_, ?_, ?_, ?_, ?_, ?_, fun i hi => e9 i (by omega)⟩, hP.to (fun i hi => e1 i (by omega) (by omega) (by omega) (by omega)), hK.to (fun i hi => e1 i (by omega) (by omega) (by omega) (by omega)), hL.to (fun i hi => e1 i (by omega) (by omega) (by omega) (by omega)), hM.to (fun i hi => e1 i (by omega) (by omega) (by omega) (by omega))⟩, fun j => Tk.same (e1 0 (by decide) (by decide) (by decide) (by decide)) (by rw [e1 20 (by decide) (by decide) (by decide) (by decide)]) (by rw [e1 18 (by decide) (by decide) (by decide) (by decide)]) (by rw [e1 19 (by decide) (by decide) (by decide) (by decide)])⟩
  · rw [e1 0 (by decide) (by decide) (by decide) (by decide)]; exact hN.2.1
  · rw [e1 2 (by decide) (by decide) (by decide) (by decide)]; exact hN.2.2.1
  · rw [e1 2 (by decide) (by decide) (by decide) (by decide)]; exact hN.2.2.2.1
  · rw [e1 2 (by decide) (by decide) (by decide) (by decide)]; exact hN.2.2.2.2.1
  · rw [er]; exact hN.2.2.2.2.2.1
  · rw [e1 4 (by decide) (by decide) (by decide) (by decide), e1 5 (by decide) (by decide) (by decide) (by decide)]; exact hN.2.2.2.2.2.2.1
