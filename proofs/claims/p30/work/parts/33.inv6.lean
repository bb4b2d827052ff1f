/-! THE LAW's invariant: the acts -/
theorem D5 {n : Nat} (hn : n < 40) : (5 * (n : Int)) ≤ 195 ∧ (244 * (n : Int)) ≤ 9516 := by omega
/-- a change of one set's own cells that keeps it out of the work and its loaner and hours -/
theorem ID_set {D S : Int} {d d' : DV} (h : ID D S d) {k : Nat} (e1 : ∀ i, i ≠ 14 → i ≠ 18 → i ≠ 19 → d'.1 i = d.1 i) (ej : ∀ j, j ≠ k → ∀ i, 13 ≤ i ∧ i ≤ 19 → d'.1 i j = d.1 i j) (h3 : d.1 18 k ≠ 3) (h3' : d'.1 18 k ≠ 3) (hp : PSd d' k) (er : d'.2 = d.2) : ID D S d' := by
  obtain ⟨hN, hP, hK, hL, hM⟩ := h
  have e11 := e1 11 (by decide) (by decide) (by decide)
  have e12 := e1 12 (by decide) (by decide) (by decide)
  refine ⟨hN.to (fun i hi => e1 i (by omega) (by omega) (by omega)) er, ?_, hK.at k (fun i hi => e1 i (by omega) (by omega) (by omega)) ej (fun _ => hp), hL.to (fun i hi => e1 i (by omega) (by omega) (by omega)), hM.to (fun i hi => e1 i (by omega) (by omega) (by omega))⟩
  intro p hp
  rw [e1 7 (by decide) (by decide) (by decide), e1 6 (by decide) (by decide) (by decide), nm_of e11, rsm_sg, sg_congr (g := rgg d p) (nm d) (fun j _ => ?_), ← rsm_sg]
  · exact hP p hp
  · by_cases hj : j = k
    · subst hj; unfold rgg; rw [if_neg h3, if_neg h3']
    · exact rgg_of (ej j hj 18 (by omega)) e12
theorem ID_est {D S : Int} {d : DV} (h : ID D S d) {k : Nat} (hk : k < nm d) (hst : d.1 18 k = 0) {x : Int32} (hx : 0 < x.toInt) : ID D S (dset (dset d 14 k x) 18 k 1) := by
  have hp : PSd d k := h.2.2.1 k hk
  unfold PSd at hp
  rw [hst] at hp
  have t0 : (0 : Int32).toInt = 0 := rfl
  rw [t0] at hp
  refine ID_set h (k := k) (fun i h14 h18 h19 => by rw [dset_ne _ _ _ _ _ h18, dset_ne _ _ _ _ _ h14]) (fun j hj i hi => ?_) (by rw [hst]; decide) (by rw [dset_at, upd_at]; decide) ?_ rfl
  · by_cases c18 : i = 18
    · subst c18; rw [dset_at, upd_ne _ _ hj, dset_ne _ _ _ _ _ (by decide)]
    · by_cases c14 : i = 14
      · subst c14; rw [dset_ne _ _ _ _ _ c18, dset_at, upd_ne _ _ hj]
      · rw [dset_ne _ _ _ _ _ c18, dset_ne _ _ _ _ _ c14]
  · refine PSd.mk (day := (d.1 0 0).toInt) (hf := (tHF (fl d k)).toInt) (st := 1) (wk := (d.1 15 k).toInt) (cm := (d.1 13 k).toInt) (rd := (d.1 19 k).toInt) (bl := (d.1 16 k).toInt) (lo := (d.1 17 k).toInt) (es := x.toInt) ?_ rfl rfl (by rw [dset_at, upd_at]; rfl) rfl rfl rfl rfl rfl (by rw [dset_ne _ _ _ _ _ (by decide), dset_at, upd_at])
    unfold PS at hp ⊢
    omega
theorem ID_dcd {D S : Int} (hS : S ≤ 20000) {d : DV} (h : ID D S d) {k : Nat} (hk : k < nm d) (hst : d.1 18 k = 1) (b : Int32) : ID D S (dcd d k b) := by
  have hp : PSd d k := h.2.2.1 k hk
  unfold PSd at hp
  rw [hst] at hp
  have t1 : (1 : Int32).toInt = 1 := rfl
  rw [t1] at hp
  have hday := h.1.2.1
  unfold dcd
  split
  · refine ID_set h (k := k) (fun i h14 h18 h19 => by rw [dset_ne _ _ _ _ _ h19, dset_ne _ _ _ _ _ h18]) (fun j hj i hi => ?_) (by rw [hst]; decide) (by rw [dset_ne _ _ _ _ _ (by decide), dset_at, upd_at]; decide) ?_ rfl
    · by_cases c19 : i = 19
      · subst c19; rw [dset_at, upd_ne _ _ hj, dset_ne _ _ _ _ _ (by decide)]
      · by_cases c18 : i = 18
        · subst c18; rw [dset_ne _ _ _ _ _ c19, dset_at, upd_ne _ _ hj]
        · rw [dset_ne _ _ _ _ _ c19, dset_ne _ _ _ _ _ c18]
    · refine PSd.mk (day := (d.1 0 0).toInt) (hf := (tHF (fl d k)).toInt) (st := 5) (wk := (d.1 15 k).toInt) (cm := (d.1 13 k).toInt) (rd := (d.1 0 0).toInt) (bl := (d.1 16 k).toInt) (lo := (d.1 17 k).toInt) (es := (d.1 14 k).toInt) ?_ rfl rfl (by rw [dset_ne _ _ _ _ _ (by decide), dset_at, upd_at]; rfl) rfl rfl (by rw [dset_at, upd_at]) rfl rfl rfl
      unfold PS at hp ⊢
      omega
  · refine (rpa_ok hS (ID_set h (d' := dset d 18 k 2) (k := k) (fun i h14 h18 h19 => by rw [dset_ne _ _ _ _ _ h18]) (fun j hj i hi => ?_) (by rw [hst]; decide) (by rw [dset_at, upd_at]; decide) ?_ rfl)).1
    · by_cases c18 : i = 18
      · subst c18; rw [dset_at, upd_ne _ _ hj]
      · rw [dset_ne _ _ _ _ _ c18]
    · refine PSd.mk (day := (d.1 0 0).toInt) (hf := (tHF (fl d k)).toInt) (st := 2) (wk := (d.1 15 k).toInt) (cm := (d.1 13 k).toInt) (rd := (d.1 19 k).toInt) (bl := (d.1 16 k).toInt) (lo := (d.1 17 k).toInt) (es := (d.1 14 k).toInt) ?_ rfl rfl (by rw [dset_at, upd_at]; rfl) rfl rfl rfl rfl rfl rfl
      unfold PS at hp ⊢
      omega
theorem ID_lend {D S : Int} {d : DV} (h : ID D S d) {k : Nat} (hk : k < nm d) (hst : ¬ 4 ≤ d.1 18 k) (hlo : ¬ d.1 17 k = 1) (hth : 0 < lth d) : ID D S (dset d 17 k 1) ∧ 0 ≤ lth (dset d 17 k 1) := by
  obtain ⟨hN, hP, hK, hL, hM⟩ := h
  have hp : PSd d k := hK k hk
  unfold PSd at hp
  have t0 : (0 : Int32).toInt = 0 := rfl
  have t1 : (1 : Int32).toInt = 1 := rfl
  have t4 : (4 : Int32).toInt = 4 := rfl
  have hs4 : (d.1 18 k).toInt < 4 := by have := mt i_le.mpr hst; omega
  have hl0 : d.1 17 k = 0 := i_eq.mpr (by
    have h1 := mt i_eq.mpr hlo
    unfold PS at hp
    omega)
  have hw := wlo_bd hN.1 hK
  have hn := hN.2.2.2.1 4 (by omega)
  have ht : (lth d).toInt = (d.1 2 4).toInt - (wlo d (nm d)).toInt := i_sub (by omega) (by omega)
  have ht2 := i_lt.mp hth
  have ew : wlo (dset d 17 k 1) (nm d) = wlo d (nm d) + 1 := by
    rw [wlo_sg, wlo_sg, sg_at (g := d.1 17) (k := k) (nm d) hk (fun j _ hj => by rw [dset_at]; exact upd_ne _ _ hj), dset_at, upd_at, hl0, Int32.sub_zero]
  have ei : (wlo d (nm d) + 1).toInt = (wlo d (nm d)).toInt + 1 := i_add (by omega) (by omega)
  refine ⟨⟨hN.to (fun i hi => dset_ne _ _ _ _ _ (by omega)) rfl, hP.to (fun i hi => dset_ne _ _ _ _ _ (by omega)), hK.at k (fun i hi => dset_ne _ _ _ _ _ (by omega)) (fun j hj i hi => ?_) (fun _ => ?_), ?_, hM.to (fun i hi => dset_ne _ _ _ _ _ (by omega))⟩, ?_⟩
  · by_cases c17 : i = 17
    · subst c17; rw [dset_at, upd_ne _ _ hj]
    · rw [dset_ne _ _ _ _ _ c17]
  · refine PSd.mk (day := (d.1 0 0).toInt) (hf := (tHF (fl d k)).toInt) (st := (d.1 18 k).toInt) (wk := (d.1 15 k).toInt) (cm := (d.1 13 k).toInt) (rd := (d.1 19 k).toInt) (bl := (d.1 16 k).toInt) (lo := 1) (es := (d.1 14 k).toInt) ?_ rfl rfl rfl rfl rfl rfl rfl (by rw [dset_at, upd_at]; rfl) rfl
    unfold PS at hp ⊢
    omega
  · show (wlo (dset d 17 k 1) (nm d)).toInt ≤ (d.1 2 4).toInt
    rw [ew, ei]; omega
  · show (0 : Int32) ≤ d.1 2 4 - wlo (dset d 17 k 1) (nm d)
    rw [ew, i_le, i_sub (by omega) (by omega), ei]; omega
theorem ID_hov {D S : Int} (hD : D ≤ 200) {d : DV} (h : ID D S d) {k : Nat} (hk : k < nm d) (hR : ¬ isR d k = 0) : ID D S (hov d k) ∧ 0 ≤ d.1 16 k + sfee d k := by
  have hst := isR_st hR
  refine ⟨ID_out h hk hst (Or.inl rfl) (fun i h17 h18 h20 => by rw [hov, dset_ne _ _ _ _ _ h17, dset_ne _ _ _ _ _ h18, dset_ne _ _ _ _ _ h20, dset_ne _ _ _ _ _ h20]) rfl rfl rfl rfl rfl, ?_⟩
  have hp : PSd d k := h.2.2.1 k hk
  unfold PSd PS at hp
  have hf := sfee_bd hD h hk (by rcases hst with z | z <;> rw [z] <;> decide)
  have t0 : (0 : Int32).toInt = 0 := rfl
  rw [i_le, i_add (by omega) (by omega)]
  omega
theorem ID_setP {D S : Int} {d : DV} (h : ID D S d) (p : Nat) {v w : Int32} (hv : 1 ≤ v.toInt ∧ v.toInt ≤ 50000) (hw : 0 ≤ w.toInt ∧ w.toInt ≤ 100) : ID D S (dset (dset d 4 p v) 5 p w) := by
  obtain ⟨hN, hP, hK, hL, hM⟩ := h
  have e1 : ∀ i, i ≠ 4 → i ≠ 5 → (dset (dset d 4 p v) 5 p w).1 i = d.1 i := fun i h4 h5 => by rw [dset_ne _ _ _ _ _ h5, dset_ne _ _ _ _ _ h4]
  refine ⟨⟨hN.1.to rfl rfl rfl rfl, hN.2.1, hN.2.2.1, hN.2.2.2.1, hN.2.2.2.2.1, hN.2.2.2.2.2.1, fun q hq => ?_, hN.2.2.2.2.2.2.2⟩, hP.to (fun i hi => e1 i (by omega) (by omega)), hK.to (fun i hi => e1 i (by omega) (by omega)), hL.to (fun i hi => e1 i (by omega) (by omega)), hM.to (fun i hi => e1 i (by omega) (by omega))⟩
  have h0 := hN.2.2.2.2.2.2.1 q hq
  rw [dset_ne _ 5 _ 4 _ (by decide), dset_at, dset_at, dset_ne _ 4 _ 5 _ (by decide)]
  by_cases e : q = p
  · subst e; rw [upd_at, upd_at]; exact ⟨hv, hw⟩
  · rw [upd_ne _ _ e, upd_ne _ _ e]; exact h0
theorem ID_setN {D S : Int} {d : DV} (h : ID D S d) (w : Nat) {v : Int32} (hv : 1 ≤ v.toInt ∧ v.toInt ≤ 10000) (hw : w ≠ 1) (h4 : w = 4 → (wlo d (nm d)).toInt ≤ v.toInt) : ID D S (dset d 2 w v) := by
  obtain ⟨hN, hP, hK, hL, hM⟩ := h
  have e1 : ∀ i, i ≠ 2 → (dset d 2 w v).1 i = d.1 i := fun i h2 => dset_ne _ _ _ _ _ h2
  refine ⟨⟨hN.1.to rfl rfl rfl rfl, hN.2.1, ?_, fun q hq => ?_, ?_, hN.2.2.2.2.2⟩, hP.to (fun i hi => e1 i (by omega)), hK.to (fun i hi => e1 i (by omega)), ?_, hM.to (fun i hi => e1 i (by omega))⟩
  · rw [dset_at, upd_ne _ _ (Ne.symm hw)]; exact hN.2.2.1
  · have h0 := hN.2.2.2.1 q hq
    rw [dset_at]
    by_cases e : q = w
    · subst e; rw [upd_at]; omega
    · rw [upd_ne _ _ e]; exact h0
  · have h0 := hN.2.2.2.2.1
    rw [dset_at]
    by_cases e : 3 = w
    · subst e; rw [upd_at]; exact hv.1
    · rw [upd_ne _ _ e]; exact h0
  · unfold IL
    rw [nm_of (e1 11 (by decide)), wlo_of (e1 17 (by decide)), dset_at]
    by_cases e : 4 = w
    · subst e; rw [upd_at]; exact h4 rfl
    · rw [upd_ne _ _ e]; exact hL
theorem ID_setR {D S : Int} {d : DV} (h : ID D S d) {x : UInt32} (h1 : FP.Core.FFin x) (h2 : x.toNat < 2 ^ 31) : ID D S (rset d 1 x) := by
  obtain ⟨hN, hP, hK, hL, hM⟩ := h
  refine ⟨⟨hN.1.to rfl rfl rfl rfl, hN.2.1, hN.2.2.1, hN.2.2.2.1, hN.2.2.2.2.1, ⟨hN.2.2.2.2.2.1.1, hN.2.2.2.2.2.1.2.1, hN.2.2.2.2.2.1.2.2.1, h1, h2⟩, hN.2.2.2.2.2.2⟩, hP.to (fun i hi => rfl), hK.to (fun i hi => rfl), hL.to (fun i hi => rfl), hM.to (fun i hi => rfl)⟩
theorem ID_ado {D S : Int} {d : DV} (h : ID D S d) (hno : no d < 12) {p m : Nat} (hp : p < 6) (hm : m ≤ 4) (c : Int32) : ID D S (ado d (nI p) (nI m) c) := by
  obtain ⟨hN, hP, hK, hL, hM⟩ := h
  have hs := hN.1
  have e1 : ∀ i, i ≠ 3 → i ≠ 8 → i ≠ 9 → i ≠ 10 → (ado d (nI p) (nI m) c).1 i = d.1 i := fun i h3 h8 h9 h10 => by rw [ado, dset_ne _ _ _ _ _ h3, dset_ne _ _ _ _ _ h10, dset_ne _ _ _ _ _ h9, dset_ne _ _ _ _ _ h8]
  have e3 : (ado d (nI p) (nI m) c).1 3 0 = nI (no d + 1) := by
    rw [ado, dset_at, upd_at, nI_s1, ← hs.1.1]
  have e8 : (ado d (nI p) (nI m) c).1 8 = upd (d.1 8) (no d) (nI p) := rfl
  have e9 : (ado d (nI p) (nI m) c).1 9 = upd (d.1 9) (no d) (nI m) := rfl
  have er : (ado d (nI p) (nI m) c).2 = d.2 := rfl
  have eno : no (ado d (nI p) (nI m) c) = no d + 1 := by
    show ((ado d (nI p) (nI m) c).1 3 0).toNatClampNeg = no d + 1
    rw [e3]
    exact nI_clamp (by omega)
  have e11 := e1 11 (by decide) (by decide) (by decide) (by decide)
  have e12 := e1 12 (by decide) (by decide) (by decide) (by decide)
  generalize ado d (nI p) (nI m) c = d' at *
  refine ⟨⟨⟨⟨by rw [eno]; exact e3, by omega⟩, ⟨by rw [nm_of e11, e11]; exact hs.2.1.1, by rw [nm_of e11]; exact hs.2.1.2⟩, fun k hk => by rw [nm_of e11] at hk; rw [e12, fl_of e12]; exact hs.2.2.1 k hk, fun i hi => ?_⟩, by rw [e1 0 (by decide) (by decide) (by decide) (by decide)]; exact hN.2.1, by rw [e1 2 (by decide) (by decide) (by decide) (by decide)]; exact hN.2.2.1, by rw [e1 2 (by decide) (by decide) (by decide) (by decide)]; exact hN.2.2.2.1, by rw [e1 2 (by decide) (by decide) (by decide) (by decide)]; exact hN.2.2.2.2.1, by rw [er]; exact hN.2.2.2.2.2.1, by rw [e1 4 (by decide) (by decide) (by decide) (by decide), e1 5 (by decide) (by decide) (by decide) (by decide)]; exact hN.2.2.2.2.2.2.1, fun i hi => ?_⟩, hP.to (fun i hi => e1 i (by omega) (by omega) (by omega) (by omega)), hK.to (fun i hi => e1 i (by omega) (by omega) (by omega) (by omega)), hL.to (fun i hi => e1 i (by omega) (by omega) (by omega) (by omega)), hM.to (fun i hi => e1 i (by omega) (by omega) (by omega) (by omega))⟩
  · by_cases e : i = no d
    · subst e
      have e8i : d'.1 8 (no d) = nI p := by rw [e8, upd_at]
      have : opa d' (no d) = p := by unfold opa; rw [e8i]; exact nI_clamp (by omega)
      rw [this]; exact ⟨e8i, hp⟩
    · have e8i : d'.1 8 i = d.1 8 i := by rw [e8, upd_ne _ _ e]
      have : opa d' i = opa d i := by unfold opa; rw [e8i]
      rw [this, e8i]; exact hs.2.2.2 i (by omega)
  · rw [e9]
    by_cases e : i = no d
    · subst e; rw [upd_at, i_nI (by omega)]; omega
    · rw [upd_ne _ _ e]; exact hN.2.2.2.2.2.2.2 i (by omega)
