/-! THE LAW's invariant: what a desk keeps -/
def PS (day hf st wk cm rd bl lo es : Int) : Prop :=
  (0 ≤ st ∧ st ≤ 7) ∧ (0 ≤ wk ∧ wk ≤ hf) ∧ (1 ≤ hf ∧ hf ≤ 5) ∧ (st ≤ 2 → wk = 0) ∧ (st = 3 → wk < hf) ∧ (st = 4 → wk = hf) ∧ (0 ≤ cm ∧ cm ≤ day) ∧ (st ≤ 3 → rd = -5) ∧ (3 < st → 0 ≤ rd ∧ rd ≤ day) ∧ (0 ≤ bl ∧ bl ≤ 1073741824) ∧ (bl ≠ 0 → wk = hf) ∧ (lo = 0 ∨ lo = 1) ∧ (lo ≠ 0 → st < 6) ∧ (st = 0 → es = 0) ∧ (st ≠ 0 → 0 < es)
def PSd (d : DV) (k : Nat) : Prop := PS (d.1 0 0).toInt (tHF (fl d k)).toInt (d.1 18 k).toInt (d.1 15 k).toInt (d.1 13 k).toInt (d.1 19 k).toInt (d.1 16 k).toInt (d.1 17 k).toInt (d.1 14 k).toInt
theorem PSd.mk {d' : DV} {k : Nat} {day hf st wk cm rd bl lo es : Int} (h : PS day hf st wk cm rd bl lo es) (e0 : (d'.1 0 0).toInt = day) (e1 : (tHF (fl d' k)).toInt = hf) (e2 : (d'.1 18 k).toInt = st) (e3 : (d'.1 15 k).toInt = wk) (e4 : (d'.1 13 k).toInt = cm) (e5 : (d'.1 19 k).toInt = rd) (e6 : (d'.1 16 k).toInt = bl) (e7 : (d'.1 17 k).toInt = lo) (e8 : (d'.1 14 k).toInt = es) : PSd d' k := by
  subst e0 e1 e2 e3 e4 e5 e6 e7 e8; exact h
def IN (D : Int) (d : DV) : Prop :=
  sf d ∧ (0 ≤ (d.1 0 0).toInt ∧ (d.1 0 0).toInt ≤ D) ∧ d.1 2 1 = 4500 ∧ (∀ w, w < 5 → 0 ≤ (d.1 2 w).toInt ∧ (d.1 2 w).toInt ≤ 10000) ∧ 1 ≤ (d.1 2 3).toInt ∧
  (d.2 0 = 1068708659 ∧ d.2 2 = 1103888384 ∧ d.2 3 = 1058642330 ∧ FP.Core.FFin (d.2 1) ∧ (d.2 1).toNat < 2 ^ 31) ∧
  (∀ p, p < 6 → (1 ≤ (d.1 4 p).toInt ∧ (d.1 4 p).toInt ≤ 50000) ∧ 0 ≤ (d.1 5 p).toInt ∧ (d.1 5 p).toInt ≤ 100) ∧ (∀ i, i < no d → 0 ≤ (d.1 9 i).toInt ∧ (d.1 9 i).toInt ≤ 4)
def IP (S : Int) (d : DV) : Prop := ∀ p, p < 6 → d.1 7 p = rsm d p (nm d) ∧ (d.1 7 p).toInt ≤ (d.1 6 p).toInt ∧ (d.1 6 p).toInt ≤ S
def IK (d : DV) : Prop := ∀ k, k < nm d → PSd d k
def IL (d : DV) : Prop := (wlo d (nm d)).toInt ≤ (d.1 2 4).toInt
def IM (d : DV) : Prop := d.1 20 4 = dnn d (nm d) ∧ 0 ≤ (d.1 20 5).toInt ∧ (d.1 20 5).toInt ≤ 200 * (d.1 20 4).toInt
def ID (D S : Int) (d : DV) : Prop := IN D d ∧ IP S d ∧ IK d ∧ IL d ∧ IM d
theorem IN.to {D : Int} {d d' : DV} (h : IN D d) (e : ∀ i, (i = 0 ∨ i = 2 ∨ i = 3 ∨ i = 4 ∨ i = 5 ∨ i = 8 ∨ i = 9 ∨ i = 11 ∨ i = 12) → d'.1 i = d.1 i) (e2 : d'.2 = d.2) : IN D d' := by
  obtain ⟨h1, h2, h3, h4, h5, h6, h7, h8⟩ := h
  have a0 := e 0 (by omega)
  have a2 := e 2 (by omega)
  have a3 := e 3 (by omega)
  have a4 := e 4 (by omega)
  have a5 := e 5 (by omega)
  have a9 := e 9 (by omega)
  refine ⟨h1.to a3 (e 11 (by omega)) (e 12 (by omega)) (e 8 (by omega)), ?_, ?_, ?_, ?_, ?_, ?_, ?_⟩
  · rw [a0]; exact h2
  · rw [a2]; exact h3
  · rw [a2]; exact h4
  · rw [a2]; exact h5
  · rw [e2]; exact h6
  · rw [a4, a5]; exact h7
  · rw [no_of a3, a9]; exact h8
theorem rgg_of {d d' : DV} {p j : Nat} (h18 : d'.1 18 j = d.1 18 j) (h12 : d'.1 12 = d.1 12) : rgg d' p j = rgg d p j := by
  unfold rgg; rw [h18, fl_of h12]
theorem dgg_of {d d' : DV} {j : Nat} (h15 : d'.1 15 j = d.1 15 j) (h12 : d'.1 12 = d.1 12) : dgg d' j = dgg d j := by
  unfold dgg; rw [h15, fl_of h12]
theorem rsm_of {d d' : DV} (h18 : d'.1 18 = d.1 18) (h12 : d'.1 12 = d.1 12) (p n : Nat) : rsm d' p n = rsm d p n := by
  rw [rsm_sg, rsm_sg]; exact sg_congr n (fun j _ => rgg_of (congrFun h18 j) h12)
theorem dnn_of {d d' : DV} (h15 : d'.1 15 = d.1 15) (h12 : d'.1 12 = d.1 12) (n : Nat) : dnn d' n = dnn d n := by
  rw [dnn_sg, dnn_sg]; exact sg_congr n (fun j _ => dgg_of (congrFun h15 j) h12)
theorem wlo_of {d d' : DV} (h17 : d'.1 17 = d.1 17) (n : Nat) : wlo d' n = wlo d n := by
  rw [wlo_sg, wlo_sg, h17]
theorem IP.to {S : Int} {d d' : DV} (h : IP S d) (e : ∀ i, (i = 6 ∨ i = 7 ∨ i = 11 ∨ i = 12 ∨ i = 18) → d'.1 i = d.1 i) : IP S d' := by
  intro p hp
  rw [e 7 (by omega), e 6 (by omega), nm_of (e 11 (by omega)), rsm_of (e 18 (by omega)) (e 12 (by omega))]
  exact h p hp
theorem IK.to {d d' : DV} (h : IK d) (e : ∀ i, (i = 0 ∨ i = 11 ∨ i = 12 ∨ (13 ≤ i ∧ i ≤ 19)) → d'.1 i = d.1 i) : IK d' := by
  intro k hk
  rw [nm_of (e 11 (by omega))] at hk
  unfold PSd
  rw [e 0 (by omega), fl_of (e 12 (by omega)), e 18 (by omega), e 15 (by omega), e 13 (by omega), e 19 (by omega), e 16 (by omega), e 17 (by omega), e 14 (by omega)]
  exact h k hk
theorem IK.at {d d' : DV} (h : IK d) (k : Nat) (e : ∀ i, (i = 0 ∨ i = 11 ∨ i = 12) → d'.1 i = d.1 i) (ej : ∀ j, j ≠ k → ∀ i, (13 ≤ i ∧ i ≤ 19) → d'.1 i j = d.1 i j) (hk : k < nm d → PSd d' k) : IK d' := by
  intro j hj
  rw [nm_of (e 11 (by omega))] at hj
  by_cases hjk : j = k
  · subst hjk; exact hk hj
  · have ej := ej j hjk
    unfold PSd
    rw [e 0 (by omega), fl_of (e 12 (by omega)), ej 18 (by omega), ej 15 (by omega), ej 13 (by omega), ej 19 (by omega), ej 16 (by omega), ej 17 (by omega), ej 14 (by omega)]
    exact h j hj
theorem IL.to {d d' : DV} (h : IL d) (e : ∀ i, (i = 2 ∨ i = 11 ∨ i = 17) → d'.1 i = d.1 i) : IL d' := by
  unfold IL; rw [e 2 (by omega), nm_of (e 11 (by omega)), wlo_of (e 17 (by omega))]; exact h
theorem IM.to {d d' : DV} (h : IM d) (e : ∀ i, (i = 11 ∨ i = 12 ∨ i = 15 ∨ i = 20) → d'.1 i = d.1 i) : IM d' := by
  unfold IM; rw [e 20 (by omega), nm_of (e 11 (by omega)), dnn_of (e 15 (by omega)) (e 12 (by omega))]; exact h
theorem ID.mono {D S D' S' : Int} {d : DV} (h : ID D S d) (hD : D ≤ D') (hS : S ≤ S') : ID D' S' d :=
  ⟨⟨h.1.1, ⟨h.1.2.1.1, Int.le_trans h.1.2.1.2 hD⟩, h.1.2.2⟩, fun p hp => ⟨(h.2.1 p hp).1, (h.2.1 p hp).2.1, Int.le_trans (h.2.1 p hp).2.2 hS⟩, h.2.2⟩
/-- the reserved parts are few -/
theorem rsm_bd {d : DV} (hs : sf d) {p : Nat} (hp : p < 6) : 0 ≤ (rsm d p (nm d)).toInt ∧ (rsm d p (nm d)).toInt ≤ 40 := by
  have h1 := hs.2.1.2
  have h2 := sg_bd (g := rgg d p) (B := 2) (nm d) (by omega) (by omega) (fun j hj => by
    unfold rgg
    split
    · exact need_bd (hs.2.2.1 j hj).2 hp
    · decide)
  rw [← rsm_sg] at h2
  omega
theorem dnn_bd {d : DV} (hs : sf d) : 0 ≤ (dnn d (nm d)).toInt ∧ (dnn d (nm d)).toInt ≤ 20 := by
  have h1 := hs.2.1.2
  have h2 := sg_bd (g := dgg d) (B := 1) (nm d) (by omega) (by omega) (fun j hj => by unfold dgg; split <;> decide)
  rw [← dnn_sg] at h2
  omega
theorem wlo_bd {d : DV} (hs : sf d) (hk : IK d) : 0 ≤ (wlo d (nm d)).toInt ∧ (wlo d (nm d)).toInt ≤ 20 := by
  have h1 := hs.2.1.2
  have h2 := sg_bd (g := d.1 17) (B := 1) (nm d) (by omega) (by omega) (fun j hj => by have := hk j hj; unfold PSd PS at this; omega)
  rw [← wlo_sg] at h2
  omega
theorem rsv_7 (d : DV) (f : Nat) (p : Nat) : ∀ n, (rsv d f n).1 7 p = if p < n then d.1 7 p + need f p else d.1 7 p
  | 0 => (if_neg (Nat.not_lt_zero p)).symm
  | n + 1 => by
    rw [rsv, dset_at]
    by_cases e : p = n
    · subst e; rw [upd_at, rsv_7 d f p p, if_neg (Nat.lt_irrefl p), if_pos (Nat.lt_succ_self p)]
    · rw [upd_ne _ _ e, rsv_7 d f p n]
      by_cases e1 : p < n
      · rw [if_pos e1, if_pos (by omega)]
      · rw [if_neg e1, if_neg (by omega)]
theorem trv_7 (d : DV) (f : Nat) (p : Nat) : ∀ n, (trv d f n).1 7 p = if p < n then d.1 7 p - need f p else d.1 7 p
  | 0 => (if_neg (Nat.not_lt_zero p)).symm
  | n + 1 => by
    rw [trv, dset_at]
    by_cases e : p = n
    · subst e; rw [upd_at, trv_7 d f p p, if_neg (Nat.lt_irrefl p), if_pos (Nat.lt_succ_self p)]
    · rw [upd_ne _ _ e, dset_ne _ _ _ _ _ (by decide), trv_7 d f p n]
      by_cases e1 : p < n
      · rw [if_pos e1, if_pos (by omega)]
      · rw [if_neg e1, if_neg (by omega)]
theorem trv_6 (d : DV) (f : Nat) (p : Nat) : ∀ n, (trv d f n).1 6 p = if p < n then d.1 6 p - need f p else d.1 6 p
  | 0 => (if_neg (Nat.not_lt_zero p)).symm
  | n + 1 => by
    rw [trv, dset_ne _ _ _ _ _ (by decide), dset_at]
    by_cases e : p = n
    · subst e; rw [upd_at, trv_6 d f p p, if_neg (Nat.lt_irrefl p), if_pos (Nat.lt_succ_self p)]
    · rw [upd_ne _ _ e, trv_6 d f p n]
      by_cases e1 : p < n
      · rw [if_pos e1, if_pos (by omega)]
      · rw [if_neg e1, if_neg (by omega)]
theorem lsf_all (d : DV) (f : Nat) : ∀ r p, p + r ≤ 6 → lsf d f r p = -5 → ∀ q, p ≤ q → q < p + r → need f q ≤ fre d q
  | 0, p, _, _, q, h1, h2 => by omega
  | r + 1, p, hr, h, q, h1, h2 => by
    rw [lsf] at h
    split at h
    · rename_i hh
      by_cases e : q = p
      · subst e; exact hh
      · exact lsf_all d f r (p + 1) (by omega) h q (by omega) (by omega)
    · exfalso
      have := i_eq.mp h
      rw [i_nI (by omega)] at this
      revert this
      show ¬ ((p : Int) = -5)
      omega
/-- one set gets its parts -/
theorem ID_res {D S : Int} {d : DV} {k : Nat} (hS : S ≤ 20000) (h : ID D S d) (hk : k < nm d) (hst : d.1 18 k = 2) (hn : ∀ p, p < 6 → need (fl d k) p ≤ fre d p) : ID D S (dset (rsv d (fl d k) 6) 18 k 3) := by
  have hs := h.1.1
  have e1 : ∀ i, i ≠ 7 → i ≠ 18 → (dset (rsv d (fl d k) 6) 18 k 3).1 i = d.1 i := fun i h7 h18 => by rw [dset_ne _ _ _ _ _ h18, rsv_ne _ _ _ h7]
  have e18 : ∀ j, (dset (rsv d (fl d k) 6) 18 k 3).1 18 j = upd (d.1 18) k 3 j := fun j => by rw [dset_at, rsv_ne _ _ _ (by decide)]
  have e7 : ∀ p, p < 6 → (dset (rsv d (fl d k) 6) 18 k 3).1 7 p = d.1 7 p + need (fl d k) p := fun p hp => by rw [dset_ne _ _ _ _ _ (by decide), rsv_7, if_pos hp]
  have er : (dset (rsv d (fl d k) 6) 18 k 3).2 = d.2 := rsv_2 _ _ _
  generalize dset (rsv d (fl d k) 6) 18 k 3 = d' at *
  obtain ⟨hN, hP, hK, hL, hM⟩ := h
  refine ⟨hN.to (fun i hi => e1 i (by omega) (by omega)) er, ?_, ?_, hL.to (fun i hi => e1 i (by omega) (by omega)), hM.to (fun i hi => e1 i (by omega) (by omega))⟩
  · intro p hp
    obtain ⟨p1, p2, p3⟩ := hP p hp
    have b1 := rsm_bd hs hp
    have b2 := need_bd (hs.2.2.1 k hk).2 hp
    have b3 := i_le.mp (hn p hp)
    unfold fre at b3
    rw [← p1] at b1
    rw [i_sub (by omega) (by omega)] at b3
    rw [e7 p hp, e1 6 (by decide) (by decide), nm_of (e1 11 (by decide) (by decide)), rsm_sg, sg_at (g := rgg d p) (k := k) (nm d) hk (fun j _ hj => rgg_of ((e18 j).trans (upd_ne _ _ hj)) (e1 12 (by decide) (by decide))), ← rsm_sg, ← p1]
    refine ⟨?_, ?_, p3⟩
    · congr 1
      unfold rgg
      rw [e18, upd_at, if_pos rfl, fl_of (e1 12 (by decide) (by decide)), hst, if_neg (by decide), Int32.sub_zero]
    · rw [i_add (by omega) (by omega)]
      omega
  · refine hK.at k (fun i hi => e1 i (by omega) (by omega)) (fun j hj i hi => ?_) (fun hk => ?_)
    · by_cases e : i = 18
      · subst e; rw [e18, upd_ne _ _ hj]
      · rw [e1 i (by omega) e]
    · have hp := hK k hk
      unfold PSd at hp
      rw [hst] at hp
      refine PSd.mk (st := 3) (show PS _ _ 3 _ _ _ _ _ _ from ?_) rfl rfl ?_ rfl rfl rfl rfl rfl rfl
      · rw [e1 0 (by decide) (by decide), fl_of (e1 12 (by decide) (by decide)), e1 15 (by decide) (by decide), e1 13 (by decide) (by decide), e1 19 (by decide) (by decide), e1 16 (by decide) (by decide), e1 17 (by decide) (by decide), e1 14 (by decide) (by decide)]
        have h2 : (2 : Int32).toInt = 2 := rfl
        rw [h2] at hp
        unfold PS at hp ⊢
        omega
      · rw [e18, upd_at]; rfl
