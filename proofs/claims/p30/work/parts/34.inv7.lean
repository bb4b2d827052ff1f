/-! THE LAW's invariant: a new set, a new desk, the system, the turns -/
theorem ID_adS {D S : Int} {d : DV} (h : ID D S d) (hm : nm d < 20) {f : Nat} (hf : f < 5) : ID D S (adS d (nI f) (d.1 0 0)) := by
  obtain ⟨hN, hP, hK, hL, hM⟩ := h
  have hs := hN.1
  have e1 : ∀ i, ¬ (11 ≤ i ∧ i ≤ 19) → (adS d (nI f) (d.1 0 0)).1 i = d.1 i := fun i hi => by rw [adS, dset_ne _ _ _ _ _ (by omega), dset_ne _ _ _ _ _ (by omega), dset_ne _ _ _ _ _ (by omega), dset_ne _ _ _ _ _ (by omega), dset_ne _ _ _ _ _ (by omega), dset_ne _ _ _ _ _ (by omega), dset_ne _ _ _ _ _ (by omega), dset_ne _ _ _ _ _ (by omega), dset_ne _ _ _ _ _ (by omega)]
  have e12 : (adS d (nI f) (d.1 0 0)).1 12 = upd (d.1 12) (nm d) (nI f) := rfl
  have e13 : (adS d (nI f) (d.1 0 0)).1 13 = upd (d.1 13) (nm d) (d.1 0 0) := rfl
  have e14 : (adS d (nI f) (d.1 0 0)).1 14 = upd (d.1 14) (nm d) 0 := rfl
  have e15 : (adS d (nI f) (d.1 0 0)).1 15 = upd (d.1 15) (nm d) 0 := rfl
  have e16 : (adS d (nI f) (d.1 0 0)).1 16 = upd (d.1 16) (nm d) 0 := rfl
  have e17 : (adS d (nI f) (d.1 0 0)).1 17 = upd (d.1 17) (nm d) 0 := rfl
  have e18 : (adS d (nI f) (d.1 0 0)).1 18 = upd (d.1 18) (nm d) 0 := rfl
  have e19 : (adS d (nI f) (d.1 0 0)).1 19 = upd (d.1 19) (nm d) (-5) := rfl
  have e11 : (adS d (nI f) (d.1 0 0)).1 11 0 = nI (nm d + 1) := by
    rw [adS, dset_at, upd_at, nI_s1, ← hs.2.1.1]
  have enm : nm (adS d (nI f) (d.1 0 0)) = nm d + 1 := by
    show ((adS d (nI f) (d.1 0 0)).1 11 0).toNatClampNeg = nm d + 1
    rw [e11]
    exact nI_clamp (by omega)
  have er : (adS d (nI f) (d.1 0 0)).2 = d.2 := rfl
  generalize adS d (nI f) (d.1 0 0) = d' at *
  have efl : ∀ j, j < nm d → fl d' j = fl d j := fun j hj => by unfold fl; rw [e12, upd_ne _ _ (by omega)]
  have efn : fl d' (nm d) = f := by unfold fl; rw [e12, upd_at]; exact nI_clamp (by omega)
  have hs' : sf d' := by
    refine ⟨by rw [no_of (e1 3 (by decide)), e1 3 (by decide)]; exact hs.1, ⟨by rw [enm]; exact e11, by omega⟩, fun k hk => ?_, fun i hi => ?_⟩
    · by_cases e : k = nm d
      · subst e; rw [efn, e12, upd_at]; exact ⟨rfl, hf⟩
      · rw [efl k (by omega), e12, upd_ne _ _ e]; exact hs.2.2.1 k (by omega)
    · rw [no_of (e1 3 (by decide))] at hi
      have := hs.2.2.2 i hi
      unfold opa at this ⊢
      rw [e1 8 (by decide)]
      exact this
  have t0 : (0 : Int32).toInt = 0 := rfl
  refine ⟨⟨hs', by rw [e1 0 (by decide)]; exact hN.2.1, by rw [e1 2 (by decide)]; exact hN.2.2.1, by rw [e1 2 (by decide)]; exact hN.2.2.2.1, by rw [e1 2 (by decide)]; exact hN.2.2.2.2.1, by rw [er]; exact hN.2.2.2.2.2.1, by rw [e1 4 (by decide), e1 5 (by decide)]; exact hN.2.2.2.2.2.2.1, by rw [no_of (e1 3 (by decide)), e1 9 (by decide)]; exact hN.2.2.2.2.2.2.2⟩, ?_, ?_, ?_, ?_⟩
  · intro p hp
    have ee : rsm d' p (nm d') = rsm d p (nm d) := by
      rw [enm, rsm, e18, upd_at, if_neg (by decide), rsm_sg, rsm_sg]
      refine sg_congr _ (fun j hj => ?_)
      unfold rgg
      rw [e18, upd_ne _ _ (by omega), efl j hj]
    rw [ee, e1 7 (by decide), e1 6 (by decide)]
    exact hP p hp
  · intro k hk
    by_cases e : k = nm d
    · subst e
      refine PSd.mk (day := (d.1 0 0).toInt) (hf := (tHF f).toInt) (st := 0) (wk := 0) (cm := (d.1 0 0).toInt) (rd := -5) (bl := 0) (lo := 0) (es := 0) ?_ (by rw [e1 0 (by decide)]) (by rw [efn]) (by rw [e18, upd_at]; rfl) (by rw [e15, upd_at]; rfl) (by rw [e13, upd_at]) (by rw [e19, upd_at]; decide) (by rw [e16, upd_at]; rfl) (by rw [e17, upd_at]; rfl) (by rw [e14, upd_at]; rfl)
      have h1 := tHF_bd f hf
      have h2 := hN.2.1
      unfold PS
      omega
    · unfold PSd
      rw [e1 0 (by decide), efl k (by omega), e18, e15, e13, e19, e16, e17, e14, upd_ne _ _ e, upd_ne _ _ e, upd_ne _ _ e, upd_ne _ _ e, upd_ne _ _ e, upd_ne _ _ e, upd_ne _ _ e]
      exact hK k (by omega)
  · unfold IL at hL ⊢
    have ee : wlo d' (nm d') = wlo d (nm d) := by
      rw [enm, wlo, e17, upd_at, Int32.add_zero, wlo_sg, wlo_sg]
      exact sg_congr _ (fun j hj => by rw [e17, upd_ne _ _ (by omega)])
    rw [ee, e1 2 (by decide)]
    exact hL
  · have ee : dnn d' (nm d') = dnn d (nm d) := by
      have h1 := tHF_bd f hf
      rw [enm, dnn, e15, upd_at, efn, if_neg (fun z => by rw [← z, t0] at h1; omega), dnn_sg, dnn_sg]
      refine sg_congr _ (fun j hj => ?_)
      unfold dgg
      rw [e15, upd_ne _ _ (by omega), efl j hj]
    unfold IM
    rw [ee, e1 20 (by decide)]
    exact hM
theorem ID_new : ID 0 0 dNew := by
  have hno : no dNew = 0 := rfl
  have hnm : nm dNew = 0 := rfl
  refine ⟨⟨⟨⟨rfl, by decide⟩, ⟨rfl, by decide⟩, fun k hk => absurd hk (by omega), fun i hi => absurd hi (by omega)⟩, ⟨by decide, by decide⟩, rfl, fun w hw => ?_, by decide, ⟨rfl, rfl, rfl, (FP.Core.fin_bits32 _).mpr (by decide), by decide⟩, fun p hp => ⟨⟨by show 1 ≤ Int32.toInt 100; decide, by show Int32.toInt 100 ≤ 50000; decide⟩, by show 0 ≤ Int32.toInt 2; decide, by show Int32.toInt 2 ≤ 100; decide⟩, fun i hi => absurd hi (by omega)⟩, fun p hp => ⟨rfl, by show Int32.toInt 0 ≤ Int32.toInt 0; decide, by show Int32.toInt 0 ≤ 0; decide⟩, fun k hk => absurd hk (by omega), by unfold IL; decide, ⟨rfl, by decide, by decide⟩⟩
  match w, hw with
  | 0, _ => exact ⟨by decide, by decide⟩
  | 1, _ => exact ⟨by decide, by decide⟩
  | 2, _ => exact ⟨by decide, by decide⟩
  | 3, _ => exact ⟨by decide, by decide⟩
  | 4, _ => exact ⟨by decide, by decide⟩
  | n + 5, h => exact absurd h (by omega)
theorem ID.fr {D S : Int} {d : DV} (h : ID D S d) : fr d := by
  obtain ⟨h0, h2, h3, h1, -⟩ := h.1.2.2.2.2.2.1
  intro j hj
  match j, hj with
  | 0, _ => rw [h0]; exact (FP.Core.fin_bits32 _).mpr (by decide)
  | 1, _ => exact h1
  | 2, _ => rw [h2]; exact (FP.Core.fin_bits32 _).mpr (by decide)
  | 3, _ => rw [h3]; exact (FP.Core.fin_bits32 _).mpr (by decide)
  | n + 4, h => exact absurd h (by omega)
/-- what holds before turn n -/
def OkT (n : Nat) (X : SV) : Prop := X.2.1 ≤ 4 ∧ (sf (X.2.2.2 1) ∧ fr (X.2.2.2 1)) ∧ ∀ j, j ≠ 1 → ID (5 * (n : Int)) (244 * (n : Int)) (X.2.2.2 j)
def OkA (n : Nat) (X : SV) (r : Int32 × SV) : Prop := OkT (n + 1) r.2 ∧ (0 ≤ r.1 ∨ r.2 = X)
theorem OkT.up {n : Nat} {X : SV} (h : OkT n X) : OkT (n + 1) X := ⟨h.1, h.2.1, fun j hj => (h.2.2 j hj).mono (by omega) (by omega)⟩
theorem OkT.sv {n : Nat} {X : SV} (h : OkT n X) : sv X := by
  refine ⟨h.1, fun j _ => ?_⟩
  by_cases e : j = 1
  · subst e; exact h.2.1
  · exact ⟨(h.2.2 j e).1.1, (h.2.2 j e).fr⟩
theorem OkT.dk {n : Nat} {X : SV} (h : OkT n X) : ID (5 * (n : Int)) (244 * (n : Int)) (X.2.2.2 0) := h.2.2 0 (by decide)
theorem OkT.rc {n : Nat} {X : SV} (h : OkT n X) : OkT n (rcX X) := by
  refine ⟨?_, ?_, fun j hj => ?_⟩
  · show rcM X.2.1 ≤ 4
    unfold rcM; split <;> omega
  · show sf (rcD X.2.1 X.2.2.1 X.2.2.2 1) ∧ fr (rcD X.2.1 X.2.2.1 X.2.2.2 1)
    rw [rcD_0 _ _ _ 1 (by decide)]; exact h.2.1
  · show ID _ _ (rcD X.2.1 X.2.2.1 X.2.2.2 j)
    unfold rcD
    split
    · by_cases e : j = 3 + (X.2.2.1 + X.2.1) % 4
      · rw [e, va_up_self]; exact h.dk
      · rw [va_up_ne _ _ e]; exact h.2.2 j hj
    · by_cases e : j = 3 + ((X.2.2.1 + 1) % 4 + 3) % 4
      · rw [e, va_up_self]; exact h.dk
      · rw [va_up_ne _ _ e]; exact h.2.2 j hj
theorem OkT.st {n : Nat} {X : SV} (h : OkT n X) {i : Nat} (hi : i ≠ 1) {d : DV} (hd : ID (5 * (n : Int)) (244 * (n : Int)) d) : OkT n (stJ i X d) := by
  refine ⟨h.1, ?_, fun j hj => ?_⟩
  · show sf (va_up X.2.2.2 i d 1) ∧ fr (va_up X.2.2.2 i d 1)
    rw [va_up_ne _ _ (Ne.symm hi)]; exact h.2.1
  · show ID _ _ (va_up X.2.2.2 i d j)
    by_cases e : j = i
    · rw [e, va_up_self]; exact hd
    · rw [va_up_ne _ _ e]; exact h.2.2 j hj
theorem ok_err {n : Nat} {X : SV} (h : OkT n X) (a : Int32) : OkA n X (a, X) := ⟨h.up, Or.inr rfl⟩
theorem ok_ac {n : Nat} {X : SV} (h : OkT n X) {D S : Int} {d : DV} (hd : ID D S d) (h1 : D ≤ 5 * (n : Int) + 5) (h2 : S ≤ 244 * (n : Int) + 244) {a : Int32} (ha : 0 ≤ a) : OkA n X (a, acX X d) :=
  ⟨OkT.st h.rc.up (by decide) (hd.mono (by omega) (by omega)), Or.inl ha⟩
theorem nn_nI {m : Nat} (h : m < 2147483648) : 0 ≤ nI m := i_le.mpr (by rw [i_nI h]; exact Int.natCast_nonneg m)
theorem okCome {n : Nat} {X : SV} (h : OkT n X) {f : Nat} (hf : f < 5) : OkA n X (aCome X f) := by
  have hd := h.dk
  have hb := hd.1.1.2.1.2
  unfold aCome
  split
  · rename_i hh
    exact ok_ac h (ID_adS hd (nm_lt hd.1.1 (N := 20) (by decide) hh) hf) (by omega) (by omega) (nn_nI (by omega))
  · exact ok_err h _
theorem okEst {n : Nat} {X : SV} (h : OkT n X) {k : Nat} (hk : k < 10) : OkA n X (aEst X k) := by
  have hd := h.dk
  unfold aEst
  split
  · exact ok_err h _
  · rename_i hi
    have hkn : k < nm (X.2.2.2 0) := isS_lt h.sv (by omega) hi
    split
    · rename_i hh
      have hc := cost_bd hd.1 (hd.1.1.2.2.1 k hkn).2
      have t0 : (0 : Int32).toInt = 0 := rfl
      exact ok_ac h (ID_est hd hkn hh hc.1) (by omega) (by omega) (i_le.mpr (by omega))
    · exact ok_err h _
theorem okAns {n : Nat} (hn : n < 40) {X : SV} (h : OkT n X) {k : Nat} (hk : k < 10) (bb : Int32) : OkA n X (aAns X k bb) := by
  have hd := h.dk
  unfold aAns
  split
  · exact ok_err h _
  · rename_i hi
    have hkn : k < nm (X.2.2.2 0) := isS_lt h.sv (by omega) hi
    split
    · rename_i hh
      have h1 := ID_dcd (by omega) hd hkn hh bb
      refine ok_ac h h1 (by omega) (by omega) (i_le.mpr ?_)
      have hm : nm (dcd (X.2.2.2 0) k bb) = nm (X.2.2.2 0) := by
        unfold dcd
        split
        · rfl
        · exact nm_of (rpa_ne _ _ (by decide) (by decide))
      have hp : PSd (dcd (X.2.2.2 0) k bb) k := h1.2.2.1 k (by omega)
      unfold PSd PS at hp
      have t0 : (0 : Int32).toInt = 0 := rfl
      omega
    · exact ok_err h _
theorem okLend {n : Nat} {X : SV} (h : OkT n X) {k : Nat} (hk : k < 10) : OkA n X (aLend X k) := by
  have hd := h.dk
  unfold aLend
  split
  · exact ok_err h _
  · rename_i hi
    have hkn : k < nm (X.2.2.2 0) := isS_lt h.sv (by omega) hi
    split
    · exact ok_err h _
    · rename_i h4
      split
      · exact ok_err h _
      · rename_i h1
        split
        · rename_i h0
          have := ID_lend hd hkn h4 h1 h0
          exact ok_ac h this.1 (by omega) (by omega) this.2
        · exact ok_err h _
theorem okCol {n : Nat} (hn : n < 40) {X : SV} (h : OkT n X) {k : Nat} (hk : k < 10) : OkA n X (aCol X k) := by
  have hd := h.dk
  unfold aCol
  split
  · exact ok_err h _
  · rename_i hi
    have hkn : k < nm (X.2.2.2 0) := isS_lt h.sv (by omega) hi
    split
    · exact ok_err h _
    · rename_i hR
      have := ID_hov (by omega) hd hkn hR
      exact ok_ac h this.1 (by omega) (by omega) this.2
theorem okSetP {n : Nat} {X : SV} (h : OkT n X) {p v w : Nat} (hp : p < 6) (hv : 1 ≤ v ∧ v ≤ 50000) (hw : w ≤ 100) : OkA n X (aSetP X p v w) := by
  have hd := h.dk
  have h4 := (hd.1.2.2.2.2.2.2.1 p hp).1
  have t0 : (0 : Int32).toInt = 0 := rfl
  have ha : 0 ≤ (X.2.2.2 0).1 4 p := i_le.mpr (by omega)
  have h1 : ID (5 * (n : Int)) (244 * (n : Int)) (dset (dset (X.2.2.2 0) 4 p (nI v)) 5 p (nI w)) := ID_setP hd p (by rw [i_nI (by omega)]; omega) (by rw [i_nI (by omega)]; omega)
  unfold aSetP
  split
  · split
    · exact ok_err h _
    · exact ok_ac h h1 (by omega) (by omega) ha
  · exact ok_ac h h1 (by omega) (by omega) ha
theorem okSetN {n : Nat} {X : SV} (h : OkT n X) {w v : Nat} (hw : w < 5) (hv : 1 ≤ v ∧ v ≤ 24) : OkA n X (aSetN X w v) := by
  have hd := h.dk
  have t0 : (0 : Int32).toInt = 0 := rfl
  have t100 : (100 : Int32).toInt = 100 := rfl
  have ha : 0 ≤ (X.2.2.2 0).1 2 w := i_le.mpr (by have := hd.1.2.2.2.1 w hw; omega)
  have hvi : (nI v).toInt = v := i_nI (by omega)
  unfold aSetN
  split
  · exact ok_err h _
  · rename_i hi
    have hw1 : w ≠ 1 := fun z => hi (by
      subst z
      unfold wif
      rw [show tLN 1 = 100 from rfl, if_pos (i_lt.mpr (by omega))])
    have K : (w = 4 → (wlo (X.2.2.2 0) (nm (X.2.2.2 0))).toInt ≤ (nI v).toInt) → OkA n X (aSetN2 X w v) := fun q => by
      unfold aSetN2
      split
      · exact ok_err h _
      · exact ok_ac h (ID_setN hd w (by omega) hw1 q) (by omega) (by omega) ha
    split
    · split
      · rename_i hl
        exact K (fun _ => i_le.mp hl)
      · exact ok_err h _
    · rename_i h4
      exact K (fun z => absurd (by subst z; rfl) h4)
theorem flo_all : ∀ r, r < 180 → (flo (1065353216 + r * 2 ^ 16)).toNat < 2 ^ 31 := by decide +kernel
theorem okSetR {n : Nat} {X : SV} (h : OkT n X) {r : Nat} (hr : r < 180) : OkA n X (aSetR X (1065353216 + r * 2 ^ 16)) := by
  have hd := h.dk
  have h1 := (flo_sm (1065353216 + r * 2 ^ 16)).fin
  have h2 := flo_all r hr
  generalize 1065353216 + r * 2 ^ 16 = B at *
  unfold aSetR
  split
  · exact ok_err h _
  · split
    · exact ok_err h _
    · exact ok_ac h (ID_setR hd h1 h2) (by omega) (by omega) (by decide)
theorem okOrd {n : Nat} (hn : n < 40) {X : SV} (h : OkT n X) {p m : Nat} (hp : p < 6) (hm : m ≤ 4) : OkA n X (aOrd X p m) := by
  have hd := h.dk
  have t0 : (0 : Int32).toInt = 0 := rfl
  have h5 := (hd.1.2.2.2.2.2.2.1 p hp).2
  have hday := hd.1.2.1
  unfold aOrd
  split
  · rename_i hh
    exact ok_ac h (ID_ado hd (no_lt hd.1.1 (N := 12) (by decide) hh) hp hm _) (by omega) (by omega) (i_le.mpr (by rw [i_add (by omega) (by omega)]; omega))
  · exact ok_err h _
theorem okPut {n : Nat} (hn : n < 40) {X : SV} (h : OkT n X) {p m : Nat} (hp : p < 6) (hm : m ≤ 4) : OkA n X (aPut X p m) := by
  have hd := h.dk
  have t0 : (0 : Int32).toInt = 0 := rfl
  have hmi : (nI m).toInt = m := i_nI (by omega)
  obtain ⟨p1, p2, p3⟩ := hd.2.1 p hp
  have hb := rsm_bd hd.1.1 hp
  rw [← p1] at hb
  unfold aPut
  split
  · have h1 := ID_add (by omega) hd (p := p) (nI m) (by omega) (by omega)
    refine ok_ac h (rpa_ok (by omega) h1).1 (by omega) (by omega) ?_
    unfold ptD
    rw [rpa_ne _ _ (by decide) (by decide), dset_at, upd_at, i_le, i_add (by omega) (by omega)]
    omega
  · exact ok_err h _
theorem okUndo {n : Nat} {X : SV} (h : OkT n X) : OkA n X (aUndo X) := by
  have h4 := h.1
  unfold aUndo
  split
  · refine ⟨OkT.up ⟨?_, ?_, fun j hj => ?_⟩, Or.inl (nn_nI (by omega))⟩
    · show X.2.1 - 1 ≤ 4
      omega
    · show sf (va_up X.2.2.2 0 (X.2.2.2 (3 + (X.2.2.1 + (X.2.1 - 1)) % 4)) 1) ∧ fr (va_up X.2.2.2 0 (X.2.2.2 (3 + (X.2.2.1 + (X.2.1 - 1)) % 4)) 1)
      rw [va_up_ne _ _ (by decide)]; exact h.2.1
    · show ID _ _ (va_up X.2.2.2 0 (X.2.2.2 (3 + (X.2.2.1 + (X.2.1 - 1)) % 4)) j)
      by_cases e : j = 0
      · rw [e, va_up_self]; exact h.2.2 _ (by omega)
      · rw [va_up_ne _ _ e]; exact h.2.2 j hj
  · exact ok_err h _
theorem okKeep {n : Nat} {X : SV} (h : OkT n X) : OkA n X (aKeep X) := by
  have t0 : (0 : Int32).toInt = 0 := rfl
  refine ⟨OkT.up ⟨h.1, ?_, fun j hj => ?_⟩, Or.inl (i_le.mpr (by have := h.dk.1.2.1.1; unfold aKeep; exact this))⟩
  · show sf (va_up X.2.2.2 2 (X.2.2.2 0) 1) ∧ fr (va_up X.2.2.2 2 (X.2.2.2 0) 1)
    rw [va_up_ne _ _ (by decide)]; exact h.2.1
  · show ID _ _ (va_up X.2.2.2 2 (X.2.2.2 0) j)
    by_cases e : j = 2
    · rw [e, va_up_self]; exact h.dk
    · rw [va_up_ne _ _ e]; exact h.2.2 j hj
theorem okRest {n : Nat} {X : SV} (h : OkT n X) : OkA n X (aRest X) := by
  have h2 := h.rc.2.2 2 (by decide)
  unfold aRest
  split
  · exact ok_err h _
  · exact ok_ac h h2 (by omega) (by omega) (i_le.mpr h2.1.2.1.1)
theorem pass_day {n : Nat} (hn : n < 40) {X : SV} (h : OkT n X) {m : Nat} (hm : m ≤ 5) : (X.2.2.2 0).1 0 0 + nI m ≤ 9999 := by
  have hday := h.dk.1.2.1
  have hmi : (nI m).toInt = m := i_nI (by omega)
  have t : (9999 : Int32).toInt = 9999 := rfl
  rw [i_le, i_add (by omega) (by omega)]; omega
theorem pass_nn {n : Nat} (hn : n < 40) {X : SV} (h : OkT n X) {m : Nat} (hm : m ≤ 5) : 0 ≤ (pN (X.2.2.2 0) m).1 20 4 - (X.2.2.2 0).1 20 4 := by
  obtain ⟨h1, h2, h3⟩ := pN_ok h.dk m (by omega) (by omega)
  have b1 := dnn_bd h.dk.1.1
  have b2 := dnn_bd h1.1.1
  rw [← h.dk.2.2.2.2.1] at b1
  rw [← h1.2.2.2.2.1] at b2
  have t0 : (0 : Int32).toInt = 0 := rfl
  rw [i_le, i_sub (by omega) (by omega)]; omega
theorem okPass {n : Nat} (hn : n < 40) {X : SV} (h : OkT n X) {m : Nat} (hm : m ≤ 5) : OkA n X (aPass X m) := by
  obtain ⟨h1, -, -⟩ := pN_ok h.dk m (by omega) (by omega)
  unfold aPass
  rw [if_pos (pass_day hn h hm)]
  exact ok_ac h h1 (by omega) (by omega) (pass_nn hn h hm)
theorem okAct {n : Nat} (hn : n < 40) {X : SV} (h : OkT n X) (c : Nat) (a bb : Int32) : OkA n X (lAct X c a bb) := by
  have l4 : lw bb 4 < 4 := lw_lt (by decide)
  have l5 : lw bb 5 < 5 := lw_lt (by decide)
  have l6 : lw bb 6 < 6 := lw_lt (by decide)
  have l24 : lw bb 24 < 24 := lw_lt (by decide)
  have lp : lw bb 40000 < 40000 := lw_lt (by decide)
  unfold lAct
  by_cases c1 : c < 3
  · rw [if_pos c1]; exact okCome h (lw_lt (by decide))
  rw [if_neg c1]
  by_cases c2 : c < 6
  · rw [if_pos c2]; exact okEst h (lw_lt (by decide))
  rw [if_neg c2]
  by_cases c3 : c < 9
  · rw [if_pos c3]; exact okAns hn h (lw_lt (by decide)) _
  rw [if_neg c3]
  by_cases c4 : c < 12
  · rw [if_pos c4]; exact okPut hn h (lw_lt (by decide)) (by omega)
  rw [if_neg c4]
  by_cases c5 : c < 13
  · rw [if_pos c5]; exact okOrd hn h (lw_lt (by decide)) (by omega)
  rw [if_neg c5]
  by_cases c6 : c < 14
  · rw [if_pos c6]; exact okLend h (lw_lt (by decide))
  rw [if_neg c6]
  by_cases c7 : c < 15
  · rw [if_pos c7]; exact okCol hn h (lw_lt (by decide))
  rw [if_neg c7]
  by_cases c8 : c < 16
  · rw [if_pos c8]; exact okSetP h (lw_lt (by decide)) (by omega) (by omega)
  rw [if_neg c8]
  by_cases c9 : c < 17
  · rw [if_pos c9]
    by_cases q : nI (lw a 2) = 0
    · rw [if_pos q]; exact okSetN h (lw_lt (by decide)) (by omega)
    · rw [if_neg q]; exact okSetR h (lw_lt (by decide))
  rw [if_neg c9]
  by_cases c10 : c < 18
  · rw [if_pos c10]; exact okUndo h
  rw [if_neg c10]
  by_cases c11 : c < 19
  · rw [if_pos c11]
    by_cases q : nI (lw bb 2) = 0
    · rw [if_pos q]; exact okKeep h
    · rw [if_neg q]; exact okRest h
  rw [if_neg c11]
  exact okPass hn h (by omega)
