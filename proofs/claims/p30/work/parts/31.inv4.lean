/-! THE LAW's invariant: the work of a day -/
theorem fin_c (d : DV) (k : Nat) : (fin d k).1 16 = upd (d.1 16) k (bil d k) ∧ (fin d k).1 18 = upd (d.1 18) k 4 ∧ (fin d k).1 19 = upd (d.1 19) k (d.1 0 0) ∧ (fin d k).1 20 4 = d.1 20 4 + 1 ∧ (fin d k).1 20 5 = d.1 20 5 + (d.1 0 0 - d.1 13 k) := by
  refine ⟨?_, ?_, ?_, ?_, ?_⟩
  · show upd ((trv d (fl d k) 6).1 16) k (bil d k) = _
    rw [trv_ne _ _ _ (by decide) (by decide)]
  · show upd ((trv d (fl d k) 6).1 18) k 4 = _
    rw [trv_ne _ _ _ (by decide) (by decide)]
  · show upd ((trv d (fl d k) 6).1 19) k ((trv d (fl d k) 6).1 0 0) = _
    rw [trv_ne _ _ _ (by decide) (by decide), trv_ne _ _ _ (by decide) (by decide)]
  · show (trv d (fl d k) 6).1 20 4 + 1 = _
    rw [trv_ne _ _ _ (by decide) (by decide)]
  · show (trv d (fl d k) 6).1 20 5 + ((trv d (fl d k) 6).1 0 0 - (trv d (fl d k) 6).1 13 k) = _
    rw [trv_ne _ _ _ (by decide) (by decide), trv_ne _ _ _ (by decide) (by decide), trv_ne _ _ _ (by decide) (by decide)]
theorem fin_67 (d : DV) (k : Nat) {p : Nat} (hp : p < 6) : (fin d k).1 6 p = d.1 6 p - need (fl d k) p ∧ (fin d k).1 7 p = d.1 7 p - need (fl d k) p := by
  refine ⟨?_, ?_⟩
  · show (trv d (fl d k) 6).1 6 p = _
    rw [trv_6, if_pos hp]
  · show (trv d (fl d k) 6).1 7 p = _
    rw [trv_7, if_pos hp]
/-- a set is done -/
theorem ID_fin {D S : Int} (hD : D ≤ 200) (hS : S ≤ 20000) {d : DV} (h : ID D S d) {k : Nat} (hk : k < nm d) (hst : d.1 18 k = 3) {x : Int32} (hx : x = tHF (fl d k)) : ID D S (fin (dset d 15 k x) k) ∧ ∀ j, Tk j d (fin (dset d 15 k x) k) := by
  have hs := h.1.1
  have hpk : PSd d k := h.2.2.1 k hk
  have hb : 0 ≤ (bil (dset d 15 k x) k).toInt ∧ (bil (dset d 15 k x) k).toInt ≤ 1073741824 := by
    refine bil_bd (D := D) (h.1.to (fun i hi => dset_ne _ _ _ _ _ (by omega)) rfl) hk ?_
    show 0 ≤ (d.1 14 k).toInt
    unfold PSd PS at hpk
    omega
  have e1 : ∀ i, i ≠ 6 → i ≠ 7 → i ≠ 15 → i ≠ 16 → i ≠ 18 → i ≠ 19 → i ≠ 20 → (fin (dset d 15 k x) k).1 i = d.1 i := fun i h6 h7 h15 h16 h18 h19 h20 => by rw [fin_ne _ _ _ h6 h7 h16 h18 h19 h20, dset_ne _ _ _ _ _ h15]
  have e15 : (fin (dset d 15 k x) k).1 15 = upd (d.1 15) k x := by rw [fin_ne _ _ _ (by decide) (by decide) (by decide) (by decide) (by decide) (by decide), dset_at]
  obtain ⟨e16, e18, e19, e204, e205⟩ := fin_c (dset d 15 k x) k
  have e67 : ∀ p, p < 6 → (fin (dset d 15 k x) k).1 6 p = d.1 6 p - need (fl d k) p ∧ (fin (dset d 15 k x) k).1 7 p = d.1 7 p - need (fl d k) p := fun p hp => fin_67 (dset d 15 k x) k hp
  rw [dset_ne _ _ _ _ _ (by decide)] at e16 e18 e204
  rw [dset_ne _ _ _ _ _ (by decide), dset_ne _ _ _ _ _ (by decide)] at e19
  rw [dset_ne _ _ _ _ _ (by decide), dset_ne _ _ _ _ _ (by decide), dset_ne _ _ _ _ _ (by decide)] at e205
  have er : (fin (dset d 15 k x) k).2 = d.2 := fin_2 _ _
  generalize bil (dset d 15 k x) k = B at *
  have hs' : sf (fin (dset d 15 k x) k) := hs.to (e1 3 (by decide) (by decide) (by decide) (by decide) (by decide) (by decide) (by decide)) (e1 11 (by decide) (by decide) (by decide) (by decide) (by decide) (by decide) (by decide)) (e1 12 (by decide) (by decide) (by decide) (by decide) (by decide) (by decide) (by decide)) (e1 8 (by decide) (by decide) (by decide) (by decide) (by decide) (by decide) (by decide))
  generalize fin (dset d 15 k x) k = d' at *
  have e0 := e1 0 (by decide) (by decide) (by decide) (by decide) (by decide) (by decide) (by decide)
  have e11 := e1 11 (by decide) (by decide) (by decide) (by decide) (by decide) (by decide) (by decide)
  have e12 := e1 12 (by decide) (by decide) (by decide) (by decide) (by decide) (by decide) (by decide)
  have e13 := e1 13 (by decide) (by decide) (by decide) (by decide) (by decide) (by decide) (by decide)
  have e14 := e1 14 (by decide) (by decide) (by decide) (by decide) (by decide) (by decide) (by decide)
  have e17 := e1 17 (by decide) (by decide) (by decide) (by decide) (by decide) (by decide) (by decide)
  obtain ⟨hN, hP, hK, hL, hM⟩ := h
  have hday := hN.2.1
  obtain ⟨m1, m2, m3⟩ := hM
  have md := dnn_bd hs
  rw [← m1] at md
  unfold PSd at hpk
  rw [hst] at hpk
  have t3 : (3 : Int32).toInt = 3 := rfl
  have t4 : (4 : Int32).toInt = 4 := rfl
  have t1 : (1 : Int32).toInt = 1 := rfl
  rw [t3] at hpk
  have hw : (d.1 15 k).toInt ≠ (tHF (fl d k)).toInt := by unfold PS at hpk; omega
  have hcm : 0 ≤ (d.1 13 k).toInt ∧ (d.1 13 k).toInt ≤ (d.1 0 0).toInt := by unfold PS at hpk; omega
  have e4i : (d'.1 20 4).toInt = (d.1 20 4).toInt + 1 := by rw [e204, i_add (by omega) (by omega), t1]
  have e5a : (d.1 0 0 - d.1 13 k).toInt = (d.1 0 0).toInt - (d.1 13 k).toInt := i_sub (by omega) (by omega)
  have e5i : (d'.1 20 5).toInt = (d.1 20 5).toInt + ((d.1 0 0).toInt - (d.1 13 k).toInt) := by rw [e205, i_add (by omega) (by omega), e5a]
  refine ⟨⟨hN.to (fun i hi => e1 i (by omega) (by omega) (by omega) (by omega) (by omega) (by omega) (by omega)) er, ?_, ?_, hL.to (fun i hi => e1 i (by omega) (by omega) (by omega) (by omega) (by omega) (by omega) (by omega)), ?_, ?_, ?_⟩, fun j => ?_⟩
  · intro p hp
    obtain ⟨p1, p2, p3⟩ := hP p hp
    have b1 := rsm_bd hs hp
    have b1' := rsm_bd hs' hp
    have b2 := need_bd (hs.2.2.1 k hk).2 hp
    rw [← p1] at b1
    have ee : rsm d' p (nm d') = d.1 7 p - need (fl d k) p := by
      rw [nm_of e11, rsm_sg, sg_at (g := rgg d p) (k := k) (nm d) hk (fun j _ hj => rgg_of (by rw [e18]; exact upd_ne _ _ hj) e12), ← rsm_sg, ← p1]
      unfold rgg
      rw [e18, upd_at, if_neg (by decide), hst, if_pos rfl, Int32.sub_eq_add_neg, Int32.sub_eq_add_neg, Int32.zero_add]
    rw [ee] at b1'
    have q1 : (d.1 7 p - need (fl d k) p).toInt = (d.1 7 p).toInt - (need (fl d k) p).toInt := i_sub (by omega) (by omega)
    have q2 : (d.1 6 p - need (fl d k) p).toInt = (d.1 6 p).toInt - (need (fl d k) p).toInt := i_sub (by omega) (by omega)
    refine ⟨?_, ?_, ?_⟩
    · rw [ee, (e67 p hp).2]
    · rw [(e67 p hp).1, (e67 p hp).2, q1, q2]; omega
    · rw [(e67 p hp).1, q2]; omega
  · refine hK.at k (fun i hi => e1 i (by omega) (by omega) (by omega) (by omega) (by omega) (by omega) (by omega)) (fun j hj i hi => ?_) (fun hk => ?_)
    · by_cases c15 : i = 15
      · subst c15; rw [e15, upd_ne _ _ hj]
      · by_cases c16 : i = 16
        · subst c16; rw [e16, upd_ne _ _ hj]
        · by_cases c18 : i = 18
          · subst c18; rw [e18, upd_ne _ _ hj]
          · by_cases c19 : i = 19
            · subst c19; rw [e19, upd_ne _ _ hj]
            · rw [e1 i (by omega) (by omega) c15 c16 c18 c19 (by omega)]
    · refine PSd.mk (day := (d.1 0 0).toInt) (hf := (tHF (fl d k)).toInt) (st := 4) (wk := (tHF (fl d k)).toInt) (cm := (d.1 13 k).toInt) (rd := (d.1 0 0).toInt) (bl := B.toInt) (lo := (d.1 17 k).toInt) (es := (d.1 14 k).toInt) ?_ (by rw [e0]) (by rw [fl_of e12]) (by rw [e18, upd_at]; exact t4) (by rw [e15, upd_at, hx]) (by rw [e13]) (by rw [e19, upd_at]) (by rw [e16, upd_at]) (by rw [e17]) (by rw [e14])
      unfold PS at hpk ⊢
      omega
  · rw [e204, m1, nm_of e11, dnn_sg, dnn_sg, sg_at (g := dgg d) (g' := dgg d') (k := k) (nm d) hk (fun j _ hj => dgg_of (by rw [e15]; exact upd_ne _ _ hj) e12)]
    congr 1
    unfold dgg
    rw [e15, upd_at, fl_of e12, if_pos hx, if_neg (fun z => hw (congrArg _ z))]
    rfl
  · omega
  · omega
  · refine ⟨e0, by omega, ?_, ?_⟩
    · rw [e18]
      by_cases hj : j = k
      · subst hj; rw [upd_at, t4]; omega
      · rw [upd_ne _ _ hj]; exact id
    · unfold Qk
      rw [e18, e19, e0]
      by_cases hj : j = k
      · subst hj; rw [upd_at, upd_at]; exact fun _ => Or.inr ⟨t4, rfl⟩
      · rw [upd_ne _ _ hj, upd_ne _ _ hj]; exact id
/-- some hours of work -/
theorem ID_wk {D S : Int} {d : DV} (h : ID D S d) {k : Nat} (hk : k < nm d) (hst : d.1 18 k = 3) {x : Int32} (h0 : 0 ≤ x.toInt) (hx : x.toInt < (tHF (fl d k)).toInt) : ID D S (dset d 15 k x) ∧ ∀ j, Tk j d (dset d 15 k x) := by
  obtain ⟨hN, hP, hK, hL, hM⟩ := h
  have hpk : PSd d k := hK k hk
  unfold PSd at hpk
  rw [hst] at hpk
  have t3 : (3 : Int32).toInt = 3 := rfl
  rw [t3] at hpk
  refine ⟨⟨hN.to (fun i hi => dset_ne _ _ _ _ _ (by omega)) rfl, hP.to (fun i hi => dset_ne _ _ _ _ _ (by omega)), ?_, hL.to (fun i hi => dset_ne _ _ _ _ _ (by omega)), ?_⟩, fun j => Tk.same rfl rfl rfl rfl⟩
  · refine hK.at k (fun i hi => dset_ne _ _ _ _ _ (by omega)) (fun j hj i hi => ?_) (fun hk => ?_)
    · by_cases c15 : i = 15
      · subst c15; rw [dset_at, upd_ne _ _ hj]
      · rw [dset_ne _ _ _ _ _ c15]
    · refine PSd.mk (day := (d.1 0 0).toInt) (hf := (tHF (fl d k)).toInt) (st := 3) (wk := x.toInt) (cm := (d.1 13 k).toInt) (rd := (d.1 19 k).toInt) (bl := (d.1 16 k).toInt) (lo := (d.1 17 k).toInt) (es := (d.1 14 k).toInt) ?_ rfl rfl ?_ (by rw [dset_at, upd_at]) rfl rfl rfl rfl rfl
      · unfold PS at hpk ⊢
        omega
      · show (d.1 18 k).toInt = 3
        rw [hst]; rfl
  · obtain ⟨m1, m2, m3⟩ := hM
    refine ⟨?_, m2, m3⟩
    show d.1 20 4 = dnn (dset d 15 k x) (nm d)
    rw [m1, dnn_sg, dnn_sg, sg_at (g := dgg d) (g' := dgg (dset d 15 k x)) (k := k) (nm d) hk (fun j _ hj => dgg_of (by rw [dset_at]; exact upd_ne _ _ hj) rfl)]
    unfold dgg
    rw [dset_at, upd_at, show fl (dset d 15 k x) k = fl d k from rfl, if_neg (fun z => absurd (congrArg Int32.toInt z) (by omega)), if_neg (fun z => absurd (congrArg Int32.toInt z) (by unfold PS at hpk; omega))]
    exact (Int32.add_zero _).symm
theorem wrk_ok {D S : Int} (hD : D ≤ 200) (hS : S ≤ 20000) (lo : Int32) : ∀ (r n : Nat) (d : DV) (left : Int32), n + r ≤ nm d → ID D S d → ID D S (wrk lo r n d left).1 ∧ ∀ j, Tk j d (wrk lo r n d left).1
  | 0, _, d, _, _, h => ⟨h, fun _ => Tk.rf⟩
  | r + 1, n, d, left, hn, h => by
    rw [wrk]
    split
    · exact ⟨h, fun _ => Tk.rf⟩
    · rename_i hleft
      split
      · exact wrk_ok hD hS lo r (n + 1) d left (by omega) h
      · rename_i hi
        have hst := itf_st hi
        have hk : n < nm d := by omega
        have hpk : PSd d n := h.2.2.1 n hk
        unfold PSd at hpk
        rw [hst] at hpk
        have t3 : (3 : Int32).toInt = 3 := rfl
        rw [t3] at hpk
        have hl : 0 < left.toInt := by
          have := mt i_le.mpr hleft
          have h0 : (0 : Int32).toInt = 0 := rfl
          omega
        have hw : 0 ≤ (d.1 15 n).toInt ∧ (d.1 15 n).toInt < (tHF (fl d n)).toInt ∧ (tHF (fl d n)).toInt ≤ 5 := by unfold PS at hpk; omega
        have hd : (tHF (fl d n) - d.1 15 n).toInt = (tHF (fl d n)).toInt - (d.1 15 n).toInt := i_sub (by omega) (by omega)
        have hsp : 0 < (spn d n left).toInt ∧ (spn d n left).toInt ≤ (tHF (fl d n)).toInt - (d.1 15 n).toInt := by
          unfold spn
          split
          · omega
          · rename_i hh
            have := mt i_lt.mpr hh
            omega
        have hx : (d.1 15 n + spn d n left).toInt = (d.1 15 n).toInt + (spn d n left).toInt := i_add (by omega) (by omega)
        rw [dset_at, upd_at]
        split
        · rename_i hf
          obtain ⟨h1, h2⟩ := ID_fin hD hS h hk hst hf
          have hm : nm (fin (dset d 15 n (d.1 15 n + spn d n left)) n) = nm d := nm_of (by rw [fin_ne _ _ _ (by decide) (by decide) (by decide) (by decide) (by decide) (by decide)]; rfl)
          obtain ⟨h3, h4⟩ := wrk_ok hD hS lo r (n + 1) _ (left - spn d n left) (by rw [hm]; omega) h1
          exact ⟨h3, fun j => (h2 j).tr (h4 j)⟩
        · rename_i hf
          have hf' := mt i_eq.mpr hf
          obtain ⟨h1, h2⟩ := ID_wk h hk hst (x := d.1 15 n + spn d n left) (by omega) (by omega)
          obtain ⟨h3, h4⟩ := wrk_ok hD hS lo r (n + 1) _ (left - spn d n left) (by show n + 1 + r ≤ nm d; omega) h1
          exact ⟨h3, fun j => (h2 j).tr (h4 j)⟩
theorem isR_st {d : DV} {k : Nat} (h : ¬ isR d k = 0) : d.1 18 k = 4 ∨ d.1 18 k = 5 := by
  unfold isR at h
  split at h
  · exact Or.inl (by assumption)
  · split at h
    · exact Or.inr (by assumption)
    · exact absurd rfl h
/-- a set goes: a state past six, no loaner with it -/
theorem ID_out {D S : Int} {d d' : DV} (h : ID D S d) {k : Nat} (hk : k < nm d) (hst : d.1 18 k = 4 ∨ d.1 18 k = 5) {st : Int32} (hs2 : st = 6 ∨ st = 7) (e1 : ∀ i, i ≠ 17 → i ≠ 18 → i ≠ 20 → d'.1 i = d.1 i) (e17 : d'.1 17 = upd (d.1 17) k 0) (e18 : d'.1 18 = upd (d.1 18) k st) (e4 : d'.1 20 4 = d.1 20 4) (e5 : d'.1 20 5 = d.1 20 5) (er : d'.2 = d.2) : ID D S d' := by
  obtain ⟨hN, hP, hK, hL, hM⟩ := h
  have hs := hN.1
  have hpk : PSd d k := hK k hk
  unfold PSd at hpk
  have h45 : (d.1 18 k).toInt = 4 ∨ (d.1 18 k).toInt = 5 := hst.imp (fun z => by rw [z]; rfl) (fun z => by rw [z]; rfl)
  have h67 : st.toInt = 6 ∨ st.toInt = 7 := hs2.imp (fun z => by rw [z]; rfl) (fun z => by rw [z]; rfl)
  have e11 := e1 11 (by decide) (by decide) (by decide)
  have e12 := e1 12 (by decide) (by decide) (by decide)
  have t0 : (0 : Int32).toInt = 0 := rfl
  have hK' : IK d' := by
    refine hK.at k (fun i hi => e1 i (by omega) (by omega) (by omega)) (fun j hj i hi => ?_) (fun hk => ?_)
    · by_cases c17 : i = 17
      · subst c17; rw [e17, upd_ne _ _ hj]
      · by_cases c18 : i = 18
        · subst c18; rw [e18, upd_ne _ _ hj]
        · rw [e1 i c17 c18 (by omega)]
    · refine PSd.mk (day := (d.1 0 0).toInt) (hf := (tHF (fl d k)).toInt) (st := st.toInt) (wk := (d.1 15 k).toInt) (cm := (d.1 13 k).toInt) (rd := (d.1 19 k).toInt) (bl := (d.1 16 k).toInt) (lo := 0) (es := (d.1 14 k).toInt) ?_ (by rw [e1 0 (by decide) (by decide) (by decide)]) (by rw [fl_of e12]) (by rw [e18, upd_at]) (by rw [e1 15 (by decide) (by decide) (by decide)]) (by rw [e1 13 (by decide) (by decide) (by decide)]) (by rw [e1 19 (by decide) (by decide) (by decide)]) (by rw [e1 16 (by decide) (by decide) (by decide)]) (by rw [e17, upd_at]; rfl) (by rw [e1 14 (by decide) (by decide) (by decide)])
      unfold PS at hpk ⊢
      omega
  refine ⟨hN.to (fun i hi => e1 i (by omega) (by omega) (by omega)) er, ?_, hK', ?_, ?_⟩
  · intro p hp
    rw [e1 7 (by decide) (by decide) (by decide), e1 6 (by decide) (by decide) (by decide), nm_of e11, rsm_sg, sg_congr (g := rgg d p) (nm d) (fun j _ => ?_), ← rsm_sg]
    · exact hP p hp
    · by_cases hj : j = k
      · subst hj
        unfold rgg
        rw [e18, upd_at, if_neg (by rcases hs2 with z | z <;> rw [z] <;> decide), if_neg (by rcases hst with z | z <;> rw [z] <;> decide)]
      · exact rgg_of (by rw [e18]; exact upd_ne _ _ hj) e12
  · have hs' : sf d' := hs.to (e1 3 (by decide) (by decide) (by decide)) e11 e12 (e1 8 (by decide) (by decide) (by decide))
    have b1 := wlo_bd hs hK
    have b2 := wlo_bd hs' hK'
    have hlo : 0 ≤ (d.1 17 k).toInt ∧ (d.1 17 k).toInt ≤ 1 := by unfold PS at hpk; omega
    unfold IL at hL ⊢
    have ee : wlo d' (nm d') = wlo d (nm d) - d.1 17 k := by
      rw [nm_of e11, wlo_sg, sg_at (g := d.1 17) (k := k) (nm d) hk (fun j _ hj => by rw [e17]; exact upd_ne _ _ hj), ← wlo_sg, e17, upd_at, Int32.sub_eq_add_neg, Int32.sub_eq_add_neg, Int32.zero_add]
    rw [e1 2 (by decide) (by decide) (by decide), ee, i_sub (by omega) (by omega)]
    omega
  · obtain ⟨m1, m2, m3⟩ := hM
    refine ⟨?_, ?_, ?_⟩
    · rw [e4, nm_of e11, dnn_of (e1 15 (by decide) (by decide) (by decide)) e12]; exact m1
    · rw [e5]; exact m2
    · rw [e5, e4]; exact m3
theorem sel_ok {D S : Int} {d : DV} (h : ID D S d) : ∀ n, n ≤ nm d → ID D S (sel d n) ∧ ∀ j, Tk j d (sel d n)
  | 0, _ => ⟨h, fun _ => Tk.rf⟩
  | n + 1, hn => by
    obtain ⟨h1, h2⟩ := sel_ok h n (by omega)
    have hm : nm (sel d n) = nm d := nm_of (sel_ne _ _ (by decide) (by decide) (by decide) _)
    rw [sel]
    split
    · exact ⟨h1, h2⟩
    · rename_i hi
      have hst := isR_st hi
      split
      · exact ⟨h1, h2⟩
      · rename_i hl
        generalize sel d n = e at *
        have e1 : ∀ i, i ≠ 17 → i ≠ 18 → i ≠ 20 → (sl1 e n).1 i = e.1 i := fun i h17 h18 h20 => by rw [sl1, dset_ne _ _ _ _ _ h17, dset_ne _ _ _ _ _ h18, dset_ne _ _ _ _ _ h20]
        have e18 : (sl1 e n).1 18 = upd (e.1 18) n 7 := rfl
        refine ⟨ID_out h1 (k := n) (by omega) hst (Or.inr rfl) e1 rfl e18 rfl rfl rfl, fun j => (h2 j).tr ?_⟩
        by_cases hj : j = n
        · subst hj
          refine ⟨e1 0 (by decide) (by decide) (by decide), Int.le_refl _, ?_, ?_⟩
          · rw [e18, upd_at]; exact fun _ => by decide
          · rintro (q | ⟨q1, q2⟩)
            · rcases hst with z | z <;> (rw [z] at q; exact absurd q (by decide))
            · exfalso
              refine hl (i_lt.mpr ?_)
              have h3 := h1.1.2.2.2.2.1
              rw [q2, Int32.sub_self]
              have t0 : (0 : Int32).toInt = 0 := rfl
              omega
        · exact Tk.same (e1 0 (by decide) (by decide) (by decide)) rfl (by rw [e18]; exact upd_ne _ _ hj) (by rw [e1 19 (by decide) (by decide) (by decide)])
