/-! THE DESK, as numbers -/
theorem y_top {A : Nat → Prop} {p : Program} {l : Launch} {e : Env} {R : Room} {s : State} {m : MethodId} {args : Array Value} {below : List Frame} {meth : Method} {c : Code} {nL cells slots : Nat} {Q : State → Prop} {lv : List (Nat × Value)} {H : Heap} {pc : Nat} {rest : List Value} {x y : Int32} (h : x = y) (k : Yx A p l e R s m args below meth c nL cells slots Q lv H pc (.int y :: rest)) : Yx A p l e R s m args below meth c nL cells slots Q lv H pc (.int x :: rest) := h ▸ k
theorem n32 {r : UInt32} (h : FP.Core.fIsNaN r = false) : vf_n32 r := by
  unfold vf_n32
  rw [UInt32.le_iff_toNat_le, FP.Core.mask_toNat32]
  have h1 : ¬ 2139095040 < r.toNat % 2 ^ 31 := fun q => by rw [(FP.Core.isNaN_bits32 r).mpr q] at h; cases h
  exact Nat.le_of_not_lt h1
theorem fp_mul {a b : UInt32} (ha : FP.Core.FFin a) (hb : FP.Core.FFin b) : vf_n32 (FP.fmul a b) := n32 (FP.Core.fmul_out ha hb)
theorem fp_addm {a b c : UInt32} (ha : FP.Core.FFin a) (hb : FP.Core.FFin b) (hc : FP.Core.FFin c) : vf_n32 (FP.fadd (FP.fmul a b) c) := n32 (FP.Core.fadd_out (FP.Core.fmul_out ha hb) hc)
def fr (d : DV) : Prop := ∀ j, j < 4 → FP.Core.FFin (d.2 j)
theorem fr.to {d d' : DV} (h : fr d) (h2 : d'.2 = d.2) : fr d' := by unfold fr; rw [h2]; exact h
theorem nm_of {d d' : DV} (h : d'.1 11 = d.1 11) : nm d' = nm d := by unfold nm; rw [h]
theorem no_of {d d' : DV} (h : d'.1 3 = d.1 3) : no d' = no d := by unfold no; rw [h]
theorem fl_of {d d' : DV} (h : d'.1 12 = d.1 12) (k : Nat) : fl d' k = fl d k := by unfold fl; rw [h]
def cost (d : DV) (f : Nat) : Int32 := FP.f2i (FP.fadd (FP.fmul (FP.i2f (pop d f 6)) (d.2 0)) (FP.i2f (tHF f * d.1 2 1)))
def lth (d : DV) : Int32 := d.1 2 4 - wlo d (nm d)
def sfee (d : DV) (k : Nat) : Int32 := if 0 < d.1 0 0 - d.1 19 k - d.1 2 2 then FP.f2i (FP.fmul (FP.i2f (d.1 0 0 - d.1 19 k - d.1 2 2)) (d.2 2)) else 0
def lkn (d : DV) (p : Nat) : Nat → Int32
  | 0 => 0
  | n + 1 => if d.1 18 n = 2 then lkn d p n + need (fl d n) p else lkn d p n
def lko (d : DV) (p : Nat) : Int32 := if 0 < lkn d p (nm d) - fre d p - oo d p (no d) then lkn d p (nm d) - fre d p - oo d p (no d) else 0
def rpw (d : DV) (lo : Int32) : Nat → DV
  | 0 => d
  | n + 1 => if itf (rpw d lo n) n 2 lo = 0 then rpw d lo n else
      if lsf (rpw d lo n) (fl (rpw d lo n) n) 6 0 = -5 then dset (rsv (rpw d lo n) (fl (rpw d lo n) n) 6) 18 n 3 else rpw d lo n
def rpa (d : DV) : DV := rpw (rpw d 1 (nm d)) 0 (nm (rpw d 1 (nm d)))
def dcd (d : DV) (k : Nat) (b : Int32) : DV := if b = 0 then dset (dset d 18 k 5) 19 k (d.1 0 0) else rpa (dset d 18 k 2)
def hov (d : DV) (k : Nat) : DV := dset (dset (dset (dset d 20 0 (d.1 20 0 + d.1 16 k)) 20 1 (d.1 20 1 + sfee d k)) 18 k 6) 17 k 0
def tko (d : DV) : Nat → DV
  | 0 => d
  | n + 1 => if (tko d n).1 10 n = (tko d n).1 0 0 then rpa (dset (tko d n) 6 (opa (tko d n) n) ((tko d n).1 6 (opa (tko d n) n) + (tko d n).1 9 n)) else tko d n
def tkd (d : DV) : DV := dofd (tko d (no d)) ((tko d (no d)).1 0 0)
def bil (d : DV) (k : Nat) : Int32 := if FP.f2i (FP.fmul (FP.i2f (d.1 14 k)) (d.2 1)) < cost (trv d (fl d k) 6) (fl d k) then FP.f2i (FP.fmul (FP.i2f (d.1 14 k)) (d.2 1)) else cost (trv d (fl d k) 6) (fl d k)
def fi4 (d : DV) (k : Nat) : DV := dset (dset (dset (trv d (fl d k) 6) 16 k (bil d k)) 18 k 4) 19 k ((dset (dset (trv d (fl d k) 6) 16 k (bil d k)) 18 k 4).1 0 0)
def fi5 (d : DV) (k : Nat) : DV := dset (fi4 d k) 20 3 ((fi4 d k).1 20 3 + pop (fi4 d k) (fl d k) 6)
def fi6 (d : DV) (k : Nat) : DV := dset (fi5 d k) 20 5 ((fi5 d k).1 20 5 + ((fi5 d k).1 0 0 - (fi5 d k).1 13 k))
def fin (d : DV) (k : Nat) : DV := dset (fi6 d k) 20 4 ((fi6 d k).1 20 4 + 1)
def spn (d : DV) (n : Nat) (left : Int32) : Int32 := if tHF (fl d n) - d.1 15 n < left then tHF (fl d n) - d.1 15 n else left
def wrk (lo : Int32) : Nat → Nat → DV → Int32 → DV × Int32
  | 0, _, d, left => (d, left)
  | r + 1, n, d, left => if left ≤ 0 then (d, left) else if itf d n 3 lo = 0 then wrk lo r (n + 1) d left else
      if (dset d 15 n (d.1 15 n + spn d n left)).1 15 n = tHF (fl d n) then wrk lo r (n + 1) (fin (dset d 15 n (d.1 15 n + spn d n left)) n) (left - spn d n left)
      else wrk lo r (n + 1) (dset d 15 n (d.1 15 n + spn d n left)) (left - spn d n left)
def sl1 (d : DV) (k : Nat) : DV := dset (dset (dset d 20 2 (d.1 20 2 + FP.f2i (FP.fmul (FP.i2f (d.1 16 k)) (d.2 3)))) 18 k 7) 17 k 0
def sel (d : DV) : Nat → DV
  | 0 => d
  | n + 1 => if isR (sel d n) n = 0 then sel d n else if (sel d n).1 0 0 - (sel d n).1 19 n < (sel d n).1 2 3 then sel d n else sl1 (sel d n) n
def ps1 (d : DV) : DV := tkd (dset d 0 0 (d.1 0 0 + 1))
def ps2 (d : DV) : DV × Int32 := wrk 1 (nm (ps1 d)) 0 (ps1 d) ((ps1 d).1 2 0)
def ps3 (d : DV) : DV := (wrk 0 (nm (ps2 d).1) 0 (ps2 d).1 (ps2 d).2).1
def psd (d : DV) : DV := sel (ps3 d) (nm (ps3 d))
/-! which cells each of them leaves as they are -/
theorem rsv_ne (d : DV) (f i : Nat) (h7 : i ≠ 7) (n : Nat) : (rsv d f n).1 i = d.1 i := by
  induction n with
  | zero => rfl
  | succ n ih => rw [rsv, dset_ne _ _ _ _ _ h7]; exact ih
theorem rsv_2 (d : DV) (f n : Nat) : (rsv d f n).2 = d.2 := by
  induction n with
  | zero => rfl
  | succ n ih => exact ih
theorem trv_ne (d : DV) (f i : Nat) (h6 : i ≠ 6) (h7 : i ≠ 7) (n : Nat) : (trv d f n).1 i = d.1 i := by
  induction n with
  | zero => rfl
  | succ n ih => rw [trv, dset_ne _ _ _ _ _ h7, dset_ne _ _ _ _ _ h6]; exact ih
theorem trv_2 (d : DV) (f n : Nat) : (trv d f n).2 = d.2 := by
  induction n with
  | zero => rfl
  | succ n ih => exact ih
theorem rpw_ne (d : DV) (lo : Int32) (i : Nat) (h7 : i ≠ 7) (h18 : i ≠ 18) (n : Nat) : (rpw d lo n).1 i = d.1 i := by
  induction n with
  | zero => rfl
  | succ n ih =>
    rw [rpw]
    split
    · exact ih
    · split
      · rw [dset_ne _ _ _ _ _ h18, rsv_ne _ _ _ h7]; exact ih
      · exact ih
theorem rpw_2 (d : DV) (lo : Int32) (n : Nat) : (rpw d lo n).2 = d.2 := by
  induction n with
  | zero => rfl
  | succ n ih =>
    rw [rpw]
    split
    · exact ih
    · split
      · exact (rsv_2 _ _ _).trans ih
      · exact ih
theorem rpa_ne (d : DV) (i : Nat) (h7 : i ≠ 7) (h18 : i ≠ 18) : (rpa d).1 i = d.1 i := (rpw_ne _ _ _ h7 h18 _).trans (rpw_ne _ _ _ h7 h18 _)
theorem rpa_2 (d : DV) : (rpa d).2 = d.2 := (rpw_2 _ _ _).trans (rpw_2 _ _ _)
theorem tko_ne (d : DV) (i : Nat) (h6 : i ≠ 6) (h7 : i ≠ 7) (h18 : i ≠ 18) (n : Nat) : (tko d n).1 i = d.1 i := by
  induction n with
  | zero => rfl
  | succ n ih =>
    rw [tko]
    split
    · rw [rpa_ne _ _ h7 h18, dset_ne _ _ _ _ _ h6]; exact ih
    · exact ih
theorem tko_2 (d : DV) (n : Nat) : (tko d n).2 = d.2 := by
  induction n with
  | zero => rfl
  | succ n ih =>
    rw [tko]
    split
    · exact (rpa_2 _).trans ih
    · exact ih
theorem dof_2 (d : DV) (day : Int32) (n : Nat) : (dof d day n).1.2 = d.2 := by
  induction n with
  | zero => rfl
  | succ n ih =>
    rw [dof]
    split
    · exact ih
    · exact ih
theorem tkd_ne (d : DV) (i : Nat) (h3 : i ≠ 3) (h6 : i ≠ 6) (h7 : i ≠ 7) (h8 : i ≠ 8) (h9 : i ≠ 9) (h10 : i ≠ 10) (h18 : i ≠ 18) : (tkd d).1 i = d.1 i := by
  rw [tkd, dofd, dset_ne _ _ _ _ _ h3, dof_ne _ _ _ h8 h9 h10, tko_ne _ _ h6 h7 h18]
theorem tkd_2 (d : DV) : (tkd d).2 = d.2 := (dof_2 _ _ _).trans (tko_2 _ _)
theorem fin_ne (d : DV) (k i : Nat) (h6 : i ≠ 6) (h7 : i ≠ 7) (h16 : i ≠ 16) (h18 : i ≠ 18) (h19 : i ≠ 19) (h20 : i ≠ 20) : (fin d k).1 i = d.1 i := by
  rw [fin, dset_ne _ _ _ _ _ h20, fi6, dset_ne _ _ _ _ _ h20, fi5, dset_ne _ _ _ _ _ h20, fi4, dset_ne _ _ _ _ _ h19, dset_ne _ _ _ _ _ h18, dset_ne _ _ _ _ _ h16, trv_ne _ _ _ h6 h7]
theorem fin_2 (d : DV) (k : Nat) : (fin d k).2 = d.2 := trv_2 _ _ _
theorem wrk_ne (lo : Int32) (i : Nat) (h6 : i ≠ 6) (h7 : i ≠ 7) (h15 : i ≠ 15) (h16 : i ≠ 16) (h18 : i ≠ 18) (h19 : i ≠ 19) (h20 : i ≠ 20) : ∀ (r n : Nat) (d : DV) (left : Int32), (wrk lo r n d left).1.1 i = d.1 i := by
  intro r
  induction r with
  | zero => intro n d left; rfl
  | succ r ih =>
    intro n d left
    rw [wrk]
    split
    · rfl
    · split
      · exact ih _ _ _
      · split
        · rw [ih, fin_ne _ _ _ h6 h7 h16 h18 h19 h20, dset_ne _ _ _ _ _ h15]
        · rw [ih, dset_ne _ _ _ _ _ h15]
theorem wrk_2 (lo : Int32) : ∀ (r n : Nat) (d : DV) (left : Int32), (wrk lo r n d left).1.2 = d.2 := by
  intro r
  induction r with
  | zero => intro n d left; rfl
  | succ r ih =>
    intro n d left
    rw [wrk]
    split
    · rfl
    · split
      · exact ih _ _ _
      · split
        · exact (ih _ _ _).trans (fin_2 _ _)
        · exact ih _ _ _
theorem sel_ne (d : DV) (i : Nat) (h17 : i ≠ 17) (h18 : i ≠ 18) (h20 : i ≠ 20) (n : Nat) : (sel d n).1 i = d.1 i := by
  induction n with
  | zero => rfl
  | succ n ih =>
    rw [sel]
    split
    · exact ih
    · split
      · exact ih
      · rw [sl1, dset_ne _ _ _ _ _ h17, dset_ne _ _ _ _ _ h18, dset_ne _ _ _ _ _ h20]; exact ih
theorem sel_2 (d : DV) (n : Nat) : (sel d n).2 = d.2 := by
  induction n with
  | zero => rfl
  | succ n ih =>
    rw [sel]
    split
    · exact ih
    · split
      · exact ih
      · exact ih
theorem sf_rpa {d : DV} (h : sf d) : sf (rpa d) := h.to (rpa_ne _ _ (by decide) (by decide)) (rpa_ne _ _ (by decide) (by decide)) (rpa_ne _ _ (by decide) (by decide)) (rpa_ne _ _ (by decide) (by decide))
theorem sf_rpw {d : DV} (h : sf d) (lo : Int32) (n : Nat) : sf (rpw d lo n) := h.to (rpw_ne _ _ _ (by decide) (by decide) _) (rpw_ne _ _ _ (by decide) (by decide) _) (rpw_ne _ _ _ (by decide) (by decide) _) (rpw_ne _ _ _ (by decide) (by decide) _)
theorem sf_fin {d : DV} (h : sf d) (k : Nat) : sf (fin d k) := h.to (fin_ne _ _ _ (by decide) (by decide) (by decide) (by decide) (by decide) (by decide)) (fin_ne _ _ _ (by decide) (by decide) (by decide) (by decide) (by decide) (by decide)) (fin_ne _ _ _ (by decide) (by decide) (by decide) (by decide) (by decide) (by decide)) (fin_ne _ _ _ (by decide) (by decide) (by decide) (by decide) (by decide) (by decide))
theorem sf_wrk {d : DV} (h : sf d) (lo : Int32) (r n : Nat) (left : Int32) : sf (wrk lo r n d left).1 := h.to (wrk_ne _ _ (by decide) (by decide) (by decide) (by decide) (by decide) (by decide) (by decide) _ _ _ _) (wrk_ne _ _ (by decide) (by decide) (by decide) (by decide) (by decide) (by decide) (by decide) _ _ _ _) (wrk_ne _ _ (by decide) (by decide) (by decide) (by decide) (by decide) (by decide) (by decide) _ _ _ _) (wrk_ne _ _ (by decide) (by decide) (by decide) (by decide) (by decide) (by decide) (by decide) _ _ _ _)
theorem sf_sel {d : DV} (h : sf d) (n : Nat) : sf (sel d n) := h.to (sel_ne _ _ (by decide) (by decide) (by decide) _) (sel_ne _ _ (by decide) (by decide) (by decide) _) (sel_ne _ _ (by decide) (by decide) (by decide) _) (sel_ne _ _ (by decide) (by decide) (by decide) _)
theorem sf_tko {d : DV} (h : sf d) (n : Nat) : sf (tko d n) := h.to (tko_ne _ _ (by decide) (by decide) (by decide) _) (tko_ne _ _ (by decide) (by decide) (by decide) _) (tko_ne _ _ (by decide) (by decide) (by decide) _) (tko_ne _ _ (by decide) (by decide) (by decide) _)
/-- dropped orders leave orders that can be read -/
theorem dof_op (d : DV) (day : Int32) (h : sf d) : ∀ n, n ≤ no d → ∀ i, i < (dof d day n).2 → ∃ j, j < 6 ∧ (dof d day n).1.1 8 i = nI j := by
  intro n
  induction n with
  | zero => intro _ i hi; exact absurd hi (Nat.not_lt_zero _)
  | succ n ih =>
    intro hn i hi
    have hold : ∀ j, (dof d day n).2 ≤ j → (dof d day n).1.1 8 j = d.1 8 j := by
      clear hi ih hn
      induction n with
      | zero => intro j _; rfl
      | succ n ih2 =>
        intro j hj
        rw [dof] at hj ⊢
        split
        · next hc => rw [if_pos hc] at hj; exact ih2 j hj
        · next hc =>
          rw [if_neg hc] at hj
          dsimp only at hj ⊢
          have e : j ≠ (dof d day n).2 := by omega
          show upd _ _ _ j = _
          rw [upd, if_neg e]
          exact ih2 j (by omega)
    rw [dof] at hi ⊢
    split
    · next hc => rw [if_pos hc] at hi; exact ih (by omega) i hi
    · next hc =>
      rw [if_neg hc] at hi
      dsimp only at hi ⊢
      show ∃ j, j < 6 ∧ upd _ _ _ i = nI j
      rw [upd]
      split
      · have h8 := h.2.2.2 n (by omega)
        have hle := dof_le d day n
        exact ⟨_, h8.2, by rw [hold n hle]; exact h8.1⟩
      · exact ih (by omega) i (by omega)
theorem sf_dofd {d : DV} (h : sf d) (day : Int32) : sf (dofd d day) := by
  have hle := dof_le d day (no d)
  have h12 := h.1.2
  have hn : no (dofd d day) = (dof d day (no d)).2 := by
    show (nI (dof d day (no d)).2).toNatClampNeg = _
    exact nI_clamp (by omega)
  have hm : nm (dofd d day) = nm d := nm_of (by rw [dofd, dset_ne _ _ _ _ _ (by decide), dof_ne _ _ _ (by decide) (by decide) (by decide)])
  have hf : (dofd d day).1 12 = d.1 12 := by rw [dofd, dset_ne _ _ _ _ _ (by decide), dof_ne _ _ _ (by decide) (by decide) (by decide)]
  refine ⟨⟨by rw [hn]; rfl, by rw [hn]; omega⟩, ⟨?_, by rw [hm]; exact h.2.1.2⟩, ?_, ?_⟩
  · rw [hm]
    have e : (dofd d day).1 11 = d.1 11 := by rw [dofd, dset_ne _ _ _ _ _ (by decide), dof_ne _ _ _ (by decide) (by decide) (by decide)]
    rw [e]
    exact h.2.1.1
  · intro k hk
    rw [hm] at hk
    rw [fl_of hf, hf]
    exact h.2.2.1 k hk
  · intro i hi
    rw [hn] at hi
    obtain ⟨j, hj, e⟩ := dof_op d day h (no d) (Nat.le_refl _) i hi
    have e2 : (dofd d day).1 8 i = nI j := e
    have e3 : opa (dofd d day) i = j := by unfold opa; rw [e2]; exact nI_clamp (by omega)
    rw [e3]
    exact ⟨e2, hj⟩
theorem sf_tkd {d : DV} (h : sf d) : sf (tkd d) := sf_dofd (sf_tko h _) _
theorem sf_ps1 {d : DV} (h : sf d) : sf (ps1 d) := by
  have h0 : sf (dset d 0 0 (d.1 0 0 + 1)) := h.to rfl rfl rfl rfl
  unfold ps1
  exact sf_tkd h0
theorem sf_ps2 {d : DV} (h : sf d) : sf (ps2 d).1 := by
  have h0 := sf_ps1 h
  unfold ps2
  exact sf_wrk h0 _ _ _ _
theorem sf_ps3 {d : DV} (h : sf d) : sf (ps3 d) := by
  have h0 := sf_ps2 h
  unfold ps3
  exact sf_wrk h0 _ _ _ _
theorem sf_psd {d : DV} (h : sf d) : sf (psd d) := by
  have h0 := sf_ps3 h
  unfold psd
  exact sf_sel h0 _
theorem ps1_2 (d : DV) : (ps1 d).2 = d.2 := by unfold ps1; exact tkd_2 _
theorem ps2_2 (d : DV) : (ps2 d).1.2 = d.2 := by unfold ps2; rw [wrk_2]; exact ps1_2 d
theorem ps3_2 (d : DV) : (ps3 d).2 = d.2 := by unfold ps3; rw [wrk_2]; exact ps2_2 d
theorem psd_2 (d : DV) : (psd d).2 = d.2 := by unfold psd; rw [sel_2]; exact ps3_2 d
