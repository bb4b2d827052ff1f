/-! THE LAW's invariant: the floats -/
theorem sgn_i2f {v : Int32} (h : 0 ≤ v.toInt) : FP.Core.sgn (FP.Core.val32 (FP.i2f v)) = false := by
  rw [show FP.Core.val32 (FP.i2f v) = FP.Core.round FP.Core.b32 (FP.Core.ofInt v.toInt) from FP.Core.val32_i2f v]
  show FP.Core.sgn (FP.Core.roundRatio FP.Core.b32 (decide (v.toInt < 0)) v.toInt.natAbs 1 0) = false
  rw [FP.Core.sgn_roundRatio]
  exact decide_eq_false (by omega)
theorem sgn_fmul {a b : UInt32} (ha : FP.Core.FFin a) (hb : FP.Core.FFin b) : FP.Core.sgn (FP.Core.val32 (FP.fmul a b)) = (FP.Core.sgn (FP.Core.val32 a) != FP.Core.sgn (FP.Core.val32 b)) := by
  obtain ⟨s, c, q, h1⟩ := ha
  obtain ⟨t, e, r, h2⟩ := hb
  rw [show FP.Core.val32 (FP.fmul a b) = _ from FP.Core.val32_fmul a b, h1, h2]
  show FP.Core.sgn (FP.Core.roundRatio FP.Core.b32 (s != t) (c * e) 1 (q + r)) = (s != t)
  rw [FP.Core.sgn_roundRatio]
theorem sgn_fdiv {a b : UInt32} (ha : FP.Core.FFin a) (hb : FP.Core.FFin b) (hz : ¬ FP.Core.FZero b) : FP.Core.sgn (FP.Core.val32 (FP.fdiv a b)) = (FP.Core.sgn (FP.Core.val32 a) != FP.Core.sgn (FP.Core.val32 b)) := by
  obtain ⟨s, c, q, h1⟩ := ha
  obtain ⟨t, e, r, h2⟩ := hb
  have he : ¬ e = 0 := fun z => hz (by subst z; exact ⟨t, r, h2⟩)
  rw [show FP.Core.val32 (FP.fdiv a b) = _ from FP.Core.val32_fdiv a b, h1, h2]
  show FP.Core.sgn (if e = 0 then _ else FP.Core.roundRatio FP.Core.b32 (s != t) c e (q - r)) = (s != t)
  rw [if_neg he, FP.Core.sgn_roundRatio]
theorem f2i_nn {x : UInt32} (h : FP.Core.fIsNaN x = false) (hs : FP.Core.sgn (FP.Core.val32 x) = false) : 0 ≤ (FP.f2i x).toInt := by
  have hn : FP.Core.val32 x ≠ .nan := (FP.Core.ne_nan32 x).mpr (by
    have := FP.Core.isNaN_bits32 x
    rw [h] at this
    have h2 := mt this.mpr (by decide)
    omega)
  rw [show (FP.f2i x).toInt = _ from FP.Core.f2i_val hn, hs]
  show 0 ≤ max (-2 ^ 31) (min (2 ^ 31 - 1) (((FP.Core.zmag FP.Core.b32 (FP.Core.val32 x) / FP.Core.one32 : Nat)) : Int))
  generalize FP.Core.zmag FP.Core.b32 (FP.Core.val32 x) / FP.Core.one32 = m
  omega
/-- a whole number times a rate -/
theorem mul_nn {v : Int32} {r : UInt32} (hv : 0 ≤ v.toInt) (hr : FP.Core.FFin r) (hs : r.toNat < 2 ^ 31) : 0 ≤ (FP.f2i (FP.fmul (FP.i2f v) r)).toInt := by
  refine f2i_nn (FP.Core.fmul_out (FP.Core.i2f_fin v) hr) ?_
  rw [sgn_fmul (FP.Core.i2f_fin v) hr, sgn_i2f hv, FP.Core.sgn_bits32 hr.ne_nan]
  rw [show decide (2 ^ 31 ≤ r.toNat) = false from decide_eq_false (by omega)]
  rfl
/-- a mean is no negative number -/
theorem mean_nn {x y : Int32} (hx : 0 ≤ x.toInt) (hy : 0 < y.toInt) : ¬ Op.cmpValue (FP.fcmp (FP.fdiv (FP.i2f x) (FP.i2f y)) FP.fconst0) .l < 0 := by
  have hy0 : y ≠ 0 := fun z => by rw [z] at hy; exact absurd hy (by decide)
  have hz : ¬ FP.Core.FZero (FP.i2f y) := fun z => FP.Core.i2f_ne_zero hy0 ((FP.Core.zero_bits232 _).mp z)
  have h1 := FP.Core.fdiv_out (FP.Core.FFin.notNaN (FP.Core.i2f_fin x)) (FP.Core.i2f_fin y) hz
  have hn : FP.Core.val32 (FP.fdiv (FP.i2f x) (FP.i2f y)) ≠ .nan := (FP.Core.ne_nan32 _).mpr (by
    have := FP.Core.isNaN_bits32 (FP.fdiv (FP.i2f x) (FP.i2f y))
    rw [show FP.Core.fIsNaN (FP.fdiv (FP.i2f x) (FP.i2f y)) = false from h1] at this
    have h2 := mt this.mpr (by decide)
    omega)
  have h2 : FP.Core.fcmp (FP.fdiv (FP.i2f x) (FP.i2f y)) FP.fconst0 = some .gt ∨ FP.Core.fcmp (FP.fdiv (FP.i2f x) (FP.i2f y)) FP.fconst0 = some .eq := by
    refine FP.Core.fcmp_ge.mpr ⟨hn, by decide +kernel, ?_⟩
    rw [show FP.Core.zval FP.Core.b32 (FP.Core.val32 FP.fconst0) = 0 from FP.Core.zval32_zero]
    unfold FP.Core.zval
    rw [sgn_fdiv (FP.Core.i2f_fin x) (FP.Core.i2f_fin y) hz, sgn_i2f hx, sgn_i2f (by omega)]
    exact Int.natCast_nonneg _
  intro h3
  have h4 : FP.fcmp (FP.fdiv (FP.i2f x) (FP.i2f y)) FP.fconst0 = some .gt ∨ FP.fcmp (FP.fdiv (FP.i2f x) (FP.i2f y)) FP.fconst0 = some .eq := h2
  rcases h4 with h | h <;> (rw [h] at h3; exact absurd h3 (by decide))
theorem fee_all : ∀ n, n < 201 → 0 ≤ (FP.f2i (FP.fmul (FP.i2f (nI n)) 1103888384)).toInt ∧ (FP.f2i (FP.fmul (FP.i2f (nI n)) 1103888384)).toInt ≤ 10000 := by decide +kernel
theorem one_zval : FP.Core.zval FP.Core.b32 (FP.Core.val32 FP.fconst1) = (FP.Core.one32 : Int) := by decide +kernel
theorem hrs_all : ∀ h, h < 6 → 1 ≤ h → FP.Core.FFin (FP.i2f (nI (h * 4500))) ∧ (FP.Core.one32 : Int) ≤ FP.Core.zval FP.Core.b32 (FP.Core.val32 (FP.i2f (nI (h * 4500)))) ∧ (FP.i2f (nI (h * 4500))).toNat % 2 ^ 31 < 147 * 2 ^ 23 := by
  intro h h1 h2
  refine ⟨FP.Core.i2f_fin _, ?_⟩
  revert h
  decide +kernel
/-- a cost is a whole number, and not nothing -/
theorem cost_ok {v : Int32} {h : Nat} (hv0 : 0 ≤ v.toInt) (hv1 : v.toInt ≤ 1048576) (hh1 : 1 ≤ h) (hh2 : h < 6) : 0 < (FP.f2i (FP.fadd (FP.fmul (FP.i2f v) 1068708659) (FP.i2f (nI (h * 4500))))).toInt ∧ (FP.f2i (FP.fadd (FP.fmul (FP.i2f v) 1068708659) (FP.i2f (nI (h * 4500))))).toInt ≤ 1073741824 := by
  obtain ⟨y1, y2, y3⟩ := hrs_all h hh2 hh1
  have r1 : FP.Core.FFin (1068708659 : UInt32) := (FP.Core.fin_bits32 _).mpr (by decide)
  have m1 : (FP.i2f v).toNat % 2 ^ 31 < 148 * 2 ^ 23 := by
    have := FP.Core.fromInt_mag32 (FP.Core.toNat_i2f v) (j := 20) (K := 147) (by omega) (by decide) (by decide)
    have h2 : (FP.i2f v).toNat % 2 ^ 31 ≤ 147 * 2 ^ 23 := this
    omega
  have m2 : (FP.fmul (FP.i2f v) 1068708659).toNat % 2 ^ 31 < 150 * 2 ^ 23 := FP.Core.fmul_mag (Ka := 148) (Kb := 128) m1 (by decide) (by decide) (by decide)
  have m3 : (FP.fadd (FP.fmul (FP.i2f v) 1068708659) (FP.i2f (nI (h * 4500)))).toNat % 2 ^ 31 < 152 * 2 ^ 23 := FP.Core.fadd_mag (K := 150) m2 (by omega) (by decide)
  have x1 : FP.Core.FFin (FP.fmul (FP.i2f v) 1068708659) := FP.Core.fin_of_lt32 m2 (by decide)
  have z1 : FP.Core.FFin (FP.fadd (FP.fmul (FP.i2f v) 1068708659) (FP.i2f (nI (h * 4500)))) := FP.Core.fin_of_lt32 m3 (by decide)
  have s1 : FP.Core.sgn (FP.Core.val32 (FP.fmul (FP.i2f v) 1068708659)) = false := by
    rw [sgn_fmul (FP.Core.i2f_fin v) r1, sgn_i2f hv0, FP.Core.sgn_bits32 r1.ne_nan]
    decide
  have x2 : 0 ≤ FP.Core.zval FP.Core.b32 (FP.Core.val32 (FP.fmul (FP.i2f v) 1068708659)) := by
    unfold FP.Core.zval
    rw [s1]
    exact Int.natCast_nonneg _
  have g1 : (FP.Core.one32 : Int) ≤ FP.Core.zval FP.Core.b32 (FP.Core.val32 (FP.fadd (FP.fmul (FP.i2f v) 1068708659) (FP.i2f (nI (h * 4500))))) := by
    rw [← one_zval, show FP.Core.val32 (FP.fadd (FP.fmul (FP.i2f v) 1068708659) (FP.i2f (nI (h * 4500)))) = _ from FP.Core.val32_fadd _ _]
    refine FP.Core.sum_ge FP.Core.good_b32 x1 y1 (FP.Core.val32_fits _) (FP.Core.val32_fits _) (FP.Core.val32_fits _) (by decide +kernel) ?_
    rw [one_zval]
    omega
  have hm := FP.Core.zmag_toNat32 z1.ne_nan
  obtain ⟨s2, g2⟩ := FP.Core.signed_ge_pos FP.Core.one32_pos (s := FP.Core.sgn (FP.Core.val32 (FP.fadd (FP.fmul (FP.i2f v) 1068708659) (FP.i2f (nI (h * 4500)))))) (m := FP.Core.zmag FP.Core.b32 (FP.Core.val32 (FP.fadd (FP.fmul (FP.i2f v) 1068708659) (FP.i2f (nI (h * 4500)))))) g1
  have u1 : FP.Core.zmag FP.Core.b32 (FP.Core.val32 (FP.fadd (FP.fmul (FP.i2f v) 1068708659) (FP.i2f (nI (h * 4500))))) < 1073741824 * FP.Core.one32 := by
    rw [hm]
    refine Nat.lt_of_lt_of_le (FP.Core.unitsOf_lt m3) ?_
    decide +kernel
  rw [show (FP.f2i (FP.fadd (FP.fmul (FP.i2f v) 1068708659) (FP.i2f (nI (h * 4500))))).toInt = _ from FP.Core.f2i_val z1.ne_nan, s2]
  generalize FP.Core.zmag FP.Core.b32 (FP.Core.val32 (FP.fadd (FP.fmul (FP.i2f v) 1068708659) (FP.i2f (nI (h * 4500))))) = m at g2 u1
  have k1 : 1 ≤ m / FP.Core.one32 := (Nat.le_div_iff_mul_le FP.Core.one32_pos).mpr (by rw [Nat.one_mul]; exact g2)
  have k2 : m / FP.Core.one32 < 1073741824 := (Nat.div_lt_iff_lt_mul FP.Core.one32_pos).mpr u1
  generalize m / FP.Core.one32 = w at k1 k2
  show 0 < max (-2 ^ 31) (min (2 ^ 31 - 1) (w : Int)) ∧ max (-2 ^ 31) (min (2 ^ 31 - 1) (w : Int)) ≤ 1073741824
  omega
