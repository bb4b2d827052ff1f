/-! rows, third part: arraycopy of whole arrays, stores of references, two desks -/
section ROWS3
variable {g : KG} {B0 : Nat} {A : Nat → Prop} {p : Program} {l : Launch} {e : Env} {R : Room} {s : State} {m : MethodId} {args : Array Value} {below : List Frame} {meth : Method} {c : Code} {cc : ByteArray} {nL : Nat} {own : String} {cells slots : Nat} {Q : State → Prop} {lv lv' : List (Nat × Value)} {H : Heap} {pc : Nat} {rest : List Value}
theorem arrV_same (cA : ClassId) (n : Nat) {f f2 : Nat → Value} (h : ∀ j, j < n → f j = f2 j) : arrV cA n f = arrV cA n f2 := by
  unfold arrV
  have e : (Array.ofFn (n := n) fun j => f j.val) = Array.ofFn (n := n) fun j => f2 j.val := by
    congr 1
    funext j
    exact h j.val j.isLt
  rw [e]
theorem va_cpy_all {α : Type} (f f2 : Nat → α) (n : Nat) : ∀ j, j < n → va_cpy f f2 0 0 n j = f j := by
  intro j hj
  unfold va_cpy
  rw [if_pos ⟨Nat.zero_le _, by omega⟩]
  congr 1
  omega
theorem y_copyi (C : Cx g B0 A p s m args meth c cc nL own) {index a0 a n : Nat} {f f2 : Nat → Int32} (hsrc : cA1 g a0 (.inl (g.2 0, n, .inl f)) H) (hdst : cA1 g a (.inl (g.2 0, n, .inl f2)) H) (hAa : A a) {N : Int32} (hN : N.toNatClampNeg = n) (hN0 : ¬ N < 0) (w1 : Cond.methodLink own index arraycopyName ∈ wsL_law) (w2 : Cond.native arraycopyName ∈ wsL_law) (w3 : Cond.static arraycopyName ∈ wsL_law) (w4 : Cond.initialized "java/lang/System" ∈ wsL_law) (hfr : 1 ≤ R.frames) (hlo : (rest.map fun v => v.category).sum + (nativeFrameWords "java/lang/System" "arraycopy" 5 + 11) ≤ R.locals) (hdg : decode cc pc = .ok (.invokestatic index, 3))
    (kk : ∀ H1 : Heap, cA1 g a (.inl (g.2 0, n, .inl f)) H1 → (∀ q : Nat, q ≠ a → H1[q]? = H[q]?) → H1.size = H.size → Yx A p l e R s m args below meth c nL cells slots Q lv H1 (pc + 3) rest) : Yx A p l e R s m args below meth c nL cells slots Q lv H pc (.int N :: .int 0 :: .ref a :: .int 0 :: .ref a0 :: rest) := by
  intro ls locs hl hS T hT X
  obtain ⟨hexec, hb, hml, hown, hts, hE, -⟩ := C
  have hc0 : H[a0]? = some (vp_cell (g.2 0) (n, .inl f)) := hsrc
  have hc1 : H[a]? = some (vp_cell (g.2 0) (n, .inl f2)) := hdst
  obtain ⟨-, k0, hk0, cm0, hkk0⟩ := (hE.1.2 0 _ rfl).1 n (fun j => .int (f j))
  obtain ⟨-, k1, hk1, cm1, hkk1⟩ := (hE.1.2 0 _ rfl).1 n (fun j => .int (f2 j))
  have z0 : (0 : Int32).toNatClampNeg = 0 := rfl
  have nn : N.toInt = (n : Int) := by
    have h0 : (0 : Int) ≤ N.toInt := by
      have := Int32.not_lt.mp hN0
      simpa using Int32.le_iff_toInt_le.mp this
    have h1 : N.toInt.toNat = n := hN
    omega
  have zz : (0 : Int32).toInt = 0 := rfl
  obtain ⟨vm', X', step⟩ := X.arraycopy hexec hown (hts _ w1) (hts _ w2) (hts _ w3) (hts _ w4) (src := a0) (dst := a) (cs := vp_cell (g.2 0) (n, .inl f)) (cd := vp_cell (g.2 0) (n, .inl f2)) (srcPos := 0) (destPos := 0) (n := N) (by rw [hT]; exact hc0) (by rw [hT]; exact hc1)
    (fun _ h => by cases h) (fun _ h => by cases h) (fun h => by cases h) (fun h => by cases h) hk0 hk1 hkk0 hkk1 (by simp [refKind]) (by decide) (by decide) hN0
    (by rw [zz, nn]; show ¬ _ > ((arrV (g.2 0) n (fun j => .int (f j))).slots.size : Int); rw [arrV_size]; omega)
    (by rw [zz, nn]; show ¬ _ > ((arrV (g.2 0) n (fun j => .int (f2 j))).slots.size : Int); rw [arrV_size]; omega)
    (fun vm₁ _ i hi => by
      have e : (vp_cell (g.2 0) (n, .inl f)).slots.getD ((0 : Int32).toNatClampNeg + i) .null = .int (f i) := by
        show (arrV (g.2 0) n (fun j => .int (f j))).slots.getD _ _ = _
        rw [z0, Nat.zero_add, Array.getD_eq_getD_getElem?, arrV_read _ _ (by omega)]
        rfl
      exact ⟨by rw [e]; rfl, by rw [e]; exact trivial⟩)
    (g := F0 m pc ls (.int N :: .int 0 :: .ref a :: .int 0 :: .ref a0 :: rest)) rfl (by rw [hml]; exact hl.1) (rest := rest) rfl (by rw [hb]; exact hdg) hfr (by show 2 * 0 + _ + _ ≤ _; omega)
  have e1 : copied (vp_cell (g.2 0) (n, .inl f)) (vp_cell (g.2 0) (n, .inl f2)) 0 0 N = vp_cell (g.2 0) (n, .inl f) := by
    refine (va_copied (fun z => .int z) (g.2 0) (g.2 0) f f2 (by rw [z0, hN]; omega)).trans ?_
    rw [z0, hN]
    exact arrV_same (f := fun j => .int (va_cpy f f2 0 0 n j)) (f2 := fun j => .int (f j)) (g.2 0) n (fun j hj => by show Value.int _ = Value.int _; rw [va_cpy_all f f2 n j hj])
  rw [e1] at X' step
  have hl2 : a < H.size := (Array.getElem?_eq_some_iff.mp hc1).1
  have hheap : ((T.setVm vm').setCell a (vp_cell (g.2 0) (n, .inl f))).heap = H.setIfInBounds a (vp_cell (g.2 0) (n, .inl f)) := by rw [← hT]; rfl
  have oq : ∀ q : Nat, q ≠ a → (H.setIfInBounds a (vp_cell (g.2 0) (n, .inl f)))[q]? = H[q]? := fun q hq => by simp [Array.getElem?_setIfInBounds, Ne.symm hq]
  obtain ⟨t, a1, b1⟩ := kk (H.setIfInBounds a (vp_cell (g.2 0) (n, .inl f))) (show (H.setIfInBounds a _)[a]? = some _ by simp [Array.getElem?_setIfInBounds, hl2]) oq (by simp) ls _ hl ⟨by simp; exact hS.1, fun q g1 g2 => by
      rw [oq q (fun e => g2 (by rw [e]; exact hAa))]
      exact hS.2.1 q g1 g2, fun q hq => by
      rcases List.mem_append.mp hq with h | h
      · exact hS.2.2 q h
      · obtain ⟨z, -, hz⟩ := List.mem_map.mp h
        rw [← hz]
        exact hAa⟩ _ hheap X'
  exact ⟨t, step t a1, b1⟩
theorem y_copyf (C : Cx g B0 A p s m args meth c cc nL own) {index a0 a n : Nat} {f f2 : Nat → UInt32} (hsrc : cA1 g a0 (.inl (g.2 1, n, .inr (.inr (.inl f)))) H) (hdst : cA1 g a (.inl (g.2 1, n, .inr (.inr (.inl f2)))) H) (hAa : A a) {N : Int32} (hN : N.toNatClampNeg = n) (hN0 : ¬ N < 0) (w1 : Cond.methodLink own index arraycopyName ∈ wsL_law) (w2 : Cond.native arraycopyName ∈ wsL_law) (w3 : Cond.static arraycopyName ∈ wsL_law) (w4 : Cond.initialized "java/lang/System" ∈ wsL_law) (hfr : 1 ≤ R.frames) (hlo : (rest.map fun v => v.category).sum + (nativeFrameWords "java/lang/System" "arraycopy" 5 + 11) ≤ R.locals) (hdg : decode cc pc = .ok (.invokestatic index, 3))
    (kk : ∀ H1 : Heap, cA1 g a (.inl (g.2 1, n, .inr (.inr (.inl f)))) H1 → (∀ q : Nat, q ≠ a → H1[q]? = H[q]?) → H1.size = H.size → Yx A p l e R s m args below meth c nL cells slots Q lv H1 (pc + 3) rest) : Yx A p l e R s m args below meth c nL cells slots Q lv H pc (.int N :: .int 0 :: .ref a :: .int 0 :: .ref a0 :: rest) := by
  intro ls locs hl hS T hT X
  obtain ⟨hexec, hb, hml, hown, hts, hE, -⟩ := C
  have hc0 : H[a0]? = some (vp_cell (g.2 1) (n, .inr (.inr (.inl f)))) := hsrc
  have hc1 : H[a]? = some (vp_cell (g.2 1) (n, .inr (.inr (.inl f2)))) := hdst
  obtain ⟨-, k0, hk0, cm0, hkk0⟩ := (hE.1.2 1 _ rfl).1 n (fun j => .float (f j))
  obtain ⟨-, k1, hk1, cm1, hkk1⟩ := (hE.1.2 1 _ rfl).1 n (fun j => .float (f2 j))
  have z0 : (0 : Int32).toNatClampNeg = 0 := rfl
  have nn : N.toInt = (n : Int) := by
    have h0 : (0 : Int) ≤ N.toInt := by
      have := Int32.not_lt.mp hN0
      simpa using Int32.le_iff_toInt_le.mp this
    have h1 : N.toInt.toNat = n := hN
    omega
  have zz : (0 : Int32).toInt = 0 := rfl
  obtain ⟨vm', X', step⟩ := X.arraycopy hexec hown (hts _ w1) (hts _ w2) (hts _ w3) (hts _ w4) (src := a0) (dst := a) (cs := vp_cell (g.2 1) (n, .inr (.inr (.inl f)))) (cd := vp_cell (g.2 1) (n, .inr (.inr (.inl f2)))) (srcPos := 0) (destPos := 0) (n := N) (by rw [hT]; exact hc0) (by rw [hT]; exact hc1)
    (fun _ h => by cases h) (fun _ h => by cases h) (fun h => by cases h) (fun h => by cases h) hk0 hk1 hkk0 hkk1 (by simp [refKind]) (by decide) (by decide) hN0
    (by rw [zz, nn]; show ¬ _ > ((arrV (g.2 1) n (fun j => .float (f j))).slots.size : Int); rw [arrV_size]; omega)
    (by rw [zz, nn]; show ¬ _ > ((arrV (g.2 1) n (fun j => .float (f2 j))).slots.size : Int); rw [arrV_size]; omega)
    (fun vm₁ _ i hi => by
      have e : (vp_cell (g.2 1) (n, .inr (.inr (.inl f)))).slots.getD ((0 : Int32).toNatClampNeg + i) .null = .float (f i) := by
        show (arrV (g.2 1) n (fun j => .float (f j))).slots.getD _ _ = _
        rw [z0, Nat.zero_add, Array.getD_eq_getD_getElem?, arrV_read _ _ (by omega)]
        rfl
      exact ⟨by rw [e]; rfl, by rw [e]; exact trivial⟩)
    (g := F0 m pc ls (.int N :: .int 0 :: .ref a :: .int 0 :: .ref a0 :: rest)) rfl (by rw [hml]; exact hl.1) (rest := rest) rfl (by rw [hb]; exact hdg) hfr (by show 2 * 0 + _ + _ ≤ _; omega)
  have e1 : copied (vp_cell (g.2 1) (n, .inr (.inr (.inl f)))) (vp_cell (g.2 1) (n, .inr (.inr (.inl f2)))) 0 0 N = vp_cell (g.2 1) (n, .inr (.inr (.inl f))) := by
    refine (va_copied (fun z => .float z) (g.2 1) (g.2 1) f f2 (by rw [z0, hN]; omega)).trans ?_
    rw [z0, hN]
    exact arrV_same (f := fun j => .float (va_cpy f f2 0 0 n j)) (f2 := fun j => .float (f j)) (g.2 1) n (fun j hj => by show Value.float _ = Value.float _; rw [va_cpy_all f f2 n j hj])
  rw [e1] at X' step
  have hl2 : a < H.size := (Array.getElem?_eq_some_iff.mp hc1).1
  have hheap : ((T.setVm vm').setCell a (vp_cell (g.2 1) (n, .inr (.inr (.inl f))))).heap = H.setIfInBounds a (vp_cell (g.2 1) (n, .inr (.inr (.inl f)))) := by rw [← hT]; rfl
  have oq : ∀ q : Nat, q ≠ a → (H.setIfInBounds a (vp_cell (g.2 1) (n, .inr (.inr (.inl f)))))[q]? = H[q]? := fun q hq => by simp [Array.getElem?_setIfInBounds, Ne.symm hq]
  obtain ⟨t, a1, b1⟩ := kk (H.setIfInBounds a (vp_cell (g.2 1) (n, .inr (.inr (.inl f))))) (show (H.setIfInBounds a _)[a]? = some _ by simp [Array.getElem?_setIfInBounds, hl2]) oq (by simp) ls _ hl ⟨by simp; exact hS.1, fun q g1 g2 => by
      rw [oq q (fun e => g2 (by rw [e]; exact hAa))]
      exact hS.2.1 q g1 g2, fun q hq => by
      rcases List.mem_append.mp hq with h | h
      · exact hS.2.2 q h
      · obtain ⟨z, -, hz⟩ := List.mem_map.mp h
        rw [← hz]
        exact hAa⟩ _ hheap X'
  exact ⟨t, step t a1, b1⟩
theorem y_aast (C : Cx g B0 A p s m args meth c cc nL own) {a v n : Nat} {f : Nat → Option Nat} {vs : List Value} (hat : cA1 g a (.inl (g.2 3, n, .inr (.inr (.inr (.inr f))))) H) (hv : cA1 g v (.inr (2, vs)) H) (hAa : A a) {i : Int32} (k : Nat) (hi : i = nI k) (hk : k < n) (hn : n < 2 ^ 31) (hdg : decode cc pc = .ok (.aastore, 1)) (kk : ∀ H1 : Heap, cA1 g a (.inl (g.2 3, n, .inr (.inr (.inr (.inr (va_up f k (some v))))))) H1 → (∀ q : Nat, q ≠ a → H1[q]? = H[q]?) → H1.size = H.size → Yx A p l e R s m args below meth c nL cells slots Q lv H1 (pc + 1) rest) : Yx A p l e R s m args below meth c nL cells slots Q lv H pc (.ref v :: .int i :: .ref a :: rest) := by
  subst hi
  have hz : (nI k).toNatClampNeg = k := nI_clamp (Nat.lt_trans hk hn)
  have hin := vp_in_nI hk hn
  intro ls locs hl hS
  obtain ⟨hexec, hb, -, -, -, hE, -⟩ := C
  have hK := hE.1
  have hc : H[a]? = some (vp_cell (g.2 3) (n, .inr (.inr (.inr (.inr f))))) := hat
  obtain ⟨r', hr', cellV, g1, g2, g3, -⟩ := hv
  have e0 : r' = (RX2, TX2, 6) := (Option.some.inj hr').symm
  subst e0
  have hcls := (hK.1 2 _ rfl).2
  obtain ⟨kA, comp, k1, k2, k3, -⟩ := (hK.2 3 _ rfl).2
  have hcomp : comp = g.1.1 2 := Option.some.inj (k3.symm.trans hcls.1)
  subst hcomp
  obtain ⟨kC, hkC, -⟩ := hcls.2
  refine W.aast hexec hb hc (fun q h => by cases h) (fun h => by cases h) k1 k2 rfl hkC ⟨fun q => hin (Or.inl q), by show _ < (arrV _ _ _).slots.size; rw [arrV_size, hz]; exact hk⟩ g1 (fun q h => by rw [g3] at h; cases h) (by rw [g2]; exact hkC) (by rw [g2]; exact va_assign hcls) rfl rfl hdg fun H1 e z oq => ?_
  refine kk H1 ?_ oq z ls _ hl (hS.put z oq hAa)
  show H1[a]? = some (vp_cell _ _)
  rw [e, vp_cell_q, vp_cell_q, arrV_store, hz]
  congr 2
  funext q
  by_cases hq : q = k
  · subst hq; simp [updV, va_up, va_rf]
  · simp [updV, va_up, hq]
end ROWS3
/-- a desk that a write elsewhere leaves as it is -/
theorem dk.off {g : KG} {a x : Nat} {d : DV} {H H1 : Heap} (h : dk g a d H) (o : ∀ q : Nat, q ≠ x → H1[q]? = H[q]?) (hx : ¬ iv a 21 x) : dk g a d H1 := h.kept (fun q hq => o q (fun e => hx (e ▸ hq)))
theorem dk.fr2 {g : KG} {a : Nat} {d : DV} {H H1 : Heap} {A1 : Nat → Prop} (h : dk g a d H) (hf : ∀ q : Nat, q < H.size → ¬ A1 q → H1[q]? = H[q]?) (hA : ∀ q, A1 q → ¬ iv a 21 q) : dk g a d H1 := h.fr hf (fun q hq hz => hA q hz hq)
/-- two desks whose cells are the same -/
def deq (d e : DV) : Prop := d.1 0 0 = e.1 0 0 ∧ d.1 3 0 = e.1 3 0 ∧ d.1 11 0 = e.1 11 0 ∧ (∀ j, j < 6 → d.1 20 j = e.1 20 j) ∧ (∀ i, i ≠ 0 → i ≠ 1 → i ≠ 3 → i ≠ 11 → i < 20 → d.1 i = e.1 i) ∧ d.2 = e.2
def dcp (d e : DV) (i : Nat) : DV := (fun j => if j = i then e.1 i else d.1 j, d.2)
def rcp (d e : DV) : DV := (d.1, e.2)

theorem dk_cp1 {g : KG} {a : Nat} {d e : DV} {H H1 : Heap} (h : dk g a d H) (h1 : cA1 g (a + 1) (.inl (g.2 1, 4, .inr (.inr (.inl e.2)))) H1) (o1 : ∀ q : Nat, q ≠ (a + 1) → H1[q]? = H[q]?) : dk g a (rcp d e) H1 := by
  intro i hi
  by_cases hx : i = 1
  · subst hx; exact h1
  · refine va_at.kept (H := H) ?_ (o1 (a + i) (by omega))
    have e : dkc g a (rcp d e) i = dkc g a d i := by
      match i, hi, hx with
      | 0, _, _ => rfl
      | 1, _, hx => exact absurd rfl hx
      | 2, _, _ => rfl
      | 3, _, _ => rfl
      | 4, _, _ => rfl
      | 5, _, _ => rfl
      | 6, _, _ => rfl
      | 7, _, _ => rfl
      | 8, _, _ => rfl
      | 9, _, _ => rfl
      | 10, _, _ => rfl
      | 11, _, _ => rfl
      | 12, _, _ => rfl
      | 13, _, _ => rfl
      | 14, _, _ => rfl
      | 15, _, _ => rfl
      | 16, _, _ => rfl
      | 17, _, _ => rfl
      | 18, _, _ => rfl
      | 19, _, _ => rfl
      | 20, _, _ => rfl
      | n + 21, hi, _ => exact absurd hi (by omega)
    show cA1 g (a + i) _ H
    rw [e]
    exact h i hi
theorem dk_cp2 {g : KG} {a : Nat} {d e : DV} {H H1 : Heap} (h : dk g a d H) (h1 : cA1 g (a + 2) (.inl (g.2 0, 5, .inl (e.1 2))) H1) (o1 : ∀ q : Nat, q ≠ (a + 2) → H1[q]? = H[q]?) : dk g a (dcp d e 2) H1 := by
  intro i hi
  by_cases hx : i = 2
  · subst hx; exact h1
  · refine va_at.kept (H := H) ?_ (o1 (a + i) (by omega))
    have e : dkc g a (dcp d e 2) i = dkc g a d i := by
      match i, hi, hx with
      | 0, _, _ => rfl
      | 1, _, _ => rfl
      | 2, _, hx => exact absurd rfl hx
      | 3, _, _ => rfl
      | 4, _, _ => rfl
      | 5, _, _ => rfl
      | 6, _, _ => rfl
      | 7, _, _ => rfl
      | 8, _, _ => rfl
      | 9, _, _ => rfl
      | 10, _, _ => rfl
      | 11, _, _ => rfl
      | 12, _, _ => rfl
      | 13, _, _ => rfl
      | 14, _, _ => rfl
      | 15, _, _ => rfl
      | 16, _, _ => rfl
      | 17, _, _ => rfl
      | 18, _, _ => rfl
      | 19, _, _ => rfl
      | 20, _, _ => rfl
      | n + 21, hi, _ => exact absurd hi (by omega)
    show cA1 g (a + i) _ H
    rw [e]
    exact h i hi
theorem dk_cp4 {g : KG} {a : Nat} {d e : DV} {H H1 : Heap} (h : dk g a d H) (h1 : cA1 g (a + 4) (.inl (g.2 0, 6, .inl (e.1 4))) H1) (o1 : ∀ q : Nat, q ≠ (a + 4) → H1[q]? = H[q]?) : dk g a (dcp d e 4) H1 := by
  intro i hi
  by_cases hx : i = 4
  · subst hx; exact h1
  · refine va_at.kept (H := H) ?_ (o1 (a + i) (by omega))
    have e : dkc g a (dcp d e 4) i = dkc g a d i := by
      match i, hi, hx with
      | 0, _, _ => rfl
      | 1, _, _ => rfl
      | 2, _, _ => rfl
      | 3, _, _ => rfl
      | 4, _, hx => exact absurd rfl hx
      | 5, _, _ => rfl
      | 6, _, _ => rfl
      | 7, _, _ => rfl
      | 8, _, _ => rfl
      | 9, _, _ => rfl
      | 10, _, _ => rfl
      | 11, _, _ => rfl
      | 12, _, _ => rfl
      | 13, _, _ => rfl
      | 14, _, _ => rfl
      | 15, _, _ => rfl
      | 16, _, _ => rfl
      | 17, _, _ => rfl
      | 18, _, _ => rfl
      | 19, _, _ => rfl
      | 20, _, _ => rfl
      | n + 21, hi, _ => exact absurd hi (by omega)
    show cA1 g (a + i) _ H
    rw [e]
    exact h i hi
theorem dk_cp5 {g : KG} {a : Nat} {d e : DV} {H H1 : Heap} (h : dk g a d H) (h1 : cA1 g (a + 5) (.inl (g.2 0, 6, .inl (e.1 5))) H1) (o1 : ∀ q : Nat, q ≠ (a + 5) → H1[q]? = H[q]?) : dk g a (dcp d e 5) H1 := by
  intro i hi
  by_cases hx : i = 5
  · subst hx; exact h1
  · refine va_at.kept (H := H) ?_ (o1 (a + i) (by omega))
    have e : dkc g a (dcp d e 5) i = dkc g a d i := by
      match i, hi, hx with
      | 0, _, _ => rfl
      | 1, _, _ => rfl
      | 2, _, _ => rfl
      | 3, _, _ => rfl
      | 4, _, _ => rfl
      | 5, _, hx => exact absurd rfl hx
      | 6, _, _ => rfl
      | 7, _, _ => rfl
      | 8, _, _ => rfl
      | 9, _, _ => rfl
      | 10, _, _ => rfl
      | 11, _, _ => rfl
      | 12, _, _ => rfl
      | 13, _, _ => rfl
      | 14, _, _ => rfl
      | 15, _, _ => rfl
      | 16, _, _ => rfl
      | 17, _, _ => rfl
      | 18, _, _ => rfl
      | 19, _, _ => rfl
      | 20, _, _ => rfl
      | n + 21, hi, _ => exact absurd hi (by omega)
    show cA1 g (a + i) _ H
    rw [e]
    exact h i hi
theorem dk_cp6 {g : KG} {a : Nat} {d e : DV} {H H1 : Heap} (h : dk g a d H) (h1 : cA1 g (a + 6) (.inl (g.2 0, 6, .inl (e.1 6))) H1) (o1 : ∀ q : Nat, q ≠ (a + 6) → H1[q]? = H[q]?) : dk g a (dcp d e 6) H1 := by
  intro i hi
  by_cases hx : i = 6
  · subst hx; exact h1
  · refine va_at.kept (H := H) ?_ (o1 (a + i) (by omega))
    have e : dkc g a (dcp d e 6) i = dkc g a d i := by
      match i, hi, hx with
      | 0, _, _ => rfl
      | 1, _, _ => rfl
      | 2, _, _ => rfl
      | 3, _, _ => rfl
      | 4, _, _ => rfl
      | 5, _, _ => rfl
      | 6, _, hx => exact absurd rfl hx
      | 7, _, _ => rfl
      | 8, _, _ => rfl
      | 9, _, _ => rfl
      | 10, _, _ => rfl
      | 11, _, _ => rfl
      | 12, _, _ => rfl
      | 13, _, _ => rfl
      | 14, _, _ => rfl
      | 15, _, _ => rfl
      | 16, _, _ => rfl
      | 17, _, _ => rfl
      | 18, _, _ => rfl
      | 19, _, _ => rfl
      | 20, _, _ => rfl
      | n + 21, hi, _ => exact absurd hi (by omega)
    show cA1 g (a + i) _ H
    rw [e]
    exact h i hi
theorem dk_cp7 {g : KG} {a : Nat} {d e : DV} {H H1 : Heap} (h : dk g a d H) (h1 : cA1 g (a + 7) (.inl (g.2 0, 6, .inl (e.1 7))) H1) (o1 : ∀ q : Nat, q ≠ (a + 7) → H1[q]? = H[q]?) : dk g a (dcp d e 7) H1 := by
  intro i hi
  by_cases hx : i = 7
  · subst hx; exact h1
  · refine va_at.kept (H := H) ?_ (o1 (a + i) (by omega))
    have e : dkc g a (dcp d e 7) i = dkc g a d i := by
      match i, hi, hx with
      | 0, _, _ => rfl
      | 1, _, _ => rfl
      | 2, _, _ => rfl
      | 3, _, _ => rfl
      | 4, _, _ => rfl
      | 5, _, _ => rfl
      | 6, _, _ => rfl
      | 7, _, hx => exact absurd rfl hx
      | 8, _, _ => rfl
      | 9, _, _ => rfl
      | 10, _, _ => rfl
      | 11, _, _ => rfl
      | 12, _, _ => rfl
      | 13, _, _ => rfl
      | 14, _, _ => rfl
      | 15, _, _ => rfl
      | 16, _, _ => rfl
      | 17, _, _ => rfl
      | 18, _, _ => rfl
      | 19, _, _ => rfl
      | 20, _, _ => rfl
      | n + 21, hi, _ => exact absurd hi (by omega)
    show cA1 g (a + i) _ H
    rw [e]
    exact h i hi
theorem dk_cp8 {g : KG} {a : Nat} {d e : DV} {H H1 : Heap} (h : dk g a d H) (h1 : cA1 g (a + 8) (.inl (g.2 0, 12, .inl (e.1 8))) H1) (o1 : ∀ q : Nat, q ≠ (a + 8) → H1[q]? = H[q]?) : dk g a (dcp d e 8) H1 := by
  intro i hi
  by_cases hx : i = 8
  · subst hx; exact h1
  · refine va_at.kept (H := H) ?_ (o1 (a + i) (by omega))
    have e : dkc g a (dcp d e 8) i = dkc g a d i := by
      match i, hi, hx with
      | 0, _, _ => rfl
      | 1, _, _ => rfl
      | 2, _, _ => rfl
      | 3, _, _ => rfl
      | 4, _, _ => rfl
      | 5, _, _ => rfl
      | 6, _, _ => rfl
      | 7, _, _ => rfl
      | 8, _, hx => exact absurd rfl hx
      | 9, _, _ => rfl
      | 10, _, _ => rfl
      | 11, _, _ => rfl
      | 12, _, _ => rfl
      | 13, _, _ => rfl
      | 14, _, _ => rfl
      | 15, _, _ => rfl
      | 16, _, _ => rfl
      | 17, _, _ => rfl
      | 18, _, _ => rfl
      | 19, _, _ => rfl
      | 20, _, _ => rfl
      | n + 21, hi, _ => exact absurd hi (by omega)
    show cA1 g (a + i) _ H
    rw [e]
    exact h i hi
theorem dk_cp9 {g : KG} {a : Nat} {d e : DV} {H H1 : Heap} (h : dk g a d H) (h1 : cA1 g (a + 9) (.inl (g.2 0, 12, .inl (e.1 9))) H1) (o1 : ∀ q : Nat, q ≠ (a + 9) → H1[q]? = H[q]?) : dk g a (dcp d e 9) H1 := by
  intro i hi
  by_cases hx : i = 9
  · subst hx; exact h1
  · refine va_at.kept (H := H) ?_ (o1 (a + i) (by omega))
    have e : dkc g a (dcp d e 9) i = dkc g a d i := by
      match i, hi, hx with
      | 0, _, _ => rfl
      | 1, _, _ => rfl
      | 2, _, _ => rfl
      | 3, _, _ => rfl
      | 4, _, _ => rfl
      | 5, _, _ => rfl
      | 6, _, _ => rfl
      | 7, _, _ => rfl
      | 8, _, _ => rfl
      | 9, _, hx => exact absurd rfl hx
      | 10, _, _ => rfl
      | 11, _, _ => rfl
      | 12, _, _ => rfl
      | 13, _, _ => rfl
      | 14, _, _ => rfl
      | 15, _, _ => rfl
      | 16, _, _ => rfl
      | 17, _, _ => rfl
      | 18, _, _ => rfl
      | 19, _, _ => rfl
      | 20, _, _ => rfl
      | n + 21, hi, _ => exact absurd hi (by omega)
    show cA1 g (a + i) _ H
    rw [e]
    exact h i hi
theorem dk_cp10 {g : KG} {a : Nat} {d e : DV} {H H1 : Heap} (h : dk g a d H) (h1 : cA1 g (a + 10) (.inl (g.2 0, 12, .inl (e.1 10))) H1) (o1 : ∀ q : Nat, q ≠ (a + 10) → H1[q]? = H[q]?) : dk g a (dcp d e 10) H1 := by
  intro i hi
  by_cases hx : i = 10
  · subst hx; exact h1
  · refine va_at.kept (H := H) ?_ (o1 (a + i) (by omega))
    have e : dkc g a (dcp d e 10) i = dkc g a d i := by
      match i, hi, hx with
      | 0, _, _ => rfl
      | 1, _, _ => rfl
      | 2, _, _ => rfl
      | 3, _, _ => rfl
      | 4, _, _ => rfl
      | 5, _, _ => rfl
      | 6, _, _ => rfl
      | 7, _, _ => rfl
      | 8, _, _ => rfl
      | 9, _, _ => rfl
      | 10, _, hx => exact absurd rfl hx
      | 11, _, _ => rfl
      | 12, _, _ => rfl
      | 13, _, _ => rfl
      | 14, _, _ => rfl
      | 15, _, _ => rfl
      | 16, _, _ => rfl
      | 17, _, _ => rfl
      | 18, _, _ => rfl
      | 19, _, _ => rfl
      | 20, _, _ => rfl
      | n + 21, hi, _ => exact absurd hi (by omega)
    show cA1 g (a + i) _ H
    rw [e]
    exact h i hi
theorem dk_cp12 {g : KG} {a : Nat} {d e : DV} {H H1 : Heap} (h : dk g a d H) (h1 : cA1 g (a + 12) (.inl (g.2 0, 20, .inl (e.1 12))) H1) (o1 : ∀ q : Nat, q ≠ (a + 12) → H1[q]? = H[q]?) : dk g a (dcp d e 12) H1 := by
  intro i hi
  by_cases hx : i = 12
  · subst hx; exact h1
  · refine va_at.kept (H := H) ?_ (o1 (a + i) (by omega))
    have e : dkc g a (dcp d e 12) i = dkc g a d i := by
      match i, hi, hx with
      | 0, _, _ => rfl
      | 1, _, _ => rfl
      | 2, _, _ => rfl
      | 3, _, _ => rfl
      | 4, _, _ => rfl
      | 5, _, _ => rfl
      | 6, _, _ => rfl
      | 7, _, _ => rfl
      | 8, _, _ => rfl
      | 9, _, _ => rfl
      | 10, _, _ => rfl
      | 11, _, _ => rfl
      | 12, _, hx => exact absurd rfl hx
      | 13, _, _ => rfl
      | 14, _, _ => rfl
      | 15, _, _ => rfl
      | 16, _, _ => rfl
      | 17, _, _ => rfl
      | 18, _, _ => rfl
      | 19, _, _ => rfl
      | 20, _, _ => rfl
      | n + 21, hi, _ => exact absurd hi (by omega)
    show cA1 g (a + i) _ H
    rw [e]
    exact h i hi
theorem dk_cp13 {g : KG} {a : Nat} {d e : DV} {H H1 : Heap} (h : dk g a d H) (h1 : cA1 g (a + 13) (.inl (g.2 0, 20, .inl (e.1 13))) H1) (o1 : ∀ q : Nat, q ≠ (a + 13) → H1[q]? = H[q]?) : dk g a (dcp d e 13) H1 := by
  intro i hi
  by_cases hx : i = 13
  · subst hx; exact h1
  · refine va_at.kept (H := H) ?_ (o1 (a + i) (by omega))
    have e : dkc g a (dcp d e 13) i = dkc g a d i := by
      match i, hi, hx with
      | 0, _, _ => rfl
      | 1, _, _ => rfl
      | 2, _, _ => rfl
      | 3, _, _ => rfl
      | 4, _, _ => rfl
      | 5, _, _ => rfl
      | 6, _, _ => rfl
      | 7, _, _ => rfl
      | 8, _, _ => rfl
      | 9, _, _ => rfl
      | 10, _, _ => rfl
      | 11, _, _ => rfl
      | 12, _, _ => rfl
      | 13, _, hx => exact absurd rfl hx
      | 14, _, _ => rfl
      | 15, _, _ => rfl
      | 16, _, _ => rfl
      | 17, _, _ => rfl
      | 18, _, _ => rfl
      | 19, _, _ => rfl
      | 20, _, _ => rfl
      | n + 21, hi, _ => exact absurd hi (by omega)
    show cA1 g (a + i) _ H
    rw [e]
    exact h i hi
theorem dk_cp14 {g : KG} {a : Nat} {d e : DV} {H H1 : Heap} (h : dk g a d H) (h1 : cA1 g (a + 14) (.inl (g.2 0, 20, .inl (e.1 14))) H1) (o1 : ∀ q : Nat, q ≠ (a + 14) → H1[q]? = H[q]?) : dk g a (dcp d e 14) H1 := by
  intro i hi
  by_cases hx : i = 14
  · subst hx; exact h1
  · refine va_at.kept (H := H) ?_ (o1 (a + i) (by omega))
    have e : dkc g a (dcp d e 14) i = dkc g a d i := by
      match i, hi, hx with
      | 0, _, _ => rfl
      | 1, _, _ => rfl
      | 2, _, _ => rfl
      | 3, _, _ => rfl
      | 4, _, _ => rfl
      | 5, _, _ => rfl
      | 6, _, _ => rfl
      | 7, _, _ => rfl
      | 8, _, _ => rfl
      | 9, _, _ => rfl
      | 10, _, _ => rfl
      | 11, _, _ => rfl
      | 12, _, _ => rfl
      | 13, _, _ => rfl
      | 14, _, hx => exact absurd rfl hx
      | 15, _, _ => rfl
      | 16, _, _ => rfl
      | 17, _, _ => rfl
      | 18, _, _ => rfl
      | 19, _, _ => rfl
      | 20, _, _ => rfl
      | n + 21, hi, _ => exact absurd hi (by omega)
    show cA1 g (a + i) _ H
    rw [e]
    exact h i hi
theorem dk_cp15 {g : KG} {a : Nat} {d e : DV} {H H1 : Heap} (h : dk g a d H) (h1 : cA1 g (a + 15) (.inl (g.2 0, 20, .inl (e.1 15))) H1) (o1 : ∀ q : Nat, q ≠ (a + 15) → H1[q]? = H[q]?) : dk g a (dcp d e 15) H1 := by
  intro i hi
  by_cases hx : i = 15
  · subst hx; exact h1
  · refine va_at.kept (H := H) ?_ (o1 (a + i) (by omega))
    have e : dkc g a (dcp d e 15) i = dkc g a d i := by
      match i, hi, hx with
      | 0, _, _ => rfl
      | 1, _, _ => rfl
      | 2, _, _ => rfl
      | 3, _, _ => rfl
      | 4, _, _ => rfl
      | 5, _, _ => rfl
      | 6, _, _ => rfl
      | 7, _, _ => rfl
      | 8, _, _ => rfl
      | 9, _, _ => rfl
      | 10, _, _ => rfl
      | 11, _, _ => rfl
      | 12, _, _ => rfl
      | 13, _, _ => rfl
      | 14, _, _ => rfl
      | 15, _, hx => exact absurd rfl hx
      | 16, _, _ => rfl
      | 17, _, _ => rfl
      | 18, _, _ => rfl
      | 19, _, _ => rfl
      | 20, _, _ => rfl
      | n + 21, hi, _ => exact absurd hi (by omega)
    show cA1 g (a + i) _ H
    rw [e]
    exact h i hi
theorem dk_cp16 {g : KG} {a : Nat} {d e : DV} {H H1 : Heap} (h : dk g a d H) (h1 : cA1 g (a + 16) (.inl (g.2 0, 20, .inl (e.1 16))) H1) (o1 : ∀ q : Nat, q ≠ (a + 16) → H1[q]? = H[q]?) : dk g a (dcp d e 16) H1 := by
  intro i hi
  by_cases hx : i = 16
  · subst hx; exact h1
  · refine va_at.kept (H := H) ?_ (o1 (a + i) (by omega))
    have e : dkc g a (dcp d e 16) i = dkc g a d i := by
      match i, hi, hx with
      | 0, _, _ => rfl
      | 1, _, _ => rfl
      | 2, _, _ => rfl
      | 3, _, _ => rfl
      | 4, _, _ => rfl
      | 5, _, _ => rfl
      | 6, _, _ => rfl
      | 7, _, _ => rfl
      | 8, _, _ => rfl
      | 9, _, _ => rfl
      | 10, _, _ => rfl
      | 11, _, _ => rfl
      | 12, _, _ => rfl
      | 13, _, _ => rfl
      | 14, _, _ => rfl
      | 15, _, _ => rfl
      | 16, _, hx => exact absurd rfl hx
      | 17, _, _ => rfl
      | 18, _, _ => rfl
      | 19, _, _ => rfl
      | 20, _, _ => rfl
      | n + 21, hi, _ => exact absurd hi (by omega)
    show cA1 g (a + i) _ H
    rw [e]
    exact h i hi
theorem dk_cp17 {g : KG} {a : Nat} {d e : DV} {H H1 : Heap} (h : dk g a d H) (h1 : cA1 g (a + 17) (.inl (g.2 0, 20, .inl (e.1 17))) H1) (o1 : ∀ q : Nat, q ≠ (a + 17) → H1[q]? = H[q]?) : dk g a (dcp d e 17) H1 := by
  intro i hi
  by_cases hx : i = 17
  · subst hx; exact h1
  · refine va_at.kept (H := H) ?_ (o1 (a + i) (by omega))
    have e : dkc g a (dcp d e 17) i = dkc g a d i := by
      match i, hi, hx with
      | 0, _, _ => rfl
      | 1, _, _ => rfl
      | 2, _, _ => rfl
      | 3, _, _ => rfl
      | 4, _, _ => rfl
      | 5, _, _ => rfl
      | 6, _, _ => rfl
      | 7, _, _ => rfl
      | 8, _, _ => rfl
      | 9, _, _ => rfl
      | 10, _, _ => rfl
      | 11, _, _ => rfl
      | 12, _, _ => rfl
      | 13, _, _ => rfl
      | 14, _, _ => rfl
      | 15, _, _ => rfl
      | 16, _, _ => rfl
      | 17, _, hx => exact absurd rfl hx
      | 18, _, _ => rfl
      | 19, _, _ => rfl
      | 20, _, _ => rfl
      | n + 21, hi, _ => exact absurd hi (by omega)
    show cA1 g (a + i) _ H
    rw [e]
    exact h i hi
theorem dk_cp18 {g : KG} {a : Nat} {d e : DV} {H H1 : Heap} (h : dk g a d H) (h1 : cA1 g (a + 18) (.inl (g.2 0, 20, .inl (e.1 18))) H1) (o1 : ∀ q : Nat, q ≠ (a + 18) → H1[q]? = H[q]?) : dk g a (dcp d e 18) H1 := by
  intro i hi
  by_cases hx : i = 18
  · subst hx; exact h1
  · refine va_at.kept (H := H) ?_ (o1 (a + i) (by omega))
    have e : dkc g a (dcp d e 18) i = dkc g a d i := by
      match i, hi, hx with
      | 0, _, _ => rfl
      | 1, _, _ => rfl
      | 2, _, _ => rfl
      | 3, _, _ => rfl
      | 4, _, _ => rfl
      | 5, _, _ => rfl
      | 6, _, _ => rfl
      | 7, _, _ => rfl
      | 8, _, _ => rfl
      | 9, _, _ => rfl
      | 10, _, _ => rfl
      | 11, _, _ => rfl
      | 12, _, _ => rfl
      | 13, _, _ => rfl
      | 14, _, _ => rfl
      | 15, _, _ => rfl
      | 16, _, _ => rfl
      | 17, _, _ => rfl
      | 18, _, hx => exact absurd rfl hx
      | 19, _, _ => rfl
      | 20, _, _ => rfl
      | n + 21, hi, _ => exact absurd hi (by omega)
    show cA1 g (a + i) _ H
    rw [e]
    exact h i hi
theorem dk_cp19 {g : KG} {a : Nat} {d e : DV} {H H1 : Heap} (h : dk g a d H) (h1 : cA1 g (a + 19) (.inl (g.2 0, 20, .inl (e.1 19))) H1) (o1 : ∀ q : Nat, q ≠ (a + 19) → H1[q]? = H[q]?) : dk g a (dcp d e 19) H1 := by
  intro i hi
  by_cases hx : i = 19
  · subst hx; exact h1
  · refine va_at.kept (H := H) ?_ (o1 (a + i) (by omega))
    have e : dkc g a (dcp d e 19) i = dkc g a d i := by
      match i, hi, hx with
      | 0, _, _ => rfl
      | 1, _, _ => rfl
      | 2, _, _ => rfl
      | 3, _, _ => rfl
      | 4, _, _ => rfl
      | 5, _, _ => rfl
      | 6, _, _ => rfl
      | 7, _, _ => rfl
      | 8, _, _ => rfl
      | 9, _, _ => rfl
      | 10, _, _ => rfl
      | 11, _, _ => rfl
      | 12, _, _ => rfl
      | 13, _, _ => rfl
      | 14, _, _ => rfl
      | 15, _, _ => rfl
      | 16, _, _ => rfl
      | 17, _, _ => rfl
      | 18, _, _ => rfl
      | 19, _, hx => exact absurd rfl hx
      | 20, _, _ => rfl
      | n + 21, hi, _ => exact absurd hi (by omega)
    show cA1 g (a + i) _ H
    rw [e]
    exact h i hi
theorem dk.same {g : KG} {a : Nat} {d e : DV} {H : Heap} (h : dk g a d H) (hq : deq d e) : dk g a e H := by
  obtain ⟨q0, q3, q11, q20, qi, q2⟩ := hq
  intro i hi
  have e1 : dkc g a e i = dkc g a d i := by
    match i, hi with
    | 0, _ => simp only [dkc, q0]
    | 1, _ => simp only [dkc, q2]
    | 2, _ => simp only [dkc, qi 2 (by decide) (by decide) (by decide) (by decide) (by decide)]
    | 3, _ => simp only [dkc, q3]
    | 4, _ => simp only [dkc, qi 4 (by decide) (by decide) (by decide) (by decide) (by decide)]
    | 5, _ => simp only [dkc, qi 5 (by decide) (by decide) (by decide) (by decide) (by decide)]
    | 6, _ => simp only [dkc, qi 6 (by decide) (by decide) (by decide) (by decide) (by decide)]
    | 7, _ => simp only [dkc, qi 7 (by decide) (by decide) (by decide) (by decide) (by decide)]
    | 8, _ => simp only [dkc, qi 8 (by decide) (by decide) (by decide) (by decide) (by decide)]
    | 9, _ => simp only [dkc, qi 9 (by decide) (by decide) (by decide) (by decide) (by decide)]
    | 10, _ => simp only [dkc, qi 10 (by decide) (by decide) (by decide) (by decide) (by decide)]
    | 11, _ => simp only [dkc, q11]
    | 12, _ => simp only [dkc, qi 12 (by decide) (by decide) (by decide) (by decide) (by decide)]
    | 13, _ => simp only [dkc, qi 13 (by decide) (by decide) (by decide) (by decide) (by decide)]
    | 14, _ => simp only [dkc, qi 14 (by decide) (by decide) (by decide) (by decide) (by decide)]
    | 15, _ => simp only [dkc, qi 15 (by decide) (by decide) (by decide) (by decide) (by decide)]
    | 16, _ => simp only [dkc, qi 16 (by decide) (by decide) (by decide) (by decide) (by decide)]
    | 17, _ => simp only [dkc, qi 17 (by decide) (by decide) (by decide) (by decide) (by decide)]
    | 18, _ => simp only [dkc, qi 18 (by decide) (by decide) (by decide) (by decide) (by decide)]
    | 19, _ => simp only [dkc, qi 19 (by decide) (by decide) (by decide) (by decide) (by decide)]
    | 20, _ => simp only [dkc, q20 0 (by decide), q20 1 (by decide), q20 2 (by decide), q20 3 (by decide), q20 4 (by decide), q20 5 (by decide)]
    | n + 21, hi => exact absurd hi (by omega)
  rw [e1]
  exact h i hi
