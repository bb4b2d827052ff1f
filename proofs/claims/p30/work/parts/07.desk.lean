/-! A DESK: 21 cells from the address a on. 0 Desk, 1 rates, 2 numbers, 3 Store, 4 price, 5 lead, 6 stock, 7 reserved, 8 orderPart, 9 orderMany, 10 orderDay, 11 Sets, 12 fault, 13 came, 14 estimate, 15 worked, 16 bill, 17 loaner, 18 state, 19 ready, 20 Books. d.1 i k: cell i, place k (0 0 day, 3 0 orders, 11 0 many, 20 0 .. 5 the books); d.2: the rates -/
abbrev DV : Type := (Nat → Nat → Int32) × (Nat → UInt32)
def dset (d : DV) (i k : Nat) (x : Int32) : DV := (fun j => if j = i then upd (d.1 i) k x else d.1 j, d.2)
def rset (d : DV) (k : Nat) (x : UInt32) : DV := (d.1, vf_upd d.2 k x)
def dkc (g : KG) (a : Nat) (d : DV) (i : Nat) : va_E := match i with
  | 0 => .inr (2, [.int (d.1 0 0), .ref (a + 1), .ref (a + 2), .ref (a + 3), .ref (a + 11), .ref (a + 20)])
  | 1 => .inl (g.2 1, 4, .inr (.inr (.inl d.2)))
  | 2 => .inl (g.2 0, 5, .inl (d.1 2))
  | 3 => .inr (5, [.ref (a + 4), .ref (a + 5), .ref (a + 6), .ref (a + 7), .int (d.1 3 0), .ref (a + 8), .ref (a + 9), .ref (a + 10)])
  | 4 => .inl (g.2 0, 6, .inl (d.1 4))
  | 5 => .inl (g.2 0, 6, .inl (d.1 5))
  | 6 => .inl (g.2 0, 6, .inl (d.1 6))
  | 7 => .inl (g.2 0, 6, .inl (d.1 7))
  | 8 => .inl (g.2 0, 12, .inl (d.1 8))
  | 9 => .inl (g.2 0, 12, .inl (d.1 9))
  | 10 => .inl (g.2 0, 12, .inl (d.1 10))
  | 11 => .inr (4, [.int (d.1 11 0), .ref (a + 12), .ref (a + 13), .ref (a + 14), .ref (a + 15), .ref (a + 16), .ref (a + 17), .ref (a + 18), .ref (a + 19)])
  | 12 => .inl (g.2 0, 20, .inl (d.1 12))
  | 13 => .inl (g.2 0, 20, .inl (d.1 13))
  | 14 => .inl (g.2 0, 20, .inl (d.1 14))
  | 15 => .inl (g.2 0, 20, .inl (d.1 15))
  | 16 => .inl (g.2 0, 20, .inl (d.1 16))
  | 17 => .inl (g.2 0, 20, .inl (d.1 17))
  | 18 => .inl (g.2 0, 20, .inl (d.1 18))
  | 19 => .inl (g.2 0, 20, .inl (d.1 19))
  | _ => .inr (1, [.int (d.1 20 0), .int (d.1 20 1), .int (d.1 20 2), .int (d.1 20 3), .int (d.1 20 4), .int (d.1 20 5)])
/-- the heap holds the desk d at the address a -/
def dk (g : KG) (a : Nat) (d : DV) (H : Heap) : Prop := ∀ i, i < 21 → cA1 g (a + i) (dkc g a d i) H
def iv (a n : Nat) : Nat → Prop := fun q => a ≤ q ∧ q < a + n
theorem ivm {a n : Nat} (i : Nat) (h : i < n) : iv a n (a + i) := ⟨Nat.le_add_right _ _, Nat.add_lt_add_left h _⟩
theorem dk.kept {g : KG} {a : Nat} {d : DV} {H H1 : Heap} (h : dk g a d H) (hq : ∀ q, iv a 21 q → H1[q]? = H[q]?) : dk g a d H1 := fun i hi => (h i hi).kept (hq _ (ivm i hi))
theorem dk.lt {g : KG} {a : Nat} {d : DV} {H : Heap} (h : dk g a d H) : a + 20 < H.size := (h 20 (by decide)).lt
theorem dk_0 {g : KG} {a : Nat} {d : DV} {H : Heap} (h : dk g a d H) : cA1 g a (.inr (2, [.int (d.1 0 0), .ref (a + 1), .ref (a + 2), .ref (a + 3), .ref (a + 11), .ref (a + 20)])) H := h 0 (by decide)
theorem dk_1 {g : KG} {a : Nat} {d : DV} {H : Heap} (h : dk g a d H) : cA1 g (a + 1) (.inl (g.2 1, 4, .inr (.inr (.inl d.2)))) H := h 1 (by decide)
theorem dk_2 {g : KG} {a : Nat} {d : DV} {H : Heap} (h : dk g a d H) : cA1 g (a + 2) (.inl (g.2 0, 5, .inl (d.1 2))) H := h 2 (by decide)
theorem dk_3 {g : KG} {a : Nat} {d : DV} {H : Heap} (h : dk g a d H) : cA1 g (a + 3) (.inr (5, [.ref (a + 4), .ref (a + 5), .ref (a + 6), .ref (a + 7), .int (d.1 3 0), .ref (a + 8), .ref (a + 9), .ref (a + 10)])) H := h 3 (by decide)
theorem dk_4 {g : KG} {a : Nat} {d : DV} {H : Heap} (h : dk g a d H) : cA1 g (a + 4) (.inl (g.2 0, 6, .inl (d.1 4))) H := h 4 (by decide)
theorem dk_5 {g : KG} {a : Nat} {d : DV} {H : Heap} (h : dk g a d H) : cA1 g (a + 5) (.inl (g.2 0, 6, .inl (d.1 5))) H := h 5 (by decide)
theorem dk_6 {g : KG} {a : Nat} {d : DV} {H : Heap} (h : dk g a d H) : cA1 g (a + 6) (.inl (g.2 0, 6, .inl (d.1 6))) H := h 6 (by decide)
theorem dk_7 {g : KG} {a : Nat} {d : DV} {H : Heap} (h : dk g a d H) : cA1 g (a + 7) (.inl (g.2 0, 6, .inl (d.1 7))) H := h 7 (by decide)
theorem dk_8 {g : KG} {a : Nat} {d : DV} {H : Heap} (h : dk g a d H) : cA1 g (a + 8) (.inl (g.2 0, 12, .inl (d.1 8))) H := h 8 (by decide)
theorem dk_9 {g : KG} {a : Nat} {d : DV} {H : Heap} (h : dk g a d H) : cA1 g (a + 9) (.inl (g.2 0, 12, .inl (d.1 9))) H := h 9 (by decide)
theorem dk_10 {g : KG} {a : Nat} {d : DV} {H : Heap} (h : dk g a d H) : cA1 g (a + 10) (.inl (g.2 0, 12, .inl (d.1 10))) H := h 10 (by decide)
theorem dk_11 {g : KG} {a : Nat} {d : DV} {H : Heap} (h : dk g a d H) : cA1 g (a + 11) (.inr (4, [.int (d.1 11 0), .ref (a + 12), .ref (a + 13), .ref (a + 14), .ref (a + 15), .ref (a + 16), .ref (a + 17), .ref (a + 18), .ref (a + 19)])) H := h 11 (by decide)
theorem dk_12 {g : KG} {a : Nat} {d : DV} {H : Heap} (h : dk g a d H) : cA1 g (a + 12) (.inl (g.2 0, 20, .inl (d.1 12))) H := h 12 (by decide)
theorem dk_13 {g : KG} {a : Nat} {d : DV} {H : Heap} (h : dk g a d H) : cA1 g (a + 13) (.inl (g.2 0, 20, .inl (d.1 13))) H := h 13 (by decide)
theorem dk_14 {g : KG} {a : Nat} {d : DV} {H : Heap} (h : dk g a d H) : cA1 g (a + 14) (.inl (g.2 0, 20, .inl (d.1 14))) H := h 14 (by decide)
theorem dk_15 {g : KG} {a : Nat} {d : DV} {H : Heap} (h : dk g a d H) : cA1 g (a + 15) (.inl (g.2 0, 20, .inl (d.1 15))) H := h 15 (by decide)
theorem dk_16 {g : KG} {a : Nat} {d : DV} {H : Heap} (h : dk g a d H) : cA1 g (a + 16) (.inl (g.2 0, 20, .inl (d.1 16))) H := h 16 (by decide)
theorem dk_17 {g : KG} {a : Nat} {d : DV} {H : Heap} (h : dk g a d H) : cA1 g (a + 17) (.inl (g.2 0, 20, .inl (d.1 17))) H := h 17 (by decide)
theorem dk_18 {g : KG} {a : Nat} {d : DV} {H : Heap} (h : dk g a d H) : cA1 g (a + 18) (.inl (g.2 0, 20, .inl (d.1 18))) H := h 18 (by decide)
theorem dk_19 {g : KG} {a : Nat} {d : DV} {H : Heap} (h : dk g a d H) : cA1 g (a + 19) (.inl (g.2 0, 20, .inl (d.1 19))) H := h 19 (by decide)
theorem dk_20 {g : KG} {a : Nat} {d : DV} {H : Heap} (h : dk g a d H) : cA1 g (a + 20) (.inr (1, [.int (d.1 20 0), .int (d.1 20 1), .int (d.1 20 2), .int (d.1 20 3), .int (d.1 20 4), .int (d.1 20 5)])) H := h 20 (by decide)
theorem dk_set1 {g : KG} {a : Nat} {d : DV} {H H1 : Heap} {k : Nat} {x : UInt32} (h : dk g a d H) (h1 : cA1 g (a + 1) (.inl (g.2 1, 4, .inr (.inr (.inl (vf_upd d.2 k x))))) H1) (o1 : ∀ q : Nat, q ≠ (a + 1) → H1[q]? = H[q]?) : dk g a (rset d k x) H1 := by
  intro i hi
  by_cases hx : i = 1
  · subst hx; exact h1
  · refine va_at.kept (H := H) ?_ (o1 (a + i) (by omega))
    have e : dkc g a (rset d k x) i = dkc g a d i := by
      match i, hi, hx with
      | 0, _, _ => rfl
      | 1, _, hx => exact absurd rfl hx
      | 2, _, _ => rfl
      | 3, _, _ => rfl
      | 4, _, _ => rfl
      | 5, _, _ => rfl
      | 6, _, _ => rfl
      | 7, _, _ => rfl
      | 8, _, _ => rfl
      | 9, _, _ => rfl
      | 10, _, _ => rfl
      | 11, _, _ => rfl
      | 12, _, _ => rfl
      | 13, _, _ => rfl
      | 14, _, _ => rfl
      | 15, _, _ => rfl
      | 16, _, _ => rfl
      | 17, _, _ => rfl
      | 18, _, _ => rfl
      | 19, _, _ => rfl
      | 20, _, _ => rfl
      | n + 21, hi, _ => exact absurd hi (by omega)
    show cA1 g (a + i) _ H
    rw [e]
    exact h i hi
theorem dk_set2 {g : KG} {a : Nat} {d : DV} {H H1 : Heap} {k : Nat} {x : Int32} (h : dk g a d H) (h1 : cA1 g (a + 2) (.inl (g.2 0, 5, .inl (upd (d.1 2) k x))) H1) (o1 : ∀ q : Nat, q ≠ (a + 2) → H1[q]? = H[q]?) : dk g a (dset d 2 k x) H1 := by
  intro i hi
  by_cases hx : i = 2
  · subst hx; exact h1
  · refine va_at.kept (H := H) ?_ (o1 (a + i) (by omega))
    have e : dkc g a (dset d 2 k x) i = dkc g a d i := by
      match i, hi, hx with
      | 0, _, _ => rfl
      | 1, _, _ => rfl
      | 2, _, hx => exact absurd rfl hx
      | 3, _, _ => rfl
      | 4, _, _ => rfl
      | 5, _, _ => rfl
      | 6, _, _ => rfl
      | 7, _, _ => rfl
      | 8, _, _ => rfl
      | 9, _, _ => rfl
      | 10, _, _ => rfl
      | 11, _, _ => rfl
      | 12, _, _ => rfl
      | 13, _, _ => rfl
      | 14, _, _ => rfl
      | 15, _, _ => rfl
      | 16, _, _ => rfl
      | 17, _, _ => rfl
      | 18, _, _ => rfl
      | 19, _, _ => rfl
      | 20, _, _ => rfl
      | n + 21, hi, _ => exact absurd hi (by omega)
    show cA1 g (a + i) _ H
    rw [e]
    exact h i hi
theorem dk_set4 {g : KG} {a : Nat} {d : DV} {H H1 : Heap} {k : Nat} {x : Int32} (h : dk g a d H) (h1 : cA1 g (a + 4) (.inl (g.2 0, 6, .inl (upd (d.1 4) k x))) H1) (o1 : ∀ q : Nat, q ≠ (a + 4) → H1[q]? = H[q]?) : dk g a (dset d 4 k x) H1 := by
  intro i hi
  by_cases hx : i = 4
  · subst hx; exact h1
  · refine va_at.kept (H := H) ?_ (o1 (a + i) (by omega))
    have e : dkc g a (dset d 4 k x) i = dkc g a d i := by
      match i, hi, hx with
      | 0, _, _ => rfl
      | 1, _, _ => rfl
      | 2, _, _ => rfl
      | 3, _, _ => rfl
      | 4, _, hx => exact absurd rfl hx
      | 5, _, _ => rfl
      | 6, _, _ => rfl
      | 7, _, _ => rfl
      | 8, _, _ => rfl
      | 9, _, _ => rfl
      | 10, _, _ => rfl
      | 11, _, _ => rfl
      | 12, _, _ => rfl
      | 13, _, _ => rfl
      | 14, _, _ => rfl
      | 15, _, _ => rfl
      | 16, _, _ => rfl
      | 17, _, _ => rfl
      | 18, _, _ => rfl
      | 19, _, _ => rfl
      | 20, _, _ => rfl
      | n + 21, hi, _ => exact absurd hi (by omega)
    show cA1 g (a + i) _ H
    rw [e]
    exact h i hi
theorem dk_set5 {g : KG} {a : Nat} {d : DV} {H H1 : Heap} {k : Nat} {x : Int32} (h : dk g a d H) (h1 : cA1 g (a + 5) (.inl (g.2 0, 6, .inl (upd (d.1 5) k x))) H1) (o1 : ∀ q : Nat, q ≠ (a + 5) → H1[q]? = H[q]?) : dk g a (dset d 5 k x) H1 := by
  intro i hi
  by_cases hx : i = 5
  · subst hx; exact h1
  · refine va_at.kept (H := H) ?_ (o1 (a + i) (by omega))
    have e : dkc g a (dset d 5 k x) i = dkc g a d i := by
      match i, hi, hx with
      | 0, _, _ => rfl
      | 1, _, _ => rfl
      | 2, _, _ => rfl
      | 3, _, _ => rfl
      | 4, _, _ => rfl
      | 5, _, hx => exact absurd rfl hx
      | 6, _, _ => rfl
      | 7, _, _ => rfl
      | 8, _, _ => rfl
      | 9, _, _ => rfl
      | 10, _, _ => rfl
      | 11, _, _ => rfl
      | 12, _, _ => rfl
      | 13, _, _ => rfl
      | 14, _, _ => rfl
      | 15, _, _ => rfl
      | 16, _, _ => rfl
      | 17, _, _ => rfl
      | 18, _, _ => rfl
      | 19, _, _ => rfl
      | 20, _, _ => rfl
      | n + 21, hi, _ => exact absurd hi (by omega)
    show cA1 g (a + i) _ H
    rw [e]
    exact h i hi
theorem dk_set6 {g : KG} {a : Nat} {d : DV} {H H1 : Heap} {k : Nat} {x : Int32} (h : dk g a d H) (h1 : cA1 g (a + 6) (.inl (g.2 0, 6, .inl (upd (d.1 6) k x))) H1) (o1 : ∀ q : Nat, q ≠ (a + 6) → H1[q]? = H[q]?) : dk g a (dset d 6 k x) H1 := by
  intro i hi
  by_cases hx : i = 6
  · subst hx; exact h1
  · refine va_at.kept (H := H) ?_ (o1 (a + i) (by omega))
    have e : dkc g a (dset d 6 k x) i = dkc g a d i := by
      match i, hi, hx with
      | 0, _, _ => rfl
      | 1, _, _ => rfl
      | 2, _, _ => rfl
      | 3, _, _ => rfl
      | 4, _, _ => rfl
      | 5, _, _ => rfl
      | 6, _, hx => exact absurd rfl hx
      | 7, _, _ => rfl
      | 8, _, _ => rfl
      | 9, _, _ => rfl
      | 10, _, _ => rfl
      | 11, _, _ => rfl
      | 12, _, _ => rfl
      | 13, _, _ => rfl
      | 14, _, _ => rfl
      | 15, _, _ => rfl
      | 16, _, _ => rfl
      | 17, _, _ => rfl
      | 18, _, _ => rfl
      | 19, _, _ => rfl
      | 20, _, _ => rfl
      | n + 21, hi, _ => exact absurd hi (by omega)
    show cA1 g (a + i) _ H
    rw [e]
    exact h i hi
theorem dk_set7 {g : KG} {a : Nat} {d : DV} {H H1 : Heap} {k : Nat} {x : Int32} (h : dk g a d H) (h1 : cA1 g (a + 7) (.inl (g.2 0, 6, .inl (upd (d.1 7) k x))) H1) (o1 : ∀ q : Nat, q ≠ (a + 7) → H1[q]? = H[q]?) : dk g a (dset d 7 k x) H1 := by
  intro i hi
  by_cases hx : i = 7
  · subst hx; exact h1
  · refine va_at.kept (H := H) ?_ (o1 (a + i) (by omega))
    have e : dkc g a (dset d 7 k x) i = dkc g a d i := by
      match i, hi, hx with
      | 0, _, _ => rfl
      | 1, _, _ => rfl
      | 2, _, _ => rfl
      | 3, _, _ => rfl
      | 4, _, _ => rfl
      | 5, _, _ => rfl
      | 6, _, _ => rfl
      | 7, _, hx => exact absurd rfl hx
      | 8, _, _ => rfl
      | 9, _, _ => rfl
      | 10, _, _ => rfl
      | 11, _, _ => rfl
      | 12, _, _ => rfl
      | 13, _, _ => rfl
      | 14, _, _ => rfl
      | 15, _, _ => rfl
      | 16, _, _ => rfl
      | 17, _, _ => rfl
      | 18, _, _ => rfl
      | 19, _, _ => rfl
      | 20, _, _ => rfl
      | n + 21, hi, _ => exact absurd hi (by omega)
    show cA1 g (a + i) _ H
    rw [e]
    exact h i hi
theorem dk_set8 {g : KG} {a : Nat} {d : DV} {H H1 : Heap} {k : Nat} {x : Int32} (h : dk g a d H) (h1 : cA1 g (a + 8) (.inl (g.2 0, 12, .inl (upd (d.1 8) k x))) H1) (o1 : ∀ q : Nat, q ≠ (a + 8) → H1[q]? = H[q]?) : dk g a (dset d 8 k x) H1 := by
  intro i hi
  by_cases hx : i = 8
  · subst hx; exact h1
  · refine va_at.kept (H := H) ?_ (o1 (a + i) (by omega))
    have e : dkc g a (dset d 8 k x) i = dkc g a d i := by
      match i, hi, hx with
      | 0, _, _ => rfl
      | 1, _, _ => rfl
      | 2, _, _ => rfl
      | 3, _, _ => rfl
      | 4, _, _ => rfl
      | 5, _, _ => rfl
      | 6, _, _ => rfl
      | 7, _, _ => rfl
      | 8, _, hx => exact absurd rfl hx
      | 9, _, _ => rfl
      | 10, _, _ => rfl
      | 11, _, _ => rfl
      | 12, _, _ => rfl
      | 13, _, _ => rfl
      | 14, _, _ => rfl
      | 15, _, _ => rfl
      | 16, _, _ => rfl
      | 17, _, _ => rfl
      | 18, _, _ => rfl
      | 19, _, _ => rfl
      | 20, _, _ => rfl
      | n + 21, hi, _ => exact absurd hi (by omega)
    show cA1 g (a + i) _ H
    rw [e]
    exact h i hi
theorem dk_set9 {g : KG} {a : Nat} {d : DV} {H H1 : Heap} {k : Nat} {x : Int32} (h : dk g a d H) (h1 : cA1 g (a + 9) (.inl (g.2 0, 12, .inl (upd (d.1 9) k x))) H1) (o1 : ∀ q : Nat, q ≠ (a + 9) → H1[q]? = H[q]?) : dk g a (dset d 9 k x) H1 := by
  intro i hi
  by_cases hx : i = 9
  · subst hx; exact h1
  · refine va_at.kept (H := H) ?_ (o1 (a + i) (by omega))
    have e : dkc g a (dset d 9 k x) i = dkc g a d i := by
      match i, hi, hx with
      | 0, _, _ => rfl
      | 1, _, _ => rfl
      | 2, _, _ => rfl
      | 3, _, _ => rfl
      | 4, _, _ => rfl
      | 5, _, _ => rfl
      | 6, _, _ => rfl
      | 7, _, _ => rfl
      | 8, _, _ => rfl
      | 9, _, hx => exact absurd rfl hx
      | 10, _, _ => rfl
      | 11, _, _ => rfl
      | 12, _, _ => rfl
      | 13, _, _ => rfl
      | 14, _, _ => rfl
      | 15, _, _ => rfl
      | 16, _, _ => rfl
      | 17, _, _ => rfl
      | 18, _, _ => rfl
      | 19, _, _ => rfl
      | 20, _, _ => rfl
      | n + 21, hi, _ => exact absurd hi (by omega)
    show cA1 g (a + i) _ H
    rw [e]
    exact h i hi
theorem dk_set10 {g : KG} {a : Nat} {d : DV} {H H1 : Heap} {k : Nat} {x : Int32} (h : dk g a d H) (h1 : cA1 g (a + 10) (.inl (g.2 0, 12, .inl (upd (d.1 10) k x))) H1) (o1 : ∀ q : Nat, q ≠ (a + 10) → H1[q]? = H[q]?) : dk g a (dset d 10 k x) H1 := by
  intro i hi
  by_cases hx : i = 10
  · subst hx; exact h1
  · refine va_at.kept (H := H) ?_ (o1 (a + i) (by omega))
    have e : dkc g a (dset d 10 k x) i = dkc g a d i := by
      match i, hi, hx with
      | 0, _, _ => rfl
      | 1, _, _ => rfl
      | 2, _, _ => rfl
      | 3, _, _ => rfl
      | 4, _, _ => rfl
      | 5, _, _ => rfl
      | 6, _, _ => rfl
      | 7, _, _ => rfl
      | 8, _, _ => rfl
      | 9, _, _ => rfl
      | 10, _, hx => exact absurd rfl hx
      | 11, _, _ => rfl
      | 12, _, _ => rfl
      | 13, _, _ => rfl
      | 14, _, _ => rfl
      | 15, _, _ => rfl
      | 16, _, _ => rfl
      | 17, _, _ => rfl
      | 18, _, _ => rfl
      | 19, _, _ => rfl
      | 20, _, _ => rfl
      | n + 21, hi, _ => exact absurd hi (by omega)
    show cA1 g (a + i) _ H
    rw [e]
    exact h i hi
theorem dk_set12 {g : KG} {a : Nat} {d : DV} {H H1 : Heap} {k : Nat} {x : Int32} (h : dk g a d H) (h1 : cA1 g (a + 12) (.inl (g.2 0, 20, .inl (upd (d.1 12) k x))) H1) (o1 : ∀ q : Nat, q ≠ (a + 12) → H1[q]? = H[q]?) : dk g a (dset d 12 k x) H1 := by
  intro i hi
  by_cases hx : i = 12
  · subst hx; exact h1
  · refine va_at.kept (H := H) ?_ (o1 (a + i) (by omega))
    have e : dkc g a (dset d 12 k x) i = dkc g a d i := by
      match i, hi, hx with
      | 0, _, _ => rfl
      | 1, _, _ => rfl
      | 2, _, _ => rfl
      | 3, _, _ => rfl
      | 4, _, _ => rfl
      | 5, _, _ => rfl
      | 6, _, _ => rfl
      | 7, _, _ => rfl
      | 8, _, _ => rfl
      | 9, _, _ => rfl
      | 10, _, _ => rfl
      | 11, _, _ => rfl
      | 12, _, hx => exact absurd rfl hx
      | 13, _, _ => rfl
      | 14, _, _ => rfl
      | 15, _, _ => rfl
      | 16, _, _ => rfl
      | 17, _, _ => rfl
      | 18, _, _ => rfl
      | 19, _, _ => rfl
      | 20, _, _ => rfl
      | n + 21, hi, _ => exact absurd hi (by omega)
    show cA1 g (a + i) _ H
    rw [e]
    exact h i hi
theorem dk_set13 {g : KG} {a : Nat} {d : DV} {H H1 : Heap} {k : Nat} {x : Int32} (h : dk g a d H) (h1 : cA1 g (a + 13) (.inl (g.2 0, 20, .inl (upd (d.1 13) k x))) H1) (o1 : ∀ q : Nat, q ≠ (a + 13) → H1[q]? = H[q]?) : dk g a (dset d 13 k x) H1 := by
  intro i hi
  by_cases hx : i = 13
  · subst hx; exact h1
  · refine va_at.kept (H := H) ?_ (o1 (a + i) (by omega))
    have e : dkc g a (dset d 13 k x) i = dkc g a d i := by
      match i, hi, hx with
      | 0, _, _ => rfl
      | 1, _, _ => rfl
      | 2, _, _ => rfl
      | 3, _, _ => rfl
      | 4, _, _ => rfl
      | 5, _, _ => rfl
      | 6, _, _ => rfl
      | 7, _, _ => rfl
      | 8, _, _ => rfl
      | 9, _, _ => rfl
      | 10, _, _ => rfl
      | 11, _, _ => rfl
      | 12, _, _ => rfl
      | 13, _, hx => exact absurd rfl hx
      | 14, _, _ => rfl
      | 15, _, _ => rfl
      | 16, _, _ => rfl
      | 17, _, _ => rfl
      | 18, _, _ => rfl
      | 19, _, _ => rfl
      | 20, _, _ => rfl
      | n + 21, hi, _ => exact absurd hi (by omega)
    show cA1 g (a + i) _ H
    rw [e]
    exact h i hi
theorem dk_set14 {g : KG} {a : Nat} {d : DV} {H H1 : Heap} {k : Nat} {x : Int32} (h : dk g a d H) (h1 : cA1 g (a + 14) (.inl (g.2 0, 20, .inl (upd (d.1 14) k x))) H1) (o1 : ∀ q : Nat, q ≠ (a + 14) → H1[q]? = H[q]?) : dk g a (dset d 14 k x) H1 := by
  intro i hi
  by_cases hx : i = 14
  · subst hx; exact h1
  · refine va_at.kept (H := H) ?_ (o1 (a + i) (by omega))
    have e : dkc g a (dset d 14 k x) i = dkc g a d i := by
      match i, hi, hx with
      | 0, _, _ => rfl
      | 1, _, _ => rfl
      | 2, _, _ => rfl
      | 3, _, _ => rfl
      | 4, _, _ => rfl
      | 5, _, _ => rfl
      | 6, _, _ => rfl
      | 7, _, _ => rfl
      | 8, _, _ => rfl
      | 9, _, _ => rfl
      | 10, _, _ => rfl
      | 11, _, _ => rfl
      | 12, _, _ => rfl
      | 13, _, _ => rfl
      | 14, _, hx => exact absurd rfl hx
      | 15, _, _ => rfl
      | 16, _, _ => rfl
      | 17, _, _ => rfl
      | 18, _, _ => rfl
      | 19, _, _ => rfl
      | 20, _, _ => rfl
      | n + 21, hi, _ => exact absurd hi (by omega)
    show cA1 g (a + i) _ H
    rw [e]
    exact h i hi
theorem dk_set15 {g : KG} {a : Nat} {d : DV} {H H1 : Heap} {k : Nat} {x : Int32} (h : dk g a d H) (h1 : cA1 g (a + 15) (.inl (g.2 0, 20, .inl (upd (d.1 15) k x))) H1) (o1 : ∀ q : Nat, q ≠ (a + 15) → H1[q]? = H[q]?) : dk g a (dset d 15 k x) H1 := by
  intro i hi
  by_cases hx : i = 15
  · subst hx; exact h1
  · refine va_at.kept (H := H) ?_ (o1 (a + i) (by omega))
    have e : dkc g a (dset d 15 k x) i = dkc g a d i := by
      match i, hi, hx with
      | 0, _, _ => rfl
      | 1, _, _ => rfl
      | 2, _, _ => rfl
      | 3, _, _ => rfl
      | 4, _, _ => rfl
      | 5, _, _ => rfl
      | 6, _, _ => rfl
      | 7, _, _ => rfl
      | 8, _, _ => rfl
      | 9, _, _ => rfl
      | 10, _, _ => rfl
      | 11, _, _ => rfl
      | 12, _, _ => rfl
      | 13, _, _ => rfl
      | 14, _, _ => rfl
      | 15, _, hx => exact absurd rfl hx
      | 16, _, _ => rfl
      | 17, _, _ => rfl
      | 18, _, _ => rfl
      | 19, _, _ => rfl
      | 20, _, _ => rfl
      | n + 21, hi, _ => exact absurd hi (by omega)
    show cA1 g (a + i) _ H
    rw [e]
    exact h i hi
theorem dk_set16 {g : KG} {a : Nat} {d : DV} {H H1 : Heap} {k : Nat} {x : Int32} (h : dk g a d H) (h1 : cA1 g (a + 16) (.inl (g.2 0, 20, .inl (upd (d.1 16) k x))) H1) (o1 : ∀ q : Nat, q ≠ (a + 16) → H1[q]? = H[q]?) : dk g a (dset d 16 k x) H1 := by
  intro i hi
  by_cases hx : i = 16
  · subst hx; exact h1
  · refine va_at.kept (H := H) ?_ (o1 (a + i) (by omega))
    have e : dkc g a (dset d 16 k x) i = dkc g a d i := by
      match i, hi, hx with
      | 0, _, _ => rfl
      | 1, _, _ => rfl
      | 2, _, _ => rfl
      | 3, _, _ => rfl
      | 4, _, _ => rfl
      | 5, _, _ => rfl
      | 6, _, _ => rfl
      | 7, _, _ => rfl
      | 8, _, _ => rfl
      | 9, _, _ => rfl
      | 10, _, _ => rfl
      | 11, _, _ => rfl
      | 12, _, _ => rfl
      | 13, _, _ => rfl
      | 14, _, _ => rfl
      | 15, _, _ => rfl
      | 16, _, hx => exact absurd rfl hx
      | 17, _, _ => rfl
      | 18, _, _ => rfl
      | 19, _, _ => rfl
      | 20, _, _ => rfl
      | n + 21, hi, _ => exact absurd hi (by omega)
    show cA1 g (a + i) _ H
    rw [e]
    exact h i hi
theorem dk_set17 {g : KG} {a : Nat} {d : DV} {H H1 : Heap} {k : Nat} {x : Int32} (h : dk g a d H) (h1 : cA1 g (a + 17) (.inl (g.2 0, 20, .inl (upd (d.1 17) k x))) H1) (o1 : ∀ q : Nat, q ≠ (a + 17) → H1[q]? = H[q]?) : dk g a (dset d 17 k x) H1 := by
  intro i hi
  by_cases hx : i = 17
  · subst hx; exact h1
  · refine va_at.kept (H := H) ?_ (o1 (a + i) (by omega))
    have e : dkc g a (dset d 17 k x) i = dkc g a d i := by
      match i, hi, hx with
      | 0, _, _ => rfl
      | 1, _, _ => rfl
      | 2, _, _ => rfl
      | 3, _, _ => rfl
      | 4, _, _ => rfl
      | 5, _, _ => rfl
      | 6, _, _ => rfl
      | 7, _, _ => rfl
      | 8, _, _ => rfl
      | 9, _, _ => rfl
      | 10, _, _ => rfl
      | 11, _, _ => rfl
      | 12, _, _ => rfl
      | 13, _, _ => rfl
      | 14, _, _ => rfl
      | 15, _, _ => rfl
      | 16, _, _ => rfl
      | 17, _, hx => exact absurd rfl hx
      | 18, _, _ => rfl
      | 19, _, _ => rfl
      | 20, _, _ => rfl
      | n + 21, hi, _ => exact absurd hi (by omega)
    show cA1 g (a + i) _ H
    rw [e]
    exact h i hi
theorem dk_set18 {g : KG} {a : Nat} {d : DV} {H H1 : Heap} {k : Nat} {x : Int32} (h : dk g a d H) (h1 : cA1 g (a + 18) (.inl (g.2 0, 20, .inl (upd (d.1 18) k x))) H1) (o1 : ∀ q : Nat, q ≠ (a + 18) → H1[q]? = H[q]?) : dk g a (dset d 18 k x) H1 := by
  intro i hi
  by_cases hx : i = 18
  · subst hx; exact h1
  · refine va_at.kept (H := H) ?_ (o1 (a + i) (by omega))
    have e : dkc g a (dset d 18 k x) i = dkc g a d i := by
      match i, hi, hx with
      | 0, _, _ => rfl
      | 1, _, _ => rfl
      | 2, _, _ => rfl
      | 3, _, _ => rfl
      | 4, _, _ => rfl
      | 5, _, _ => rfl
      | 6, _, _ => rfl
      | 7, _, _ => rfl
      | 8, _, _ => rfl
      | 9, _, _ => rfl
      | 10, _, _ => rfl
      | 11, _, _ => rfl
      | 12, _, _ => rfl
      | 13, _, _ => rfl
      | 14, _, _ => rfl
      | 15, _, _ => rfl
      | 16, _, _ => rfl
      | 17, _, _ => rfl
      | 18, _, hx => exact absurd rfl hx
      | 19, _, _ => rfl
      | 20, _, _ => rfl
      | n + 21, hi, _ => exact absurd hi (by omega)
    show cA1 g (a + i) _ H
    rw [e]
    exact h i hi
theorem dk_set19 {g : KG} {a : Nat} {d : DV} {H H1 : Heap} {k : Nat} {x : Int32} (h : dk g a d H) (h1 : cA1 g (a + 19) (.inl (g.2 0, 20, .inl (upd (d.1 19) k x))) H1) (o1 : ∀ q : Nat, q ≠ (a + 19) → H1[q]? = H[q]?) : dk g a (dset d 19 k x) H1 := by
  intro i hi
  by_cases hx : i = 19
  · subst hx; exact h1
  · refine va_at.kept (H := H) ?_ (o1 (a + i) (by omega))
    have e : dkc g a (dset d 19 k x) i = dkc g a d i := by
      match i, hi, hx with
      | 0, _, _ => rfl
      | 1, _, _ => rfl
      | 2, _, _ => rfl
      | 3, _, _ => rfl
      | 4, _, _ => rfl
      | 5, _, _ => rfl
      | 6, _, _ => rfl
      | 7, _, _ => rfl
      | 8, _, _ => rfl
      | 9, _, _ => rfl
      | 10, _, _ => rfl
      | 11, _, _ => rfl
      | 12, _, _ => rfl
      | 13, _, _ => rfl
      | 14, _, _ => rfl
      | 15, _, _ => rfl
      | 16, _, _ => rfl
      | 17, _, _ => rfl
      | 18, _, _ => rfl
      | 19, _, hx => exact absurd rfl hx
      | 20, _, _ => rfl
      | n + 21, hi, _ => exact absurd hi (by omega)
    show cA1 g (a + i) _ H
    rw [e]
    exact h i hi
theorem dk_put0_0 {g : KG} {a : Nat} {d : DV} {H H1 : Heap} {x : Int32} (h : dk g a d H) (h1 : cA1 g a (.inr (2, [.int x, .ref (a + 1), .ref (a + 2), .ref (a + 3), .ref (a + 11), .ref (a + 20)])) H1) (o1 : ∀ q : Nat, q ≠ a → H1[q]? = H[q]?) : dk g a (dset d 0 0 x) H1 := by
  intro i hi
  by_cases hx : i = 0
  · subst hx; exact h1
  · refine va_at.kept (H := H) ?_ (o1 (a + i) (by omega))
    have e : dkc g a (dset d 0 0 x) i = dkc g a d i := by
      match i, hi, hx with
      | 0, _, hx => exact absurd rfl hx
      | 1, _, _ => rfl
      | 2, _, _ => rfl
      | 3, _, _ => rfl
      | 4, _, _ => rfl
      | 5, _, _ => rfl
      | 6, _, _ => rfl
      | 7, _, _ => rfl
      | 8, _, _ => rfl
      | 9, _, _ => rfl
      | 10, _, _ => rfl
      | 11, _, _ => rfl
      | 12, _, _ => rfl
      | 13, _, _ => rfl
      | 14, _, _ => rfl
      | 15, _, _ => rfl
      | 16, _, _ => rfl
      | 17, _, _ => rfl
      | 18, _, _ => rfl
      | 19, _, _ => rfl
      | 20, _, _ => rfl
      | n + 21, hi, _ => exact absurd hi (by omega)
    show cA1 g (a + i) _ H
    rw [e]
    exact h i hi
theorem dk_put3_4 {g : KG} {a : Nat} {d : DV} {H H1 : Heap} {x : Int32} (h : dk g a d H) (h1 : cA1 g (a + 3) (.inr (5, [.ref (a + 4), .ref (a + 5), .ref (a + 6), .ref (a + 7), .int x, .ref (a + 8), .ref (a + 9), .ref (a + 10)])) H1) (o1 : ∀ q : Nat, q ≠ (a + 3) → H1[q]? = H[q]?) : dk g a (dset d 3 0 x) H1 := by
  intro i hi
  by_cases hx : i = 3
  · subst hx; exact h1
  · refine va_at.kept (H := H) ?_ (o1 (a + i) (by omega))
    have e : dkc g a (dset d 3 0 x) i = dkc g a d i := by
      match i, hi, hx with
      | 0, _, _ => rfl
      | 1, _, _ => rfl
      | 2, _, _ => rfl
      | 3, _, hx => exact absurd rfl hx
      | 4, _, _ => rfl
      | 5, _, _ => rfl
      | 6, _, _ => rfl
      | 7, _, _ => rfl
      | 8, _, _ => rfl
      | 9, _, _ => rfl
      | 10, _, _ => rfl
      | 11, _, _ => rfl
      | 12, _, _ => rfl
      | 13, _, _ => rfl
      | 14, _, _ => rfl
      | 15, _, _ => rfl
      | 16, _, _ => rfl
      | 17, _, _ => rfl
      | 18, _, _ => rfl
      | 19, _, _ => rfl
      | 20, _, _ => rfl
      | n + 21, hi, _ => exact absurd hi (by omega)
    show cA1 g (a + i) _ H
    rw [e]
    exact h i hi
theorem dk_put11_0 {g : KG} {a : Nat} {d : DV} {H H1 : Heap} {x : Int32} (h : dk g a d H) (h1 : cA1 g (a + 11) (.inr (4, [.int x, .ref (a + 12), .ref (a + 13), .ref (a + 14), .ref (a + 15), .ref (a + 16), .ref (a + 17), .ref (a + 18), .ref (a + 19)])) H1) (o1 : ∀ q : Nat, q ≠ (a + 11) → H1[q]? = H[q]?) : dk g a (dset d 11 0 x) H1 := by
  intro i hi
  by_cases hx : i = 11
  · subst hx; exact h1
  · refine va_at.kept (H := H) ?_ (o1 (a + i) (by omega))
    have e : dkc g a (dset d 11 0 x) i = dkc g a d i := by
      match i, hi, hx with
      | 0, _, _ => rfl
      | 1, _, _ => rfl
      | 2, _, _ => rfl
      | 3, _, _ => rfl
      | 4, _, _ => rfl
      | 5, _, _ => rfl
      | 6, _, _ => rfl
      | 7, _, _ => rfl
      | 8, _, _ => rfl
      | 9, _, _ => rfl
      | 10, _, _ => rfl
      | 11, _, hx => exact absurd rfl hx
      | 12, _, _ => rfl
      | 13, _, _ => rfl
      | 14, _, _ => rfl
      | 15, _, _ => rfl
      | 16, _, _ => rfl
      | 17, _, _ => rfl
      | 18, _, _ => rfl
      | 19, _, _ => rfl
      | 20, _, _ => rfl
      | n + 21, hi, _ => exact absurd hi (by omega)
    show cA1 g (a + i) _ H
    rw [e]
    exact h i hi
theorem dk_put20_0 {g : KG} {a : Nat} {d : DV} {H H1 : Heap} {x : Int32} (h : dk g a d H) (h1 : cA1 g (a + 20) (.inr (1, [.int x, .int (d.1 20 1), .int (d.1 20 2), .int (d.1 20 3), .int (d.1 20 4), .int (d.1 20 5)])) H1) (o1 : ∀ q : Nat, q ≠ (a + 20) → H1[q]? = H[q]?) : dk g a (dset d 20 0 x) H1 := by
  intro i hi
  by_cases hx : i = 20
  · subst hx; exact h1
  · refine va_at.kept (H := H) ?_ (o1 (a + i) (by omega))
    have e : dkc g a (dset d 20 0 x) i = dkc g a d i := by
      match i, hi, hx with
      | 0, _, _ => rfl
      | 1, _, _ => rfl
      | 2, _, _ => rfl
      | 3, _, _ => rfl
      | 4, _, _ => rfl
      | 5, _, _ => rfl
      | 6, _, _ => rfl
      | 7, _, _ => rfl
      | 8, _, _ => rfl
      | 9, _, _ => rfl
      | 10, _, _ => rfl
      | 11, _, _ => rfl
      | 12, _, _ => rfl
      | 13, _, _ => rfl
      | 14, _, _ => rfl
      | 15, _, _ => rfl
      | 16, _, _ => rfl
      | 17, _, _ => rfl
      | 18, _, _ => rfl
      | 19, _, _ => rfl
      | 20, _, hx => exact absurd rfl hx
      | n + 21, hi, _ => exact absurd hi (by omega)
    show cA1 g (a + i) _ H
    rw [e]
    exact h i hi
theorem dk_put20_1 {g : KG} {a : Nat} {d : DV} {H H1 : Heap} {x : Int32} (h : dk g a d H) (h1 : cA1 g (a + 20) (.inr (1, [.int (d.1 20 0), .int x, .int (d.1 20 2), .int (d.1 20 3), .int (d.1 20 4), .int (d.1 20 5)])) H1) (o1 : ∀ q : Nat, q ≠ (a + 20) → H1[q]? = H[q]?) : dk g a (dset d 20 1 x) H1 := by
  intro i hi
  by_cases hx : i = 20
  · subst hx; exact h1
  · refine va_at.kept (H := H) ?_ (o1 (a + i) (by omega))
    have e : dkc g a (dset d 20 1 x) i = dkc g a d i := by
      match i, hi, hx with
      | 0, _, _ => rfl
      | 1, _, _ => rfl
      | 2, _, _ => rfl
      | 3, _, _ => rfl
      | 4, _, _ => rfl
      | 5, _, _ => rfl
      | 6, _, _ => rfl
      | 7, _, _ => rfl
      | 8, _, _ => rfl
      | 9, _, _ => rfl
      | 10, _, _ => rfl
      | 11, _, _ => rfl
      | 12, _, _ => rfl
      | 13, _, _ => rfl
      | 14, _, _ => rfl
      | 15, _, _ => rfl
      | 16, _, _ => rfl
      | 17, _, _ => rfl
      | 18, _, _ => rfl
      | 19, _, _ => rfl
      | 20, _, hx => exact absurd rfl hx
      | n + 21, hi, _ => exact absurd hi (by omega)
    show cA1 g (a + i) _ H
    rw [e]
    exact h i hi
theorem dk_put20_2 {g : KG} {a : Nat} {d : DV} {H H1 : Heap} {x : Int32} (h : dk g a d H) (h1 : cA1 g (a + 20) (.inr (1, [.int (d.1 20 0), .int (d.1 20 1), .int x, .int (d.1 20 3), .int (d.1 20 4), .int (d.1 20 5)])) H1) (o1 : ∀ q : Nat, q ≠ (a + 20) → H1[q]? = H[q]?) : dk g a (dset d 20 2 x) H1 := by
  intro i hi
  by_cases hx : i = 20
  · subst hx; exact h1
  · refine va_at.kept (H := H) ?_ (o1 (a + i) (by omega))
    have e : dkc g a (dset d 20 2 x) i = dkc g a d i := by
      match i, hi, hx with
      | 0, _, _ => rfl
      | 1, _, _ => rfl
      | 2, _, _ => rfl
      | 3, _, _ => rfl
      | 4, _, _ => rfl
      | 5, _, _ => rfl
      | 6, _, _ => rfl
      | 7, _, _ => rfl
      | 8, _, _ => rfl
      | 9, _, _ => rfl
      | 10, _, _ => rfl
      | 11, _, _ => rfl
      | 12, _, _ => rfl
      | 13, _, _ => rfl
      | 14, _, _ => rfl
      | 15, _, _ => rfl
      | 16, _, _ => rfl
      | 17, _, _ => rfl
      | 18, _, _ => rfl
      | 19, _, _ => rfl
      | 20, _, hx => exact absurd rfl hx
      | n + 21, hi, _ => exact absurd hi (by omega)
    show cA1 g (a + i) _ H
    rw [e]
    exact h i hi
theorem dk_put20_3 {g : KG} {a : Nat} {d : DV} {H H1 : Heap} {x : Int32} (h : dk g a d H) (h1 : cA1 g (a + 20) (.inr (1, [.int (d.1 20 0), .int (d.1 20 1), .int (d.1 20 2), .int x, .int (d.1 20 4), .int (d.1 20 5)])) H1) (o1 : ∀ q : Nat, q ≠ (a + 20) → H1[q]? = H[q]?) : dk g a (dset d 20 3 x) H1 := by
  intro i hi
  by_cases hx : i = 20
  · subst hx; exact h1
  · refine va_at.kept (H := H) ?_ (o1 (a + i) (by omega))
    have e : dkc g a (dset d 20 3 x) i = dkc g a d i := by
      match i, hi, hx with
      | 0, _, _ => rfl
      | 1, _, _ => rfl
      | 2, _, _ => rfl
      | 3, _, _ => rfl
      | 4, _, _ => rfl
      | 5, _, _ => rfl
      | 6, _, _ => rfl
      | 7, _, _ => rfl
      | 8, _, _ => rfl
      | 9, _, _ => rfl
      | 10, _, _ => rfl
      | 11, _, _ => rfl
      | 12, _, _ => rfl
      | 13, _, _ => rfl
      | 14, _, _ => rfl
      | 15, _, _ => rfl
      | 16, _, _ => rfl
      | 17, _, _ => rfl
      | 18, _, _ => rfl
      | 19, _, _ => rfl
      | 20, _, hx => exact absurd rfl hx
      | n + 21, hi, _ => exact absurd hi (by omega)
    show cA1 g (a + i) _ H
    rw [e]
    exact h i hi
theorem dk_put20_4 {g : KG} {a : Nat} {d : DV} {H H1 : Heap} {x : Int32} (h : dk g a d H) (h1 : cA1 g (a + 20) (.inr (1, [.int (d.1 20 0), .int (d.1 20 1), .int (d.1 20 2), .int (d.1 20 3), .int x, .int (d.1 20 5)])) H1) (o1 : ∀ q : Nat, q ≠ (a + 20) → H1[q]? = H[q]?) : dk g a (dset d 20 4 x) H1 := by
  intro i hi
  by_cases hx : i = 20
  · subst hx; exact h1
  · refine va_at.kept (H := H) ?_ (o1 (a + i) (by omega))
    have e : dkc g a (dset d 20 4 x) i = dkc g a d i := by
      match i, hi, hx with
      | 0, _, _ => rfl
      | 1, _, _ => rfl
      | 2, _, _ => rfl
      | 3, _, _ => rfl
      | 4, _, _ => rfl
      | 5, _, _ => rfl
      | 6, _, _ => rfl
      | 7, _, _ => rfl
      | 8, _, _ => rfl
      | 9, _, _ => rfl
      | 10, _, _ => rfl
      | 11, _, _ => rfl
      | 12, _, _ => rfl
      | 13, _, _ => rfl
      | 14, _, _ => rfl
      | 15, _, _ => rfl
      | 16, _, _ => rfl
      | 17, _, _ => rfl
      | 18, _, _ => rfl
      | 19, _, _ => rfl
      | 20, _, hx => exact absurd rfl hx
      | n + 21, hi, _ => exact absurd hi (by omega)
    show cA1 g (a + i) _ H
    rw [e]
    exact h i hi
theorem dk_put20_5 {g : KG} {a : Nat} {d : DV} {H H1 : Heap} {x : Int32} (h : dk g a d H) (h1 : cA1 g (a + 20) (.inr (1, [.int (d.1 20 0), .int (d.1 20 1), .int (d.1 20 2), .int (d.1 20 3), .int (d.1 20 4), .int x])) H1) (o1 : ∀ q : Nat, q ≠ (a + 20) → H1[q]? = H[q]?) : dk g a (dset d 20 5 x) H1 := by
  intro i hi
  by_cases hx : i = 20
  · subst hx; exact h1
  · refine va_at.kept (H := H) ?_ (o1 (a + i) (by omega))
    have e : dkc g a (dset d 20 5 x) i = dkc g a d i := by
      match i, hi, hx with
      | 0, _, _ => rfl
      | 1, _, _ => rfl
      | 2, _, _ => rfl
      | 3, _, _ => rfl
      | 4, _, _ => rfl
      | 5, _, _ => rfl
      | 6, _, _ => rfl
      | 7, _, _ => rfl
      | 8, _, _ => rfl
      | 9, _, _ => rfl
      | 10, _, _ => rfl
      | 11, _, _ => rfl
      | 12, _, _ => rfl
      | 13, _, _ => rfl
      | 14, _, _ => rfl
      | 15, _, _ => rfl
      | 16, _, _ => rfl
      | 17, _, _ => rfl
      | 18, _, _ => rfl
      | 19, _, _ => rfl
      | 20, _, hx => exact absurd rfl hx
      | n + 21, hi, _ => exact absurd hi (by omega)
    show cA1 g (a + i) _ H
    rw [e]
    exact h i hi
/-- a desk whose lists can be read: how many orders, how many sets, the faults and the parts of the orders -/
def no (d : DV) : Nat := (d.1 3 0).toNatClampNeg
def nm (d : DV) : Nat := (d.1 11 0).toNatClampNeg
def fl (d : DV) (k : Nat) : Nat := (d.1 12 k).toNatClampNeg
def opa (d : DV) (i : Nat) : Nat := (d.1 8 i).toNatClampNeg
def sf (d : DV) : Prop := (d.1 3 0 = nI (no d) ∧ no d ≤ 12) ∧ (d.1 11 0 = nI (nm d) ∧ nm d ≤ 20) ∧ (∀ k, k < nm d → d.1 12 k = nI (fl d k) ∧ fl d k < 5) ∧ (∀ i, i < no d → d.1 8 i = nI (opa d i) ∧ opa d i < 6)
theorem sf.to {d d' : DV} (h : sf d) (h3 : d'.1 3 = d.1 3) (h11 : d'.1 11 = d.1 11) (h12 : d'.1 12 = d.1 12) (h8 : d'.1 8 = d.1 8) : sf d' := by
  unfold sf no nm fl opa at *
  rw [h3, h11, h12, h8]
  exact h
