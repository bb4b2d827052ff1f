/-! THE LAW's invariant: numbers and sums -/
theorem i_add {a b : Int32} (h1 : -2147483648 ≤ a.toInt + b.toInt) (h2 : a.toInt + b.toInt < 2147483648) : (a + b).toInt = a.toInt + b.toInt := by
  rw [Int32.toInt_add]; exact Int.bmod_eq_of_le (by omega) (by omega)
theorem i_sub {a b : Int32} (h1 : -2147483648 ≤ a.toInt - b.toInt) (h2 : a.toInt - b.toInt < 2147483648) : (a - b).toInt = a.toInt - b.toInt := by
  rw [Int32.toInt_sub]; exact Int.bmod_eq_of_le (by omega) (by omega)
theorem i_nI {n : Nat} (h : n < 2147483648) : (nI n).toInt = n := Int32.toInt_ofNat_of_lt h
theorem i_le {a b : Int32} : a ≤ b ↔ a.toInt ≤ b.toInt := Int32.le_iff_toInt_le
theorem i_lt {a b : Int32} : a < b ↔ a.toInt < b.toInt := Int32.lt_iff_toInt_lt
theorem i_eq {a b : Int32} : a = b ↔ a.toInt = b.toInt := ⟨fun h => congrArg _ h, fun h => Int32.toInt.inj h⟩
theorem i_ne {a b : Int32} : a ≠ b ↔ a.toInt ≠ b.toInt := not_congr i_eq
theorem i_nIeq {a : Int32} {n : Nat} (h : a.toInt = n) : a = nI n := by
  have := Int32.toInt_lt a
  refine Int32.toInt.inj ?_
  rw [i_nI (by omega), h]
def sg (g : Nat → Int32) : Nat → Int32
  | 0 => 0
  | n + 1 => sg g n + g n
theorem sg_congr {g g' : Nat → Int32} : ∀ n, (∀ j, j < n → g' j = g j) → sg g' n = sg g n
  | 0, _ => rfl
  | n + 1, h => by rw [sg, sg, sg_congr n (fun j hj => h j (Nat.lt_succ_of_lt hj)), h n (Nat.lt_succ_self n)]
theorem sg_at {g g' : Nat → Int32} {k : Nat} : ∀ n, k < n → (∀ j, j < n → j ≠ k → g' j = g j) → sg g' n = sg g n + (g' k - g k)
  | 0, h, _ => absurd h (Nat.not_lt_zero k)
  | n + 1, hk, h => by
    rw [sg, sg]
    by_cases e : k = n
    · subst e
      rw [sg_congr k (fun j hj => h j (Nat.lt_succ_of_lt hj) (Nat.ne_of_lt hj)), Int32.add_assoc]
      congr 1
      rw [Int32.sub_eq_add_neg, ← Int32.add_assoc, Int32.add_comm (g k) (g' k), Int32.add_assoc, Int32.add_right_neg, Int32.add_zero]
    · rw [sg_at n (by omega) (fun j hj => h j (Nat.lt_succ_of_lt hj)), h n (Nat.lt_succ_self n) (Ne.symm e), Int32.add_assoc, Int32.add_assoc, Int32.add_comm (g n)]
theorem sg_bd {g : Nat → Int32} {B : Nat} : ∀ n, n ≤ 1000 → B ≤ 100000 → (∀ j, j < n → 0 ≤ (g j).toInt ∧ (g j).toInt ≤ B) → 0 ≤ (sg g n).toInt ∧ (sg g n).toInt ≤ n * B
  | 0, _, _, _ => by rw [sg]; exact ⟨by decide, by rw [show (Int32.toInt 0) = 0 from rfl]; omega⟩
  | n + 1, hn, hB, h => by
    have h1 := sg_bd n (by omega) hB (fun j hj => h j (Nat.lt_succ_of_lt hj))
    have h2 := h n (Nat.lt_succ_self n)
    have h3 : (n : Int) * B ≤ 1000 * 100000 := by
      have := Int.ofNat_le.mpr (Nat.mul_le_mul (show n ≤ 1000 by omega) hB)
      rw [Int.natCast_mul, Int.natCast_mul] at this
      exact this
    have h4 : ((n + 1 : Nat) : Int) * B = n * B + B := by rw [Int.natCast_add, Int.natCast_one, Int.add_mul, Int.one_mul]
    rw [sg, i_add (by omega) (by omega), h4]
    omega
def rgg (d : DV) (p : Nat) : Nat → Int32 := fun j => if d.1 18 j = 3 then need (fl d j) p else 0
def dgg (d : DV) : Nat → Int32 := fun j => if d.1 15 j = tHF (fl d j) then 1 else 0
theorem rsm_sg (d : DV) (p : Nat) : ∀ n, rsm d p n = sg (rgg d p) n
  | 0 => rfl
  | n + 1 => by
    rw [rsm, sg, rsm_sg d p n]; unfold rgg
    split
    · rfl
    · exact (Int32.add_zero _).symm
theorem dnn_sg (d : DV) : ∀ n, dnn d n = sg (dgg d) n
  | 0 => rfl
  | n + 1 => by
    rw [dnn, sg, dnn_sg d n]; unfold dgg
    split
    · rfl
    · exact (Int32.add_zero _).symm
theorem wlo_sg (d : DV) : ∀ n, wlo d n = sg (d.1 17) n
  | 0 => rfl
  | n + 1 => by rw [wlo, sg, wlo_sg d n]
theorem need_bd {f p : Nat} (hf : f < 5) (hp : p < 6) : 0 ≤ (need f p).toInt ∧ (need f p).toInt ≤ 2 := by
  rcases need_all f hf p hp with h | h | h <;> rw [h] <;> decide
theorem tHF_bd : ∀ f, f < 5 → 1 ≤ (tHF f).toInt ∧ (tHF f).toInt ≤ 5 := by decide +kernel
theorem upd_at (f : Nat → Int32) (k : Nat) (x : Int32) : upd f k x k = x := if_pos rfl
theorem upd_ne (f : Nat → Int32) {k j : Nat} (x : Int32) (h : j ≠ k) : upd f k x j = f j := if_neg h
