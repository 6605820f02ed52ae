/-! Small facts of both sides: fractions, places. -/
theorem tel_s {c : Int} (c0 : 0 < c) (x y w : Int) : tel (c * x) (c * y) w = frac x y w := by
  have e : ((Int.gcd (c * x) (c * y) : Nat) : Int) = c * ((Int.gcd x y : Nat) : Int) := by
    rw [show Int.gcd (c * x) (c * y) = c.natAbs * Int.gcd x y from Int.gcd_mul_left .., Int.natCast_mul, Int.natAbs_of_nonneg (Int.le_of_lt c0)]
  unfold tel frac
  rw [e, Int.mul_ediv_mul_of_pos _ _ c0, Int.mul_ediv_mul_of_pos _ _ c0]
theorem tel_1 (x y w : Int) : tel x y w = frac x y w := rfl
/-- 0 by anything above 0 -/
theorem tel_0 {y : Int} (y0 : 0 < y) {w : Int} (w0 : 0 ≤ w) (w1 : w ≤ 1) : tel 0 y w = w := by
  have e : ((Int.gcd 0 y : Nat) : Int) = y := by rw [Int.gcd_zero_left, Int.natAbs_of_nonneg (Int.le_of_lt y0)]
  unfold tel
  rw [e, Int.zero_ediv, Int.ediv_self (by omega), if_pos ⟨by decide, by decide⟩]
  rcases (show w = 0 ∨ w = 1 by omega) with q | q <;> rw [q] <;> rfl
theorem oD_m {p : Int} (h : p < 10) : oD p = mD p := by
  unfold oD mD
  repeat' split
  all_goals omega
theorem oT_m {p : Int} (h : p < 10) : oT p = 16 * mX p + mY p := by
  show 16 * (p - oF (oD p)) + (oD p - (p - oF (oD p))) = 16 * (p - mD p * (mD p + 1) / 2) + (mD p - (p - mD p * (mD p + 1) / 2))
  rw [oD_m h]
  rfl
theorem oP_m (a b : Int) {g : Int} : oP a b g = if 0 ≤ a ∧ 0 ≤ b ∧ a + b ≤ g then mN a b else -1 := by
  unfold oP
  by_cases h : 0 ≤ a ∧ 0 ≤ b ∧ a + b ≤ g
  · rw [if_neg (by omega), if_pos h]
    rfl
  · rw [if_pos (by omega), if_neg h]
theorem mN_9 {a b : Int} (h : 0 ≤ a ∧ 0 ≤ b ∧ a + b ≤ 3) : 0 ≤ mN a b ∧ mN a b < 10 := by
  have hs : a + b = 0 ∨ a + b = 1 ∨ a + b = 2 ∨ a + b = 3 := by omega
  unfold mN
  rcases hs with e | e | e | e <;> rw [e] <;> omega
theorem mN_4 {a b : Int} (h : 0 ≤ a ∧ 0 ≤ b ∧ a + b = 4) : 10 ≤ mN a b := by
  unfold mN
  rw [h.2.2]
  omega
/-- whole numbers below 2^930 have room -/
theorem bB_24 {x : Int} (h : x ≤ 2 ^ 930) : x < bB ^ 598 := by
  have e : bB ^ 598 = 2 ^ (28 * 598) := by
    rw [← two_pow]
    rfl
  rw [e]
  exact Int.lt_of_le_of_lt h (two_m (by omega))
/-- a cell of a form: by one factor the reference's -/
theorem frm_s {D F : Int} (D0 : 0 < D) {i j e : Nat} (hi : i ≤ 2) (hj : j ≤ 2) (w : Int) : tel (D ^ (2 - i) * (D ^ (2 - j) * F)) ((D * D) ^ (e + 2)) w = frac F (D ^ (2 * e + i + j)) w := by
  have e1 : D ^ (2 - i) * (D ^ (2 - j) * F) = (D ^ ((2 - i) + (2 - j))) * F := by
    rw [Int.pow_add, Int.mul_assoc]
  have e2 : (D * D) ^ (e + 2) = (D ^ ((2 - i) + (2 - j))) * D ^ (2 * e + i + j) := by
    rw [← Int.pow_add, show (2 - i) + (2 - j) + (2 * e + i + j) = 2 * (e + 2) by omega, Int.pow_mul]
    congr 1
    rw [Int.pow_succ, Int.pow_succ]
    simp
  rw [e1, e2]
  exact tel_s (Int.pow_pos D0) _ _ _
theorem w32_s {x : Int} (h : -1000 ≤ x) (h2 : x ≤ 1000) : w32 x := by
  constructor <;> omega
