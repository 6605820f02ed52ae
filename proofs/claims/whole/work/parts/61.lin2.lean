/-! Rows of the reference as vectors: what lose and plain make of them. -/
def rv (s : Int → Int) (l : Nat) : lV := fun k => if k < 15 then s (45 * (l : Int) + k) else 0
def wv (s : Int → Int) : lV := fun k => if k < 15 then s (2025 + k) else 0
theorem rv_in {s : Int → Int} {l k : Nat} (h : k < 15) : rv s l k = s (45 * (l : Int) + k) := if_pos h
theorem wv_in {s : Int → Int} {k : Nat} (h : k < 15) : wv s k = s (2025 + k) := if_pos h
def hC1 (s : Int → Int) (a l : Int) : Int := s (45 * l + l) / lG' (s (a + l)) (s (45 * l + l))
def hD1 (s : Int → Int) (a l : Int) : Int := s (a + l) / lG' (s (a + l)) (s (45 * l + l))
theorem hCD {s : Int → Int} {a l : Int} (h : 0 < s (45 * l + l)) : 0 < lG' (s (a + l)) (s (45 * l + l)) ∧ s (45 * l + l) = lG' (s (a + l)) (s (45 * l + l)) * hC1 s a l ∧ s (a + l) = lG' (s (a + l)) (s (45 * l + l)) * hD1 s a l ∧ 0 < hC1 s a l ∧ hC1 s a l * s (a + l) = hD1 s a l * s (45 * l + l) := by
  have g0 : 0 < lG' (s (a + l)) (s (45 * l + l)) := by
    unfold lG'
    have := Int.gcd_pos_of_ne_zero_right (s (a + l)) (show s (45 * l + l) ≠ 0 by omega)
    omega
  have e1 : s (45 * l + l) = lG' (s (a + l)) (s (45 * l + l)) * hC1 s a l := (Int.mul_ediv_cancel' (Int.gcd_dvd_right ..)).symm
  have e2 : s (a + l) = lG' (s (a + l)) (s (45 * l + l)) * hD1 s a l := (Int.mul_ediv_cancel' (Int.gcd_dvd_left ..)).symm
  have e3 : 0 < hC1 s a l := by
    rcases Int.lt_or_le 0 (hC1 s a l) with g | g
    · exact g
    · have := Int.mul_nonneg (show 0 ≤ lG' (s (a + l)) (s (45 * l + l)) by omega) (show 0 ≤ -hC1 s a l by omega)
      rw [Int.mul_neg, ← e1] at this
      omega
  refine ⟨g0, e1, e2, e3, ?_⟩
  generalize lG' (s (a + l)) (s (45 * l + l)) = g at *
  generalize hC1 s a l = C at *
  generalize hD1 s a l = D at *
  rw [e1, e2]
  grind
theorem hS_in {s : Int → Int} {a t : Int} {l j : Nat} (ha : a + t < 2070) (h : 0 < s (45 * (l : Int) + l)) (hz : l < j → rv s l j = 0) (h15 : j < 15) (hj : (j : Int) ≤ t) : hS s a l t (a + j) = hC1 s a l * s (a + j) - hD1 s a l * rv s l j := by
  unfold hS
  split
  · rename_i e
    have hc : hC1 s a l = 1 := by
      unfold hC1 lG'
      rw [e, Int.gcd_zero_left, show ((s (45 * (l : Int) + l)).natAbs : Int) = s (45 * (l : Int) + l) by omega]
      exact Int.ediv_self (by omega)
    have hd : hD1 s a l = 0 := by
      unfold hD1
      rw [e]
      exact Int.zero_ediv _
    rw [hc, hd]
    omega
  · unfold lF lo
    rw [if_neg (by omega), if_neg (by omega), if_neg (by omega), if_neg (by omega), if_pos (by omega), show a + (j : Int) - a = j by omega]
    rw [rv_in h15] at hz ⊢
    show (if (j : Int) ≤ l then s (a + j) * hC1 s a l - s (45 * (l : Int) + j) * hD1 s a l else s (a + j) * hC1 s a l) = _
    rcases Nat.lt_or_ge l j with g | g
    · rw [if_neg (by omega), hz g, Int.mul_zero, Int.mul_comm]
      omega
    · rw [if_pos (by omega), Int.mul_comm (s (a + j)), Int.mul_comm (s (45 * (l : Int) + j))]
theorem hS_out {s : Int → Int} {a l t p : Int} (hp : p < 2070) (h : p < a ∨ a + t < p) : hS s a l t p = s p := by
  unfold hS
  split
  · rfl
  · unfold lF lo
    rw [if_neg (by omega), if_neg (by omega), if_neg (by omega), if_neg (by omega), if_neg (by omega)]
theorem pS_in {s : Int → Int} {a : Int} {l j : Nat} (ha : a + l < 2070) (h : s (a + l) ≠ 0) (hj : j ≤ l) : s (a + j) = pH s a l * pS s a l (a + j) := by
  have e : pS s a l (a + j) = s (a + j) / pH s a l := by
    unfold pS pl
    rw [if_neg (by omega), if_pos (by omega)]
  have d := zG_d (s := s) (a := a) (n := l + 1) (k := j) (by omega)
  rw [e]
  refine (Int.mul_ediv_cancel' ?_).symm
  unfold pH
  split
  · exact d
  · exact Int.neg_dvd.mpr d
theorem pS_out {s : Int → Int} {a : Int} {l : Nat} {p : Int} (hp : p < 2070) (h : p < a ∨ a + l < p) : pS s a l p = s p := by
  unfold pS pl
  rw [if_neg (by omega), if_neg (by omega)]
theorem pH_n {s : Int → Int} {a : Int} {l : Nat} (h : s (a + l) ≠ 0) : pH s a l ≠ 0 := by
  intro e
  have d := zG_d (s := s) (a := a) (n := l + 1) (k := l) (by omega)
  have z : (zG s a (l + 1) : Int) = 0 := by
    unfold pH at e
    split at e <;> omega
  rw [z] at d
  exact h (Int.zero_dvd.mp d)
theorem pS_pos {s : Int → Int} {a : Int} {l : Nat} (ha : a + l < 2070) (h : s (a + l) ≠ 0) : 0 < pS s a l (a + l) := by
  have e := pS_in ha h (Nat.le_refl l)
  have n := pH_n h
  have sg : (0 < s (a + l) → 0 < pH s a l) ∧ (s (a + l) < 0 → pH s a l < 0) := by
    unfold pH at n ⊢
    split <;> rename_i g
    · rw [if_pos g] at n
      omega
    · rw [if_neg g] at n
      omega
  generalize pH s a l = H at *
  generalize pS s a l (a + l) = x at *
  rcases Int.lt_or_le 0 x with g | g
  · exact g
  · rcases Int.lt_or_le 0 (s (a + l)) with g2 | g2
    · have := Int.mul_nonneg (show 0 ≤ H by have := sg.1 g2; omega) (show 0 ≤ -x by omega)
      rw [Int.mul_neg, ← e] at this
      omega
    · have := Int.mul_nonneg (show 0 ≤ -H by have := sg.2 (by omega); omega) (show 0 ≤ -x by omega)
      rw [Int.mul_neg, Int.neg_mul, ← e] at this
      omega
theorem pS_prim {s : Int → Int} {a c : Int} {l : Nat} (ha : a + l < 2070) (h : s (a + l) ≠ 0) (hc : ∀ j : Nat, j ≤ l → c ∣ pS s a l (a + j)) : c ∣ 1 := by
  have n := pH_n h
  have d : c * pH s a l ∣ (zG s a (l + 1) : Int) := zG_m (fun k hk => by
    rw [pS_in ha h (show k ≤ l by omega), Int.mul_comm c]
    exact Int.mul_dvd_mul (Int.dvd_refl _) (hc k (by omega)))
  have d2 : c * pH s a l ∣ pH s a l := by
    have : pH s a l = zG s a (l + 1) ∨ pH s a l = -(zG s a (l + 1) : Int) := by
      unfold pH
      split
      · exact Or.inl rfl
      · exact Or.inr rfl
    rcases this with g | g
    · rw [← g] at d; exact d
    · have : (zG s a (l + 1) : Int) = -pH s a l := by omega
      rw [this] at d
      exact Int.dvd_neg.mp d
  obtain ⟨x, hx⟩ := d2
  refine ⟨x, ?_⟩
  have : pH s a l * (c * x) = pH s a l * 1 := by
    rw [Int.mul_one, ← Int.mul_assoc, Int.mul_comm (pH s a l) c]
    exact hx.symm
  exact (Int.eq_of_mul_eq_mul_left n this).symm
/-- lowest common multiples by one step more -/
theorem lcm_1 {T r g x D : Int} (h1 : T ∣ D) (h2 : r ∣ D) (hg : 0 < g) (e : r = g * x) (h3 : (Int.gcd T r : Int) ∣ g) : T * x ∣ D := by
  have h4 : T * r ∣ D * (Int.gcd T r : Int) := by
    have a1 : T * r ∣ D * T := by rw [Int.mul_comm T r]; exact Int.mul_dvd_mul h2 (Int.dvd_refl T)
    have a2 : T * r ∣ D * r := Int.mul_dvd_mul h1 (Int.dvd_refl r)
    have a3 : T * r ∣ ((Int.gcd (D * T) (D * r) : Nat) : Int) := Int.dvd_coe_gcd a1 a2
    have a4 : Int.gcd (D * T) (D * r) = D.natAbs * Int.gcd T r := Int.gcd_mul_left ..
    rw [a4] at a3
    have a5 : ((D.natAbs * Int.gcd T r : Nat) : Int) ∣ D * (Int.gcd T r : Int) := by
      rw [Int.natCast_mul]
      exact Int.mul_dvd_mul (Int.natAbs_dvd.mpr (Int.dvd_refl D)) (Int.dvd_refl _)
    exact Int.dvd_trans a3 a5
  have h5 : T * r ∣ D * g := Int.dvd_trans h4 (Int.mul_dvd_mul (Int.dvd_refl D) h3)
  obtain ⟨y, hy⟩ := h5
  refine ⟨y, ?_⟩
  have : g * D = g * (T * x * y) := by
    rw [e] at hy
    grind
  exact Int.eq_of_mul_eq_mul_left (by omega) this
