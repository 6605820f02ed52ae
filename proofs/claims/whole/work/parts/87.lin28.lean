/-! The room of tables from the sizes of the rows. -/
def dq (hs s : Int → Int) (k : Int) : Int := if hs k = 0 then 1 else s (45 * k + k)
def dl (hs s st : Int → Int) : Nat → Int
  | 0 => 1
  | j + 1 => dl hs s st j * (dq hs s (mv st j 0) * dq hs s (mv st j 1))
/-- how many pairs lead to a row -/
def pcw (hs : Int → Int) (k : Int) : Nat := if hs k = 0 then 0 else 1
def pc (hs st : Int → Int) : Nat → Nat
  | 0 => 0
  | j + 1 => pc hs st j + (pcw hs (mv st j 0) + pcw hs (mv st j 1))
def rowB (hs s st : Int → Int) (n β : Nat) : Prop := ∀ j : Nat, j < n → ∀ w : Int, (w = 0 ∨ w = 1) → hs (mv st j w) ≠ 0 → 0 < s (45 * mv st j w + mv st j w) ∧ s (45 * mv st j w + mv st j w) ≤ 2 ^ β ∧ ∀ i : Nat, i < n → zAbs (s (45 * mv st j w + st i)) ≤ 2 ^ β
theorem two_1 (a : Nat) : (1 : Int) ≤ 2 ^ a := by
  have : (0 : Int) < 2 ^ a := Int.pow_pos (by decide)
  omega
theorem dq_h {hs s st : Int → Int} {n β j : Nat} (h : rowB hs s st n β) (hj : j < n) {w : Int} (hw : w = 0 ∨ w = 1) : 1 ≤ dq hs s (mv st j w) ∧ dq hs s (mv st j w) ≤ 2 ^ (pcw hs (mv st j w) * β) := by
  unfold dq pcw
  split
  · exact ⟨Int.le_refl _, two_1 _⟩
  · rename_i g
    have := h j hj w hw g
    rw [Nat.one_mul]
    exact ⟨by omega, this.2.1⟩
theorem dl_h {hs s st : Int → Int} {n β : Nat} (h : rowB hs s st n β) : ∀ m : Nat, m ≤ n → 1 ≤ dl hs s st m ∧ dl hs s st m ≤ 2 ^ (pc hs st m * β) ∧ ∀ j : Nat, j < m → ∀ w : Int, (w = 0 ∨ w = 1) → dq hs s (mv st j w) ∣ dl hs s st m
  | 0, _ => ⟨Int.le_refl _, two_1 _, fun j hj => absurd hj (Nat.not_lt_zero _)⟩
  | m + 1, hm => by
    obtain ⟨h1, h2, h3⟩ := dl_h h m (by omega)
    have a := dq_h h (show m < n by omega) (Or.inl rfl : (0 : Int) = 0 ∨ (0 : Int) = 1)
    have b := dq_h h (show m < n by omega) (Or.inr rfl : (1 : Int) = 0 ∨ (1 : Int) = 1)
    have ab := Int.mul_le_mul a.2 b.2 (by omega) (by have := two_1 (pcw hs (mv st m 0) * β); omega)
    have ab1 := Int.mul_le_mul a.1 b.1 (by omega) (by omega)
    have c := Int.mul_le_mul h2 ab (by omega) (by have := two_1 (pc hs st m * β); omega)
    have c1 := Int.mul_le_mul h1 ab1 (by omega) (by omega)
    have e : (2 : Int) ^ (pc hs st (m + 1) * β) = 2 ^ (pc hs st m * β) * (2 ^ (pcw hs (mv st m 0) * β) * 2 ^ (pcw hs (mv st m 1) * β)) := by
      rw [← two_a, ← two_a]
      congr 1
      rw [show pc hs st (m + 1) = pc hs st m + (pcw hs (mv st m 0) + pcw hs (mv st m 1)) from rfl, Nat.add_mul, Nat.add_mul]
    refine ⟨?_, ?_, fun j hj w hw => ?_⟩
    · show 1 ≤ dl hs s st m * (dq hs s (mv st m 0) * dq hs s (mv st m 1))
      omega
    · rw [e]
      exact c
    · show _ ∣ dl hs s st m * (dq hs s (mv st m 0) * dq hs s (mv st m 1))
      rcases Nat.lt_or_ge j m with q | q
      · exact Int.dvd_trans (h3 j q w hw) ⟨_, rfl⟩
      · have : j = m := by omega
        subst this
        rcases hw with g | g
        · subst g
          exact ⟨dl hs s st j * dq hs s (mv st j 1), by grind⟩
        · subst g
          exact ⟨dl hs s st j * dq hs s (mv st j 0), by grind⟩
theorem tRm_h {hs s st q : Int → Int} {n β : Nat} (h : rowB hs s st n β) (hq : ∀ k : Nat, k < 6 → -5 ≤ q k ∧ q k ≤ 5) (hu : 11 + 2 * ((pc hs st n + 1) * β) < 16744) : tRm hs s st q n (dl hs s st n) (2 ^ ((pc hs st n + 1) * β)) := by
  obtain ⟨d1, d2, d3⟩ := dl_h h n (Nat.le_refl _)
  have e : (2 : Int) ^ ((pc hs st n + 1) * β) = 2 ^ β * 2 ^ (pc hs st n * β) := by
    rw [← two_a]
    congr 1
    rw [Nat.add_mul]
    omega
  have b1 := two_1 β
  have a : ∀ j : Nat, j < n → ∀ w : Int, (w = 0 ∨ w = 1) → hs (mv st j w) ≠ 0 → 0 < s (45 * mv st j w + mv st j w) ∧ s (45 * mv st j w + mv st j w) ∣ dl hs s st n := fun j hj w hw g => by
    have := d3 j hj w hw
    unfold dq at this
    rw [if_neg g] at this
    exact ⟨(h j hj w hw g).1, this⟩
  have hD := dnF_h a
  obtain ⟨D0, D1, -⟩ := hD
  have D2 := Int.le_trans (Int.le_of_dvd (by omega) D1) d2
  obtain ⟨D, hDD⟩ : ∃ D, dnF hs s st n = D := ⟨_, rfl⟩
  have up : 2 ^ (pc hs st n * β) ≤ (2 : Int) ^ ((pc hs st n + 1) * β) := by
    rw [e]
    have := Int.mul_le_mul_of_nonneg_right b1 (show 0 ≤ (2 : Int) ^ (pc hs st n * β) by have := two_1 (pc hs st n * β); omega)
    omega
  have xt : ∀ w : Int, (w = 0 ∨ w = 1) → mB n (xT hs s st (dnF hs s st n) w) (2 ^ ((pc hs st n + 1) * β)) := fun w hw i j hi hj => by
    rw [hDD] at D0 D2 ⊢
    have zD : zAbs D = D := zAbs_nn (by omega)
    unfold xT
    split
    · split
      · rw [zD]
        omega
      · have : zAbs 0 = 0 := rfl
        rw [this]
        omega
    · rename_i g
      obtain ⟨g1, g2, g3⟩ := h j hj w hw g
      rw [zAbs_ng, zAbs_x, e]
      have k1 := zAbs_dv D (m := s (45 * mv st j w + mv st j w)) (by omega)
      rw [zD] at k1
      exact Int.mul_le_mul (g3 i hi) (by omega) (zAbs_0 _) (by omega)
  refine ⟨a, by omega, by omega, by omega, xt 0 (Or.inl rfl), xt 1 (Or.inr rfl), hq, ?_⟩
  rw [← two_a, bB_p]
  have k := two_m (a := 11 + ((pc hs st n + 1) * β + (pc hs st n + 1) * β)) (b := 16744) (by omega)
  rw [two_a 11] at k
  have : (2 : Int) ^ 11 = 2048 := by decide
  rw [this] at k
  have := two_1 ((pc hs st n + 1) * β + (pc hs st n + 1) * β)
  omega
