/-! enters as a function of has and the numbers. -/
def tF (s : Int → Int) (a : Int) : Nat → Int
  | 0 => -1
  | n + 1 => if s (a + n) = 0 then tF s a n else n
theorem tF_h {s : Int → Int} {a : Int} : ∀ {n : Nat}, (tF s a n = -1 ∧ ∀ k, 0 ≤ k → k < (n : Int) → s (a + k) = 0) ∨ ∃ t : Nat, tF s a n = t ∧ t < n ∧ s (a + t) ≠ 0 ∧ ∀ k, (t : Int) < k → k < n → s (a + k) = 0 := by
  intro n
  induction n with
  | zero => exact Or.inl ⟨rfl, fun k h0 h1 => by omega⟩
  | succ n ih =>
    unfold tF
    rcases Decidable.em (s (a + n) = 0) with e | e
    · rw [if_pos e]
      have up : ∀ k : Int, k < ((n + 1 : Nat) : Int) → ¬ k < n → s (a + k) = 0 := fun k g0 g1 => by rw [show k = n by omega]; exact e
      rcases ih with ⟨g, h⟩ | ⟨t, g, h0, h1, h2⟩
      · exact Or.inl ⟨g, fun k k0 k1 => if hk : k < n then h k k0 hk else up k k1 hk⟩
      · exact Or.inr ⟨t, g, by omega, h1, fun k k0 k1 => if hk : k < n then h2 k k0 hk else up k k1 hk⟩
    · rw [if_neg e]
      exact Or.inr ⟨n, rfl, by omega, e, fun k k0 k1 => by omega⟩
theorem tF_u {s : Int → Int} {a : Int} {n t : Nat} (h0 : t < n) (h1 : s (a + t) ≠ 0) (h2 : ∀ k, (t : Int) < k → k < n → s (a + k) = 0) : tF s a n = t := by
  rcases tF_h (s := s) (a := a) (n := n) with ⟨g, h⟩ | ⟨u, g, g0, g1, g2⟩
  · exact absurd (h t (by omega) (by omega)) h1
  · rcases Nat.lt_trichotomy t u with e | e | e
    · exact absurd (h2 u (by omega) (by omega)) g1
    · rw [g, e]
    · exact absurd (g2 t (by omega) (by omega)) h1
