/-! Inertia: measure. -/
def cnO (O : Int → Int) : Int := O 0 + O 1 + O 2 + O 3
theorem cn_k {O : Int → Int} (h : ∀ i : Int, 0 ≤ i → i < 4 → O i = 0 ∨ O i = 1) {k : Nat} (hk : k < 4) (e : O k = 1) : cnO (uI O k 0) = cnO O - 1 ∧ 1 ≤ cnO O ∧ ∀ a : Nat, a < 4 → a ≠ k → O a = 1 → 2 ≤ cnO O := by
  have h0 := h 0 (by decide) (by decide)
  have h1 := h 1 (by decide) (by decide)
  have h2 := h 2 (by decide) (by decide)
  have h3 := h 3 (by decide) (by decide)
  have hk' : k = 0 ∨ k = 1 ∨ k = 2 ∨ k = 3 := by omega
  unfold cnO
  refine ⟨?_, ?_, fun a ha ak oa => ?_⟩
  · rcases hk' with rfl | rfl | rfl | rfl <;> (simp [uI] at *; omega)
  · rcases hk' with rfl | rfl | rfl | rfl <;> (simp at e; omega)
  · have ha' : a = 0 ∨ a = 1 ∨ a = 2 ∨ a = 3 := by omega
    rcases hk' with rfl | rfl | rfl | rfl <;> rcases ha' with rfl | rfl | rfl | rfl <;> (first | exact absurd rfl ak | (simp at e oa; omega))
def okS : Nat → Nat → Prop
  | 0, m => m ≤ 1900
  | 1, m => m + 2 ≤ 1900
  | q + 2, m => m + m + 6 ≤ 1922 ∧ okS (q + 1) (2 * m + 5)
theorem okS_le : ∀ {q m : Nat}, okS q m → m ≤ 1900
  | 0, m, h => h
  | 1, m, h => by have : m + 2 ≤ 1900 := h; omega
  | q + 2, m, h => by have := h.1; omega
/-- what measure counts: steps left, open lines, form, sign -/
def mzR : Nat → (Int → Int) → (Nat → Nat → Int) → Int → Int → Int → Int → Int → Prop
  | 0, _, _, _, br, ba, br', ba' => br' = br ∧ ba' = ba
  | n + 1, O, S, t, br, ba, br', ba' => ∃ (r : Int) (S' : Nat → Nat → Int), fsR O S r S' ∧ ((r = -1 ∧ br' = br ∧ ba' = ba) ∨ ∃ k : Nat, r = k ∧ k < 4 ∧ mzR n (uI O k 0) (spF S' (uI O k 0) k) (t * zSg (S' k k)) (br + 1) (ba + t * zSg (S' k k)) br' ba')
theorem fs_k {O : Int → Int} {S S' : Nat → Nat → Int} {r : Int} (h : fsR O S r S') (hr : r ≠ -1) : ∃ k : Nat, r = k ∧ k < 4 ∧ O k = 1 := by
  rcases h with ⟨i, a, b, c, _⟩ | ⟨i, j, a, b, c, d, _⟩ | ⟨a, _⟩
  · exact ⟨i, b, a, c⟩
  · exact ⟨i, c, by omega, d⟩
  · exact absurd a hr
theorem fs_b {O : Int → Int} {S S' : Nat → Nat → Int} {r : Int} {m : Nat} (h : fsR O S r S') (hb : ∀ a b, a < 4 → b < 4 → zAbs (S a b) ≤ 2 ^ m) : ∀ a b, a < 4 → b < 4 → zAbs (S' a b) ≤ 2 ^ (m + 2) := by
  have p := p2_pos m
  have e : (2 : Int) ^ (m + 2) = 2 ^ m * 4 := by rw [Int.pow_add]; rfl
  have id : S' = S → ∀ a b, a < 4 → b < 4 → zAbs (S' a b) ≤ 2 ^ (m + 2) := fun q a b ha hb' => by
    rw [q]
    have := hb a b ha hb'
    omega
  rcases h with ⟨i, _, _, _, _, q⟩ | ⟨i, j, a1, b1, _, _, _, _, _, q⟩ | ⟨_, q, _⟩
  · exact id q
  · intro a b ha hb'
    rw [q]
    have one : ∀ a b, a < 4 → b < 4 → zAbs (jo1 S i j 4 a b) ≤ 2 * 2 ^ m := fun a b ha hb' => by
      unfold jo1
      split
      · have := zAbs_tri (S i b) (S j b)
        have := hb i b (by omega) hb'
        have := hb j b b1 hb'
        omega
      · have := hb a b ha hb'
        omega
    unfold joF jo2
    split
    · have := zAbs_tri (jo1 S i j 4 a i) (jo1 S i j 4 a j)
      have := one a i ha (by omega)
      have := one a j ha b1
      omega
    · have := one a b ha hb'
      omega
  · exact id q
theorem sp_b {S : Nat → Nat → Int} {O : Int → Int} {k m : Nat} (hk : k < 4) (hb : ∀ a b, a < 4 → b < 4 → zAbs (S a b) ≤ 2 ^ (m + 2)) : ∀ a b, a < 4 → b < 4 → zAbs (spF S O k a b) ≤ 2 ^ (2 * m + 5) := by
  have e1 : (2 : Int) ^ (2 * m + 5) = 2 ^ (m + 2 + (m + 2)) * 2 := by rw [show 2 * m + 5 = m + 2 + (m + 2) + 1 by omega]; exact Int.pow_succ 2 _
  have p1 : (2 : Int) ^ (m + 2) ≤ 2 ^ (m + 2 + (m + 2)) := p2_m (by omega)
  have p0 := p2_pos (m + 2 + (m + 2))
  have one : ∀ a b, a < 4 → b < 4 → zAbs (spE S k a b) ≤ 2 ^ (2 * m + 5) := fun a b ha hb' => by
    have q1 := two_le (hb k k hk hk) (hb a b ha hb')
    have q2 := two_le (hb a k ha hk) (hb k b hk hb')
    have := zAbs_tri (S k k * S a b) (-(S a k * S k b))
    rw [zAbs_ng] at this
    unfold spE
    rw [show S k k * S a b - S a k * S k b = S k k * S a b + -(S a k * S k b) by omega]
    omega
  intro a b ha hb'
  unfold spF
  split
  · unfold spM
    split
    · exact one a b ha hb'
    · exact one b a hb' ha
  · have := hb a b ha hb'
    omega
theorem sp_0 {S : Nat → Nat → Int} {O : Int → Int} {k : Nat} (h : ∀ a : Nat, a < 4 → ¬ O a = 1) (a b : Nat) : spF S O k a b = S a b := by
  unfold spF
  rw [if_neg (fun q => h a q.1 q.2.2.1)]
