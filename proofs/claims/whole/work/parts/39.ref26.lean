/-! grows. -/
theorem mD_m {u v : Int} (h0 : 0 ≤ u) (h : u ≤ v) (h1 : v < 45) : mD u ≤ mD v := by
  obtain ⟨a0, a1, a2, a3⟩ := mD_h (u := u) (by omega)
  obtain ⟨b0, b1, b2, b3⟩ := mD_h (u := v) (by omega)
  rcases Int.lt_or_le (mD v) (mD u) with g | g
  · have := Int.mul_le_mul (show mD v + 1 ≤ mD u by omega) (show mD v + 2 ≤ mD u + 1 by omega) (by omega) (by omega)
    omega
  · exact g
def cS (s : Int → Int) (l w : Int) : Nat → (Int → Int)
  | 0 => cw s 45
  | k + 1 => uI (cS s l w k) (2025 + mN (mX k + 1 - w) (mY k + w)) (cS s l w k (45 * l + k))
theorem en_b (hs s : Int → Int) (n : Nat) : ((en hs s n).2.2 = 0 ∨ (en hs s n).2.2 = 1) ∧ ((∀ k, hs k = 0 ∨ hs k = 1) → ∀ k, (en hs s n).1 k = 0 ∨ (en hs s n).1 k = 1) := by
  unfold en
  dsimp only
  split
  · exact ⟨Or.inl rfl, fun h => h⟩
  · refine ⟨Or.inr rfl, fun h k => ?_⟩
    show uI hs _ 1 k = 0 ∨ uI hs _ 1 k = 1
    unfold uI
    split
    · exact Or.inr rfl
    · exact h k
/-- one row, one way -/
def g1w (n l : Nat) (w : Int) (z : (Int → Int) × (Int → Int) × Int) : (Int → Int) × (Int → Int) × Int :=
  let e := en z.1 (cS z.2.1 l w (l + 1)) n
  (e.1, e.2.1, if e.2.2 = 0 then z.2.2 else 1)
def gLs (n : Nat) (g : Int) (l : Nat) (z : (Int → Int) × (Int → Int) × Int) : (Int → Int) × (Int → Int) × Int :=
  if z.1 l = 0 ∨ g ≤ mD l then z else g1w n l 1 (g1w n l 0 z)
def gAl (n : Nat) (g : Int) : Nat → Nat → (Int → Int) × (Int → Int) × Int → (Int → Int) × (Int → Int) × Int
  | 0, _, z => z
  | d + 1, l, z => gAl n g d (l + 1) (gLs n g l z)
def gLsB (n : Nat) (g : Int) (l : Nat) (z : (Int → Int) × (Int → Int) × Int) : Prop :=
  z.1 l = 0 ∨ g ≤ mD l ∨ (enB z.1 (cS z.2.1 l 0 (l + 1)) n ∧ enB (g1w n l 0 z).1 (cS (g1w n l 0 z).2.1 l 1 (l + 1)) n)
def gAlB (n : Nat) (g : Int) : Nat → Nat → (Int → Int) × (Int → Int) × Int → Prop
  | 0, _, _ => True
  | d + 1, l, z => gLsB n g l z ∧ gAlB n g d (l + 1) (gLs n g l z)
