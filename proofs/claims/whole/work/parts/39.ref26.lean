/-! grows. -/
theorem mD_m {u v : Int} (h : u ≤ v) : mD u ≤ mD v := by
  unfold mD
  repeat' split
  all_goals omega
def cS (s : Int → Int) (l w : Int) : Nat → (Int → Int)
  | 0 => cw s 45
  | k + 1 => uI (cS s l w k) (2025 + mN (mX k + 1 - w) (mY k + w)) (cS s l w k (45 * l + k))
theorem en_b (hs s : Int → Int) (n : Nat) : ((en hs s n).2.2 = 0 ∨ (en hs s n).2.2 = 1) ∧ ((∀ k, hs k = 0 ∨ hs k = 1) → ∀ k, (en hs s n).1 k = 0 ∨ (en hs s n).1 k = 1) := by
  unfold en
  dsimp only
  split
  · exact ⟨Or.inl rfl, fun h => h⟩
  · refine ⟨Or.inr rfl, fun h k => ?_⟩
    show uI hs _ 1 k = 0 ∨ uI hs _ 1 k = 1
    unfold uI
    split
    · exact Or.inr rfl
    · exact h k
/-- one row, one way -/
def g1 (n l : Nat) (w : Int) (z : (Int → Int) × (Int → Int) × Int) : (Int → Int) × (Int → Int) × Int :=
  let e := en z.1 (cS z.2.1 l w (l + 1)) n
  (e.1, e.2.1, if e.2.2 = 0 then z.2.2 else 1)
def gL (n : Nat) (g : Int) (l : Nat) (z : (Int → Int) × (Int → Int) × Int) : (Int → Int) × (Int → Int) × Int :=
  if z.1 l = 0 ∨ g ≤ mD l then z else g1 n l 1 (g1 n l 0 z)
def gA (n : Nat) (g : Int) : Nat → Nat → (Int → Int) × (Int → Int) × Int → (Int → Int) × (Int → Int) × Int
  | 0, _, z => z
  | d + 1, l, z => gA n g d (l + 1) (gL n g l z)
def gLB (n : Nat) (g : Int) (l : Nat) (z : (Int → Int) × (Int → Int) × Int) : Prop :=
  z.1 l = 0 ∨ g ≤ mD l ∨ (enB z.1 (cS z.2.1 l 0 (l + 1)) n ∧ enB (g1 n l 0 z).1 (cS (g1 n l 0 z).2.1 l 1 (l + 1)) n)
def gB (n : Nat) (g : Int) : Nat → Nat → (Int → Int) × (Int → Int) × Int → Prop
  | 0, _, _ => True
  | d + 1, l, z => gLB n g l z ∧ gB n g d (l + 1) (gL n g l z)
