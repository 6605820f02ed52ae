/-! lose and plain as functions of the numbers. -/
/-- lose -/
def hS (s : Int → Int) (a l t : Int) : Int → Int := if s (a + l) = 0 then s else lF s a l t
/-- lose stays in its room -/
def hB (s : Int → Int) (a l t : Int) : Prop := s (45 * l + l) ≠ 0 ∧ ∃ U V : Int, (∀ k, 0 ≤ k → k ≤ t → zAbs (s (a + k)) ≤ U) ∧ (∀ k, 0 ≤ k → k ≤ l → zAbs (s (45 * l + k)) ≤ V) ∧ U * V < bB ^ 598
/-- plain -/
def pH (s : Int → Int) (a : Int) (l : Nat) : Int := if 0 < s (a + l) then (zG s a (l + 1) : Int) else -(zG s a (l + 1) : Int)
def pS (s : Int → Int) (a : Int) (l : Nat) : Int → Int := pl s a (pH s a l) (l + 1)
def pB (s : Int → Int) (a : Int) (l : Nat) : Prop := s (a + l) ≠ 0 ∧ ∀ k : Nat, k ≤ l → zAbs (s (a + k)) < bB ^ 598
section
variable {F : Nat → Int} {A : Nat → Int → Int} {s : Int → Int} {rt : Option eV → eM → Prop}
theorem SX10_lose_f {a l t : Int} (hr : rn (A 0) s) (h0 : 0 ≤ l ∧ l ≤ t ∧ t ≤ 44) (h1 : 0 ≤ a ∧ a + t < 2070) (h2 : a + t < 45 * l ∨ 45 * l + l < a) (hb : hB s a l t) (h : ∀ A', sN A A' → rn (A' 0) (hS s a l t) → rt none (cR F A')) : SX10_lose [eRR, eI a, eI l, eI t] (cR F A) rt := by
  obtain ⟨b0, U, V, b1, b2, b3⟩ := hb
  refine SX10_lose_i U V hr h0 h1 h2 b0 b1 b2 b3 (fun e => ?_) (fun e A' s1 r1 => ?_)
  · refine h A (sN_rf A) ?_
    unfold hS
    rw [if_pos e]
    exact hr
  · refine h A' s1 ?_
    unfold hS
    rw [if_neg e]
    exact r1
theorem SX10_plain_f {a : Int} (l : Nat) (hr : rn (A 0) s) (h0 : 0 ≤ a) (h1 : a + l < 2070) (hb : pB s a l) (h : ∀ A', sN A A' → rn (A' 0) (pS s a l) → rt none (cR F A')) : SX10_plain [eRR, eI a, eI l] (cR F A) rt := by
  refine SX10_plain_i l hr h0 h1 hb.1 hb.2 (fun A' e s1 e0 e1 e2 r1 => h A' s1 ?_)
  have e3 : e = pH s a l := by
    have hne := hb.1
    rcases Int.lt_trichotomy (s (a + l)) 0 with g | g | g
    · have e4 : e < 0 := by
        rcases Int.lt_or_le e 0 with g2 | g2
        · exact g2
        · have := Int.mul_nonneg g2 (show 0 ≤ -s (a + l) by omega)
          rw [Int.mul_neg] at this
          omega
      unfold pH
      rw [if_neg (by omega), ← e2]
      unfold zAbs
      rw [if_pos e4]
      omega
    · exact absurd g hne
    · have e4 : 0 < e := by
        rcases Int.lt_or_le 0 e with g2 | g2
        · exact g2
        · have := Int.mul_nonneg (show 0 ≤ -e by omega) (show 0 ≤ s (a + l) by omega)
          rw [Int.neg_mul] at this
          omega
      unfold pH
      rw [if_pos g, ← e2]
      unfold zAbs
      rw [if_neg (by omega)]
  unfold pS
  rw [← e3]
  exact r1
end
/-- all leads taken from the row at hand, from the highest down -/
def dA (hs : Int → Int) (n : Int) : Nat → (Int → Int) → (Int → Int)
  | 0, s => s
  | k + 1, s => dA hs n k (if hs k = 0 then s else hS s 2025 k (n - 1))
def dP (hs : Int → Int) (n : Int) : Nat → (Int → Int) → Prop
  | 0, _ => True
  | k + 1, s => (hs k ≠ 0 → hB s 2025 k (n - 1)) ∧ dP hs n k (if hs k = 0 then s else hS s 2025 k (n - 1))
/-- a new row at its place -/
def rC (s : Int → Int) (t : Int) (n : Int) : Int → Int := fun p => if 45 * t ≤ p ∧ p < 45 * t + n then s (2025 + (p - 45 * t)) else s p
/-- the rows above lose the new lead, l of them left below n -/
def uS (s : Int → Int) (hs : Int → Int) (t : Int) (l : Nat) : Int → Int := if hs l = 0 ∨ s (45 * l + t) = 0 then s else pS (hS s (45 * l) t l) (45 * l) l
def uB (s : Int → Int) (hs : Int → Int) (t : Int) (l : Nat) : Prop := hs l = 0 ∨ s (45 * l + t) = 0 ∨ (hB s (45 * l) t l ∧ pB (hS s (45 * l) t l) (45 * l) l)
def uC (hs : Int → Int) (t : Int) : Nat → Nat → (Int → Int) → (Int → Int)
  | 0, _, s => s
  | d + 1, l, s => uC hs t d (l + 1) (uS s hs t l)
def uP (hs : Int → Int) (t : Int) : Nat → Nat → (Int → Int) → Prop
  | 0, _, _ => True
  | d + 1, l, s => uB s hs t l ∧ uP hs t d (l + 1) (uS s hs t l)
