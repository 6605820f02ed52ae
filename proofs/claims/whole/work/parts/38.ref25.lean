/-! enters as a function of has and the numbers. -/
def tF (s : Int → Int) (a : Int) : Nat → Int
  | 0 => -1
  | n + 1 => if s (a + n) = 0 then tF s a n else n
theorem tF_h {s : Int → Int} {a : Int} : ∀ {n : Nat}, (tF s a n = -1 ∧ ∀ k, 0 ≤ k → k < (n : Int) → s (a + k) = 0) ∨ ∃ t : Nat, tF s a n = t ∧ t < n ∧ s (a + t) ≠ 0 ∧ ∀ k, (t : Int) < k → k < n → s (a + k) = 0 := by
  intro n
  induction n with
  | zero => exact Or.inl ⟨rfl, fun k h0 h1 => by omega⟩
  | succ n ih =>
    unfold tF
    rcases Decidable.em (s (a + n) = 0) with e | e
    · rw [if_pos e]
      have up : ∀ k : Int, k < ((n + 1 : Nat) : Int) → ¬ k < n → s (a + k) = 0 := fun k g0 g1 => by rw [show k = n by omega]; exact e
      rcases ih with ⟨g, h⟩ | ⟨t, g, h0, h1, h2⟩
      · exact Or.inl ⟨g, fun k k0 k1 => if hk : k < n then h k k0 hk else up k k1 hk⟩
      · exact Or.inr ⟨t, g, by omega, h1, fun k k0 k1 => if hk : k < n then h2 k k0 hk else up k k1 hk⟩
    · rw [if_neg e]
      exact Or.inr ⟨n, rfl, by omega, e, fun k k0 k1 => by omega⟩
theorem tF_u {s : Int → Int} {a : Int} {n t : Nat} (h0 : t < n) (h1 : s (a + t) ≠ 0) (h2 : ∀ k, (t : Int) < k → k < n → s (a + k) = 0) : tF s a n = t := by
  rcases tF_h (s := s) (a := a) (n := n) with ⟨g, h⟩ | ⟨u, g, g0, g1, g2⟩
  · exact absurd (h t (by omega) (by omega)) h1
  · rcases Nat.lt_trichotomy t u with e | e | e
    · exact absurd (h2 u (by omega) (by omega)) g1
    · rw [g, e]
    · exact absurd (g2 t (by omega) (by omega)) h1
/-- enters: has, the numbers and whether anything was left -/
def en (hs s : Int → Int) (n : Nat) : (Int → Int) × (Int → Int) × Int :=
  let s1 := dA hs n n s
  if tF s1 2025 n < 0 then (hs, s1, 0) else
  let t := (tF s1 2025 n).toNat
  (uI hs t 1, uC (uI hs t 1) t (n - 1 - t) (t + 1) (rC (pS s1 2025 t) t 45), 1)
def enB (hs s : Int → Int) (n : Nat) : Prop :=
  dP hs n n s ∧ ∀ t : Nat, tF (dA hs n n s) 2025 n = t → pB (dA hs n n s) 2025 t ∧ uP (uI hs t 1) t (n - 1 - t) (t + 1) (rC (pS (dA hs n n s) 2025 t) t 45)
theorem SX10_enters_f {F : Nat → Int} {A : Nat → Int → Int} {s : Int → Int} {n : Nat} {rt : Option eV → eM → Prop} (hr : rn (A 0) s) (hF : F 14 = n) (hn : n ≤ 45) (hh : ∀ k, A 15 k = 0 ∨ A 15 k = 1) (hb : enB (A 15) s n) (h : ∀ A', sH A A' → A' 15 = (en (A 15) s n).1 → rn (A' 0) (en (A 15) s n).2.1 → rt (some (eI (en (A 15) s n).2.2)) (cR F A')) : SX10_enters [eRR] (cR F A) rt := by
  refine ⟨F, A, s, _, n, rfl, rfl, hr, hF, hn, hh, hb.1, rfl, ?_, ?_⟩
  · intro g A' k1 r1
    have e : tF (dA (A 15) n n s) 2025 n < 0 := by
      rcases tF_h (s := dA (A 15) n n s) (a := 2025) (n := n) with ⟨g1, -⟩ | ⟨t, -, g1, g2, -⟩
      · omega
      · exact absurd (g t (by omega) (by omega)) g2
    have e2 : en (A 15) s n = (A 15, dA (A 15) n n s, 0) := by unfold en; exact if_pos e
    have := h A' (sH_n k1)
    rw [e2] at this
    exact this (k1 15 (by decide)) r1
  · intro t ht g1 g2
    have e := tF_u ht g1 g2
    obtain ⟨b1, b2⟩ := hb.2 t e
    refine ⟨b1, b2, fun A' k1 k2 k3 => ?_⟩
    have e2 : en (A 15) s n = (uI (A 15) t 1, uC (uI (A 15) t 1) t (n - 1 - t) (t + 1) (rC (pS (dA (A 15) n n s) 2025 t) t 45), 1) := by
      unfold en
      simp only [e]
      rw [if_neg (by omega)]
      rfl
    have := h A' k1
    rw [e2] at this
    exact this k2 k3
