/-! Leads and bits: the abstract run. -/
def nrL (M : Nat) : Nat → List Nat → List Nat
  | _, [] => []
  | i, x :: r => if M.testBit i then 0 :: nrL M (i + 1) r else x :: r
def upL (t p w y : Nat) : Nat → List Nat → List Nat
  | _, [] => []
  | i, x :: r => (if p ≤ i then x + w else if t ≤ i then y else x) :: upL t p w y (i + 1) r
def abI (M : Nat) (b : List Nat) (p w t : Nat) : Nat × List Nat := (M ||| 2 ^ t, nrL (M ||| 2 ^ t) 0 (upL t p w (b.getD p 0 + w) 0 b))
theorem upL_g (t p w y : Nat) : ∀ (b : List Nat) (i k : Nat), k < b.length → (upL t p w y i b).getD k 0 = if p ≤ i + k then b.getD k 0 + w else if t ≤ i + k then y else b.getD k 0
  | [], _, _, h => by cases h
  | x :: r, i, 0, _ => rfl
  | x :: r, i, k + 1, h => by
    have := upL_g t p w y r (i + 1) k (by simpa using h)
    rw [show i + 1 + k = i + (k + 1) by omega] at this
    exact this
theorem upL_n (t p w y : Nat) : ∀ (b : List Nat) (i : Nat), (upL t p w y i b).length = b.length
  | [], _ => rfl
  | x :: r, i => by
    show (upL t p w y (i + 1) r).length + 1 = r.length + 1
    rw [upL_n t p w y r (i + 1)]
theorem nrL_n (M : Nat) : ∀ (b : List Nat) (i : Nat), (nrL M i b).length = b.length
  | [], _ => rfl
  | x :: r, i => by
    unfold nrL
    split
    · show (nrL M (i + 1) r).length + 1 = r.length + 1
      rw [nrL_n M r (i + 1)]
    · rfl
theorem nrL_g (M : Nat) : ∀ (b : List Nat) (i k : Nat), k < b.length → ((nrL M i b).getD k 0 = 0 ∧ ∀ j, i ≤ j → j ≤ i + k → M.testBit j = true) ∨ (nrL M i b).getD k 0 = b.getD k 0
  | [], _, _, h => by cases h
  | x :: r, i, 0, _ => by
    unfold nrL
    split
    · rename_i g
      exact Or.inl ⟨rfl, fun j h0 h1 => by rw [show j = i by omega]; exact g⟩
    · exact Or.inr rfl
  | x :: r, i, k + 1, h => by
    unfold nrL
    split
    · rename_i g
      rcases nrL_g M r (i + 1) k (by simpa using h) with ⟨a, b⟩ | a
      · refine Or.inl ⟨a, fun j h0 h1 => ?_⟩
        rcases Nat.lt_or_ge i j with q | q
        · exact b j (by omega) (by omega)
        · rw [show j = i by omega]; exact g
      · exact Or.inr a
    · exact Or.inr rfl
/-- the rows by leads and bits -/
def rel (M : Nat) (b : List Nat) (hs s : Int → Int) : Prop := b.length = 15 ∧ (∀ l : Nat, l < 15 → (hs l ≠ 0 ↔ M.testBit l = true)) ∧ ech hs s ∧ ∀ p, p < 15 → ∃ G L, crt hs s p G L ∧ nP 15 G ≤ 2 ^ b.getD p 0
theorem rel_r {M : Nat} {b : List Nat} {hs s : Int → Int} (h : rel M b hs s) {l : Nat} (h1 : l < 15) (h2 : hs l ≠ 0) {p : Nat} (hl : l ≤ p) (hp : p < 15) : ∀ j, j < 15 → zAbs (rv s l j) ≤ 2 ^ b.getD p 0 := by
  intro j hj
  obtain ⟨G, L, c, n⟩ := h.2.2.2 p hp
  exact Int.le_trans ((row_b h.2.2.1 c hl h1 h2).2 j hj).1 n
theorem rel_s {M : Nat} {b : List Nat} {hs s s' : Int → Int} (h : rel M b hs s) (e : ∀ q, q < 2025 → s' q = s q) : rel M b hs s' := by
  have er : ∀ l : Nat, l < 15 → rv s' l = rv s l := fun l hl => funext (fun j => by
    rcases Nat.lt_or_ge j 15 with g | g
    · rw [rv_in g, rv_in g, e _ (by omega)]
    · rw [rv_o s' l g, rv_o s l g])
  obtain ⟨h0, h1, h2, h3⟩ := h
  refine ⟨h0, h1, fun l l0 l1 => by rw [er l l0]; exact ⟨(h2 l l0 l1).1, (h2 l l0 l1).2.1, (h2 l l0 l1).2.2.1, (h2 l l0 l1).2.2.2⟩, fun p hp => ?_⟩
  obtain ⟨G, L, ⟨c0, c1, c2, c3⟩, n⟩ := h3 p hp
  exact ⟨G, L, ⟨c0, c1, c2, fun l a b c => by rw [er l b]; exact c3 l a b c⟩, n⟩
theorem pow_m {a b : Nat} (h : a ≤ b) : (2 : Int) ^ a ≤ 2 ^ b := by
  obtain ⟨c, rfl⟩ : ∃ c, b = a + c := ⟨b - a, by omega⟩
  exact (pow_mo (D := 2) (by decide) a c).2
theorem pow_s {a b : Nat} (h : a < b) : (2 : Int) ^ a < 2 ^ b := by
  have h1 := pow_m (show a + 1 ≤ b by omega)
  rw [Int.pow_succ] at h1
  have h2 : (0 : Int) < 2 ^ a := Int.pow_pos (by decide)
  omega
theorem bB_p2 : bB ^ 598 = 2 ^ 16744 := by
  have e : bB = 2 ^ 28 := by decide
  rw [e, ← Int.pow_mul]
theorem rel_en {M : Nat} {b : List Nat} {hs s : Int → Int} {p w : Nat} (h : rel M b hs s) (hp : p < 15) (hv : ∀ j, p < j → j < 15 → wv s j = 0) (hw : nS (wv s) 15 ≤ 2 ^ w) (k1 : 1 + 2 * b.getD p 0 + w < 16744) (k2 : 2 + b.getD 14 0 + b.getD p 0 + w < 16744) :
    enB hs s 15 ∧ (((en hs s 15).2.2 = 0 ∧ (en hs s 15).1 = hs ∧ rel M b hs (en hs s 15).2.1 ∧ (∀ q, q < 2025 → (en hs s 15).2.1 q = s q) ∧ spn hs s (wv s)) ∨ ∃ t, t ≤ p ∧ M.testBit t = false ∧ (en hs s 15).2.2 = 1 ∧ (en hs s 15).1 = uI hs t 1 ∧ rel (abI M b p w t).1 (abI M b p w t).2 (en hs s 15).1 (en hs s 15).2.1 ∧ stA hs s (en hs s 15).2.1 t ∧ stB hs s (en hs s 15).2.1 t ∧ stC s (en hs s 15).2.1 t) ∧ (wv s p ≠ 0 → M.testBit p = false → (en hs s 15).1 = uI hs p 1) := by
  have h' := h
  obtain ⟨h0, h1, h2, h3⟩ := h'
  obtain ⟨G, L, c, n⟩ := h3 p hp
  have N0 := nP_p 15 G
  have V0 := nS_p (wv s) 15
  have pp : ∀ a : Nat, (0 : Int) < 2 ^ a := fun a => Int.pow_pos (by decide)
  have q1 : 2 * (nP 15 G * nS (wv s) 15) ≤ 2 ^ (1 + (b.getD p 0 + w)) := by
    have := Int.mul_le_mul n hw V0 (Int.le_of_lt (pp _))
    rw [← Int.pow_add] at this
    rw [Int.pow_add]
    show 2 * _ ≤ 2 * _
    omega
  have q0 : 0 ≤ 2 * (nP 15 G * nS (wv s) 15) := by
    have := Int.mul_nonneg N0 V0
    omega
  have rm0 : 2 * (nP 15 G * nS (wv s) 15) < bB ^ 598 := by
    rw [bB_p2]
    exact Int.lt_of_le_of_lt q1 (pow_s (by omega))
  have rm1 : 2 * (nP 15 G * nS (wv s) 15) * nP 15 G < bB ^ 598 := by
    have := Int.mul_le_mul q1 n N0 (Int.le_of_lt (pp _))
    rw [← Int.pow_add] at this
    rw [bB_p2]
    exact Int.lt_of_le_of_lt this (pow_s (by omega))
  have rm2 : nS (wv s) 15 * 2 ^ b.getD 14 0 < bB ^ 598 := by
    have := Int.mul_le_mul_of_nonneg_right hw (Int.le_of_lt (pp (b.getD 14 0)))
    rw [← Int.pow_add] at this
    rw [bB_p2]
    exact Int.lt_of_le_of_lt this (pow_s (by omega))
  have rm3 : 2 * (2 ^ b.getD 14 0 * (2 * (nP 15 G * nS (wv s) 15))) < bB ^ 598 := by
    have := Int.mul_le_mul_of_nonneg_left q1 (Int.le_of_lt (pp (b.getD 14 0)))
    rw [← Int.pow_add] at this
    have h4 : 2 * (2 ^ b.getD 14 0 * (2 * (nP 15 G * nS (wv s) 15))) ≤ 2 ^ (1 + (b.getD 14 0 + (1 + (b.getD p 0 + w)))) := by
      rw [Int.pow_add]
      show 2 * _ ≤ 2 * _
      omega
    rw [bB_p2]
    exact Int.lt_of_le_of_lt h4 (pow_s (by omega))
  obtain ⟨z1, z2⟩ := en_h (R := 2 ^ b.getD 14 0) h2 c hp hv (fun l l0 l1 => rel_r h l0 l1 (by omega) (by decide)) rm0 rm1 rm2 rm3
  -- a sum of rows at a place p that is no lead
  have sumz : ∀ (T : Int) (c : Nat → Int), M.testBit p = false → (∀ l : Nat, l < 15 → hs l = 0 → c l = 0) → (∀ l : Nat, l < 15 → hs l ≠ 0 → c l * rv s l l = T * wv s l) → dS (fun l => c l * rv s l p) 15 = 0 := by
    intro T c hM c0 c1
    refine dS_0 (fun l hl => ?_)
    show c l * rv s l p = 0
    rcases Decidable.em (hs l = 0) with g | g
    · rw [c0 l hl g, Int.zero_mul]
    · rcases Nat.lt_trichotomy l p with q | q | q
      · rw [(h2 l hl g).2.1 p q hp, Int.mul_zero]
      · subst q
        have := (h1 l hl).mp g
        rw [hM] at this
        cases this
      · have e1 := c1 l hl g
        rw [hv l q hl, Int.mul_zero] at e1
        have := (h2 l hl g).1
        rcases Int.mul_eq_zero.mp e1 with q2 | q2
        · rw [q2, Int.zero_mul]
        · omega
  refine ⟨z1, ?_, ?_⟩
  · rcases z2 with ⟨a1, a2, a3, a4⟩ | ⟨t, t0, t1, t2, a1, a2, a3, sA, sB, sC⟩
    · exact Or.inl ⟨a1, a2, rel_s h a3, a3, a4⟩
    · refine Or.inr ⟨t, t0, ?_, a1, a2, ?_, sA, sB, sC⟩
      · rcases Decidable.em (M.testBit t = true) with g | g
        · exact absurd t2 ((h1 t t1).mpr g)
        · simpa using g
      · rw [a2]
        have hb : ∀ l : Nat, l < 15 → (uI hs t 1 l ≠ 0 ↔ (M ||| 2 ^ t).testBit l = true) := fun l hl => by
          rw [Nat.testBit_or, Nat.testBit_two_pow]
          rcases Decidable.em (l = t) with g | g
          · subst g
            rw [uI_s]
            simp
          · rw [uI_n _ _ (by omega), h1 l hl]
            have : decide (t = l) = false := by simpa using fun q : t = l => g q.symm
            rw [this]
            simp
        refine ⟨by show (nrL _ 0 (upL t p w _ 0 b)).length = 15; rw [nrL_n, upL_n]; exact h0, hb, a3, fun q hq => ?_⟩
        show ∃ G L, crt (uI hs t 1) _ q G L ∧ nP 15 G ≤ 2 ^ (nrL (M ||| 2 ^ t) 0 (upL t p w (b.getD p 0 + w) 0 b)).getD q 0
        rcases nrL_g (M ||| 2 ^ t) (upL t p w (b.getD p 0 + w) 0 b) 0 q (by rw [upL_n, h0]; exact hq) with ⟨g1, g2⟩ | g1
        · rw [g1]
          refine ⟨_, _, crt_u hq a3 (fun j hj => (hb j (by omega)).mpr (g2 j (Nat.zero_le j) (by omega))), ?_⟩
          rw [Int.pow_zero]
          exact unG_p _
        · rw [g1, upL_g _ _ _ _ b 0 q (by rw [h0]; exact hq), Nat.zero_add]
          have up : ∀ (G : List lV) (x : Nat), nP 15 G ≤ 2 ^ x → nP 15 (wv s :: G) ≤ 2 ^ (x + w) := fun G x hG => by
            rw [Nat.add_comm, Int.pow_add]
            exact Int.mul_le_mul hw hG (nP_p 15 G) (Int.le_of_lt (pp _))
          rcases Nat.lt_or_ge q p with g3 | g3
          · rw [if_neg (by omega)]
            rcases Nat.lt_or_ge q t with g4 | g4
            · rw [if_neg (by omega)]
              obtain ⟨G', L', c', n'⟩ := h3 q hq
              exact ⟨G', L', crt_l g4 t2 sC c', n'⟩
            · rw [if_pos g4]
              exact ⟨_, _, crt_m (by omega) (crt_n h2 a3 (Nat.le_refl p) t1 t0 t2 hv sA sB c), up G _ n⟩
          · rw [if_pos g3]
            obtain ⟨G', L', c', n'⟩ := h3 q hq
            exact ⟨_, _, crt_n h2 a3 g3 t1 t0 t2 hv sA sB c', up G' _ n'⟩
  · intro hvp hM
    rcases z2 with ⟨-, -, -, T, c, T0, c0, c1, e⟩ | ⟨t, t0, t1, t2, a1, a2, a3, ⟨T, h, c, T0, hn, c0, c1, e⟩, -, -⟩
    · have e1 := e p hp
      rw [sumz T c hM c0 c1] at e1
      exact absurd (mul_z (by omega) e1) hvp
    · have e1 := e p hp
      rw [sumz T c hM c0 c1] at e1
      have e2 : rv (en hs s 15).2.1 t p ≠ 0 := fun g => by
        rw [g] at e1
        exact hvp (mul_z (h := T) (by omega) (by omega))
      have e3 : t = p := by
        rcases Nat.lt_or_ge t p with g | g
        · exact absurd ((a3 t t1 (by rw [uI_s]; decide)).2.1 p g hp) e2
        · omega
      rw [a2, e3]
