/-! The class's numbers: limbs of 31 bits. -/
abbrev cB : Int := 2147483648
def vL (f : Int → Int) : Nat → Int
  | 0 => 0
  | n + 1 => vL f n + f n * cB ^ n
def lR (f : Int → Int) (n : Nat) : Prop := ∀ k : Nat, k < n → 0 ≤ f k ∧ f k < cB
theorem cB_pos (n : Nat) : (0 : Int) < cB ^ n := Int.pow_pos (by decide)
theorem cB_succ (n : Nat) : cB ^ (n + 1) = cB ^ n * cB := Int.pow_succ cB n
theorem cB_mono {a b : Nat} (h : a ≤ b) : cB ^ a ≤ cB ^ b := by
  induction b with
  | zero => rw [Nat.le_zero.mp h]; exact Int.le_refl _
  | succ b ih =>
    rcases Nat.lt_or_ge a (b + 1) with h1 | h1
    · have := ih (by omega)
      have h2 := cB_pos b
      rw [cB_succ]
      show cB ^ a ≤ cB ^ b * 2147483648
      omega
    · have : a = b + 1 := by omega
      subst this
      exact Int.le_refl _
theorem lR.sub {f : Int → Int} {n m : Nat} (h : lR f n) (hm : m ≤ n) : lR f m := fun k hk => h k (by omega)
theorem lR_cong {f g : Int → Int} {n : Nat} (h : lR f n) (e : ∀ k : Nat, k < n → g k = f k) : lR g n := fun k hk => by rw [e k hk]; exact h k hk
theorem vL_cong {f g : Int → Int} : ∀ {n : Nat}, (∀ k : Nat, k < n → g k = f k) → vL g n = vL f n
  | 0, _ => rfl
  | n + 1, e => by
    rw [vL, vL, vL_cong (fun k hk => e k (by omega)), e n (by omega)]
theorem vL_nn {f : Int → Int} : ∀ {n : Nat}, lR f n → 0 ≤ vL f n
  | 0, _ => Int.le_refl _
  | n + 1, h => by
    have h1 := vL_nn (h.sub (Nat.le_succ n))
    have h2 := Int.mul_nonneg (h n (by omega)).1 (Int.le_of_lt (cB_pos n))
    rw [vL]; omega
theorem vL_lt {f : Int → Int} : ∀ {n : Nat}, lR f n → vL f n < cB ^ n
  | 0, _ => by rw [vL]; exact cB_pos 0
  | n + 1, h => by
    have h1 := vL_lt (h.sub (Nat.le_succ n))
    have h2 := Int.mul_le_mul_of_nonneg_right (show f n ≤ cB - 1 by have := (h n (by omega)).2; omega) (Int.le_of_lt (cB_pos n))
    rw [vL, cB_succ]
    rw [Int.sub_mul, Int.one_mul, Int.mul_comm cB] at h2
    omega
theorem vL_ge {f : Int → Int} {n : Nat} (h : lR f (n + 1)) (h0 : f n ≠ 0) : cB ^ n ≤ vL f (n + 1) := by
  have h1 := vL_nn (h.sub (Nat.le_succ n))
  have h2 := (h n (by omega)).1
  have h3 := Int.mul_le_mul_of_nonneg_right (show 1 ≤ f n by omega) (Int.le_of_lt (cB_pos n))
  rw [vL]; omega
theorem vL_split {f : Int → Int} (a : Nat) : ∀ (b : Nat), vL f (a + b) = vL f a + vL (fun i => f (a + i)) b * cB ^ a
  | 0 => by simp [vL]
  | b + 1 => by
    rw [← Nat.add_assoc, vL, vL_split a b, vL, Int.add_mul, Int.mul_assoc, ← Int.pow_add, Nat.add_comm b a, Int.add_assoc]
    congr 3
theorem vL_0 {f : Int → Int} : ∀ {n : Nat}, (∀ k : Nat, k < n → f k = 0) → vL f n = 0
  | 0, _ => rfl
  | n + 1, h => by rw [vL, vL_0 (fun k hk => h k (by omega)), h n (by omega)]; simp
/-- how many limbs are left when the zeros above are dropped -/
def tK (f : Int → Int) : Nat → Nat
  | 0 => 0
  | n + 1 => if f n = 0 then tK f n else n + 1
theorem tK_le (f : Int → Int) : ∀ n, tK f n ≤ n
  | 0 => Nat.le_refl _
  | n + 1 => by
    rw [tK]
    split
    · have := tK_le f n; omega
    · exact Nat.le_refl _
theorem tK_lv (f : Int → Int) : ∀ n, vL f (tK f n) = vL f n
  | 0 => rfl
  | n + 1 => by
    rw [tK]
    split
    · rename_i h
      rw [vL, h, tK_lv f n]; simp
    · rfl
theorem tK_top (f : Int → Int) : ∀ n, 0 < tK f n → f ((tK f n : Int) - 1) ≠ 0
  | 0, h => by simp [tK] at h
  | n + 1, h => by
    rw [tK] at h ⊢
    split
    · rename_i h1
      rw [if_pos h1] at h
      exact tK_top f n h
    · rename_i h1
      have e : ((n + 1 : Nat) : Int) - 1 = n := by omega
      rw [e]; exact h1
def zSg (z : Int) : Int := if z < 0 then -1 else if z = 0 then 0 else 1
theorem zSg_c (z : Int) : (z < 0 ∧ zSg z = -1 ∧ zAbs z = -z) ∨ (z = 0 ∧ zSg z = 0 ∧ zAbs z = 0) ∨ (0 < z ∧ zSg z = 1 ∧ zAbs z = z) := by
  unfold zSg zAbs
  rcases Int.lt_trichotomy z 0 with g | g | g
  · exact Or.inl ⟨g, if_pos g, if_pos g⟩
  · subst g
    exact Or.inr (Or.inl ⟨rfl, rfl, rfl⟩)
  · exact Or.inr (Or.inr ⟨g, by rw [if_neg (by omega), if_neg (by omega)], if_neg (by omega)⟩)
/-- the number of a whole with room for L limbs -/
def wq (L : Nat) (f : Int → Int) (z : Int) : Prop := ∃ n : Nat, n ≤ L ∧ f 80 = n ∧ lR f n ∧ (0 < n → f ((n : Int) - 1) ≠ 0) ∧ vL f n = zAbs z ∧ f 81 = zSg z
theorem wq_n {f : Int → Int} {z : Int} {n : Nat} (hr : lR f n) (ht : 0 < n → f ((n : Int) - 1) ≠ 0) (hz : vL f n = zAbs z) : (z = 0 ↔ n = 0) ∧ zAbs z < cB ^ n ∧ (0 < n → cB ^ (n - 1) ≤ zAbs z) := by
  have h1 := vL_lt hr
  have h2 : 0 < n → cB ^ (n - 1) ≤ zAbs z := fun h => by
    obtain ⟨m, rfl⟩ : ∃ m, n = m + 1 := ⟨n - 1, by omega⟩
    rw [← hz]
    refine vL_ge hr ?_
    have := ht h
    rw [show ((m + 1 : Nat) : Int) - 1 = m by omega] at this
    exact this
  refine ⟨⟨fun h => ?_, fun h => ?_⟩, by omega, h2⟩
  · rcases Nat.eq_zero_or_pos n with q | q
    · exact q
    · have := h2 q
      have h3 := cB_pos (n - 1)
      have : zAbs z = 0 := by rw [h]; rfl
      omega
  · subst h
    have : zAbs z = 0 := by rw [← hz]; rfl
    rcases zSg_c z with g | g | g <;> omega
theorem wq_cong {L : Nat} {f g : Int → Int} {z : Int} (hL : L ≤ 64) (h : wq L f z) (e : ∀ i, 0 ≤ i → i < 82 → g i = f i) : wq L g z := by
  obtain ⟨n, a, b, c, d, e1, e2⟩ := h
  exact ⟨n, a, by rw [e 80 (by decide) (by decide)]; exact b, lR_cong c (fun k hk => e k (by omega) (by omega)), fun h0 => by rw [e _ (by omega) (by omega)]; exact d h0, by rw [vL_cong (fun k hk => e k (by omega) (by omega))]; exact e1, by rw [e 81 (by decide) (by decide)]; exact e2⟩
theorem wq_lt {L : Nat} {f : Int → Int} {z : Int} (h : wq L f z) : zAbs z < cB ^ L := by
  obtain ⟨n, a, b, c, d, e1, e2⟩ := h
  have := (wq_n c d e1).2.1
  have h2 := cB_mono a
  omega
theorem wq_s {L : Nat} {f : Int → Int} {z : Int} (h : wq L f z) : f 81 = zSg z := by
  obtain ⟨n, a, b, c, d, e1, e2⟩ := h
  exact e2
/-- out of the sign, the limbs and the used ones -/
theorem wq_mk {L : Nat} {f : Int → Int} {n : Nat} (hn : n ≤ L) (h8 : f 80 = n) (hr : lR f n) (ht : 0 < n → f ((n : Int) - 1) ≠ 0) {z : Int} (hz : vL f n = zAbs z) (hs : f 81 = zSg z) : wq L f z := ⟨n, hn, h8, hr, ht, hz, hs⟩
/-- size and limbs -/
theorem nl_le {n m : Nat} {z : Int} (h : 0 < n → cB ^ (n - 1) ≤ zAbs z) (h2 : zAbs z < cB ^ m) : n ≤ m := by
  rcases Nat.lt_or_ge m n with g | g
  · have h1 := h (by omega)
    have h3 := cB_mono (show m ≤ n - 1 by omega)
    omega
  · exact g
/-- into another room -/
theorem wq_to {L L' : Nat} {f : Int → Int} {z : Int} (h : wq L f z) (hz : zAbs z < cB ^ L') : wq L' f z := by
  obtain ⟨n, a, b, c, d, e1, e2⟩ := h
  exact ⟨n, nl_le (wq_n c d e1).2.2 hz, b, c, d, e1, e2⟩
theorem lw_64 (k : Nat) : cB ^ lw k ≤ cB ^ 64 := cB_mono (by rcases lw_b k with q | q <;> omega)
theorem lw_32 (k : Nat) : cB ^ 32 ≤ cB ^ lw k := cB_mono (by rcases lw_b k with q | q <;> omega)
theorem wq_64 {k : Nat} {f : Int → Int} {z : Int} (h : wq (lw k) f z) : zAbs z < cB ^ 64 := by
  have h1 := wq_lt h
  have h2 := lw_64 k
  omega
theorem lw_d {k : Nat} (h : k < 10) : lw k = 64 := by
  have e : Nat.blt k 10 = true := by rw [Nat.blt_eq]; exact h
  unfold lw
  rw [e]
  rfl
theorem lw_n {k : Nat} (h : 10 ≤ k) (h2 : k < 311) : lw k = 32 := by
  have e : Nat.blt k 10 = false := by
    cases q : Nat.blt k 10
    · rfl
    · rw [Nat.blt_eq] at q
      omega
  have e2 : Nat.ble 311 k = false := by
    cases q : Nat.ble 311 k
    · rfl
    · have := Nat.le_of_ble_eq_true q
      omega
  unfold lw
  rw [e, e2]
  rfl
theorem lw_w {k : Nat} (h : 311 ≤ k) (h2 : k < 328) : lw k = 64 := by
  have e : Nat.ble 311 k = true := Nat.ble_eq.mpr h
  have e2 : Nat.beq k 328 = false := by
    cases q : Nat.beq k 328
    · rfl
    · have := Nat.eq_of_beq_eq_true q
      omega
  have e3 : Nat.beq k 329 = false := by
    cases q : Nat.beq k 329
    · rfl
    · have := Nat.eq_of_beq_eq_true q
      omega
  unfold lw
  rw [e, e2, e3]
  cases Nat.blt k 10 <;> rfl
