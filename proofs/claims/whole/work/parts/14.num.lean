/-! Numbers of the reference: limbs of 28 bits behind a header. -/
abbrev bB : Int := 268435456
def vl (f : Int → Int) (o : Int) : Nat → Int
  | 0 => 0
  | n + 1 => vl f o n + f (o + n) * bB ^ n
def lr (f : Int → Int) (o : Int) (n : Nat) : Prop := ∀ k : Nat, k < n → 0 ≤ f (o + k) ∧ f (o + k) < bB
theorem bB_pos (n : Nat) : (0 : Int) < bB ^ n := Int.pow_pos (by decide)
theorem bB_succ (n : Nat) : bB ^ (n + 1) = bB ^ n * bB := Int.pow_succ bB n
theorem bB_mono {a b : Nat} (h : a ≤ b) : bB ^ a ≤ bB ^ b := by
  induction b with
  | zero => rw [Nat.le_zero.mp h]; exact Int.le_refl _
  | succ b ih =>
    rcases Nat.lt_or_ge a (b + 1) with h1 | h1
    · have := ih (by omega)
      have h2 := bB_pos b
      rw [bB_succ]
      show bB ^ a ≤ bB ^ b * 268435456
      omega
    · have : a = b + 1 := by omega
      subst this
      exact Int.le_refl _
theorem lr.sub {f : Int → Int} {o : Int} {n m : Nat} (h : lr f o n) (hm : m ≤ n) : lr f o m := fun k hk => h k (by omega)
theorem lr_cong {f g : Int → Int} {o o' : Int} {n : Nat} (h : lr f o n) (e : ∀ k : Nat, k < n → g (o' + k) = f (o + k)) : lr g o' n := fun k hk => by rw [e k hk]; exact h k hk
theorem vl_cong {f g : Int → Int} {o o' : Int} : ∀ {n : Nat}, (∀ k : Nat, k < n → g (o' + k) = f (o + k)) → vl g o' n = vl f o n
  | 0, _ => rfl
  | n + 1, e => by
    rw [vl, vl, vl_cong (fun k hk => e k (by omega)), e n (by omega)]
theorem vl_nn {f : Int → Int} {o : Int} : ∀ {n : Nat}, lr f o n → 0 ≤ vl f o n
  | 0, _ => Int.le_refl _
  | n + 1, h => by
    have h1 := vl_nn (h.sub (Nat.le_succ n))
    have h2 := Int.mul_nonneg (h n (by omega)).1 (Int.le_of_lt (bB_pos n))
    rw [vl]; omega
theorem vl_lt {f : Int → Int} {o : Int} : ∀ {n : Nat}, lr f o n → vl f o n < bB ^ n
  | 0, _ => by rw [vl]; exact bB_pos 0
  | n + 1, h => by
    have h1 := vl_lt (h.sub (Nat.le_succ n))
    have h2 := Int.mul_le_mul_of_nonneg_right (show f (o + n) ≤ bB - 1 by have := (h n (by omega)).2; omega) (Int.le_of_lt (bB_pos n))
    rw [vl, bB_succ]
    rw [Int.sub_mul, Int.one_mul, Int.mul_comm bB] at h2
    omega
theorem vl_ge {f : Int → Int} {o : Int} {n : Nat} (h : lr f o (n + 1)) (h0 : f (o + n) ≠ 0) : bB ^ n ≤ vl f o (n + 1) := by
  have h1 := vl_nn (h.sub (Nat.le_succ n))
  have h2 := (h n (by omega)).1
  have h3 := Int.mul_le_mul_of_nonneg_right (show 1 ≤ f (o + n) by omega) (Int.le_of_lt (bB_pos n))
  rw [vl]; omega
theorem vl_split {f : Int → Int} {o : Int} (a : Nat) : ∀ (b : Nat), vl f o (a + b) = vl f o a + vl f (o + a) b * bB ^ a
  | 0 => by simp [vl]
  | b + 1 => by
    rw [← Nat.add_assoc, vl, vl_split a b, vl, Int.add_mul, Int.mul_assoc, ← Int.pow_add, Nat.add_comm b a, Int.add_assoc]
    congr 3
    simp [Int.add_assoc]
theorem vl_0 {f : Int → Int} {o : Int} : ∀ {n : Nat}, (∀ k : Nat, k < n → f (o + k) = 0) → vl f o n = 0
  | 0, _ => rfl
  | n + 1, h => by rw [vl, vl_0 (fun k hk => h k (by omega)), h n (by omega)]; simp
/-- how many limbs are left when the zeros above are dropped -/
def tk (f : Int → Int) (o : Int) : Nat → Nat
  | 0 => 0
  | n + 1 => if f (o + n) = 0 then tk f o n else n + 1
theorem tk_le (f : Int → Int) (o : Int) : ∀ n, tk f o n ≤ n
  | 0 => Nat.le_refl _
  | n + 1 => by
    rw [tk]
    split
    · have := tk_le f o n; omega
    · exact Nat.le_refl _
theorem tk_lv (f : Int → Int) (o : Int) : ∀ n, vl f o (tk f o n) = vl f o n
  | 0 => rfl
  | n + 1 => by
    rw [tk]
    split
    · rename_i h
      rw [vl, h, tk_lv f o n]; simp
    · rfl
theorem tk_top (f : Int → Int) (o : Int) : ∀ n, 0 < tk f o n → f (o + (tk f o n : Int) - 1) ≠ 0
  | 0, h => by simp [tk] at h
  | n + 1, h => by
    rw [tk] at h ⊢
    split
    · rename_i h1
      rw [if_pos h1] at h
      exact tk_top f o n h
    · rename_i h1
      have e : o + ((n + 1 : Nat) : Int) - 1 = o + n := by omega
      rw [e]; exact h1
theorem tk_eq {f : Int → Int} {o : Int} {n : Nat} (h : 0 < n → f (o + (n : Int) - 1) ≠ 0) : tk f o n = n := by
  cases n with
  | zero => rfl
  | succ n =>
    rw [tk]
    have e : o + ((n + 1 : Nat) : Int) - 1 = o + n := by omega
    rw [e] at h
    rw [if_neg (h (by omega))]
/-- the number at a place -/
def nm (f : Int → Int) (p : Int) (z : Int) : Prop :=
  ∃ n : Nat, n ≤ 600 ∧ lr f (p * 601 + 1) n ∧ (0 < n → f (p * 601 + n) ≠ 0) ∧ ((f (p * 601) = n ∧ z = vl f (p * 601 + 1) n) ∨ (f (p * 601) = -n ∧ z = -vl f (p * 601 + 1) n))
theorem nm_cong {f g : Int → Int} {p z : Int} (h : nm f p z) (e : ∀ j, p * 601 ≤ j → j ≤ p * 601 + 600 → g j = f j) : nm g p z := by
  obtain ⟨n, hn, hr, ht, hz⟩ := h
  have e2 : ∀ k : Nat, k < n → g (p * 601 + 1 + k) = f (p * 601 + 1 + k) := fun k hk => e _ (by omega) (by omega)
  refine ⟨n, hn, lr_cong hr e2, fun h0 => by rw [e _ (by omega) (by omega)]; exact ht h0, ?_⟩
  rw [vl_cong e2, e (p * 601) (by omega) (by omega)]
  exact hz
/-- what a number's header says -/
theorem nm_h {f : Int → Int} {p z : Int} (h : nm f p z) : ∃ n : Nat, n ≤ 600 ∧ lr f (p * 601 + 1) n ∧ (0 < n → f (p * 601 + n) ≠ 0) ∧ zAbs (f (p * 601)) = n ∧ zAbs z = vl f (p * 601 + 1) n ∧ (z = 0 ↔ n = 0) ∧ (f (p * 601) < 0 ↔ z < 0) ∧ (f (p * 601) = 0 ↔ z = 0) ∧ (z ≠ 0 → bB ^ (n - 1) ≤ zAbs z) ∧ zAbs z < bB ^ n ∧ f (p * 601) = (if z < 0 then -(n : Int) else n) := by
  obtain ⟨n, hn, hr, ht, hz⟩ := h
  have h0 := vl_nn hr
  have hlt := vl_lt hr
  have hpos : 0 < n → bB ^ (n - 1) ≤ vl f (p * 601 + 1) n := by
    intro h1
    obtain ⟨k, rfl⟩ : ∃ k, n = k + 1 := ⟨n - 1, by omega⟩
    refine vl_ge hr ?_
    have e : p * 601 + 1 + ((k + 1 - 1 : Nat) : Int) = p * 601 + ((k + 1 : Nat) : Int) := by omega
    rw [e]; exact ht (by omega)
  have hp1 : 0 < n → 0 < vl f (p * 601 + 1) n := fun h1 => Int.lt_of_lt_of_le (bB_pos _) (hpos h1)
  have hz0 : n = 0 → vl f (p * 601 + 1) n = 0 := fun h1 => by rw [h1]; rfl
  have habs : zAbs z = vl f (p * 601 + 1) n := by
    unfold zAbs
    rcases hz with ⟨-, rfl⟩ | ⟨-, rfl⟩ <;> split <;> omega
  have hzz : z = 0 ↔ n = 0 := by
    constructor
    · intro e
      rcases Nat.eq_zero_or_pos n with h1 | h1
      · exact h1
      · have := hp1 h1
        rcases hz with ⟨-, h2⟩ | ⟨-, h2⟩ <;> omega
    · intro e
      have := hz0 e
      rcases hz with ⟨-, h2⟩ | ⟨-, h2⟩ <;> omega
  have hneg : f (p * 601) < 0 ↔ z < 0 := by
    rcases Nat.eq_zero_or_pos n with h1 | h1
    · have := hz0 h1
      rcases hz with ⟨h3, h2⟩ | ⟨h3, h2⟩ <;> omega
    · have := hp1 h1
      rcases hz with ⟨h3, h2⟩ | ⟨h3, h2⟩ <;> omega
  refine ⟨n, hn, hr, ht, ?_, habs, hzz, hneg, ?_, ?_, by rw [habs]; exact hlt, ?_⟩
  · unfold zAbs
    rcases hz with ⟨h3, -⟩ | ⟨h3, -⟩ <;> split <;> omega
  · rw [hzz]
    rcases hz with ⟨h3, -⟩ | ⟨h3, -⟩ <;> omega
  · intro e
    rw [habs]
    exact hpos (by omega)
  · split
    · rename_i h1
      have := hneg.mpr h1
      rcases hz with ⟨h3, -⟩ | ⟨h3, -⟩ <;> omega
    · rename_i h1
      have := fun q => h1 (hneg.mp q)
      rcases hz with ⟨h3, -⟩ | ⟨h3, h4⟩
      · exact h3
      · rcases Nat.eq_zero_or_pos n with h5 | h5 <;> omega
/-- laying a number: limbs, and the header by their trimmed count -/
theorem nm_mk {f : Int → Int} {p s : Int} {n : Nat} (hn : n ≤ 601) (hr : lr f (p * 601 + 1) n) (hl : tk f (p * 601 + 1) n ≤ 600) (hs : s = 1 ∨ s = -1) : nm (uI f (p * 601) (s * tk f (p * 601 + 1) n)) p (s * vl f (p * 601 + 1) n) := by
  have e : ∀ j, p * 601 < j → uI f (p * 601) (s * tk f (p * 601 + 1) n) j = f j := fun j hj => by unfold uI; rw [if_neg (by omega)]
  have e2 : ∀ k : Nat, k < tk f (p * 601 + 1) n → uI f (p * 601) (s * tk f (p * 601 + 1) n) (p * 601 + 1 + k) = f (p * 601 + 1 + k) := fun k _ => e _ (by omega)
  refine ⟨tk f (p * 601 + 1) n, hl, lr_cong (hr.sub (tk_le f _ n)) e2, fun h0 => ?_, ?_⟩
  · rw [e _ (by omega)]
    have := tk_top f _ n h0
    have e3 : p * 601 + 1 + (tk f (p * 601 + 1) n : Int) - 1 = p * 601 + (tk f (p * 601 + 1) n : Int) := by omega
    rw [e3] at this
    exact this
  · rw [vl_cong e2, tk_lv]
    have e4 : uI f (p * 601) (s * tk f (p * 601 + 1) n) (p * 601) = s * tk f (p * 601 + 1) n := by unfold uI; rw [if_pos rfl]
    rw [e4]
    rcases hs with rfl | rfl
    · left; constructor <;> omega
    · right; constructor <;> omega
/-- all places hold numbers -/
def rn (f : Int → Int) (σ : Int → Int) : Prop := ∀ p, 0 ≤ p → p < 2666 → nm f p (σ p)
theorem rn_up {f g : Int → Int} {σ : Int → Int} {p z : Int} (h : rn f σ) (e : ∀ j, (j < p * 601 ∨ p * 601 + 600 < j) → g j = f j) (hz : nm g p z) : rn g (uI σ p z) := by
  intro q h0 h1
  unfold uI
  split
  · rename_i e1; subst e1; exact hz
  · exact nm_cong (h q h0 h1) (fun j j0 j1 => e j (by omega))
