/-! All numbers beside the desk as one function. -/
def vU (V : Nat → Int) (k : Nat) (x : Int) : Nat → Int := fun t => if t = k then x else V t
theorem vU_s (V : Nat → Int) (k : Nat) (x : Int) : vU V k x k = x := if_pos rfl
theorem vU_n (V : Nat → Int) {k t : Nat} (x : Int) (h : t ≠ k) : vU V k x t = V t := if_neg h
def aR (W : Nat → Int → Int) (V : Nat → Int) : Prop := (∀ t, 10 ≤ t → t < 332 → wq (lw t) (W t) (V t)) ∧ ∀ t, t < 10 → dv W t
theorem aR_c {W : Nat → Int → Int} {V V' : Nat → Int} (h : aR W V) (e : ∀ t, 10 ≤ t → t < 332 → V' t = V t) : aR W V' := ⟨fun t h0 h1 => by rw [e t h0 h1]; exact h.1 t h0 h1, h.2⟩
theorem aR_k {W W' : Nat → Int → Int} {V : Nat → Int} {k : Nat} {x : Int} (h : aR W V) (hf : ∀ t, 10 ≤ t → t ≠ k → W' t = W t) (hk : wq (lw k) (W' k) x) (hd : ∀ t, t < 10 → dv W' t) : aR W' (vU V k x) := ⟨fun t h0 h1 => by
  rcases Decidable.em (t = k) with q | q
  · rw [q, vU_s]; exact hk
  · rw [vU_n V x q, hf t h0 q]; exact h.1 t h0 h1, hd⟩
theorem aR_1 {W : Nat → Int → Int} {V : Nat → Int} {k : Nat} {x : Int} {f : Int → Int} (h : aR W V) (k10 : 10 ≤ k) (hk : wq (lw k) f x) : aR (uA W k f) (vU V k x) := aR_k h (fun t _ ht => uA_n _ _ ht) (by rw [uA_g]; exact hk) (fun t ht => dv_n (h.2 t ht) (uA_n _ _ (by omega)))
theorem aR_g {W W' : Nat → Int → Int} {V V' : Nat → Int} {a n : Nat} (h : aR W V) (hf : ∀ t, 10 ≤ t → (t < a ∨ a + n ≤ t) → W' t = W t) (ho : ∀ t, 10 ≤ t → t < 332 → (t < a ∨ a + n ≤ t) → V' t = V t) (hv : ∀ i, i < n → wq (lw (a + i)) (W' (a + i)) (V' (a + i))) (hd : ∀ t, t < 10 → dv W' t) : aR W' V' := ⟨fun t h0 h1 => by
  rcases Nat.lt_or_ge t a with q | q
  · rw [ho t h0 h1 (Or.inl q), hf t h0 (Or.inl q)]; exact h.1 t h0 h1
  · rcases Nat.lt_or_ge t (a + n) with q2 | q2
    · have := hv (t - a) (by omega)
      rw [show a + (t - a) = t by omega] at this
      exact this
    · rw [ho t h0 h1 (Or.inr q2), hf t h0 (Or.inr q2)]; exact h.1 t h0 h1, hd⟩
/-- limbs for bits -/
theorem cB_2 (m : Nat) : (2 : Int) ^ m < cB ^ (m / 31 + 1) := by
  have e : cB ^ (m / 31 + 1) = 2 ^ (31 * (m / 31 + 1)) := by rw [Int.pow_mul]; rfl
  rw [e]
  exact two_m (by omega)
theorem p2_m {a b : Nat} (h : a ≤ b) : (2 : Int) ^ a ≤ 2 ^ b := zb_ple h
theorem cB_b (n : Nat) : cB ^ n = 2 ^ (31 * n) := by rw [Int.pow_mul]; rfl
theorem c1922 : cB ^ 62 = 2 ^ 1922 := cB_b 62
/-- the numbers with more room -/
theorem lw_64w {k : Nat} (h : 311 ≤ k ∧ k ≠ 328 ∧ k ≠ 329) : lw k = 64 := by
  have e : Nat.ble 311 k = true := Nat.ble_eq.mpr h.1
  have e2 : Nat.beq k 328 = false := by
    cases q : Nat.beq k 328
    · rfl
    · exact absurd (Nat.eq_of_beq_eq_true q) h.2.1
  have e3 : Nat.beq k 329 = false := by
    cases q : Nat.beq k 329
    · rfl
    · exact absurd (Nat.eq_of_beq_eq_true q) h.2.2
  unfold lw
  rw [e, e2, e3]
  cases Nat.blt k 10 <;> rfl
theorem lw_le {j k : Nat} (h0 : 10 ≤ j) (h : (j < 311 ∨ j = 328 ∨ j = 329) ∨ (311 ≤ k ∧ k ≠ 328 ∧ k ≠ 329)) : cB ^ lw j ≤ cB ^ lw k := by
  refine cB_mono ?_
  rcases h with (g | g | g) | g
  · rw [lw_n h0 g]
    rcases lw_b k with q | q <;> omega
  · subst g
    show 32 ≤ lw k
    rcases lw_b k with q | q <;> omega
  · subst g
    show 32 ≤ lw k
    rcases lw_b k with q | q <;> omega
  · rw [lw_64w g]
    rcases lw_b j with q | q <;> omega
theorem lwN {N k : Nat} (h : N ≤ 930 ∨ (N ≤ 1922 ∧ 311 ≤ k ∧ k ≠ 328 ∧ k ≠ 329)) : N ≤ 1922 ∧ N + 62 ≤ 31 * lw k := by
  rcases h with g | g
  · rcases lw_b k with q | q <;> omega
  · rw [lw_64w g.2]
    omega
theorem lwB {N k : Nat} {x y : Int} (h : N + 62 ≤ 31 * lw k) (hx : x ≤ 2 ^ N) (hy : y ≤ 2 ^ N) : x + y < cB ^ lw k := by
  rw [cB_b]
  have := two_m (show N + 1 < 31 * lw k by omega)
  have e : (2 : Int) ^ (N + 1) = 2 ^ N * 2 := Int.pow_succ 2 N
  omega
theorem lwC {N k : Nat} {x : Int} (h : N + 62 ≤ 31 * lw k) (hx : x ≤ 2 ^ N) : x < cB ^ lw k := by
  rw [cB_b]
  have := two_m (show N < 31 * lw k by omega)
  omega
theorem two_le {x y : Int} {m n : Nat} (hx : zAbs x ≤ 2 ^ m) (hy : zAbs y ≤ 2 ^ n) : zAbs (x * y) ≤ 2 ^ (m + n) := by
  rw [zAbs_x, Int.pow_add]
  exact Int.mul_le_mul hx hy (zAbs_0 y) (by have := p2_pos m; omega)
section
variable {F : Nat → Int} {A W : Nat → Int → Int} {V : Nat → Int} {rt : Option eV → eM → Prop}
theorem copy_a (h : aR W V) {k j : Nat} (k0 : 10 ≤ k) (k1 : k < 332) (j0 : 10 ≤ j) (j1 : j < 332) (jk : j ≠ k) (q : ∀ W', aR W' (vU V k (V j)) → rt none (cC F A W')) (hw : (j < 311 ∨ j = 328 ∨ j = 329) ∨ (311 ≤ k ∧ k ≠ 328 ∧ k ≠ 329) := by first | omega | (unfold gb; omega)) : SX8_copy [eR (2, k), eR (2, j)] (cC F A W) rt :=
  SX8_copy_i k1 j1 jk (h.1 j j0 j1) (Int.lt_of_lt_of_le (wq_lt (h.1 j j0 j1)) (lw_le j0 hw)) (fun _ hf => q _ (aR_1 h k0 hf))
theorem set_a (h : aR W V) {k : Nat} {v : Int} (k0 : 10 ≤ k) (k1 : k < 332) (hv : w64 v) (q : ∀ W', aR W' (vU V k v) → rt none (cC F A W')) : SX8_set [eR (2, k), eL v] (cC F A W) rt :=
  SX8_set_i k1 hv (fun _ hf => q _ (aR_1 h k0 hf))
theorem turn_a (h : aR W V) {k : Nat} (k0 : 10 ≤ k) (k1 : k < 332) (q : ∀ W', aR W' (vU V k (-V k)) → rt none (cC F A W')) : SX8_turn [eR (2, k)] (cC F A W) rt :=
  SX8_turn_i k1 (h.1 k k0 k1) (fun _ hf => q _ (aR_1 h k0 hf))
theorem isZero_a (h : aR W V) {k : Nat} (k0 : 10 ≤ k) (k1 : k < 332) (q : rt (some (eI (zZ (V k)))) (cC F A W)) : SX8_isZero [eR (2, k)] (cC F A W) rt :=
  SX8_isZero_i k1 (h.1 k k0 k1) q
theorem add_a (h : aR W V) {k j : Nat} {w : Int} (k0 : 10 ≤ k) (k1 : k < 332) (j0 : 10 ≤ j) (j1 : j < 332) (jk : j ≠ k) (hw : w = 1 ∨ w = -1) (b1 : zAbs (V k) ≤ 2 ^ 930) (b2 : zAbs (V j) ≤ 2 ^ 930) (q : ∀ W', aR W' (vU V k (V k + w * V j)) → rt none (cC F A W')) : SX8_add [eR (2, k), eR (2, j), eI w] (cC F A W) rt :=
  SX8_add_i k1 j1 jk hw (h.1 k k0 k1) (h.1 j j0 j1) (lwB (lwN (N := 930) (k := k) (Or.inl (by decide))).2 b1 b2) (fun _ hf => q _ (aR_1 h k0 hf))
theorem add_w (h : aR W V) {k j : Nat} {w : Int} (k0 : 10 ≤ k) (k1 : k < 332) (j0 : 10 ≤ j) (j1 : j < 332) (jk : j ≠ k) (hw : w = 1 ∨ w = -1) (b1 : zAbs (V k) ≤ 2 ^ 1922) (b2 : zAbs (V j) ≤ 2 ^ 1922) (q : ∀ W', aR W' (vU V k (V k + w * V j)) → rt none (cC F A W')) (hN : 311 ≤ k ∧ k ≠ 328 ∧ k ≠ 329 := by first | omega | (unfold gb; omega)) : SX8_add [eR (2, k), eR (2, j), eI w] (cC F A W) rt :=
  SX8_add_i k1 j1 jk hw (h.1 k k0 k1) (h.1 j j0 j1) (lwB (lwN (N := 1922) (k := k) (Or.inr ⟨by decide, hN⟩)).2 b1 b2) (fun _ hf => q _ (aR_1 h k0 hf))
theorem setProduct_a (h : aR W V) {k a b m n : Nat} (k0 : 10 ≤ k) (k1 : k < 332) (a0 : 10 ≤ a) (a1 : a < 332) (b0 : 10 ≤ b) (b1 : b < 332) (ak : a ≠ k) (bk : b ≠ k) (hm : zAbs (V a) ≤ 2 ^ m) (hn : zAbs (V b) ≤ 2 ^ n) (hmn : m + n ≤ 930) (q : ∀ W', aR W' (vU V k (V a * V b)) → rt none (cC F A W')) : SX8_setProduct [eR (2, k), eR (2, a), eR (2, b)] (cC F A W) rt :=
  SX8_setProduct_i (p := m / 31 + 1) (q := n / 31 + 1) k1 a1 b1 ak bk (h.1 a a0 a1) (h.1 b b0 b1) (Int.lt_of_le_of_lt hm (cB_2 m)) (Int.lt_of_le_of_lt hn (cB_2 n)) (by have := lw_b k; omega) (fun _ hf => q _ (aR_1 h k0 hf))
theorem addP_a (h : aR W V) {k a b m n : Nat} {w : Int} (k0 : 10 ≤ k) (k1 : k < 332) (a0 : 10 ≤ a) (a1 : a < 332) (b0 : 10 ≤ b) (b1 : b < 332) (hw : w = 1 ∨ w = -1) (hm : zAbs (V a) ≤ 2 ^ m) (hn : zAbs (V b) ≤ 2 ^ n) (hmn : m + n ≤ 930) (hk : zAbs (V k) ≤ 2 ^ 930) (q : ∀ W', aR W' (vU V k (V k + w * (V a * V b))) → rt none (cC F A W')) : SX1_addProduct [eR (1, 2), eR (2, k), eR (2, a), eR (2, b), eI w] (cC F A W) rt :=
  SX1_addProduct_i (p := m / 31 + 1) (q := n / 31 + 1) k1 a1 b1 (by omega) (by omega) (by omega) hw (h.1 k k0 k1) (h.1 a a0 a1) (h.1 b b0 b1) (Int.lt_of_le_of_lt hm (cB_2 m)) (Int.lt_of_le_of_lt hn (cB_2 n)) (by have := lwN (N := 930) (k := k) (Or.inl (by decide)); omega) (lwB (lwN (N := 930) (k := k) (Or.inl (by decide))).2 hk (Int.le_trans (two_le hm hn) (p2_m hmn))) (h.2 8 (by decide)) (fun W' f1 g1 d1 => q W' (aR_k h (fun t t0 tk => f1 t (by omega) tk) g1 (fun t ht => by
    by_cases e : t = 8
    · rw [e]; exact d1
    · exact dv_n (h.2 t ht) (f1 t e (by omega)))))
theorem addP_w (h : aR W V) {k a b m n : Nat} {w : Int} (k0 : 10 ≤ k) (k1 : k < 332) (a0 : 10 ≤ a) (a1 : a < 332) (b0 : 10 ≤ b) (b1 : b < 332) (hw : w = 1 ∨ w = -1) (hm : zAbs (V a) ≤ 2 ^ m) (hn : zAbs (V b) ≤ 2 ^ n) (hmn : m + n ≤ 1922) (hk : zAbs (V k) ≤ 2 ^ 1922) (q : ∀ W', aR W' (vU V k (V k + w * (V a * V b))) → rt none (cC F A W')) (hN : 311 ≤ k ∧ k ≠ 328 ∧ k ≠ 329 := by first | omega | (unfold gb; omega)) : SX1_addProduct [eR (1, 2), eR (2, k), eR (2, a), eR (2, b), eI w] (cC F A W) rt :=
  SX1_addProduct_i (p := m / 31 + 1) (q := n / 31 + 1) k1 a1 b1 (by omega) (by omega) (by omega) hw (h.1 k k0 k1) (h.1 a a0 a1) (h.1 b b0 b1) (Int.lt_of_le_of_lt hm (cB_2 m)) (Int.lt_of_le_of_lt hn (cB_2 n)) (by have := lwN (N := 1922) (k := k) (Or.inr ⟨by decide, hN⟩); omega) (lwB (lwN (N := 1922) (k := k) (Or.inr ⟨by decide, hN⟩)).2 hk (Int.le_trans (two_le hm hn) (p2_m hmn))) (h.2 8 (by decide)) (fun W' f1 g1 d1 => q W' (aR_k h (fun t t0 tk => f1 t (by omega) tk) g1 (fun t ht => by
    by_cases e : t = 8
    · rw [e]; exact d1
    · exact dv_n (h.2 t ht) (f1 t e (by omega)))))
theorem mult_a (h : aR W V) {k b m n : Nat} (k0 : 10 ≤ k) (k1 : k < 332) (b0 : 10 ≤ b) (b1 : b < 332) (hm : zAbs (V k) ≤ 2 ^ m) (hn : zAbs (V b) ≤ 2 ^ n) (hmn : m + n ≤ 930) (q : ∀ W', aR W' (vU V k (V k * V b)) → rt none (cC F A W')) : SX1_multiply [eR (1, 2), eR (2, k), eR (2, b)] (cC F A W) rt :=
  SX1_multiply_i (p := m / 31 + 1) (q := n / 31 + 1) k1 b1 (by omega) (by omega) (h.1 k k0 k1) (h.1 b b0 b1) (Int.lt_of_le_of_lt hm (cB_2 m)) (Int.lt_of_le_of_lt hn (cB_2 n)) (by omega) (lwC (N := m + n) (by have := lw_b k; omega) (two_le hm hn)) (fun W' f1 g1 d1 => q W' (aR_k h (fun t t0 tk => f1 t (by omega) tk) g1 (fun t ht => by
    by_cases e : t = 8
    · rw [e]; exact d1
    · exact dv_n (h.2 t ht) (f1 t e (by omega)))))
theorem spread_a (h : aR W V) {k b m n : Nat} (k0 : 10 ≤ k) (k1 : k < 332) (b0 : 10 ≤ b) (b1 : b < 332) (kb : k ≠ b) (x0 : 0 < V k) (y0 : 0 < V b) (hm : zAbs (V k) ≤ 2 ^ m) (hn : zAbs (V b) ≤ 2 ^ n) (hmn : m + n ≤ 930) (q : ∀ W', aR W' (vU V k (V k / (Int.gcd (V k) (V b) : Int) * V b)) → rt none (cC F A W')) : SX1_spread [eR (1, 2), eR (2, k), eR (2, b)] (cC F A W) rt :=
  SX1_spread_i (p := m / 31 + 1) (q := n / 31 + 1) k1 b1 k0 b0 kb (h.1 k k0 k1) (h.1 b b0 b1) x0 y0 (Int.lt_of_le_of_lt hm (cB_2 m)) (Int.lt_of_le_of_lt hn (cB_2 n)) (by omega) h.2 (fun W' f1 g1 d1 => q W' (aR_k h f1 g1 d1))
theorem setShare_a (h : aR W V) {k a o q m n : Nat} (k0 : 10 ≤ k) (k1 : k < 332) (a0 : 10 ≤ a) (a1 : a < 332) (o0 : 10 ≤ o) (o1 : o < 332) (q0 : 10 ≤ q) (q1 : q < 332) (ak : a ≠ k) (d0 : 0 < V o) (dy : V o ∣ V q) (hm : zAbs (V a) ≤ 2 ^ m) (hn : zAbs (V q) ≤ 2 ^ n) (hmn : m + n ≤ 930) (g : ∀ W', aR W' (vU V k (V a * (V q / V o))) → rt none (cC F A W')) : SX1_setShare [eR (1, 2), eR (2, k), eR (2, a), eR (2, o), eR (2, q)] (cC F A W) rt :=
  SX1_setShare_i (m := m / 31 + 1) (n := n / 31 + 1) k1 a1 o1 q1 k0 a0 o0 q0 ak (h.1 a a0 a1) (h.1 o o0 o1) (h.1 q q0 q1) d0 dy (Int.lt_of_le_of_lt hm (cB_2 m)) (Int.lt_of_le_of_lt hn (cB_2 n)) (by omega) h.2 (fun W' f1 g1 d1 => g W' (aR_k h f1 g1 d1))
theorem tell_a (h : aR W V) {a b : Nat} {what : Int} (a0 : 10 ≤ a) (a1 : a < 332) (b0 : 10 ≤ b) (b1 : b < 332) (y0 : 0 < V b) (hm : zAbs (V a) ≤ 2 ^ 930) (hn : zAbs (V b) ≤ 2 ^ 930) (hw : w32 what) (q : ∀ W', aR W' V → rt (some (eL (tel (V a) (V b) what))) (cC F A W')) : SX1_tell [eR (1, 2), eR (2, a), eR (2, b), eI what] (cC F A W) rt :=
  SX1_tell_i a1 b1 a0 b0 (h.1 a a0 a1) (h.1 b b0 b1) y0 (by rw [c1922]; exact Int.lt_of_le_of_lt hm (two_m (by decide))) (by rw [c1922]; exact Int.lt_of_le_of_lt hn (two_m (by decide))) hw h.2 (fun W' f1 d1 => q W' ⟨fun t h0 h1 => by rw [f1 t h0]; exact h.1 t h0 h1, d1⟩)
/-- a stretch of numbers laid anew -/
def vG8 (V : Nat → Int) (a n : Nat) (f : Nat → Int) : Nat → Int := fun t => if a ≤ t ∧ t < a + n then f (t - a) else V t
theorem vG8_i (V : Nat → Int) {a n i : Nat} (f : Nat → Int) (h : i < n) : vG8 V a n f (a + i) = f i := by
  unfold vG8
  rw [if_pos (by omega), show a + i - a = i by omega]
theorem vG8_o (V : Nat → Int) {a n t : Nat} (f : Nat → Int) (h : t < a ∨ a + n ≤ t) : vG8 V a n f t = V t := if_neg (by omega)
theorem simp_a (h : aR W V) {ar : eA} {base n : Nat} (hw : wa ar base n) (hb : ∀ i, i < n → zAbs (V (base + i)) ≤ 2 ^ 1900) (q : ∀ W', aR W' (vG8 V base n (fun i => V (base + i) / (cG (fun i => V (base + i)) n : Int))) → rt none (cC F A W')) : SX1_simplify [eR (1, 2), eR ar] (cC F A W) rt := by
  have wr := wa_r hw
  exact SX1_simplify_i (V := fun i => V (base + i)) hw (fun i hi => h.1 _ (by omega) (by omega)) (fun i hi => by rw [c1922]; exact Int.lt_of_le_of_lt (hb i hi) (two_m (by decide))) h.2 (fun W' f1 g1 d1 => q W' (aR_g h f1 (fun t _ _ ht => vG8_o _ _ ht) (fun i hi => by rw [vG8_i _ _ hi]; exact g1 i hi) d1))
theorem rwipe_a (h : aR W V) {r : Nat} (hr : r < 16) (q : ∀ W', aR W' (vG8 V (rb r) (rl r) (fun _ => 0)) → rt none (cC F A W')) : SX7_wipe [eR (7, r)] (cC F A W) rt := by
  have wr := wa_r (wa_6 hr)
  exact SX7_wipe_i hr (fun W' f1 g1 => q W' (aR_g h (fun t _ ht => f1 t ht) (fun t _ _ ht => vG8_o _ _ ht) (fun i hi => by rw [vG8_i _ _ hi]; exact g1 i hi) (fun t ht => dv_n (h.2 t ht) (f1 t (by omega)))))
theorem rtake_a (h : aR W V) {r s : Nat} (hr : r < 16) (hs : s < 16) (rs : r ≠ s) (hl : rl r = rl s) (q : ∀ W', aR W' (vG8 V (rb r) (rl r) (fun i => V (rb s + i))) → rt none (cC F A W')) : SX7_take [eR (7, r), eR (7, s)] (cC F A W) rt := by
  have wr := wa_r (wa_6 hr)
  have ws := wa_r (wa_6 hs)
  exact SX7_take_i (V := fun i => V (rb s + i)) hr hs rs hl (fun i hi => h.1 _ (by omega) (by omega)) (fun W' f1 g1 => q W' (aR_g h (fun t _ ht => f1 t ht) (fun t _ _ ht => vG8_o _ _ ht) (fun i hi => by rw [vG8_i _ _ hi]; exact g1 i hi) (fun t ht => dv_n (h.2 t ht) (f1 t (by omega)))))
theorem gwipe_a (h : aR W V) {g : Nat} (hg : g < 11) (q : ∀ W', aR W' (vG8 V (gb g) 16 (fun _ => 0)) → rt none (cC F A W')) : SX2_wipe [eR (9, g)] (cC F A W) rt := by
  have wr := wa_r (wa_2 hg)
  exact SX2_wipe_i hg (fun W' f1 g1 => q W' (aR_g h (fun t _ ht => f1 t ht) (fun t _ _ ht => vG8_o _ _ ht) (fun i hi => by rw [vG8_i _ _ hi]; exact g1 i hi) (fun t ht => dv_n (h.2 t ht) (f1 t (by omega)))))
theorem gtake_a (h : aR W V) {g s : Nat} (hg : g < 11) (hs : s < 10) (gs : g ≠ s) (q : ∀ W', aR W' (vG8 V (gb g) 17 (fun i => V (gb s + i))) → rt none (cC F A W')) : SX2_take [eR (9, g), eR (9, s)] (cC F A W) rt := by
  have wr := wa_r (wa_2 hg)
  have ws : 10 ≤ gb s ∧ gb s + 17 ≤ 332 := by unfold gb; omega
  exact SX2_take_i (V := fun i => V (gb s + i)) hg (by omega) gs (fun i hi => h.1 _ (by omega) (by omega)) (fun i hi => Int.lt_of_lt_of_le (wq_lt (h.1 _ (by omega) (by omega))) (lw_le (by omega) (Or.inl (Or.inl (by unfold gb; omega))))) (fun W' f1 g1 => q W' (aR_g h (fun t _ ht => f1 t ht) (fun t _ _ ht => vG8_o _ _ ht) (fun i hi => by rw [vG8_i _ _ hi]; exact g1 i hi) (fun t ht => dv_n (h.2 t ht) (f1 t (by omega)))))
end
