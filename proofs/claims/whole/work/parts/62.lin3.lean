/-! The row at hand loses all leads: how large it grows. -/
def ech (hs s : Int → Int) : Prop := ∀ l : Nat, l < 15 → hs l ≠ 0 → 0 < rv s l l ∧ (∀ k, l < k → k < 15 → rv s l k = 0) ∧ (∀ m : Nat, m < 15 → m ≠ l → hs m ≠ 0 → rv s l m = 0) ∧ ∀ c : Int, (∀ k, k < 15 → c ∣ rv s l k) → c ∣ 1
def crt (hs s : Int → Int) (p : Nat) (G : List lV) (L : List Nat) : Prop := dt G L ≠ 0 ∧ L.Nodup ∧ (∀ j, j ∈ L → j < 15 ∧ hs j ≠ 0) ∧ ∀ l : Nat, l ≤ p → l < 15 → hs l ≠ 0 → l ∈ L ∧ nul G (rv s l)
theorem row_b {hs s : Int → Int} {p : Nat} {G : List lV} {L : List Nat} (e : ech hs s) (c : crt hs s p G L) {l : Nat} (h1 : l ≤ p) (h2 : l < 15) (h3 : hs l ≠ 0) : rv s l l ∣ dt G L ∧ ∀ k, k < 15 → zAbs (rv s l k) ≤ nP 15 G ∧ ∃ P, rv s l k * dt G L = rv s l l * P ∧ zAbs P ≤ nP 15 G := by
  obtain ⟨c0, c1, c2, c3⟩ := c
  obtain ⟨d1, d2⟩ := c3 l h1 h2 h3
  obtain ⟨e1, e2, e3, e4⟩ := e l h2 h3
  have cr : ∀ k, k < 15 → ∃ P, rv s l k * dt G L = rv s l l * P ∧ zAbs P ≤ nP 15 G := fun k hk => cram d2 c1 (fun j hj => (c2 j hj).1) d1 (fun j hj hn => e3 j (c2 j hj).1 hn (c2 j hj).2) hk
  have dv : rv s l l ∣ dt G L := prim_d (v := rv s l) (n := 15) (by omega) e4 (fun k hk => by
    obtain ⟨P, hP, -⟩ := cr k hk
    exact ⟨P, hP⟩)
  refine ⟨dv, fun k hk => ⟨?_, cr k hk⟩⟩
  obtain ⟨P, hP, hP2⟩ := cr k hk
  obtain ⟨x, hx⟩ := dv
  have x0 : x ≠ 0 := fun g => c0 (by rw [hx, g, Int.mul_zero])
  have e5 : rv s l k * x = P := by
    rw [hx] at hP
    have : rv s l l * (rv s l k * x) = rv s l l * P := by grind
    exact Int.eq_of_mul_eq_mul_left (by omega) this
  rw [← e5, zAbs_x] at hP2
  have x1 : 1 ≤ zAbs x := by unfold zAbs; split <;> omega
  have := Int.mul_le_mul_of_nonneg_left x1 (zAbs_p (rv s l k))
  omega
theorem dS_1 {f : Nat → Int} {q : Nat} : ∀ {n : Nat}, q < n → (∀ l, l < n → l ≠ q → f l = 0) → dS f n = f q
  | 0, h, _ => absurd h (Nat.not_lt_zero _)
  | n + 1, h, hz => by
    show dS f n + f n = f q
    rcases Decidable.em (q = n) with e | e
    · subst e
      have : dS f q = 0 := by
        have : ∀ k, k ≤ q → dS f k = 0 := by
          intro k
          induction k with
          | zero => intro _; rfl
          | succ k ih =>
            intro hk
            show dS f k + f k = 0
            rw [ih (by omega), hz k (by omega) (by omega)]
            rfl
        exact this q (Nat.le_refl q)
      rw [this, Int.zero_add]
    · rw [dS_1 (n := n) (by omega) (fun l hl => hz l (by omega)), hz n (by omega) (fun g => e g.symm), Int.add_zero]
theorem dS_l {f g : Nat → Int} {a b : Int} : ∀ {n : Nat}, dS (fun l => a * f l + b * g l) n = a * dS f n + b * dS g n
  | 0 => by show (0 : Int) = a * 0 + b * 0; omega
  | n + 1 => by
    show dS (fun l => a * f l + b * g l) n + (a * f n + b * g n) = a * (dS f n + f n) + b * (dS g n + g n)
    rw [dS_l]
    grind
theorem dS_s {f : Nat → Int} {g : lV} {N : Int} : ∀ {n : Nat}, (∀ l, l < n → zAbs (f l) ≤ zAbs (g l) * N) → zAbs (dS f n) ≤ nS g n * N
  | 0, _ => by
    show zAbs 0 ≤ 0 * N
    rw [Int.zero_mul]
    decide
  | n + 1, h => by
    have h1 := dS_s (f := f) (g := g) (N := N) (n := n) (fun l hl => h l (by omega))
    have h2 := h n (by omega)
    have h3 := zAbs_tri (dS f n) (f n)
    show zAbs (dS f n + f n) ≤ (nS g n + zAbs (g n)) * N
    rw [Int.add_mul]
    omega
theorem nS_1 {g : lV} : ∀ {n j : Nat}, j < n → zAbs (g j) ≤ nS g n
  | 0, _, h => absurd h (Nat.not_lt_zero _)
  | n + 1, j, h => by
    have h1 := nS_p g n
    have h2 := zAbs_p (g n)
    show zAbs (g j) ≤ nS g n + zAbs (g n)
    rcases Decidable.em (j = n) with e | e
    · rw [e]; omega
    · have := nS_1 (g := g) (n := n) (j := j) (by omega)
      omega
/-- what stands when the leads from m up are lost -/
def dI (hs s0 : Int → Int) (G : List lV) (L : List Nat) (m : Nat) (s : Int → Int) (T : Int) (c : Nat → Int) : Prop :=
  (∀ q, q < 2025 → s q = s0 q) ∧ 0 < T ∧ T ∣ dt G L ∧ (∀ l : Nat, l < 15 → (l < m ∨ hs l = 0) → c l = 0) ∧ (∀ l : Nat, m ≤ l → l < 15 → hs l ≠ 0 → c l * rv s0 l l = T * wv s0 l) ∧ ∀ j : Nat, j < 15 → s (2025 + j) = T * wv s0 j - dS (fun l => c l * rv s0 l j) 15
section
variable {hs s0 : Int → Int} {p : Nat} {G : List lV} {L : List Nat}
theorem dI_b {m : Nat} {s : Int → Int} {T : Int} {c : Nat → Int} (e : ech hs s0) (k : crt hs s0 p G L) (hv : ∀ j, p < j → j < 15 → wv s0 j = 0) (h : dI hs s0 G L m s T c) : ∀ j : Nat, j < 15 → zAbs (s (2025 + j)) ≤ 2 * (nP 15 G * nS (wv s0) 15) := by
  obtain ⟨-, T0, T1, c0, c1, hw⟩ := h
  intro j hj
  have k0 := k.1
  have dN : zAbs (dt G L) ≤ nP 15 G := dt_b k.2.1 (fun j hj => (k.2.2.1 j hj).1)
  have TD : T ≤ zAbs (dt G L) := by
    rw [zAbs_n]
    have h1 : T ∣ ((dt G L).natAbs : Int) := Int.dvd_natAbs.mpr T1
    exact Int.le_of_dvd (by omega) h1
  have N0 := nP_p 15 G
  have trm : ∀ l, l < 15 → zAbs (c l * rv s0 l j) ≤ zAbs (wv s0 l) * nP 15 G := by
    intro l hl
    rcases Decidable.em (l < m ∨ hs l = 0) with g | g
    · rw [c0 l hl g, Int.zero_mul]
      exact Int.mul_nonneg (zAbs_p _) N0
    · have hl2 : hs l ≠ 0 := fun q => g (Or.inr q)
      have e1 := c1 l (by omega) hl hl2
      obtain ⟨r0, -, -, -⟩ := e l hl hl2
      rcases Nat.lt_or_ge p l with g2 | g2
      · rw [hv l g2 hl, Int.mul_zero] at e1
        have : c l = 0 := by
          rcases Int.mul_eq_zero.mp e1 with q | q
          · exact q
          · omega
        rw [this, Int.zero_mul]
        exact Int.mul_nonneg (zAbs_p _) N0
      · obtain ⟨-, hb⟩ := row_b e k g2 hl hl2
        obtain ⟨-, P, hP, hP2⟩ := hb j hj
        have e2 : c l * rv s0 l j * dt G L = T * wv s0 l * P := by
          rw [Int.mul_assoc, hP, ← Int.mul_assoc, e1]
        have e3 : zAbs (c l * rv s0 l j) * zAbs (dt G L) = T * (zAbs (wv s0 l) * zAbs P) := by
          rw [← zAbs_x, e2, zAbs_x, zAbs_x, zAbs_nn (show 0 ≤ T by omega), Int.mul_assoc]
        have e4 : T * (zAbs (wv s0 l) * zAbs P) ≤ zAbs (dt G L) * (zAbs (wv s0 l) * nP 15 G) := Int.mul_le_mul TD (Int.mul_le_mul_of_nonneg_left hP2 (zAbs_p _)) (Int.mul_nonneg (zAbs_p _) (zAbs_p _)) (zAbs_p _)
        rw [← e3, Int.mul_comm] at e4
        have dp : 0 < zAbs (dt G L) := by unfold zAbs; split <;> omega
        exact Int.le_of_mul_le_mul_left e4 dp
  have s1 := dS_s (f := fun l => c l * rv s0 l j) (g := wv s0) (N := nP 15 G) (n := 15) trm
  have s2 := nS_1 (g := wv s0) hj
  have s3 : zAbs (T * wv s0 j) ≤ nP 15 G * nS (wv s0) 15 := by
    rw [zAbs_x, zAbs_nn (show 0 ≤ T by omega)]
    exact Int.mul_le_mul (Int.le_trans TD dN) s2 (zAbs_p _) N0
  rw [hw j hj]
  have s4 := zAbs_tri (T * wv s0 j) (-dS (fun l => c l * rv s0 l j) 15)
  rw [show zAbs (-dS (fun l => c l * rv s0 l j) 15) = zAbs (dS (fun l => c l * rv s0 l j) 15) by unfold zAbs; split <;> split <;> omega] at s4
  rw [Int.mul_comm (nS (wv s0) 15)] at s1
  rw [Int.sub_eq_add_neg]
  omega
theorem dI_s {m : Nat} {s : Int → Int} {T : Int} {c : Nat → Int} (e : ech hs s0) (k : crt hs s0 p G L) (hp : p < 15) (hm : m ≤ p) (hk : hs m ≠ 0) (h : dI hs s0 G L (m + 1) s T c) : ∃ T' c', dI hs s0 G L m (hS s 2025 m 14) T' c' := by
  obtain ⟨h1, T0, T1, c0, c1, hw⟩ := h
  obtain ⟨r0, r1, r2, -⟩ := e m (by omega) hk
  have rs : ∀ j, rv s m j = rv s0 m j := fun j => by
    rcases Nat.lt_or_ge j 15 with g | g
    · rw [rv_in g, rv_in g, h1 _ (by omega)]
    · unfold rv
      rw [if_neg (by omega), if_neg (by omega)]
  have em : s (45 * (m : Int) + m) = rv s0 m m := by rw [← rs m, rv_in (by omega)]
  have rp : 0 < s (45 * (m : Int) + m) := by rw [em]; exact r0
  obtain ⟨g0, g1, g2, C0, CD⟩ := hCD (a := 2025) rp
  rw [em] at g0 g1 g2 CD
  have wm : s (2025 + m) = T * wv s0 m := by
    rw [hw m (by omega), dS_1 (q := m) (by omega) (fun l hl hn => ?_), c0 m (by omega) (Or.inl (by omega)), Int.zero_mul, Int.sub_zero]
    show c l * rv s0 l m = 0
    rcases Decidable.em (hs l = 0) with q | q
    · rw [c0 l hl (Or.inr q), Int.zero_mul]
    · rw [(e l hl q).2.2.1 m (by omega) (fun g => hn g.symm) hk, Int.mul_zero]
  have nw : ∀ j : Nat, j < 15 → hS s 2025 m 14 (2025 + j) = hC1 s 2025 m * s (2025 + j) - hD1 s 2025 m * rv s0 m j := fun j hj => by
    rw [hS_in (by decide) rp (fun q => by rw [rs]; exact r1 j q hj) hj (by omega), rs]
  obtain ⟨C, hC⟩ : ∃ C, hC1 s 2025 m = C := ⟨_, rfl⟩
  obtain ⟨D, hD⟩ : ∃ D, hD1 s 2025 m = D := ⟨_, rfl⟩
  rw [hC, hD] at nw
  rw [hC] at g1 C0 CD
  rw [hD] at CD
  have dr := (row_b e k hm (by omega) hk).1
  have gT : (Int.gcd T (rv s0 m m) : Int) ∣ lG' (s (2025 + m)) (rv s0 m m) := by
    unfold lG'
    rw [wm]
    exact Int.dvd_coe_gcd (Int.dvd_trans (Int.gcd_dvd_left ..) (Int.dvd_mul_right ..)) (Int.gcd_dvd_right ..)
  have T2 : T * C ∣ dt G L := lcm_1 T1 dr g0 g1 gT
  refine ⟨T * C, fun l => if l = m then D else C * c l, fun q hq => ?_, Int.mul_pos T0 C0, T2, fun l hl hc => ?_, fun l l0 l1 l2 => ?_, fun j hj => ?_⟩
  · rw [hS_out (by omega) (Or.inl hq)]
    exact h1 q hq
  · have hne : l ≠ m := by
      rintro rfl
      rcases hc with q | q
      · omega
      · exact hk q
    show (if l = m then D else C * c l) = 0
    rw [if_neg hne, c0 l hl (by omega), Int.mul_zero]
  · show (if l = m then D else C * c l) * rv s0 l l = T * C * wv s0 l
    rcases Decidable.em (l = m) with q | q
    · subst q
      rw [if_pos rfl, ← CD, wm]
      grind
    · rw [if_neg q, Int.mul_assoc, c1 l (by omega) l1 l2]
      grind
  · have e5 : dS (fun l => (if l = m then D else C * c l) * rv s0 l j) 15 = C * dS (fun l => c l * rv s0 l j) 15 + 1 * dS (fun l => if l = m then D * rv s0 m j else 0) 15 := by
      rw [← dS_l]
      refine dS_c (fun l hl => ?_)
      rcases Decidable.em (l = m) with q | q
      · subst q
        rw [if_pos rfl, if_pos rfl, c0 l hl (Or.inl (by omega))]
        grind
      · rw [if_neg q, if_neg q]
        grind
    have e6 : dS (fun l => if l = m then D * rv s0 m j else 0) 15 = D * rv s0 m j := by
      rw [dS_1 (q := m) (by omega) (fun l _ hn => if_neg hn), if_pos rfl]
    rw [nw j hj, hw j hj, e5, e6]
    grind
end
