/-! The row at hand loses all leads: the room, and what is left. -/
theorem nul_0 (G : List lV) {v : lV} (h : ∀ k, v k = 0) : nul G v := fun J => xp_z (fun j _ => h j)
theorem nul_S {G : List lV} {c : Nat → Int} {r : Nat → lV} : ∀ {n : Nat}, (∀ l, l < n → c l ≠ 0 → nul G (r l)) → nul G (fun j => dS (fun l => c l * r l j) n)
  | 0, _ => nul_0 G (fun _ => rfl)
  | n + 1, h => by
    have h1 := nul_S (G := G) (c := c) (r := r) (n := n) (fun l hl => h l (by omega))
    rcases Decidable.em (c n = 0) with g | g
    · refine nul_e h1 (fun k => ?_)
      show dS (fun l => c l * r l k) n + c n * r n k = dS (fun l => c l * r l k) n
      rw [g, Int.zero_mul, Int.add_zero]
    · refine nul_e (nul_l 1 (c n) h1 (h n (by omega) g)) (fun k => ?_)
      show dS (fun l => c l * r l k) n + c n * r n k = 1 * dS (fun l => c l * r l k) n + c n * r n k
      omega
theorem bB_14 : ((15 : Nat) : Int) - 1 = 14 := by decide
section
variable {hs s0 : Int → Int} {p : Nat} {G : List lV} {L : List Nat}
theorem dI_l {m : Nat} {s : Int → Int} {T : Int} {c : Nat → Int} (e : ech hs s0) (h : dI hs s0 G L m s T c) {q : Nat} (h15 : q < 15) (hq : hs q ≠ 0) (hm : m ≤ q) : s (2025 + q) = 0 := by
  obtain ⟨-, -, -, c0, c1, hw⟩ := h
  rw [hw q h15, dS_1 (q := q) h15 (fun l hl hn => ?_)]
  · have := c1 q hm h15 hq
    omega
  · show c l * rv s0 l q = 0
    rcases Decidable.em (hs l = 0) with g | g
    · rw [c0 l hl (Or.inr g), Int.zero_mul]
    · rw [(e l hl g).2.2.1 q h15 (fun g => hn g.symm) hq, Int.mul_zero]
theorem dA_2 (e : ech hs s0) (k : crt hs s0 p G L) (hp : p < 15) (hv : ∀ j, p < j → j < 15 → wv s0 j = 0) (room : 2 * (nP 15 G * nS (wv s0) 15) * nP 15 G < bB ^ 598) : ∀ (m : Nat) (s : Int → Int) (T : Int) (c : Nat → Int), m ≤ p + 1 → dI hs s0 G L m s T c → dP hs (15 : Nat) m s ∧ ∃ T' c', dI hs s0 G L 0 (dA hs (15 : Nat) m s) T' c' := by
  intro m
  induction m with
  | zero => exact fun s T c _ h => ⟨trivial, T, c, h⟩
  | succ m ih =>
    intro s T c hm h
    show ((hs m ≠ 0 → hB s 2025 m (((15 : Nat) : Int) - 1)) ∧ dP hs (15 : Nat) m (if hs m = 0 then s else hS s 2025 m (((15 : Nat) : Int) - 1))) ∧ ∃ T' c', dI hs s0 G L 0 (dA hs (15 : Nat) m (if hs m = 0 then s else hS s 2025 m (((15 : Nat) : Int) - 1))) T' c'
    rw [bB_14]
    rcases Decidable.em (hs m = 0) with g | g
    · rw [if_pos g]
      have h2 : dI hs s0 G L m s T c := by
        obtain ⟨h1, T0, T1, c0, c1, hw⟩ := h
        refine ⟨h1, T0, T1, fun l hl hc => c0 l hl (by omega), fun l l0 l1 l2 => ?_, hw⟩
        rcases Decidable.em (l = m) with q | q
        · rw [q] at l2
          exact absurd g l2
        · exact c1 l (by omega) l1 l2
      obtain ⟨a, b⟩ := ih s T c (by omega) h2
      exact ⟨⟨fun q => absurd g q, a⟩, b⟩
    · rw [if_neg g]
      obtain ⟨T', c', h2⟩ := dI_s e k hp (by omega) g h
      obtain ⟨a, b⟩ := ih _ T' c' (by omega) h2
      refine ⟨⟨fun _ => ?_, a⟩, b⟩
      have bw := dI_b e k hv h
      obtain ⟨-, hb⟩ := row_b e k (show m ≤ p by omega) (by omega) g
      have r0 := (e m (by omega) g).1
      have e1 : ∀ j : Nat, j < 15 → s (45 * (m : Int) + j) = rv s0 m j := fun j hj => by
        rw [h.1 _ (by omega), rv_in hj]
      refine ⟨?_, 2 * (nP 15 G * nS (wv s0) 15), nP 15 G, fun k k0 k1 => ?_, fun k k0 k1 => ?_, room⟩
      · rw [e1 m (by omega)]
        omega
      · have := bw k.toNat (by omega)
        rw [show ((k.toNat : Nat) : Int) = k by omega] at this
        exact this
      · have h3 := e1 k.toNat (by omega)
        rw [show ((k.toNat : Nat) : Int) = k by omega] at h3
        rw [h3]
        exact (hb k.toNat (by omega)).1
/-- losing all leads: the room suffices; what is left is 0 at all leads -/
theorem dA_3 {R : Int} (e : ech hs s0) (k : crt hs s0 p G L) (hp : p < 15) (hv : ∀ j, p < j → j < 15 → wv s0 j = 0) (room : 2 * (nP 15 G * nS (wv s0) 15) * nP 15 G < bB ^ 598) (hR : ∀ l : Nat, l < 15 → hs l ≠ 0 → ∀ j, j < 15 → zAbs (rv s0 l j) ≤ R) (room2 : nS (wv s0) 15 * R < bB ^ 598) : dP hs (15 : Nat) 15 s0 ∧ ∃ T c, dI hs s0 G L 0 (dA hs (15 : Nat) 15 s0) T c := by
  have start : dI hs s0 G L (p + 1) s0 1 (fun _ => 0) := by
    refine ⟨fun _ _ => rfl, by decide, Int.one_dvd _, fun _ _ _ => rfl, fun l l0 l1 _ => ?_, fun j hj => ?_⟩
    · rw [hv l (by omega) l1]
      show (0 : Int) * _ = 1 * 0
      rw [Int.zero_mul, Int.mul_zero]
    · rw [wv_in hj]
      have : dS (fun l => (fun _ => (0 : Int)) l * rv s0 l j) 15 = 0 := by
        have h := dS_1 (f := fun l => (fun _ => (0 : Int)) l * rv s0 l j) (q := 0) (n := 15) (by decide) (fun l _ _ => Int.zero_mul _)
        rw [h]
        exact Int.zero_mul _
      rw [this]
      omega
  obtain ⟨a, b⟩ := dA_2 e k hp hv room (p + 1) s0 1 (fun _ => 0) (Nat.le_refl _) start
  have skip : ∀ d, p + 1 + d ≤ 15 → dP hs (15 : Nat) (p + 1 + d) s0 ∧ dA hs (15 : Nat) (p + 1 + d) s0 = dA hs (15 : Nat) (p + 1) s0 := by
    intro d
    induction d with
    | zero => exact fun _ => ⟨a, rfl⟩
    | succ d ih =>
      intro hd
      obtain ⟨i1, i2⟩ := ih (by omega)
      have w0 : s0 (2025 + ((p + 1 + d : Nat) : Int)) = 0 := by
        have := hv (p + 1 + d) (by omega) (by omega)
        rw [wv_in (by omega)] at this
        exact this
      have e0 : (if hs ((p + 1 + d : Nat) : Int) = 0 then s0 else hS s0 2025 ((p + 1 + d : Nat) : Int) (((15 : Nat) : Int) - 1)) = s0 := by
        split
        · rfl
        · unfold hS
          rw [if_pos w0]
      show ((hs ((p + 1 + d : Nat) : Int) ≠ 0 → hB s0 2025 ((p + 1 + d : Nat) : Int) (((15 : Nat) : Int) - 1)) ∧ dP hs (15 : Nat) (p + 1 + d) (if hs ((p + 1 + d : Nat) : Int) = 0 then s0 else hS s0 2025 ((p + 1 + d : Nat) : Int) (((15 : Nat) : Int) - 1))) ∧ dA hs (15 : Nat) (p + 1 + d) (if hs ((p + 1 + d : Nat) : Int) = 0 then s0 else hS s0 2025 ((p + 1 + d : Nat) : Int) (((15 : Nat) : Int) - 1)) = _
      rw [e0, bB_14]
      refine ⟨⟨fun g => ?_, i1⟩, i2⟩
      have r0 := (e (p + 1 + d) (by omega) g).1
      rw [rv_in (by omega)] at r0
      refine ⟨by omega, nS (wv s0) 15, R, fun k k0 k1 => ?_, fun k k0 k1 => ?_, room2⟩
      · have := nS_1 (g := wv s0) (n := 15) (j := k.toNat) (by omega)
        rw [wv_in (by omega), show ((k.toNat : Nat) : Int) = k by omega] at this
        exact this
      · have := hR (p + 1 + d) (by omega) g k.toNat (by omega)
        rw [rv_in (by omega), show ((k.toNat : Nat) : Int) = k by omega] at this
        exact this
  have := skip (14 - p) (by omega)
  rw [show p + 1 + (14 - p) = 15 by omega] at this
  rw [this.2]
  exact ⟨this.1, b⟩
/-- what is left, by the old span and the new vector -/
theorem dI_n {m : Nat} {s : Int → Int} {T : Int} {c : Nat → Int} (e : ech hs s0) (k : crt hs s0 p G L) (hv : ∀ j, p < j → j < 15 → wv s0 j = 0) (h : dI hs s0 G L m s T c) : nul G (fun j => dS (fun l => c l * rv s0 l j) 15) := by
  obtain ⟨-, T0, T1, c0, c1, hw⟩ := h
  refine nul_S (fun l hl hc => ?_)
  have g : ¬ (l < m ∨ hs l = 0) := fun q => hc (c0 l hl q)
  have hl2 : hs l ≠ 0 := fun q => g (Or.inr q)
  have e1 := c1 l (by omega) hl hl2
  obtain ⟨r0, -, -, -⟩ := e l hl hl2
  rcases Nat.lt_or_ge p l with g2 | g2
  · rw [hv l g2 hl, Int.mul_zero] at e1
    rcases Int.mul_eq_zero.mp e1 with q | q
    · exact absurd q hc
    · omega
  · exact (k.2.2.2 l g2 hl hl2).2
end
