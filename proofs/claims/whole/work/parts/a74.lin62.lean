/-! Class and reference: the finite case. -/
theorem okS_n : okS 1 (8 * btC 1 + 28) ∧ okS 2 (8 * btC 2 + 28) ∧ okS 3 (8 * btC 3 + 28) ∧ okS 4 (8 * btC 4 + 28) := by
  have o1 : ∀ m, m ≤ 1898 → okS 1 m := fun m h => by show m + 2 ≤ 1900; omega
  refine ⟨o1 _ (by decide), ⟨by decide, o1 _ (by decide)⟩, ⟨by decide, by decide, o1 _ (by decide)⟩, ⟨by decide, by decide, by decide, o1 _ (by decide)⟩⟩
theorem sz_h {hs0 s0 sy st : Int → Int} {z : (Int → Int) × (Int → Int)} {P n : Nat} (F : fin hs0 s0 z) (hsys : ∀ J, lin J → (jr J hs0 s0 ↔ ∀ q : Nat, q < P → J (sv sy (6 * q)))) (hb : ∀ k : Nat, k < 24 → -5 ≤ sy k ∧ sy k ≤ 5) (hP : P ≤ 4) (h : stO z st n) (n4 : n ≤ 4) : ∃ Δ β, (∀ j : Nat, j < n → ∀ w : Int, (w = 0 ∨ w = 1) → z.1 (mv st j w) ≠ 0 → z.2 (45 * mv st j w + mv st j w) ∣ Δ) ∧ szB n (xT z.1 z.2 st (dnF z.1 z.2 st n) 0) (xT z.1 z.2 st (dnF z.1 z.2 st n) 1) (dnF z.1 z.2 st n) β := by
  rcases Nat.eq_zero_or_pos n with n0 | n0
  · subst n0
    exact ⟨1, 0, fun j hj => absurd hj (Nat.not_lt_zero _), by show (0 : Int) < 1; decide, by show (1 : Int) ≤ 2 ^ 0; decide, fun i j hi => absurd hi (Nat.not_lt_zero _), by decide, by show 8 * 0 + 28 ≤ 1900; decide⟩
  have e := fin_e F
  obtain ⟨sl, hsl⟩ : ∃ sl : List Nat, sl = (List.range n).map (fun i : Nat => (st i).toNat) := ⟨_, rfl⟩
  have sll : sl.length = n := by rw [hsl, List.length_map, List.length_range]
  have sn : sl.Nodup := by
    rw [hsl]
    refine List.pairwise_map.mpr (List.Pairwise.imp_of_mem (fun {a b} ha hb' hab => ?_) List.pairwise_lt_range)
    rw [List.mem_range] at ha hb'
    have pa := h.1 a ha
    have pb := h.1 b hb'
    have := h.2.1 a b hab hb'
    omega
  have s6 : ∀ t, t ∈ sl → t < 6 ∧ z.1 t = 0 := fun t ht => by
    rw [hsl] at ht
    obtain ⟨i, hi, rfl⟩ := List.mem_map.mp ht
    rw [List.mem_range] at hi
    have := h.1 i hi
    refine ⟨by omega, ?_⟩
    rw [show (((st i).toNat : Nat) : Int) = st i by omega]
    exact this.2.2
  have hB : ∀ j : Nat, j < 15 → z.1 j = 0 → j < 6 := fun k hk hz => by
    obtain ⟨i, i0, i1⟩ := h.2.2 k hk hz
    have := h.1 i i0
    omega
  obtain ⟨s00, z00⟩ := st_0 F h n0
  obtain ⟨Δ, Δ0, Δb, Δr⟩ := row_C F hsys hb hP sn s6 hB (by omega) (by omega) z00
  rw [sll] at Δb Δr
  have bo : ∀ j : Nat, j < n → ∀ w : Int, (w = 0 ∨ w = 1) → ∃ k : Nat, k < 10 ∧ mv st j w = k ∧ (k < 6 ∨ 2 ≤ n) := fun j hj w hw => by
    obtain ⟨m1, m2⟩ := mv_sh h hj hw
    refine ⟨sh w (st j).toNat, m2, m1, ?_⟩
    rcases Nat.lt_or_ge n 2 with q | q
    · left
      have j0 : j = 0 := by omega
      subst j0
      rw [s00]
      rcases hw with rfl | rfl
      · exact (sh_10 0 0).2 rfl
      · exact (sh_10 1 0).2 rfl
    · exact Or.inr q
  have ldp : ∀ j : Nat, j < n → ∀ w : Int, (w = 0 ∨ w = 1) → z.1 (mv st j w) ≠ 0 → 0 < z.2 (45 * mv st j w + mv st j w) ∧ z.2 (45 * mv st j w + mv st j w) ∣ Δ := fun j hj w hw hz => by
    obtain ⟨k, k0, k1, k2⟩ := bo j hj w hw
    rw [k1] at hz ⊢
    have p0 := (e k (by omega) hz).1
    have d := (Δr k k0 hz k2).1
    rw [rv_in (by omega)] at p0 d
    exact ⟨p0, d⟩
  obtain ⟨D0, DΔ, Dl⟩ := dnF_h (hs := z.1) (s := z.2) (st := st) (Δ := Δ) (n := n) ldp
  obtain ⟨D, eD⟩ : ∃ D, dnF z.1 z.2 st n = D := ⟨_, rfl⟩
  rw [eD] at D0 DΔ Dl ⊢
  have Dle : D ≤ 2 ^ btC n := by
    have h1 : D ∣ ((Δ.natAbs : Nat) : Int) := Int.dvd_natAbs.mpr DΔ
    have h2 := Int.le_of_dvd (by omega) h1
    rw [zAbs_n] at Δb
    omega
  have hx : ∀ w : Int, (w = 0 ∨ w = 1) → ∀ i j, i < n → j < n → zAbs (xT z.1 z.2 st D w i j) ≤ 2 ^ btC n := fun w hw i j hi hj => by
    have hi6 := h.1 i hi
    have p := p2_pos (btC n)
    unfold xT
    rcases Decidable.em (z.1 (mv st j w) = 0) with g | g
    · rw [if_pos g]
      split
      · rw [zAbs_nn (by omega)]; exact Dle
      · rw [show zAbs 0 = 0 from rfl]; omega
    · rw [if_neg g, zAbs_ng]
      have dl := Dl j hj w hw g
      obtain ⟨k, k0, k1, k2⟩ := bo j hj w hw
      rw [k1] at g dl ⊢
      have p0 := (e k (by omega) g).1
      obtain ⟨Q, q1, q2⟩ := (Δr k k0 g k2).2 (st i).toNat (by omega)
      rw [rv_in (by omega)] at p0
      rw [rv_in (by omega), rv_in (by omega), show (((st i).toNat : Nat) : Int) = st i by omega] at q1
      obtain ⟨u, hu⟩ := dl
      have du : D / z.2 (45 * (k : Int) + k) = u := by rw [hu]; exact Int.mul_ediv_cancel_left u (by omega)
      rw [du]
      obtain ⟨t, ht⟩ := DΔ
      have e1 : z.2 (45 * (k : Int) + k) * (z.2 (45 * (k : Int) + st i) * u * t) = z.2 (45 * (k : Int) + k) * Q := by
        rw [← q1, ht, hu]
        grind
      have e2 := Int.eq_of_mul_eq_mul_left (show z.2 (45 * (k : Int) + k) ≠ 0 by omega) e1
      have t0 : t ≠ 0 := fun q => by rw [q, Int.mul_zero] at ht; exact Δ0 ht
      have t1 : 1 ≤ zAbs t := by unfold zAbs; split <;> omega
      have := Int.mul_le_mul_of_nonneg_left t1 (zAbs_0 (z.2 (45 * (k : Int) + st i) * u))
      rw [← zAbs_x, e2] at this
      omega
  refine ⟨Δ, btC n, fun j hj w hw hz => (ldp j hj w hw hz).2, D0, Dle, fun i j hi hj => ⟨hx 0 (Or.inl rfl) i j hi hj, hx 1 (Or.inr rfl) i j hi hj⟩, ?_, ?_⟩
  · have hn : n = 1 ∨ n = 2 ∨ n = 3 ∨ n = 4 := by omega
    rcases hn with rfl | rfl | rfl | rfl <;> decide
  · obtain ⟨a, b, c, d⟩ := okS_n
    have hn : n = 1 ∨ n = 2 ∨ n = 3 ∨ n = 4 := by omega
    rcases hn with rfl | rfl | rfl | rfl
    · exact a
    · exact b
    · exact c
    · exact d
