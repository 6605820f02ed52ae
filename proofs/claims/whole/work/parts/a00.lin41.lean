/-! THEOREM A, finite case: what is of degree 3 is found in degree 3. -/
theorem sh_6 : sh 0 0 = 2 ∧ sh 1 0 = 1 ∧ sh 0 1 = 4 ∧ sh 1 1 = 3 ∧ sh 0 2 = 5 ∧ sh 1 2 = 4 := by decide +kernel
theorem qM_9 : (qM 1).testBit 9 = false ∧ (qM 2).testBit 6 = false ∧ (qM 3).testBit 9 = false ∧ (qM 4).testBit 6 = false ∧ (qM 5).testBit 6 = false := by decide +kernel
/-- a line in it: leads y, yy, xy -/
theorem li_y {U : lV → Prop} (hU : clU U) (h1 : ld U 1) (h : ∀ t, t < 6 → ld U t → t = 1 ∨ t = 3 ∨ t = 4) : ∃ l : lV, l 1 ≠ 0 ∧ (∀ j, 1 < j → l j = 0) ∧ ∀ u, U u → mul1 l u := by
  obtain ⟨l, l0, l1, lz⟩ := h1
  refine ⟨l, l1, lz, fun x hx => ?_⟩
  have dl : ∀ j, 6 ≤ j → l j = 0 := fun j hj => lz j (by omega)
  have Ux : ∀ w, (w = 0 ∨ w = 1) → U (xs w l) := fun w hw => hU.2.2 _ (vV_x hU.1 l0 hw) (fun j hj => by
    rcases Nat.lt_or_ge j 10 with g | g
    · obtain ⟨-, -, -, -, -, -, a6, a7, a8, a9⟩ := xs0_v l
      obtain ⟨-, -, -, -, -, -, b6, b7, b8, b9⟩ := xs1_v l
      have z3 := lz 3 (by decide)
      have z4 := lz 4 (by decide)
      have z5 := lz 5 (by decide)
      have hj' : j = 6 ∨ j = 7 ∨ j = 8 ∨ j = 9 := by omega
      rcases hw with rfl | rfl <;> rcases hj' with rfl | rfl | rfl | rfl <;> omega
    · exact xs_hi hw dl g)
  obtain ⟨-, -, -, a3, a4, -, -⟩ := xs0_v l
  obtain ⟨-, -, -, b3, b4, -, -⟩ := xs1_v l
  have a1 := (xs0_v l).2.1
  have b1 := (xs1_v l).2.1
  have l2 := lz 2 (by decide)
  have l3 := lz 3 (by decide)
  have l4 := lz 4 (by decide)
  obtain ⟨d, hd⟩ : ∃ d : lV, d = fun k => 1 * (fun k => l 1 * x k + -x 4 * xs 0 l k) k + -x 3 * xs 1 l k := ⟨_, rfl⟩
  have dk : ∀ k, d k = l 1 * x k - x 4 * xs 0 l k - x 3 * xs 1 l k := fun k => by rw [hd]; grind
  have Ud : U d := by rw [hd]; exact hU.1.1 _ _ _ _ (hU.1.1 _ _ _ _ hx (Ux 0 (Or.inl rfl))) (Ux 1 (Or.inr rfl))
  have d3 : d 3 = 0 := by rw [dk, a3, b3]; grind
  have d4 : d 4 = 0 := by rw [dk, a4, b4, l2]; grind
  have z := no_ld hU.2.1 (hU.1.1 d l (l 1) (-d 1) Ud l0) (fun t ht hl => by
    rcases h t ht hl with rfl | rfl | rfl
    · grind
    · rw [d3, l3]; omega
    · rw [d4, l4]; omega)
  have m0 := mul1_s dl
  have c0 := (mul1_clo l).2 l 0 (Or.inl rfl) (fun j hj => lz j (by omega)) m0
  have c1 := (mul1_clo l).2 l 1 (Or.inr rfl) (fun j hj => lz j (by omega)) m0
  have c2 := (mul1_lin l).1 _ _ (l 1 * x 4) (l 1 * x 3) c0 c1
  refine lin_d (mul1_lin l) (T := l 1 * l 1) (a := 1) (b := d 1) (mul_n l1 l1) c2 m0 (fun k => ?_)
  have zk := z k
  rw [dk k] at zk
  clear hd z dk
  grind
/-- a line in it: leads x, xy, xx -/
theorem li_x {U : lV → Prop} (hU : clU U) (h2 : ld U 2) (h : ∀ t, t < 6 → ld U t → t = 2 ∨ t = 4 ∨ t = 5) : ∃ l : lV, l 2 ≠ 0 ∧ (∀ j, 2 < j → l j = 0) ∧ ∀ u, U u → mul1 l u := by
  obtain ⟨l, l0, l2, lz⟩ := h2
  refine ⟨l, l2, lz, fun x hx => ?_⟩
  have dl : ∀ j, 6 ≤ j → l j = 0 := fun j hj => lz j (by omega)
  have Ux : ∀ w, (w = 0 ∨ w = 1) → U (xs w l) := fun w hw => hU.2.2 _ (vV_x hU.1 l0 hw) (fun j hj => by
    rcases Nat.lt_or_ge j 10 with g | g
    · obtain ⟨-, -, -, -, -, -, a6, a7, a8, a9⟩ := xs0_v l
      obtain ⟨-, -, -, -, -, -, b6, b7, b8, b9⟩ := xs1_v l
      have z3 := lz 3 (by decide)
      have z4 := lz 4 (by decide)
      have z5 := lz 5 (by decide)
      have hj' : j = 6 ∨ j = 7 ∨ j = 8 ∨ j = 9 := by omega
      rcases hw with rfl | rfl <;> rcases hj' with rfl | rfl | rfl | rfl <;> omega
    · exact xs_hi hw dl g)
  obtain ⟨-, -, a2, a3, a4, a5, -⟩ := xs0_v l
  obtain ⟨-, -, b2, b3, b4, b5, -⟩ := xs1_v l
  have l4 := lz 4 (by decide)
  have l5 := lz 5 (by decide)
  obtain ⟨d, hd⟩ : ∃ d : lV, d = fun k => l 2 * x k + -x 5 * xs 0 l k := ⟨_, rfl⟩
  have dk : ∀ k, d k = l 2 * x k - x 5 * xs 0 l k := fun k => by rw [hd]; grind
  have Ud : U d := by rw [hd]; exact hU.1.1 _ _ _ _ hx (Ux 0 (Or.inl rfl))
  have d5 : d 5 = 0 := by rw [dk, a5]; grind
  obtain ⟨c, hc⟩ : ∃ c : lV, c = fun k => l 2 * d k + -d 4 * xs 1 l k := ⟨_, rfl⟩
  have ck : ∀ k, c k = l 2 * d k - d 4 * xs 1 l k := fun k => by rw [hc]; grind
  have Uc : U c := by rw [hc]; exact hU.1.1 _ _ _ _ Ud (Ux 1 (Or.inr rfl))
  have c4 : c 4 = 0 := by rw [ck, b4]; grind
  have c5 : c 5 = 0 := by rw [ck, b5, d5]; omega
  have z := no_ld hU.2.1 (hU.1.1 c l (l 2) (-c 2) Uc l0) (fun t ht hl => by
    rcases h t ht hl with rfl | rfl | rfl
    · grind
    · rw [c4, l4]; omega
    · rw [c5, l5]; omega)
  have m0 := mul1_s dl
  have e0 := (mul1_clo l).2 l 0 (Or.inl rfl) (fun j hj => lz j (by omega)) m0
  have e1 := (mul1_clo l).2 l 1 (Or.inr rfl) (fun j hj => lz j (by omega)) m0
  have e2 := (mul1_lin l).1 _ _ (l 2 * l 2 * x 5) (l 2 * d 4) e0 e1
  refine lin_d (mul1_lin l) (T := l 2 * l 2 * l 2) (a := 1) (b := c 2) (mul_n (mul_n l2 l2) l2) e2 m0 (fun k => ?_)
  have zk := z k
  have dkk := dk k
  have ckk := ck k
  clear hd hc z dk ck
  generalize d 4 = d4 at *
  generalize c 2 = c2 at *
  rw [dkk] at ckk
  rw [ckk] at zk
  clear dkk ckk
  grind
theorem thA {S W U : lV → Prop} (hWJ : ∀ J, clo J → (∀ u, S u → J u) → ∀ v, W v → J v) (hU : clU U) (hSU : ∀ u, S u → U u) (h6 : ld W 6) (h9 : ld W 9) : ∀ v, W v → (∀ j, 10 ≤ j → v j = 0) → vV U v := by
  have fromJ : (∀ v, vV (vV U) v → (∀ j, 10 ≤ j → v j = 0) → vV U v) → ∀ v, W v → (∀ j, 10 ≤ j → v j = 0) → vV U v := fun hz v hv h10 =>
    hz v (hWJ _ (vV_clo hU hz) (fun u hu => vV_u (vV_lin hU.1) (vV_u hU.1 (hSU u hu))) v hv) h10
  have fromL : ∀ (l : lV) (k : Nat), k < 6 → k ≠ 0 → l k ≠ 0 → (∀ j, k < j → l j = 0) → (∀ u, U u → mul1 l u) → False := fun l k hk k0 hl hz hm => by
    have hQ := mul1_Q hk hl hz
    have hW := hWJ _ (mul1_clo l) (fun u hu => hm u (hSU u hu))
    obtain ⟨q1, q2, q3, q4, q5⟩ := qM_9
    obtain ⟨v6, a6, b6, c6⟩ := h6
    obtain ⟨v9, a9, b9, c9⟩ := h9
    have t6 := hQ v6 6 (hW v6 a6) (by decide) b6 (fun j hj _ => c6 j hj)
    have t9 := hQ v9 9 (hW v9 a9) (by decide) b9 (fun j hj _ => c9 j hj)
    have hk' : k = 1 ∨ k = 2 ∨ k = 3 ∨ k = 4 ∨ k = 5 := by omega
    rcases hk' with rfl | rfl | rfl | rfl | rfl
    · rw [q1] at t9; cases t9
    · rw [q2] at t6; cases t6
    · rw [q3] at t9; cases t9
    · rw [q4] at t6; cases t6
    · rw [q5] at t6; cases t6
  obtain ⟨s1, s2, s3, s4, s5, s6⟩ := sh_6
  have u01 : ld U 0 → ld U 1 := fun h => by have := ld_up hU (by decide) (Or.inr rfl : (1 : Int) = 0 ∨ (1 : Int) = 1) h; rw [s2] at this; exact this
  have u02 : ld U 0 → ld U 2 := fun h => by have := ld_up hU (by decide) (Or.inl rfl : (0 : Int) = 0 ∨ (0 : Int) = 1) h; rw [s1] at this; exact this
  have u14 : ld U 1 → ld U 4 := fun h => by have := ld_up hU (by decide) (Or.inl rfl : (0 : Int) = 0 ∨ (0 : Int) = 1) h; rw [s3] at this; exact this
  have u13 : ld U 1 → ld U 3 := fun h => by have := ld_up hU (by decide) (Or.inr rfl : (1 : Int) = 0 ∨ (1 : Int) = 1) h; rw [s4] at this; exact this
  have u25 : ld U 2 → ld U 5 := fun h => by have := ld_up hU (by decide) (Or.inl rfl : (0 : Int) = 0 ∨ (0 : Int) = 1) h; rw [s5] at this; exact this
  have u24 : ld U 2 → ld U 4 := fun h => by have := ld_up hU (by decide) (Or.inr rfl : (1 : Int) = 0 ∨ (1 : Int) = 1) h; rw [s6] at this; exact this
  rcases Classical.em (ld U 3 ∧ ld U 4 ∧ ld U 5) with ⟨a, b, c⟩ | nn
  · exact fromJ (fun v hv h10 => case_a hU a b c hv h10)
  have n0 : ¬ ld U 0 := fun h => nn ⟨u13 (u01 h), u14 (u01 h), u25 (u02 h)⟩
  have six : ∀ t : Nat, t < 6 → t = 0 ∨ t = 1 ∨ t = 2 ∨ t = 3 ∨ t = 4 ∨ t = 5 := fun t ht => by omega
  rcases Classical.em (ld U 1) with y1 | n1
  · have n5 : ¬ ld U 5 := fun h => nn ⟨u13 y1, u14 y1, h⟩
    have n2 : ¬ ld U 2 := fun h => n5 (u25 h)
    obtain ⟨l, a, b, c⟩ := li_y hU y1 (fun t ht h => by
      rcases six t ht with rfl | rfl | rfl | rfl | rfl | rfl
      · exact absurd h n0
      · exact Or.inl rfl
      · exact absurd h n2
      · exact Or.inr (Or.inl rfl)
      · exact Or.inr (Or.inr rfl)
      · exact absurd h n5)
    exact absurd (fromL l 1 (by decide) (by decide) a b c) id
  rcases Classical.em (ld U 2) with y2 | n2
  · have n3 : ¬ ld U 3 := fun h => nn ⟨h, u24 y2, u25 y2⟩
    obtain ⟨l, a, b, c⟩ := li_x hU y2 (fun t ht h => by
      rcases six t ht with rfl | rfl | rfl | rfl | rfl | rfl
      · exact absurd h n0
      · exact absurd h n1
      · exact Or.inl rfl
      · exact absurd h n3
      · exact Or.inr (Or.inl rfl)
      · exact Or.inr (Or.inr rfl))
    exact absurd (fromL l 2 (by decide) (by decide) a b c) id
  have one : ∀ t, t < 6 → t ≠ 0 → ld U t → (∀ k, k < 6 → ld U k → k = t) → False := fun t ht t0 h hh => by
    obtain ⟨f, f0, f1, f2, f3⟩ := one_ld hU h hh
    exact fromL f t ht t0 f1 f2 (fun u hu => lin_d (mul1_lin f) (T := f t) (a := u t) (b := 0) f1 (mul1_s (hU.2.1 f f0)) (mul1_lin f).2.2 (fun k => by rw [f3 u hu k]; omega))
  rcases Classical.em (ld U 3) with y3 | n3
  · rcases Classical.em (ld U 4) with y4 | n4
    · have n5 : ¬ ld U 5 := fun h => nn ⟨y3, y4, h⟩
      obtain ⟨l, a, b, c⟩ := ln_y hU y3 y4 (fun t ht h => by
        rcases six t ht with rfl | rfl | rfl | rfl | rfl | rfl
        · exact absurd h n0
        · exact absurd h n1
        · exact absurd h n2
        · exact Or.inl rfl
        · exact Or.inr rfl
        · exact absurd h n5)
      exact absurd (fromL l 1 (by decide) (by decide) a b c) id
    · rcases Classical.em (ld U 5) with y5 | n5
      · obtain ⟨f, g, Uf, Ug, f3, g5, g3, fz, gz, hs⟩ := two_ld hU (by decide) y3 y5 (fun t ht h => by
          rcases six t ht with rfl | rfl | rfl | rfl | rfl | rfl
          · exact absurd h n0
          · exact absurd h n1
          · exact absurd h n2
          · exact Or.inl rfl
          · exact absurd h n4
          · exact Or.inr rfl)
        have f4 := fz 4 (by decide)
        have f5 := fz 5 (by decide)
        refine fromJ (fun v hv h10 => syz hU Uf Ug (mul_n f3 g5) hs (fun a1 a2 a3 b1 b2 b3 h0 h1 h2 h3 h4 => ?_) hv h10)
        rw [g3] at h0 h1 h2
        rw [f4] at h1 h2 h3
        rw [f5] at h2 h3 h4
        rw [g3, f4, f5]
        exact sz_b f3 g5 h0 h1 h2 h3 h4
      · exact absurd (one 3 (by decide) (by decide) y3 (fun t ht h => by
          rcases six t ht with rfl | rfl | rfl | rfl | rfl | rfl
          · exact absurd h n0
          · exact absurd h n1
          · exact absurd h n2
          · rfl
          · exact absurd h n4
          · exact absurd h n5)) id
  · rcases Classical.em (ld U 4) with y4 | n4
    · rcases Classical.em (ld U 5) with y5 | n5
      · have h45 : ∀ t, t < 6 → ld U t → t = 4 ∨ t = 5 := fun t ht h => by
          rcases six t ht with rfl | rfl | rfl | rfl | rfl | rfl
          · exact absurd h n0
          · exact absurd h n1
          · exact absurd h n2
          · exact absurd h n3
          · exact Or.inl rfl
          · exact Or.inr rfl
        obtain ⟨f, g, Uf, Ug, f4, g5, g4, fz, gz, hs⟩ := two_ld hU (by decide) y4 y5 h45
        have f5 := fz 5 (by decide)
        rcases Decidable.em (g 5 * (f 3 * f 3) + g 3 * (f 4 * f 4) = 0) with hd | hd
        · obtain ⟨l, a, b, c, d⟩ := ln_x hU Uf Ug f4 g5 g4 fz gz h45 hd
          refine absurd (fromL l 2 (by decide) (by decide) a b (fun u hu => ?_)) id
          obtain ⟨α, β, e⟩ := hs u hu
          exact lin_d (mul1_lin l) (mul_n f4 g5) c d e
        · refine fromJ (fun v hv h10 => syz hU Uf Ug (mul_n f4 g5) hs (fun a1 a2 a3 b1 b2 b3 h0 h1 h2 h3 h4 => ?_) hv h10)
          rw [g4] at h1 h2 h3
          rw [f5] at h2 h3 h4
          rw [g4, f5]
          exact sz_c f4 g5 hd h0 h1 h2 h3 h4
      · exact absurd (one 4 (by decide) (by decide) y4 (fun t ht h => by
          rcases six t ht with rfl | rfl | rfl | rfl | rfl | rfl
          · exact absurd h n0
          · exact absurd h n1
          · exact absurd h n2
          · exact absurd h n3
          · rfl
          · exact absurd h n5)) id
    · rcases Classical.em (ld U 5) with y5 | n5
      · exact absurd (one 5 (by decide) (by decide) y5 (fun t ht h => by
          rcases six t ht with rfl | rfl | rfl | rfl | rfl | rfl
          · exact absurd h n0
          · exact absurd h n1
          · exact absurd h n2
          · exact absurd h n3
          · exact absurd h n4
          · rfl)) id
      · have z : ∀ u, U u → ∀ k, u k = 0 := fun u hu k => no_ld hU.2.1 hu (fun t ht h => by
          rcases six t ht with rfl | rfl | rfl | rfl | rfl | rfl
          · exact absurd h n0
          · exact absurd h n1
          · exact absurd h n2
          · exact absurd h n3
          · exact absurd h n4
          · exact absurd h n5) k
        exact absurd (fromL (fun j => if j = 3 then 1 else 0) 3 (by decide) (by decide) (by decide) (fun j hj => if_neg (by omega)) (fun u hu => lin_0 (mul1_lin _) (z u hu))) id
