/-! A closed span of degree 2 goes on to degree 4 without new members of degree 3. -/
theorem vV_d {U : lV → Prop} (hd : ∀ u, U u → dg2 u) {v : lV} (h : vV U v) (j : Nat) (hj : 10 ≤ j) : v j = 0 := by
  obtain ⟨T, u, p, q, hT, hu, hp, hq, e⟩ := h
  refine mul_z hT ?_
  rw [e, hd u hu j (by omega), xs_hi (Or.inl rfl) (hd p hp) hj, xs_hi (Or.inr rfl) (hd q hq) hj]
  rfl
theorem vV_clo {U : lV → Prop} (h : clU U) (hz : ∀ v, vV (vV U) v → (∀ j, 10 ≤ j → v j = 0) → vV U v) : clo (vV (vV U)) := ⟨vV_lin (vV_lin h.1), fun v w hw h10 hv => vV_x (vV_lin h.1) (hz v hv h10) hw⟩
theorem xs0_n (v : lV) {j : Nat} (h : 15 ≤ j) (w : Int) : xs w v j = 0 := by
  unfold xs
  rw [if_neg (by omega)]
/-- tops at yy, xy, xx -/
theorem red_3 {U : lV → Prop} (hU : lin U) (hd : ∀ u, U u → dg2 u) (h3 : ld U 3) (h4 : ld U 4) (h5 : ld U 5) : ∃ (D : Int) (a b c : lV), D ≠ 0 ∧ U a ∧ U b ∧ U c ∧ (a 3 = D ∧ a 4 = 0 ∧ a 5 = 0) ∧ (b 3 = 0 ∧ b 4 = D ∧ b 5 = 0) ∧ (c 3 = 0 ∧ c 4 = 0 ∧ c 5 = D) := by
  obtain ⟨u, u0, u1, u2⟩ := h3
  obtain ⟨v, v0, v1, v2⟩ := h4
  obtain ⟨w, w0, w1, w2⟩ := h5
  have mn : ∀ x y : Int, x ≠ 0 → y ≠ 0 → x * y ≠ 0 := fun x y hx hy h => by
    rcases Int.mul_eq_zero.mp h with g | g
    · exact hx g
    · exact hy g
  have u4 := u2 4 (by decide)
  have u5 := u2 5 (by decide)
  have v5 := v2 5 (by decide)
  obtain ⟨b, hb⟩ : ∃ b : lV, b = fun k => u 3 * v k + -v 3 * u k := ⟨_, rfl⟩
  have Ub : U b := by rw [hb]; exact hU.1 _ _ _ _ v0 u0
  have bk : ∀ k, b k = u 3 * v k - v 3 * u k := fun k => by rw [hb]; grind
  have b3 : b 3 = 0 := by rw [bk]; grind
  have b4 : b 4 = u 3 * v 4 := by rw [bk, u4]; omega
  have b5 : b 5 = 0 := by rw [bk, u5, v5]; omega
  obtain ⟨c, hc⟩ : ∃ c : lV, c = fun k => 1 * (fun k => u 3 * v 4 * w k + -(w 4) * b k) k + -(v 4 * w 3) * u k := ⟨_, rfl⟩
  have Uc : U c := by rw [hc]; exact hU.1 _ _ _ _ (hU.1 _ _ _ _ w0 Ub) u0
  have ck : ∀ k, c k = u 3 * v 4 * w k - w 4 * b k - v 4 * w 3 * u k := fun k => by rw [hc]; grind
  have c3 : c 3 = 0 := by rw [ck, b3]; grind
  have c4 : c 4 = 0 := by rw [ck, b4, u4]; grind
  have c5 : c 5 = u 3 * v 4 * w 5 := by rw [ck, b5, u5]; omega
  refine ⟨u 3 * v 4 * w 5, fun k => v 4 * w 5 * u k + 0 * u k, fun k => w 5 * b k + 0 * b k, c, mn _ _ (mn _ _ u1 v1) w1, hU.1 _ _ _ _ u0 u0, hU.1 _ _ _ _ Ub Ub, Uc, ⟨?_, ?_, ?_⟩, ⟨?_, ?_, ?_⟩, c3, c4, c5⟩
  · grind
  · dsimp only; rw [u4]; omega
  · dsimp only; rw [u5]; omega
  · dsimp only; rw [b3]; omega
  · dsimp only; rw [b4]; grind
  · dsimp only; rw [b5]; omega
theorem case_a {U : lV → Prop} (hU : clU U) (h3 : ld U 3) (h4 : ld U 4) (h5 : ld U 5) {v : lV} (hv : vV (vV U) v) (h10 : ∀ j, 10 ≤ j → v j = 0) : vV U v := by
  obtain ⟨D, a, b, c, hD, Ua, Ub, Uc, ⟨a3, a4, a5⟩, ⟨b3, b4, b5⟩, ⟨c3, c4, c5⟩⟩ := red_3 hU.1 hU.2.1 h3 h4 h5
  obtain ⟨T, u, p, q, hT, hu, hp, hq, e⟩ := hv
  have uz := vV_d hU.2.1 hu
  have pz := vV_d hU.2.1 hp
  have qz := vV_d hU.2.1 hq
  obtain ⟨x0, x1, x2, x3, x4⟩ := xs0_w p
  obtain ⟨y0, y1, y2, y3, y4⟩ := xs1_w q
  have e10 := e 10
  have e11 := e 11
  have e12 := e 12
  have e13 := e 13
  have e14 := e 14
  rw [h10 10 (by decide), uz 10 (by decide), x0, y0] at e10
  rw [h10 11 (by decide), uz 11 (by decide), x1, y1] at e11
  rw [h10 12 (by decide), uz 12 (by decide), x2, y2] at e12
  rw [h10 13 (by decide), uz 13 (by decide), x3, y3] at e13
  rw [h10 14 (by decide), uz 14 (by decide), x4, y4] at e14
  have lV' := vV_lin hU.1
  have six : ∀ s : lV, vV U s → s 6 = 0 → s 7 = 0 → s 8 = 0 → s 9 = 0 → U s := fun s hs s6 s7 s8 s9 => hU.2.2 s hs (fun j hj => by
    rcases Nat.lt_or_ge j 10 with g | g
    · have hj' : j = 6 ∨ j = 7 ∨ j = 8 ∨ j = 9 := by omega
      rcases hj' with rfl | rfl | rfl | rfl <;> assumption
    · exact vV_d hU.2.1 hs j g)
  -- what is left of p and q
  obtain ⟨P, hP⟩ : ∃ P : lV, P = fun k => 1 * (fun k => D * p k + -p 6 * xs 1 a k) k + -1 * (fun k => p 7 * xs 1 b k + p 8 * xs 1 c k) k := ⟨_, rfl⟩
  obtain ⟨Q, hQ⟩ : ∃ Q : lV, Q = fun k => 1 * (fun k => D * q k + -q 7 * xs 0 a k) k + -1 * (fun k => q 8 * xs 0 b k + q 9 * xs 0 c k) k := ⟨_, rfl⟩
  have vP : vV U P := by
    rw [hP]
    exact lV'.1 _ _ _ _ (lV'.1 _ _ _ _ hp (vV_x hU.1 Ua (Or.inr rfl))) (lV'.1 _ _ _ _ (vV_x hU.1 Ub (Or.inr rfl)) (vV_x hU.1 Uc (Or.inr rfl)))
  have vQ : vV U Q := by
    rw [hQ]
    exact lV'.1 _ _ _ _ (lV'.1 _ _ _ _ hq (vV_x hU.1 Ua (Or.inl rfl))) (lV'.1 _ _ _ _ (vV_x hU.1 Ub (Or.inl rfl)) (vV_x hU.1 Uc (Or.inl rfl)))
  have Pk : ∀ k, P k = D * p k - p 6 * xs 1 a k - p 7 * xs 1 b k - p 8 * xs 1 c k := fun k => by rw [hP]; dsimp only; grind
  have Qk : ∀ k, Q k = D * q k - q 7 * xs 0 a k - q 8 * xs 0 b k - q 9 * xs 0 c k := fun k => by rw [hQ]; dsimp only; grind
  have UP : U P := by
    obtain ⟨-, -, -, -, -, -, k6, k7, k8, k9⟩ := xs1_v a
    obtain ⟨-, -, -, -, -, -, l6, l7, l8, l9⟩ := xs1_v b
    obtain ⟨-, -, -, -, -, -, m6, m7, m8, m9⟩ := xs1_v c
    refine six P vP ?_ ?_ ?_ ?_
    · rw [Pk, k6, l6, m6, a3, b3, c3]; grind
    · rw [Pk, k7, l7, m7, a4, b4, c4]; grind
    · rw [Pk, k8, l8, m8, a5, b5, c5]; grind
    · rw [Pk, k9, l9, m9, show p 9 = 0 by omega]; omega
  have UQ : U Q := by
    obtain ⟨-, -, -, -, -, -, k6, k7, k8, k9⟩ := xs0_v a
    obtain ⟨-, -, -, -, -, -, l6, l7, l8, l9⟩ := xs0_v b
    obtain ⟨-, -, -, -, -, -, m6, m7, m8, m9⟩ := xs0_v c
    refine six Q vQ ?_ ?_ ?_ ?_
    · rw [Qk, k6, l6, m6, show q 6 = 0 by omega]; omega
    · rw [Qk, k7, l7, m7, a3, b3, c3]; grind
    · rw [Qk, k8, l8, m8, a4, b4, c4]; grind
    · rw [Qk, k9, l9, m9, a5, b5, c5]; grind
  have hx := lV'.1 _ _ 1 1 (vV_x hU.1 UP (Or.inl rfl)) (vV_x hU.1 UQ (Or.inr rfl))
  refine lin_d lV' (T := D * T) (a := D) (b := 1) (fun g => ?_) hu hx (fun k => ?_)
  · rcases Int.mul_eq_zero.mp g with g | g
    · exact hD g
    · exact hT g
  · have f1 : xs 0 P k = D * xs 0 p k - p 6 * xs 0 (xs 1 a) k - p 7 * xs 0 (xs 1 b) k - p 8 * xs 0 (xs 1 c) k := by
      rw [hP, xs_l, xs_l, xs_l]
      grind
    have f2 : xs 1 Q k = D * xs 1 q k - q 7 * xs 1 (xs 0 a) k - q 8 * xs 1 (xs 0 b) k - q 9 * xs 1 (xs 0 c) k := by
      rw [hQ, xs_l, xs_l, xs_l]
      grind
    rw [f1, f2, ← xs_cc, ← xs_cc, ← xs_cc, show q 7 = -p 6 by omega, show q 8 = -p 7 by omega, show q 9 = -p 8 by omega]
    have := e k
    grind
/-- the second multiples of one of degree 2 -/
theorem xx_v (f : lV) : (xs 0 (xs 0 f) 0 = 0 ∧ xs 0 (xs 0 f) 1 = 0 ∧ xs 0 (xs 0 f) 2 = 0 ∧ xs 0 (xs 0 f) 3 = 0 ∧ xs 0 (xs 0 f) 4 = 0 ∧ xs 0 (xs 0 f) 5 = f 0 ∧ xs 0 (xs 0 f) 6 = 0 ∧ xs 0 (xs 0 f) 7 = 0 ∧ xs 0 (xs 0 f) 8 = f 1 ∧ xs 0 (xs 0 f) 9 = f 2) ∧ xs 0 (xs 0 f) 10 = 0 ∧ xs 0 (xs 0 f) 11 = 0 ∧ xs 0 (xs 0 f) 12 = f 3 ∧ xs 0 (xs 0 f) 13 = f 4 ∧ xs 0 (xs 0 f) 14 = f 5 := by
  obtain ⟨a0, a1, a2, a3, a4, a5, a6, a7, a8, a9⟩ := xs0_v (xs 0 f)
  obtain ⟨b0, b1, b2, b3, b4⟩ := xs0_w (xs 0 f)
  obtain ⟨x0, x1, x2, x3, x4, x5, x6, x7, x8, x9⟩ := xs0_v f
  exact ⟨⟨a0, a1, a2.trans x0, a3, a4.trans x1, a5.trans x2, a6, a7.trans x3, a8.trans x4, a9.trans x5⟩, b0, b1.trans x6, b2.trans x7, b3.trans x8, b4.trans x9⟩
theorem xy_v (f : lV) : (xs 0 (xs 1 f) 0 = 0 ∧ xs 0 (xs 1 f) 1 = 0 ∧ xs 0 (xs 1 f) 2 = 0 ∧ xs 0 (xs 1 f) 3 = 0 ∧ xs 0 (xs 1 f) 4 = f 0 ∧ xs 0 (xs 1 f) 5 = 0 ∧ xs 0 (xs 1 f) 6 = 0 ∧ xs 0 (xs 1 f) 7 = f 1 ∧ xs 0 (xs 1 f) 8 = f 2 ∧ xs 0 (xs 1 f) 9 = 0) ∧ xs 0 (xs 1 f) 10 = 0 ∧ xs 0 (xs 1 f) 11 = f 3 ∧ xs 0 (xs 1 f) 12 = f 4 ∧ xs 0 (xs 1 f) 13 = f 5 ∧ xs 0 (xs 1 f) 14 = 0 := by
  obtain ⟨a0, a1, a2, a3, a4, a5, a6, a7, a8, a9⟩ := xs0_v (xs 1 f)
  obtain ⟨b0, b1, b2, b3, b4⟩ := xs0_w (xs 1 f)
  obtain ⟨x0, x1, x2, x3, x4, x5, x6, x7, x8, x9⟩ := xs1_v f
  exact ⟨⟨a0, a1, a2.trans x0, a3, a4.trans x1, a5.trans x2, a6, a7.trans x3, a8.trans x4, a9.trans x5⟩, b0, b1.trans x6, b2.trans x7, b3.trans x8, b4.trans x9⟩
theorem yy_v (f : lV) : (xs 1 (xs 1 f) 0 = 0 ∧ xs 1 (xs 1 f) 1 = 0 ∧ xs 1 (xs 1 f) 2 = 0 ∧ xs 1 (xs 1 f) 3 = f 0 ∧ xs 1 (xs 1 f) 4 = 0 ∧ xs 1 (xs 1 f) 5 = 0 ∧ xs 1 (xs 1 f) 6 = f 1 ∧ xs 1 (xs 1 f) 7 = f 2 ∧ xs 1 (xs 1 f) 8 = 0 ∧ xs 1 (xs 1 f) 9 = 0) ∧ xs 1 (xs 1 f) 10 = f 3 ∧ xs 1 (xs 1 f) 11 = f 4 ∧ xs 1 (xs 1 f) 12 = f 5 ∧ xs 1 (xs 1 f) 13 = 0 ∧ xs 1 (xs 1 f) 14 = 0 := by
  obtain ⟨a0, a1, a2, a3, a4, a5, a6, a7, a8, a9⟩ := xs1_v (xs 1 f)
  obtain ⟨b0, b1, b2, b3, b4⟩ := xs1_w (xs 1 f)
  obtain ⟨x0, x1, x2, x3, x4, x5, x6, x7, x8, x9⟩ := xs1_v f
  exact ⟨⟨a0, a1.trans x0, a2, a3.trans x1, a4.trans x2, a5, a6.trans x3, a7.trans x4, a8.trans x5, a9⟩, b0.trans x6, b1.trans x7, b2.trans x8, b3.trans x9, b4⟩
def pr2 (f g : lV) (k : Nat) : Int := g 5 * xs 0 (xs 0 f) k + g 4 * xs 0 (xs 1 f) k + g 3 * xs 1 (xs 1 f) k + g 2 * xs 0 f k + g 1 * xs 1 f k + g 0 * f k
/-- f g = g f -/
theorem pr2_c {f g : lV} (hf : dg2 f) (hg : dg2 g) (k : Nat) : pr2 f g k = pr2 g f k := by
  unfold pr2
  rcases Nat.lt_or_ge k 10 with q | q
  · have f6 := hf 6 (by decide)
    have f7 := hf 7 (by decide)
    have f8 := hf 8 (by decide)
    have f9 := hf 9 (by decide)
    have g6 := hg 6 (by decide)
    have g7 := hg 7 (by decide)
    have g8 := hg 8 (by decide)
    have g9 := hg 9 (by decide)
    obtain ⟨a0, a1, a2, a3, a4, a5, a6, a7, a8, a9⟩ := (xx_v f).1
    obtain ⟨b0, b1, b2, b3, b4, b5, b6, b7, b8, b9⟩ := (xy_v f).1
    obtain ⟨c0, c1, c2, c3, c4, c5, c6, c7, c8, c9⟩ := (yy_v f).1
    obtain ⟨d0, d1, d2, d3, d4, d5, d6, d7, d8, d9⟩ := xs0_v f
    obtain ⟨e0, e1, e2, e3, e4, e5, e6, e7, e8, e9⟩ := xs1_v f
    obtain ⟨i0, i1, i2, i3, i4, i5, i6, i7, i8, i9⟩ := (xx_v g).1
    obtain ⟨j0, j1, j2, j3, j4, j5, j6, j7, j8, j9⟩ := (xy_v g).1
    obtain ⟨k0, k1, k2, k3, k4, k5, k6, k7, k8, k9⟩ := (yy_v g).1
    obtain ⟨l0, l1, l2, l3, l4, l5, l6, l7, l8, l9⟩ := xs0_v g
    obtain ⟨m0, m1, m2, m3, m4, m5, m6, m7, m8, m9⟩ := xs1_v g
    have hk : k = 0 ∨ k = 1 ∨ k = 2 ∨ k = 3 ∨ k = 4 ∨ k = 5 ∨ k = 6 ∨ k = 7 ∨ k = 8 ∨ k = 9 := by omega
    rcases hk with rfl | rfl | rfl | rfl | rfl | rfl | rfl | rfl | rfl | rfl
    · rw [a0, b0, c0, d0, e0, i0, j0, k0, l0, m0]; grind only
    · rw [a1, b1, c1, d1, e1, i1, j1, k1, l1, m1]; grind only
    · rw [a2, b2, c2, d2, e2, i2, j2, k2, l2, m2]; grind only
    · rw [a3, b3, c3, d3, e3, i3, j3, k3, l3, m3]; grind only
    · rw [a4, b4, c4, d4, e4, i4, j4, k4, l4, m4]; grind only
    · rw [a5, b5, c5, d5, e5, i5, j5, k5, l5, m5]; grind only
    · rw [a6, b6, c6, d6, e6, i6, j6, k6, l6, m6, f6, g6]; grind only
    · rw [a7, b7, c7, d7, e7, i7, j7, k7, l7, m7, f7, g7]; grind only
    · rw [a8, b8, c8, d8, e8, i8, j8, k8, l8, m8, f8, g8]; grind only
    · rw [a9, b9, c9, d9, e9, i9, j9, k9, l9, m9, f9, g9]; grind only
  · have d := xs_hi (w := 0) (Or.inl rfl) hf q
    have e := xs_hi (w := 1) (Or.inr rfl) hf q
    have l := xs_hi (w := 0) (Or.inl rfl) hg q
    have m := xs_hi (w := 1) (Or.inr rfl) hg q
    rw [d, e, l, m, hf k (by omega), hg k (by omega)]
    rcases Nat.lt_or_ge k 15 with q2 | q2
    · obtain ⟨a0, a1, a2, a3, a4⟩ := (xx_v f).2
      obtain ⟨b0, b1, b2, b3, b4⟩ := (xy_v f).2
      obtain ⟨c0, c1, c2, c3, c4⟩ := (yy_v f).2
      obtain ⟨i0, i1, i2, i3, i4⟩ := (xx_v g).2
      obtain ⟨j0, j1, j2, j3, j4⟩ := (xy_v g).2
      obtain ⟨k0, k1, k2, k3, k4⟩ := (yy_v g).2
      have hk : k = 10 ∨ k = 11 ∨ k = 12 ∨ k = 13 ∨ k = 14 := by omega
      rcases hk with rfl | rfl | rfl | rfl | rfl
      · rw [a0, b0, c0, i0, j0, k0]; grind only
      · rw [a1, b1, c1, i1, j1, k1]; grind only
      · rw [a2, b2, c2, i2, j2, k2]; grind only
      · rw [a3, b3, c3, i3, j3, k3]; grind only
      · rw [a4, b4, c4, i4, j4, k4]; grind only
    · rw [xs0_n _ q2, xs0_n _ q2, xs0_n _ q2, xs0_n _ q2, xs0_n _ q2, xs0_n _ q2]
      omega
