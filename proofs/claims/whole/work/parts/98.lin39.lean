/-! Two quadrics without a common top: the same. -/
theorem mul_n {x y : Int} (hx : x ≠ 0) (hy : y ≠ 0) : x * y ≠ 0 := fun h => by
  rcases Int.mul_eq_zero.mp h with g | g
  · exact hx g
  · exact hy g
theorem vV_2 {U : lV → Prop} (hU : lin U) {v : lV} (h : vV (vV U) v) : ∃ (T : Int) (w a b c : lV), T ≠ 0 ∧ vV U w ∧ U a ∧ U b ∧ U c ∧ ∀ k, T * v k = w k + xs 0 (xs 0 a) k + xs 0 (xs 1 b) k + xs 1 (xs 1 c) k := by
  obtain ⟨T, u, p, q, hT, hu, ⟨T1, u1, p1, q1, hT1, hu1, hp1, hq1, e1⟩, ⟨T2, u2, p2, q2, hT2, hu2, hp2, hq2, e2⟩, e⟩ := h
  have lV' := vV_lin hU
  refine ⟨T * (T1 * T2), fun k => T1 * T2 * u k + 1 * (fun k => T2 * xs 0 u1 k + T1 * xs 1 u2 k) k, fun k => T2 * p1 k + 0 * p1 k, fun k => T2 * q1 k + T1 * p2 k, fun k => T1 * q2 k + 0 * q2 k, mul_n hT (mul_n hT1 hT2), lV'.1 _ _ _ _ hu (lV'.1 _ _ _ _ (vV_x hU hu1 (Or.inl rfl)) (vV_x hU hu2 (Or.inr rfl))), hU.1 _ _ _ _ hp1 hp1, hU.1 _ _ _ _ hq1 hp2, hU.1 _ _ _ _ hq2 hq2, fun k => ?_⟩
  have x1 : T1 * xs 0 p k = xs 0 u1 k + xs 0 (xs 0 p1) k + xs 0 (xs 1 q1) k := by
    rw [← xs_c, show (fun k => T1 * p k) = fun k => 1 * (fun k => 1 * u1 k + 1 * xs 0 p1 k) k + 1 * xs 1 q1 k from funext (fun k => by rw [e1]; dsimp only; omega), xs_l, xs_l]
    omega
  have x2 : T2 * xs 1 q k = xs 1 u2 k + xs 0 (xs 1 p2) k + xs 1 (xs 1 q2) k := by
    rw [← xs_c, show (fun k => T2 * q k) = fun k => 1 * (fun k => 1 * u2 k + 1 * xs 0 p2 k) k + 1 * xs 1 q2 k from funext (fun k => by rw [e2]; dsimp only; omega), xs_l, xs_l, ← xs_cc]
    omega
  have x3 : xs 0 (xs 0 fun k => T2 * p1 k + 0 * p1 k) k = T2 * xs 0 (xs 0 p1) k := by
    rw [show (xs 0 fun k => T2 * p1 k + 0 * p1 k) = fun k => T2 * xs 0 p1 k + 0 * xs 0 p1 k from funext (xs_l 0 _ _ _ _), xs_l]
    omega
  have x4 : xs 0 (xs 1 fun k => T2 * q1 k + T1 * p2 k) k = T2 * xs 0 (xs 1 q1) k + T1 * xs 0 (xs 1 p2) k := by
    rw [show (xs 1 fun k => T2 * q1 k + T1 * p2 k) = fun k => T2 * xs 1 q1 k + T1 * xs 1 p2 k from funext (xs_l 1 _ _ _ _), xs_l]
  have x5 : xs 1 (xs 1 fun k => T1 * q2 k + 0 * q2 k) k = T1 * xs 1 (xs 1 q2) k := by
    rw [show (xs 1 fun k => T1 * q2 k + 0 * q2 k) = fun k => T1 * xs 1 q2 k + 0 * xs 1 q2 k from funext (xs_l 1 _ _ _ _), xs_l]
    omega
  rw [x3, x4, x5]
  have := e k
  clear x3 x4 x5
  dsimp only
  have y1 : T1 * T2 * (T * v k) = T1 * T2 * u k + T2 * (T1 * xs 0 p k) + T1 * (T2 * xs 1 q k) := by rw [this]; grind only
  rw [x1, x2] at y1
  grind only
theorem xs2_l (w w' a b : Int) (u v : lV) (j : Nat) : xs w (xs w' fun k => a * u k + b * v k) j = a * xs w (xs w' u) j + b * xs w (xs w' v) j := by
  rw [show (xs w' fun k => a * u k + b * v k) = fun k => a * xs w' u k + b * xs w' v k from funext (xs_l w' _ _ _ _), xs_l]
theorem xs2_c (w w' a : Int) (u : lV) (j : Nat) : xs w (xs w' fun k => a * u k) j = a * xs w (xs w' u) j := by
  rw [show (xs w' fun k => a * u k) = fun k => a * xs w' u k from funext (xs_c w' _ _), xs_c]
/-- all is known of what kills the tops -/
theorem syz {U : lV → Prop} (hU : clU U) {f g : lV} (hf : U f) (hg : U g) {D : Int} (hD : D ≠ 0) (hs : ∀ u, U u → ∃ α β : Int, ∀ k, D * u k = α * f k + β * g k)
    (ht : ∀ a1 a2 a3 b1 b2 b3 : Int, a3 * f 3 + b3 * g 3 = 0 → a2 * f 3 + a3 * f 4 + b2 * g 3 + b3 * g 4 = 0 → a1 * f 3 + a2 * f 4 + a3 * f 5 + b1 * g 3 + b2 * g 4 + b3 * g 5 = 0 → a1 * f 4 + a2 * f 5 + b1 * g 4 + b2 * g 5 = 0 → a1 * f 5 + b1 * g 5 = 0 → ∃ K t : Int, K ≠ 0 ∧ K * a1 = t * g 5 ∧ K * a2 = t * g 4 ∧ K * a3 = t * g 3 ∧ K * b1 = -(t * f 5) ∧ K * b2 = -(t * f 4) ∧ K * b3 = -(t * f 3))
    {v : lV} (hv : vV (vV U) v) (h10 : ∀ j, 10 ≤ j → v j = 0) : vV U v := by
  obtain ⟨T, w, a, b, c, hT, hw, ha, hb, hc, e⟩ := vV_2 hU.1 hv
  obtain ⟨a1, b1, e1⟩ := hs a ha
  obtain ⟨a2, b2, e2⟩ := hs b hb
  obtain ⟨a3, b3, e3⟩ := hs c hc
  have wz := vV_d hU.2.1 hw
  have lV' := vV_lin hU.1
  have E : ∀ k, D * (T * v k) = D * w k + (a1 * xs 0 (xs 0 f) k + b1 * xs 0 (xs 0 g) k) + (a2 * xs 0 (xs 1 f) k + b2 * xs 0 (xs 1 g) k) + (a3 * xs 1 (xs 1 f) k + b3 * xs 1 (xs 1 g) k) := fun k => by
    rw [← xs2_l 0 0, ← xs2_l 0 1, ← xs2_l 1 1, show (fun k => a1 * f k + b1 * g k) = fun k => D * a k from funext (fun k => (e1 k).symm), show (fun k => a2 * f k + b2 * g k) = fun k => D * b k from funext (fun k => (e2 k).symm), show (fun k => a3 * f k + b3 * g k) = fun k => D * c k from funext (fun k => (e3 k).symm), xs2_c, xs2_c, xs2_c, e k]
    grind only
  obtain ⟨x0, x1, x2, x3, x4⟩ := (xx_v f).2
  obtain ⟨y0, y1, y2, y3, y4⟩ := (xy_v f).2
  obtain ⟨z0, z1, z2, z3, z4⟩ := (yy_v f).2
  obtain ⟨p0, p1, p2, p3, p4⟩ := (xx_v g).2
  obtain ⟨q0, q1, q2, q3, q4⟩ := (xy_v g).2
  obtain ⟨r0, r1, r2, r3, r4⟩ := (yy_v g).2
  have E0 := E 10
  have E1 := E 11
  have E2 := E 12
  have E3 := E 13
  have E4 := E 14
  rw [h10 10 (by decide), wz 10 (by decide), x0, y0, z0, p0, q0, r0] at E0
  rw [h10 11 (by decide), wz 11 (by decide), x1, y1, z1, p1, q1, r1] at E1
  rw [h10 12 (by decide), wz 12 (by decide), x2, y2, z2, p2, q2, r2] at E2
  rw [h10 13 (by decide), wz 13 (by decide), x3, y3, z3, p3, q3, r3] at E3
  rw [h10 14 (by decide), wz 14 (by decide), x4, y4, z4, p4, q4, r4] at E4
  clear x0 x1 x2 x3 x4 y0 y1 y2 y3 y4 z0 z1 z2 z3 z4 p0 p1 p2 p3 p4 q0 q1 q2 q3 q4 r0 r1 r2 r3 r4
  obtain ⟨K, t, hK, k1, k2, k3, l1, l2, l3⟩ := ht a1 a2 a3 b1 b2 b3 (by omega) (by omega) (by omega) (by omega) (by omega)
  -- the rest of f g - g f
  obtain ⟨R, hR⟩ : ∃ R : lV, R = fun k => 1 * (fun k => 1 * (fun k => f 2 * xs 0 g k + f 1 * xs 1 g k) k + f 0 * g k) k + -1 * (fun k => 1 * (fun k => g 2 * xs 0 f k + g 1 * xs 1 f k) k + g 0 * f k) k := ⟨_, rfl⟩
  have vR : vV U R := by
    rw [hR]
    exact lV'.1 _ _ _ _ (lV'.1 _ _ _ _ (lV'.1 _ _ _ _ (vV_x hU.1 hg (Or.inl rfl)) (vV_x hU.1 hg (Or.inr rfl))) (vV_u hU.1 hg)) (lV'.1 _ _ _ _ (lV'.1 _ _ _ _ (vV_x hU.1 hf (Or.inl rfl)) (vV_x hU.1 hf (Or.inr rfl))) (vV_u hU.1 hf))
  refine lin_d lV' (T := K * (D * T)) (a := K * D) (b := t) (mul_n hK (mul_n hD hT)) hw vR (fun k => ?_)
  have P := pr2_c (hU.2.1 f hf) (hU.2.1 g hg) k
  unfold pr2 at P
  have Ek := E k
  have Rk : R k = f 2 * xs 0 g k + f 1 * xs 1 g k + f 0 * g k - (g 2 * xs 0 f k + g 1 * xs 1 f k + g 0 * f k) := by rw [hR]; dsimp only; omega
  rw [Rk]
  clear E E0 E1 E2 E3 E4 hR Rk vR e e1 e2 e3
  have G : K * (D * (T * v k)) = K * D * w k + (K * a1 * xs 0 (xs 0 f) k + K * b1 * xs 0 (xs 0 g) k) + (K * a2 * xs 0 (xs 1 f) k + K * b2 * xs 0 (xs 1 g) k) + (K * a3 * xs 1 (xs 1 f) k + K * b3 * xs 1 (xs 1 g) k) := by rw [Ek]; grind only
  rw [k1, k2, k3, l1, l2, l3] at G
  generalize xs 0 (xs 0 f) k = A1 at *
  generalize xs 0 (xs 1 f) k = A2 at *
  generalize xs 1 (xs 1 f) k = A3 at *
  generalize xs 0 (xs 0 g) k = B1 at *
  generalize xs 0 (xs 1 g) k = B2 at *
  generalize xs 1 (xs 1 g) k = B3 at *
  generalize xs 0 f k = C1 at *
  generalize xs 1 f k = C2 at *
  generalize xs 0 g k = C3 at *
  generalize xs 1 g k = C4 at *
  clear Ek k1 k2 k3 l1 l2 l3
  have G2 : K * (D * T) * v k = K * (D * (T * v k)) := by grind only
  rw [G2, G]
  have P2 : t * (g 5 * A1 + g 4 * A2 + g 3 * A3 + g 2 * C1 + g 1 * C2 + g 0 * f k) = t * (f 5 * B1 + f 4 * B2 + f 3 * B3 + f 2 * C3 + f 1 * C4 + f 0 * g k) := by rw [P]
  grind only
/-- leads yy and xx -/
theorem sz_b {f3 g4 g5 a1 a2 a3 b1 b2 b3 : Int} (hf : f3 ≠ 0) (hg : g5 ≠ 0) (h0 : a3 * f3 + b3 * 0 = 0) (h1 : a2 * f3 + a3 * 0 + b2 * 0 + b3 * g4 = 0) (h2 : a1 * f3 + a2 * 0 + a3 * 0 + b1 * 0 + b2 * g4 + b3 * g5 = 0) (h3 : a1 * 0 + a2 * 0 + b1 * g4 + b2 * g5 = 0) (h4 : a1 * 0 + b1 * g5 = 0) : ∃ K t : Int, K ≠ 0 ∧ K * a1 = t * g5 ∧ K * a2 = t * g4 ∧ K * a3 = t * 0 ∧ K * b1 = -(t * 0) ∧ K * b2 = -(t * 0) ∧ K * b3 = -(t * f3) := by
  have z3 : a3 = 0 := mul_z hf (by rw [Int.mul_comm]; omega)
  have z1 : b1 = 0 := mul_z hg (by rw [Int.mul_comm]; omega)
  subst z3
  subst z1
  have z2 : b2 = 0 := mul_z hg (by rw [Int.mul_comm]; omega)
  subst z2
  exact ⟨f3, -b3, hf, by grind, by grind, by grind, by grind, by grind, by grind⟩
/-- leads xy and xx -/
theorem sz_c {f3 f4 g3 g5 a1 a2 a3 b1 b2 b3 : Int} (hf : f4 ≠ 0) (hg : g5 ≠ 0) (hd : g5 * (f3 * f3) + g3 * (f4 * f4) ≠ 0) (h0 : a3 * f3 + b3 * g3 = 0) (h1 : a2 * f3 + a3 * f4 + b2 * g3 + b3 * 0 = 0) (h2 : a1 * f3 + a2 * f4 + a3 * 0 + b1 * g3 + b2 * 0 + b3 * g5 = 0) (h3 : a1 * f4 + a2 * 0 + b1 * 0 + b2 * g5 = 0) (h4 : a1 * 0 + b1 * g5 = 0) : ∃ K t : Int, K ≠ 0 ∧ K * a1 = t * g5 ∧ K * a2 = t * 0 ∧ K * a3 = t * g3 ∧ K * b1 = -(t * 0) ∧ K * b2 = -(t * f4) ∧ K * b3 = -(t * f3) := by
  have z1 : b1 = 0 := mul_z hg (by rw [Int.mul_comm]; omega)
  subst z1
  obtain ⟨X, hX⟩ : ∃ X, f4 * b3 - f3 * b2 = X := ⟨_, rfl⟩
  have x1 : a2 * (f4 * f4) = -(g5 * X) := by rw [← hX]; grind
  have x2 : a2 * (f3 * f3) = g3 * X := by rw [← hX]; grind
  have x3 : X = 0 := mul_z hd (by grind)
  subst x3
  have x4 : a2 = 0 := mul_z (mul_n hf hf) (by rw [Int.mul_comm]; omega)
  subst x4
  exact ⟨f4, -b2, hf, by grind, by grind, by grind, by grind, by grind, by grind⟩
