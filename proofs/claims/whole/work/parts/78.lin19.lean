/-! Leads xy and xx alone: yyy is a lead, or there is a common line. -/
theorem lx_2 {p a b d o q s : Int} (hq : q ≠ 0) (h : p * q * (p * q * o) - p * (p * q * b) * s - q * (p * q * d - p * p * s - q * a * b) * b = 0) : p * p * o = (d * p - a * b) * b := by
  have e : q * q * (p * p * o - (d * p - a * b) * b) = p * q * (p * q * o) - p * (p * q * b) * s - q * (p * q * d - p * p * s - q * a * b) * b := by grind
  rw [h] at e
  have := mul_z (fun h => by rcases Int.mul_eq_zero.mp h with g | g <;> exact hq g) e
  omega
theorem lx_3 {p a b d q r s w : Int} (hq : q ≠ 0) (a3 : p * p * r + q * a * a = 0) (h : p * q * (-(p * p * w) - q * a * d) - p * (p * q * b) * r - q * (p * q * d - p * p * s - q * a * b) * a = 0) : p * p * p * w = a * (s * (p * p) - 2 * q * (d * p - a * b)) := by
  have e : q * (p * p * p * w - a * (s * (p * p) - 2 * q * (d * p - a * b))) = -1 * (p * q * (-(p * p * w) - q * a * d) - p * (p * q * b) * r - q * (p * q * d - p * p * s - q * a * b) * a) - q * b * (p * p * r + q * a * a) := by grind
  rw [h, a3] at e
  have := mul_z hq (e.trans (by omega))
  omega
theorem lx_1 {p a b d o q s t w : Int} (hq : q ≠ 0) (h2 : p * p * o = (d * p - a * b) * b) (h3 : p * p * p * w = a * (s * (p * p) - 2 * q * (d * p - a * b))) (h : p * q * (-(p * p * t) - q * a * o) - p * (p * q * b) * w - q * (p * q * d - p * p * s - q * a * b) * d = 0) : p * p * p * p * t = (d * p - a * b) * (s * (p * p) - q * (d * p - a * b)) := by
  have e : q * (p * p * p * p * t - (d * p - a * b) * (s * (p * p) - q * (d * p - a * b))) = -p * (p * q * (-(p * p * t) - q * a * o) - p * (p * q * b) * w - q * (p * q * d - p * p * s - q * a * b) * d) - q * q * a * (p * p * o - (d * p - a * b) * b) - q * b * (p * p * p * w - a * (s * (p * p) - 2 * q * (d * p - a * b))) := by grind
  rw [h, h2, h3, Int.sub_self, Int.sub_self] at e
  have := mul_z hq (e.trans (by omega))
  omega
theorem lx_4 {p a q r : Int} (a3 : p * p * r + q * a * a = 0) : p * p * p * p * r = a * p * -(q * (a * p)) := by
  have e : p * p * p * p * r = p * p * (p * p * r + q * a * a) + a * p * -(q * (a * p)) := by grind
  rw [a3] at e
  omega
section
variable {hs0 s0 : Int → Int} {z : (Int → Int) × (Int → Int)}
theorem line_x {sy : Int → Int} {P : Nat} (f : fin hs0 s0 z) (hsys : ∀ J, lin J → (jr J hs0 s0 ↔ ∀ q : Nat, q < P → J (sv sy (6 * q)))) (n0 : z.1 (0 : Nat) = 0) (n1 : z.1 (1 : Nat) = 0) (n2 : z.1 (2 : Nat) = 0) (n3 : z.1 (3 : Nat) = 0) (n4 : z.1 (4 : Nat) ≠ 0) (n5 : z.1 (5 : Nat) ≠ 0) : z.1 (6 : Nat) ≠ 0 ∨ ∀ t : Nat, t < 15 → z.1 t ≠ 0 → (qM 2).testBit t = true := by
  have e := fin_e f
  have wc := wsp_c f
  obtain ⟨u, hu⟩ : ∃ u, rv z.2 4 = u := ⟨_, rfl⟩
  obtain ⟨v, hv⟩ : ∃ v, rv z.2 5 = v := ⟨_, rfl⟩
  have wu : wsp z.1 z.2 u := by rw [← hu]; exact wsp_r 4 (by decide) n4
  have wv' : wsp z.1 z.2 v := by rw [← hv]; exact wsp_r 5 (by decide) n5
  have uz : ∀ j, 4 < j → u j = 0 := by rw [← hu]; exact rv_z e (by decide) n4
  have vz : ∀ j, 5 < j → v j = 0 := by rw [← hv]; exact rv_z e (by decide) n5
  have v4 : v 4 = 0 := by rw [← hv]; exact (e 5 (by decide) n5).2.2.1 4 (by decide) (by decide) n4
  have u4 : u 4 ≠ 0 := by rw [← hu]; have := (e 4 (by decide) n4).1; omega
  have v5 : v 5 ≠ 0 := by rw [← hv]; have := (e 5 (by decide) n5).1; omega
  have u5 := uz 5 (by decide)
  obtain ⟨x0, x1, x2, x3, x4, x5, x6, x7, x8, x9⟩ := xs0_v u
  obtain ⟨y0, y1, y2, y3, y4, y5, y6, y7, y8, y9⟩ := xs1_v v
  obtain ⟨t0, t1, t2, t3, t4, t5, t6, t7, t8, t9⟩ := xs1_v u
  obtain ⟨S, hS⟩ : ∃ S : lV, S = fun k => 1 * (fun k => u 4 * v 5 * xs 0 u k + -(u 4 * u 4) * xs 1 v k) k + -(v 5 * u 3) * xs 1 u k := ⟨_, rfl⟩
  have Sk : ∀ k, S k = u 4 * v 5 * xs 0 u k - u 4 * u 4 * xs 1 v k - v 5 * u 3 * xs 1 u k := fun k => by rw [hS]; grind
  have wS : wsp z.1 z.2 S := by
    rw [hS]
    exact wc.1.1 _ _ _ _ (wc.1.1 _ _ _ _ (wc.2 u 0 (Or.inl rfl) (fun j hj => uz j (by omega)) wu) (wc.2 v 1 (Or.inr rfl) (fun j hj => vz j (by omega)) wv')) (wc.2 u 1 (Or.inr rfl) (fun j hj => uz j (by omega)) wu)
  have S7 : ∀ j, 7 ≤ j → S j = 0 := fun j hj => by
    rw [Sk]
    rcases Nat.lt_or_ge j 10 with g | g
    · have hj' : j = 7 ∨ j = 8 ∨ j = 9 := by omega
      rcases hj' with rfl | rfl | rfl
      · rw [x7, y7, t7, v4]; grind
      · rw [x8, y8, t8, u5]; grind
      · rw [x9, y9, t9, u5]; omega
    · rw [xs_hi (Or.inl rfl) (fun j hj => uz j (by omega)) g, xs_hi (Or.inr rfl) (fun j hj => vz j (by omega)) g, xs_hi (Or.inr rfl) (fun j hj => uz j (by omega)) g]
      omega
  have S6 : S 6 = -(u 4 * u 4 * v 3) - v 5 * u 3 * u 3 := by rw [Sk, x6, y6, t6]; grind
  have S5 : S 5 = u 4 * v 5 * u 2 := by rw [Sk, x5, y5, t5]; grind
  have S4 : S 4 = u 4 * v 5 * u 1 - u 4 * u 4 * v 2 - v 5 * u 3 * u 2 := by rw [Sk, x4, y4, t4]
  have S3 : S 3 = -(u 4 * u 4 * v 1) - v 5 * u 3 * u 1 := by rw [Sk, x3, y3, t3]; grind
  have S2 : S 2 = u 4 * v 5 * u 0 := by rw [Sk, x2, y2, t2]; grind
  have S1 : S 1 = -(u 4 * u 4 * v 0) - v 5 * u 3 * u 0 := by rw [Sk, x1, y1, t1]; grind
  rcases Decidable.em (S 6 = 0) with k6 | k6
  · right
    have S6' : ∀ j, 6 ≤ j → S j = 0 := fun j hj => by
      rcases Decidable.em (j = 6) with q | q
      · rw [q]; exact k6
      · exact S7 j (by omega)
    obtain ⟨R, hR⟩ : ∃ R : lV, R = fun k => 1 * (fun k => u 4 * v 5 * S k + -(u 4 * S 5) * v k) k + -(v 5 * S 4) * u k := ⟨_, rfl⟩
    have Rk : ∀ k, R k = u 4 * v 5 * S k - u 4 * S 5 * v k - v 5 * S 4 * u k := fun k => by rw [hR]; grind
    have wR : wsp z.1 z.2 R := by
      rw [hR]
      exact wc.1.1 _ _ _ _ (wc.1.1 _ _ _ _ wS wv') wu
    have Rz := wsp_z e wR 4 (by decide) (fun j h3 _ => by
      rw [Rk]
      rcases Nat.lt_or_ge j 6 with g | g
      · have hj' : j = 4 ∨ j = 5 := by omega
        rcases hj' with rfl | rfl
        · rw [v4]; grind
        · rw [u5]; grind
      · rw [S6' j g, vz j (by omega), uz j (by omega)]; omega) (fun j h3 hj => by
      have hj' : j = 0 ∨ j = 1 ∨ j = 2 ∨ j = 3 := by omega
      rcases hj' with rfl | rfl | rfl | rfl
      · exact absurd n0 hj
      · exact absurd n1 hj
      · exact absurd n2 hj
      · exact absurd n3 hj)
    have R3 := Rz 3 (by decide)
    have R2 := Rz 2 (by decide)
    have R1 := Rz 1 (by decide)
    have S00 : S 0 = 0 := by rw [Sk, x0, y0, t0]; omega
    have R0 := Rz 0 (by decide)
    rw [Rk, S3, S5, S4] at R3
    rw [Rk, S2, S5, S4] at R2
    rw [Rk, S1, S5, S4] at R1
    rw [Rk, S00, S5, S4] at R0
    rw [S6] at k6
    obtain ⟨c, hc⟩ : ∃ c, u 1 * u 4 - u 3 * u 2 = c := ⟨_, rfl⟩
    have uu : u 4 * u 4 ≠ 0 := fun h => by rcases Int.mul_eq_zero.mp h with q | q <;> exact u4 q
    have a3 : u 4 * u 4 * v 3 + v 5 * u 3 * u 3 = 0 := by omega
    have q0 := lx_2 v5 R2
    have q3 := lx_3 v5 a3 R3
    have q1 := lx_1 v5 q0 q3 R1
    rw [hc] at q0 q1 q3
    refine line_h f hsys (l := fun j => if j = 0 then c else if j = 1 then u 3 * u 4 else if j = 2 then u 4 * u 4 else 0) (k := 2) (by decide) uu (fun j hj => by show (if j = 0 then c else if j = 1 then u 3 * u 4 else if j = 2 then u 4 * u 4 else 0) = 0; rw [if_neg (by omega), if_neg (by omega), if_neg (by omega)]) (fun t ht h2 => ?_)
    have ht' : t = 0 ∨ t = 1 ∨ t = 2 ∨ t = 3 ∨ t = 4 ∨ t = 5 := by omega
    have l3 : ∀ j : Nat, 3 ≤ j → (if j = 0 then c else if j = 1 then u 3 * u 4 else if j = 2 then u 4 * u 4 else 0) = (0 : Int) := fun j hj => by rw [if_neg (by omega), if_neg (by omega), if_neg (by omega)]
    rcases ht' with rfl | rfl | rfl | rfl | rfl | rfl
    · exact absurd n0 h2
    · exact absurd n1 h2
    · exact absurd n2 h2
    · exact absurd n3 h2
    · rw [hu]
      refine mul_2 (T := u 4 * u 4) (c0 := u 2) (c1 := u 4) (c2 := 0) uu l3 (fun j hj => uz j (by omega)) ?_ ?_ ?_ ?_ ?_ ?_
      · show u 4 * u 4 * u 0 = c * u 2; exact q0
      · show u 4 * u 4 * u 1 = c * u 4 + u 3 * u 4 * u 2; rw [← hc]; grind
      · show u 4 * u 4 * u 2 = c * 0 + u 4 * u 4 * u 2; omega
      · show u 4 * u 4 * u 3 = u 3 * u 4 * u 4; grind
      · show u 4 * u 4 * u 4 = u 3 * u 4 * 0 + u 4 * u 4 * u 4; omega
      · show u 4 * u 4 * u 5 = u 4 * u 4 * 0; rw [u5]
    · rw [hv]
      refine mul_2 (T := u 4 * u 4 * u 4 * u 4) (c0 := v 2 * (u 4 * u 4) - v 5 * c) (c1 := -(v 5 * (u 3 * u 4))) (c2 := v 5 * (u 4 * u 4)) (fun h => by rcases Int.mul_eq_zero.mp h with q | q; rcases Int.mul_eq_zero.mp q with q2 | q2; exact uu q2; exact u4 q2; exact u4 q) l3 (fun j hj => vz j (by omega)) ?_ ?_ ?_ ?_ ?_ ?_
      · show u 4 * u 4 * u 4 * u 4 * v 0 = c * (v 2 * (u 4 * u 4) - v 5 * c); exact q1
      · show u 4 * u 4 * u 4 * u 4 * v 1 = c * -(v 5 * (u 3 * u 4)) + u 3 * u 4 * (v 2 * (u 4 * u 4) - v 5 * c); rw [show u 4 * u 4 * u 4 * u 4 * v 1 = u 4 * (u 4 * u 4 * u 4 * v 1) by grind, q3]; grind
      · show u 4 * u 4 * u 4 * u 4 * v 2 = c * (v 5 * (u 4 * u 4)) + u 4 * u 4 * (v 2 * (u 4 * u 4) - v 5 * c); grind
      · show u 4 * u 4 * u 4 * u 4 * v 3 = u 3 * u 4 * -(v 5 * (u 3 * u 4)); exact lx_4 a3
      · show u 4 * u 4 * u 4 * u 4 * v 4 = u 3 * u 4 * (v 5 * (u 4 * u 4)) + u 4 * u 4 * -(v 5 * (u 3 * u 4)); rw [v4]; grind
      · show u 4 * u 4 * u 4 * u 4 * v 5 = u 4 * u 4 * (v 5 * (u 4 * u 4)); grind
  · left
    exact wsp_t e wS (by decide) k6 (fun j j0 _ => S7 j (by omega))
end
