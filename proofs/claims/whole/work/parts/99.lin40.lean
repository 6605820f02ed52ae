/-! Which closed spans of degree 2 there are. -/
theorem no_ld {U : lV → Prop} (hd : ∀ u, U u → dg2 u) {v : lV} (hv : U v) (h : ∀ t, t < 6 → ld U t → v t = 0) (j : Nat) : v j = 0 := by
  rcases top_6 v 6 with ⟨p, h1, h2, h3⟩ | g
  · refine absurd (h p h1 ⟨v, hv, h2, fun j hj => ?_⟩) h2
    rcases Nat.lt_or_ge j 6 with q | q
    · exact h3 j hj q
    · exact hd v hv j q
  · rcases Nat.lt_or_ge j 6 with q | q
    · exact g j q
    · exact hd v hv j q
/-- leads go up -/
theorem ld_up {U : lV → Prop} (hU : clU U) {t : Nat} (ht : t < 3) {w : Int} (hw : w = 0 ∨ w = 1) (h : ld U t) : ld U (sh w t) := by
  obtain ⟨v, v0, v1, v2⟩ := h
  obtain ⟨-, b, c⟩ := xs_top (v := v) hw (show t < 10 by omega) (fun j hj _ => v2 j hj)
  have s5 : ∀ w : Fin 2, ∀ t : Fin 3, sh (w.val : Nat) t.val < 6 := by decide +kernel
  have s6 : sh w t < 6 := by
    rcases hw with rfl | rfl
    · exact s5 0 ⟨t, ht⟩
    · exact s5 1 ⟨t, ht⟩
  exact ⟨xs w v, hU.2.2 _ (vV_x hU.1 v0 hw) (fun j hj => c j (by omega)), by rw [b]; exact v1, c⟩
/-- two leads alone -/
theorem two_ld {U : lV → Prop} (hU : clU U) {p q : Nat} (hpq : p < q) (hp : ld U p) (hq : ld U q) (h : ∀ t, t < 6 → ld U t → t = p ∨ t = q) : ∃ f g : lV, U f ∧ U g ∧ f p ≠ 0 ∧ g q ≠ 0 ∧ g p = 0 ∧ (∀ j, p < j → f j = 0) ∧ (∀ j, q < j → g j = 0) ∧ ∀ u, U u → ∃ α β : Int, ∀ k, f p * g q * u k = α * f k + β * g k := by
  obtain ⟨f, f0, f1, f2⟩ := hp
  obtain ⟨v, v0, v1, v2⟩ := hq
  obtain ⟨g, hg⟩ : ∃ g : lV, g = fun k => f p * v k + -v p * f k := ⟨_, rfl⟩
  have gk : ∀ k, g k = f p * v k - v p * f k := fun k => by rw [hg]; grind
  have gp : g p = 0 := by rw [gk]; grind
  have gq : g q = f p * v q := by rw [gk, f2 q hpq]; omega
  have Ug : U g := by rw [hg]; exact hU.1.1 _ _ _ _ v0 f0
  refine ⟨f, g, f0, Ug, f1, by rw [gq]; exact mul_n f1 v1, gp, f2, fun j hj => by rw [gk, v2 j hj, f2 j (by omega)]; omega, fun u hu => ⟨u p * g q, u q * f p, fun k => ?_⟩⟩
  have Ud := hU.1.1 _ _ 1 (-1) (hU.1.1 u f (f p * g q) (-(u p * g q)) hu f0) (hU.1.1 g g (u q * f p) 0 Ug Ug)
  have z := no_ld hU.2.1 Ud (fun t ht hl => by
    rcases h t ht hl with rfl | rfl
    · rw [gp]; grind
    · rw [f2 t hpq]; grind) k
  grind
theorem one_ld {U : lV → Prop} (hU : clU U) {p : Nat} (hp : ld U p) (h : ∀ t, t < 6 → ld U t → t = p) : ∃ f : lV, U f ∧ f p ≠ 0 ∧ (∀ j, p < j → f j = 0) ∧ ∀ u, U u → ∀ k, f p * u k = u p * f k := by
  obtain ⟨f, f0, f1, f2⟩ := hp
  refine ⟨f, f0, f1, f2, fun u hu k => ?_⟩
  have Ud := hU.1.1 u f (f p) (-u p) hu f0
  have z := no_ld hU.2.1 Ud (fun t ht hl => by
    rw [h t ht hl]
    grind) k
  grind
/-- leads yy and xy: a common line -/
theorem ln_y {U : lV → Prop} (hU : clU U) (h3 : ld U 3) (h4 : ld U 4) (h : ∀ t, t < 6 → ld U t → t = 3 ∨ t = 4) : ∃ l : lV, l 1 ≠ 0 ∧ (∀ j, 1 < j → l j = 0) ∧ ∀ u, U u → mul1 l u := by
  obtain ⟨u, v, Uu, Uv, u3, v4, v3, uz, vz, hs⟩ := two_ld hU (by decide) h3 h4 h
  have u4 := uz 4 (by decide)
  have u5 := uz 5 (by decide)
  have v5 := vz 5 (by decide)
  have lV' := vV_lin hU.1
  have n5 : ¬ ld U 5 := fun q => by have := h 5 (by decide) q; omega
  obtain ⟨x0, x1, x2, x3, x4, x5, x6, x7, x8, x9⟩ := xs0_v u
  obtain ⟨y0, y1, y2, y3, y4, y5, y6, y7, y8, y9⟩ := xs1_v v
  obtain ⟨S, hS⟩ : ∃ S : lV, S = fun k => v 4 * xs 0 u k + -u 3 * xs 1 v k := ⟨_, rfl⟩
  have Sk : ∀ k, S k = v 4 * xs 0 u k + -u 3 * xs 1 v k := fun k => by rw [hS]
  have wS' : vV U S := by
    rw [hS]
    exact lV'.1 _ _ _ _ (vV_x hU.1 Uu (Or.inl rfl)) (vV_x hU.1 Uv (Or.inr rfl))
  have S6 : ∀ j, 6 ≤ j → S j = 0 := fun j hj => by
    rw [Sk]
    rcases Nat.lt_or_ge j 10 with g | g
    · have hj' : j = 6 ∨ j = 7 ∨ j = 8 ∨ j = 9 := by omega
      rcases hj' with rfl | rfl | rfl | rfl
      · rw [x6, y6, v3]; omega
      · rw [x7, y7]; grind
      · rw [x8, y8, u4, v5]; omega
      · rw [x9, y9, u5]; omega
    · rw [xs_hi (Or.inl rfl) (fun j hj => uz j (by omega)) g, xs_hi (Or.inr rfl) (fun j hj => vz j (by omega)) g]
      omega
  have wS := hU.2.2 S wS' S6
  have S5 : S 5 = v 4 * u 2 := by rw [Sk, x5, y5]; omega
  have S4 : S 4 = v 4 * u 1 - u 3 * v 2 := by rw [Sk, x4, y4]; grind
  have S3 : S 3 = -(u 3 * v 1) := by rw [Sk, x3, y3]; grind
  have S2 : S 2 = v 4 * u 0 := by rw [Sk, x2, y2]; omega
  have S1 : S 1 = -(u 3 * v 0) := by rw [Sk, x1, y1]; grind
  have S0 : S 0 = 0 := by rw [Sk, x0, y0]; omega
  have u2 : u 2 = 0 := by
    rcases Decidable.em (S 5 = 0) with q | q
    · rw [S5] at q
      exact mul_z v4 q
    · exact absurd (show ld U 5 from ⟨S, wS, q, fun j hj => S6 j (by omega)⟩) n5
  obtain ⟨R, hR⟩ : ∃ R : lV, R = fun k => 1 * (fun k => v 4 * u 3 * S k + -(S 4 * u 3) * v k) k + -(S 3 * v 4) * u k := ⟨_, rfl⟩
  have Rk : ∀ k, R k = v 4 * u 3 * S k - S 4 * u 3 * v k - S 3 * v 4 * u k := fun k => by rw [hR]; grind
  have wR : U R := by
    rw [hR]
    exact hU.1.1 _ _ _ _ (hU.1.1 _ _ _ _ wS Uv) Uu
  have Rz : ∀ j, R j = 0 := no_ld hU.2.1 wR (fun t ht hl => by
    rw [Rk]
    rcases h t ht hl with rfl | rfl
    · rw [v3]; grind
    · rw [u4]; grind)
  have R2 := Rz 2
  have R1 := Rz 1
  rw [Rk, S2, S4, S3, u2] at R2
  rw [Rk, S1, S4, S3] at R1
  -- the relations
  have q1 : v 4 * v 4 * u 0 = v 2 * (v 4 * u 1 - u 3 * v 2) := by
    have : u 3 * (v 4 * v 4 * u 0 - v 2 * (v 4 * u 1 - u 3 * v 2)) = 0 := by grind
    have := mul_z u3 this
    omega
  have q2 : v 4 * v 0 = v 2 * v 1 := by
    have : u 3 * u 3 * (v 4 * v 0 - v 2 * v 1) = 0 := by grind
    have := mul_z (fun h => by rcases Int.mul_eq_zero.mp h with q | q <;> exact u3 q) this
    omega
  have l3 : ∀ j : Nat, 3 ≤ j → (if j = 0 then v 2 else if j = 1 then v 4 else 0) = (0 : Int) := fun j hj => by rw [if_neg (by omega), if_neg (by omega)]
  refine ⟨fun j => if j = 0 then v 2 else if j = 1 then v 4 else 0, v4, fun j hj => by show (if j = 0 then v 2 else if j = 1 then v 4 else 0) = 0; rw [if_neg (by omega), if_neg (by omega)], fun x hx => ?_⟩
  obtain ⟨α, β, e⟩ := hs x hx
  refine lin_d (mul1_lin _) (T := u 3 * v 4) (a := α) (b := β) (u := u) (v := v) (mul_n u3 v4) ?_ ?_ e
  · refine mul_2 (T := v 4 * v 4) (c0 := v 4 * u 1 - u 3 * v 2) (c1 := v 4 * u 3) (c2 := 0) (mul_n v4 v4) l3 (fun j hj => uz j (by omega)) ?_ ?_ ?_ ?_ ?_ ?_
    · show v 4 * v 4 * u 0 = v 2 * (v 4 * u 1 - u 3 * v 2); exact q1
    · show v 4 * v 4 * u 1 = v 2 * (v 4 * u 3) + v 4 * (v 4 * u 1 - u 3 * v 2); grind
    · show v 4 * v 4 * u 2 = v 2 * 0 + 0 * (v 4 * u 1 - u 3 * v 2); rw [u2]; omega
    · show v 4 * v 4 * u 3 = v 4 * (v 4 * u 3); grind
    · show v 4 * v 4 * u 4 = v 4 * 0 + 0 * (v 4 * u 3); rw [u4]; omega
    · show v 4 * v 4 * u 5 = 0 * 0; rw [u5]; omega
  · refine mul_2 (T := v 4) (c0 := v 1) (c1 := 0) (c2 := v 4) v4 l3 (fun j hj => vz j (by omega)) ?_ ?_ ?_ ?_ ?_ ?_
    · show v 4 * v 0 = v 2 * v 1; exact q2
    · show v 4 * v 1 = v 2 * 0 + v 4 * v 1; omega
    · show v 4 * v 2 = v 2 * v 4 + 0 * v 1; grind
    · show v 4 * v 3 = v 4 * 0; rw [v3]
    · show v 4 * v 4 = v 4 * v 4 + 0 * 0; omega
    · show v 4 * v 5 = 0 * v 4; rw [v5]; omega
/-- leads xy and xx, the same top: a common line -/
theorem ln_x {U : lV → Prop} (hU : clU U) {u v : lV} (Uu : U u) (Uv : U v) (u4 : u 4 ≠ 0) (v5 : v 5 ≠ 0) (v4 : v 4 = 0) (uz : ∀ j, 4 < j → u j = 0) (vz : ∀ j, 5 < j → v j = 0) (h : ∀ t, t < 6 → ld U t → t = 4 ∨ t = 5) (hd : v 5 * (u 3 * u 3) + v 3 * (u 4 * u 4) = 0) : ∃ l : lV, l 2 ≠ 0 ∧ (∀ j, 2 < j → l j = 0) ∧ mul1 l u ∧ mul1 l v := by
  have u5 := uz 5 (by decide)
  have lV' := vV_lin hU.1
  obtain ⟨x0, x1, x2, x3, x4, x5, x6, x7, x8, x9⟩ := xs0_v u
  obtain ⟨y0, y1, y2, y3, y4, y5, y6, y7, y8, y9⟩ := xs1_v v
  obtain ⟨t0, t1, t2, t3, t4, t5, t6, t7, t8, t9⟩ := xs1_v u
  obtain ⟨S, hS⟩ : ∃ S : lV, S = fun k => 1 * (fun k => u 4 * v 5 * xs 0 u k + -(u 4 * u 4) * xs 1 v k) k + -(v 5 * u 3) * xs 1 u k := ⟨_, rfl⟩
  have Sk : ∀ k, S k = u 4 * v 5 * xs 0 u k - u 4 * u 4 * xs 1 v k - v 5 * u 3 * xs 1 u k := fun k => by rw [hS]; grind
  have wS' : vV U S := by
    rw [hS]
    exact lV'.1 _ _ _ _ (lV'.1 _ _ _ _ (vV_x hU.1 Uu (Or.inl rfl)) (vV_x hU.1 Uv (Or.inr rfl))) (vV_x hU.1 Uu (Or.inr rfl))
  have S7 : ∀ j, 7 ≤ j → S j = 0 := fun j hj => by
    rw [Sk]
    rcases Nat.lt_or_ge j 10 with g | g
    · have hj' : j = 7 ∨ j = 8 ∨ j = 9 := by omega
      rcases hj' with rfl | rfl | rfl
      · rw [x7, y7, t7, v4]; grind
      · rw [x8, y8, t8, u5]; grind
      · rw [x9, y9, t9, u5]; omega
    · rw [xs_hi (Or.inl rfl) (fun j hj => uz j (by omega)) g, xs_hi (Or.inr rfl) (fun j hj => vz j (by omega)) g, xs_hi (Or.inr rfl) (fun j hj => uz j (by omega)) g]
      omega
  have S6 : S 6 = -(u 4 * u 4 * v 3) - v 5 * u 3 * u 3 := by rw [Sk, x6, y6, t6]; grind
  have S5 : S 5 = u 4 * v 5 * u 2 := by rw [Sk, x5, y5, t5]; grind
  have S4 : S 4 = u 4 * v 5 * u 1 - u 4 * u 4 * v 2 - v 5 * u 3 * u 2 := by rw [Sk, x4, y4, t4]
  have S3 : S 3 = -(u 4 * u 4 * v 1) - v 5 * u 3 * u 1 := by rw [Sk, x3, y3, t3]; grind
  have S2 : S 2 = u 4 * v 5 * u 0 := by rw [Sk, x2, y2, t2]; grind
  have S1 : S 1 = -(u 4 * u 4 * v 0) - v 5 * u 3 * u 0 := by rw [Sk, x1, y1, t1]; grind
  have k6 : S 6 = 0 := by rw [S6]; grind
  have S6' : ∀ j, 6 ≤ j → S j = 0 := fun j hj => by
    rcases Decidable.em (j = 6) with q | q
    · rw [q]; exact k6
    · exact S7 j (by omega)
  have wS := hU.2.2 S wS' S6'
  obtain ⟨R, hR⟩ : ∃ R : lV, R = fun k => 1 * (fun k => u 4 * v 5 * S k + -(u 4 * S 5) * v k) k + -(v 5 * S 4) * u k := ⟨_, rfl⟩
  have Rk : ∀ k, R k = u 4 * v 5 * S k - u 4 * S 5 * v k - v 5 * S 4 * u k := fun k => by rw [hR]; grind
  have wR : U R := by
    rw [hR]
    exact hU.1.1 _ _ _ _ (hU.1.1 _ _ _ _ wS Uv) Uu
  have Rz : ∀ j, R j = 0 := no_ld hU.2.1 wR (fun t ht hl => by
    rw [Rk]
    rcases h t ht hl with rfl | rfl
    · rw [v4]; grind
    · rw [u5]; grind)
  have R3 := Rz 3
  have R2 := Rz 2
  have R1 := Rz 1
  have S00 : S 0 = 0 := by rw [Sk, x0, y0, t0]; omega
  have R0 := Rz 0
  rw [Rk, S3, S5, S4] at R3
  rw [Rk, S2, S5, S4] at R2
  rw [Rk, S1, S5, S4] at R1
  rw [Rk, S00, S5, S4] at R0
  rw [S6] at k6
  obtain ⟨c, hc⟩ : ∃ c, u 1 * u 4 - u 3 * u 2 = c := ⟨_, rfl⟩
  have uu : u 4 * u 4 ≠ 0 := mul_n u4 u4
  have a3 : u 4 * u 4 * v 3 + v 5 * u 3 * u 3 = 0 := by omega
  have q0 := lx_2 v5 R2
  have q3 := lx_3 v5 a3 R3
  have q1 := lx_1 v5 q0 q3 R1
  rw [hc] at q0 q1 q3
  have l3 : ∀ j : Nat, 3 ≤ j → (if j = 0 then c else if j = 1 then u 3 * u 4 else if j = 2 then u 4 * u 4 else 0) = (0 : Int) := fun j hj => by rw [if_neg (by omega), if_neg (by omega), if_neg (by omega)]
  refine ⟨fun j => if j = 0 then c else if j = 1 then u 3 * u 4 else if j = 2 then u 4 * u 4 else 0, uu, fun j hj => by show (if j = 0 then c else if j = 1 then u 3 * u 4 else if j = 2 then u 4 * u 4 else 0) = 0; rw [if_neg (by omega), if_neg (by omega), if_neg (by omega)], ?_, ?_⟩
  · refine mul_2 (T := u 4 * u 4) (c0 := u 2) (c1 := u 4) (c2 := 0) uu l3 (fun j hj => uz j (by omega)) ?_ ?_ ?_ ?_ ?_ ?_
    · show u 4 * u 4 * u 0 = c * u 2; exact q0
    · show u 4 * u 4 * u 1 = c * u 4 + u 3 * u 4 * u 2; rw [← hc]; grind
    · show u 4 * u 4 * u 2 = c * 0 + u 4 * u 4 * u 2; omega
    · show u 4 * u 4 * u 3 = u 3 * u 4 * u 4; grind
    · show u 4 * u 4 * u 4 = u 3 * u 4 * 0 + u 4 * u 4 * u 4; omega
    · show u 4 * u 4 * u 5 = u 4 * u 4 * 0; rw [u5]
  · refine mul_2 (T := u 4 * u 4 * u 4 * u 4) (c0 := v 2 * (u 4 * u 4) - v 5 * c) (c1 := -(v 5 * (u 3 * u 4))) (c2 := v 5 * (u 4 * u 4)) (fun h => by rcases Int.mul_eq_zero.mp h with q | q; rcases Int.mul_eq_zero.mp q with q2 | q2; exact uu q2; exact u4 q2; exact u4 q) l3 (fun j hj => vz j (by omega)) ?_ ?_ ?_ ?_ ?_ ?_
    · show u 4 * u 4 * u 4 * u 4 * v 0 = c * (v 2 * (u 4 * u 4) - v 5 * c); exact q1
    · show u 4 * u 4 * u 4 * u 4 * v 1 = c * -(v 5 * (u 3 * u 4)) + u 3 * u 4 * (v 2 * (u 4 * u 4) - v 5 * c); rw [show u 4 * u 4 * u 4 * u 4 * v 1 = u 4 * (u 4 * u 4 * u 4 * v 1) by grind, q3]; grind
    · show u 4 * u 4 * u 4 * u 4 * v 2 = c * (v 5 * (u 4 * u 4)) + u 4 * u 4 * (v 2 * (u 4 * u 4) - v 5 * c); grind
    · show u 4 * u 4 * u 4 * u 4 * v 3 = u 3 * u 4 * -(v 5 * (u 3 * u 4)); exact lx_4 a3
    · show u 4 * u 4 * u 4 * u 4 * v 4 = u 3 * u 4 * (v 5 * (u 4 * u 4)) + u 4 * u 4 * -(v 5 * (u 3 * u 4)); rw [v4]; grind
    · show u 4 * u 4 * u 4 * u 4 * v 5 = u 4 * u 4 * (v 5 * (u 4 * u 4)); grind
