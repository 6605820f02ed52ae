/-! THEOREM A for every system: what is of degree 3 is found in degree 3. -/
theorem syz_l {U : lV → Prop} (hU : clU U) {f g S : lV} (hf : U f) (hg : U g) (hS : U S) {D c c' d d' : Int} (hD : D ≠ 0) (hs : ∀ u, U u → ∃ α β : Int, ∀ k, D * u k = α * f k + β * g k)
    (eS : ∀ k, S k = c * xs 0 f k + c' * xs 1 f k + (d * xs 0 g k + d' * xs 1 g k))
    (ht : ∀ a1 a2 a3 b1 b2 b3 : Int, a3 * f 3 + b3 * g 3 = 0 → a2 * f 3 + a3 * f 4 + b2 * g 3 + b3 * g 4 = 0 → a1 * f 3 + a2 * f 4 + a3 * f 5 + b1 * g 3 + b2 * g 4 + b3 * g 5 = 0 → a1 * f 4 + a2 * f 5 + b1 * g 4 + b2 * g 5 = 0 → a1 * f 5 + b1 * g 5 = 0 → ∃ K r q : Int, K ≠ 0 ∧ K * a1 = r * c ∧ K * a2 = r * c' + q * c ∧ K * a3 = q * c' ∧ K * b1 = r * d ∧ K * b2 = r * d' + q * d ∧ K * b3 = q * d')
    {v : lV} (hv : vV (vV U) v) (h10 : ∀ j, 10 ≤ j → v j = 0) : vV U v := by
  obtain ⟨T, w, a, b, cc, hT, hw, ha, hb, hc, e⟩ := vV_2 hU.1 hv
  obtain ⟨a1, b1, e1⟩ := hs a ha
  obtain ⟨a2, b2, e2⟩ := hs b hb
  obtain ⟨a3, b3, e3⟩ := hs cc hc
  have wz := vV_d hU.2.1 hw
  have lV' := vV_lin hU.1
  have E : ∀ k, D * (T * v k) = D * w k + (a1 * xs 0 (xs 0 f) k + b1 * xs 0 (xs 0 g) k) + (a2 * xs 0 (xs 1 f) k + b2 * xs 0 (xs 1 g) k) + (a3 * xs 1 (xs 1 f) k + b3 * xs 1 (xs 1 g) k) := fun k => by
    rw [← xs2_l 0 0, ← xs2_l 0 1, ← xs2_l 1 1, show (fun k => a1 * f k + b1 * g k) = fun k => D * a k from funext (fun k => (e1 k).symm), show (fun k => a2 * f k + b2 * g k) = fun k => D * b k from funext (fun k => (e2 k).symm), show (fun k => a3 * f k + b3 * g k) = fun k => D * cc k from funext (fun k => (e3 k).symm), xs2_c, xs2_c, xs2_c, e k]
    grind only
  obtain ⟨x0, x1, x2, x3, x4⟩ := (xx_v f).2
  obtain ⟨y0, y1, y2, y3, y4⟩ := (xy_v f).2
  obtain ⟨z0, z1, z2, z3, z4⟩ := (yy_v f).2
  obtain ⟨p0, p1, p2, p3, p4⟩ := (xx_v g).2
  obtain ⟨q0, q1, q2, q3, q4⟩ := (xy_v g).2
  obtain ⟨r0, r1, r2, r3, r4⟩ := (yy_v g).2
  have E0 := E 10
  have E1 := E 11
  have E2 := E 12
  have E3 := E 13
  have E4 := E 14
  rw [h10 10 (by decide), wz 10 (by decide), x0, y0, z0, p0, q0, r0] at E0
  rw [h10 11 (by decide), wz 11 (by decide), x1, y1, z1, p1, q1, r1] at E1
  rw [h10 12 (by decide), wz 12 (by decide), x2, y2, z2, p2, q2, r2] at E2
  rw [h10 13 (by decide), wz 13 (by decide), x3, y3, z3, p3, q3, r3] at E3
  rw [h10 14 (by decide), wz 14 (by decide), x4, y4, z4, p4, q4, r4] at E4
  clear x0 x1 x2 x3 x4 y0 y1 y2 y3 y4 z0 z1 z2 z3 z4 p0 p1 p2 p3 p4 q0 q1 q2 q3 q4 r0 r1 r2 r3 r4
  obtain ⟨K, r, q, hK, k1, k2, k3, l1, l2, l3⟩ := ht a1 a2 a3 b1 b2 b3 (by omega) (by omega) (by omega) (by omega) (by omega)
  have eS' : S = fun k => 1 * (fun k => c * xs 0 f k + c' * xs 1 f k) k + 1 * (fun k => d * xs 0 g k + d' * xs 1 g k) k := funext (fun k => by rw [eS k]; dsimp only; omega)
  have s0 : ∀ k, xs 0 S k = c * xs 0 (xs 0 f) k + c' * xs 0 (xs 1 f) k + (d * xs 0 (xs 0 g) k + d' * xs 0 (xs 1 g) k) := fun k => by
    rw [eS', xs_l, xs_l, xs_l]
    omega
  have s1 : ∀ k, xs 1 S k = c * xs 0 (xs 1 f) k + c' * xs 1 (xs 1 f) k + (d * xs 0 (xs 1 g) k + d' * xs 1 (xs 1 g) k) := fun k => by
    rw [eS', xs_l, xs_l, xs_l, xs_cc f k, xs_cc g k]
    omega
  have vS : vV U (fun k => r * xs 0 S k + q * xs 1 S k) := lV'.1 _ _ _ _ (vV_x hU.1 hS (Or.inl rfl)) (vV_x hU.1 hS (Or.inr rfl))
  refine lin_d lV' (T := K * (D * T)) (a := K * D) (b := 1) (mul_n hK (mul_n hD hT)) hw vS (fun k => ?_)
  have Ek := E k
  have S0 := s0 k
  have S1 := s1 k
  clear E E0 E1 E2 E3 E4 eS' eS s0 s1 vS e e1 e2 e3
  have G : K * (D * (T * v k)) = K * D * w k + (K * a1 * xs 0 (xs 0 f) k + K * b1 * xs 0 (xs 0 g) k) + (K * a2 * xs 0 (xs 1 f) k + K * b2 * xs 0 (xs 1 g) k) + (K * a3 * xs 1 (xs 1 f) k + K * b3 * xs 1 (xs 1 g) k) := by rw [Ek]; grind only
  rw [k1, k2, k3, l1, l2, l3] at G
  rw [S0, S1]
  generalize xs 0 (xs 0 f) k = A1 at *
  generalize xs 0 (xs 1 f) k = A2 at *
  generalize xs 1 (xs 1 f) k = A3 at *
  generalize xs 0 (xs 0 g) k = B1 at *
  generalize xs 0 (xs 1 g) k = B2 at *
  generalize xs 1 (xs 1 g) k = B3 at *
  clear Ek k1 k2 k3 l1 l2 l3 S0 S1
  have G2 : K * (D * T) * v k = K * (D * (T * v k)) := by grind only
  rw [G2, G]
  grind only
theorem sz_y {f3 g4 a1 a2 a3 b1 b2 b3 : Int} (hf : f3 ≠ 0) (hg : g4 ≠ 0) (h0 : a3 * f3 + b3 * 0 = 0) (h1 : a2 * f3 + a3 * 0 + b2 * 0 + b3 * g4 = 0) (h2 : a1 * f3 + a2 * 0 + a3 * 0 + b1 * 0 + b2 * g4 + b3 * 0 = 0) (h3 : a1 * 0 + a2 * 0 + b1 * g4 + b2 * 0 = 0) : ∃ K r q : Int, K ≠ 0 ∧ K * a1 = r * g4 ∧ K * a2 = r * 0 + q * g4 ∧ K * a3 = q * 0 ∧ K * b1 = r * 0 ∧ K * b2 = r * (-f3) + q * 0 ∧ K * b3 = q * (-f3) := by
  have z3 : a3 = 0 := mul_z hf (by rw [Int.mul_comm]; omega)
  have z1 : b1 = 0 := mul_z hg (by rw [Int.mul_comm]; omega)
  subst z3
  subst z1
  exact ⟨g4, a1, a2, hg, by grind, by grind, by grind, by grind, by grind, by grind⟩
theorem sz_x {u3 u4 v3 v5 a1 a2 a3 b1 b2 b3 : Int} (hu : u4 ≠ 0) (hv : v5 ≠ 0) (hd : v5 * (u3 * u3) + v3 * (u4 * u4) = 0) (h0 : a3 * u3 + b3 * v3 = 0) (h1 : a2 * u3 + a3 * u4 + b2 * v3 + b3 * 0 = 0) (h2 : a1 * u3 + a2 * u4 + a3 * 0 + b1 * v3 + b2 * 0 + b3 * v5 = 0) (h3 : a1 * u4 + a2 * 0 + b1 * 0 + b2 * v5 = 0) (h4 : a1 * 0 + b1 * v5 = 0) : ∃ K r q : Int, K ≠ 0 ∧ K * a1 = r * (u4 * v5) ∧ K * a2 = r * (-(v5 * u3)) + q * (u4 * v5) ∧ K * a3 = q * (-(v5 * u3)) ∧ K * b1 = r * 0 ∧ K * b2 = r * (-(u4 * u4)) + q * 0 ∧ K * b3 = q * (-(u4 * u4)) := by
  have z1 : b1 = 0 := mul_z hv (by rw [Int.mul_comm]; omega)
  subst z1
  refine ⟨u4 * u4 * v5, u4 * a1, -(v5 * b3), mul_n (mul_n hu hu) hv, by grind, by grind, ?_, by grind, by grind, by grind⟩
  grind
theorem qM_b : ∀ t : Fin 10, ((qM 1).testBit t.val = true → t.val = 1 ∨ t.val = sh 0 1 ∨ t.val = sh 1 1 ∨ t.val = sh 0 3 ∨ t.val = sh 1 3 ∨ t.val = sh 0 4) ∧ ((qM 2).testBit t.val = true → t.val = 2 ∨ t.val = sh 0 2 ∨ t.val = sh 1 2 ∨ t.val = sh 0 5 ∨ t.val = sh 1 5 ∨ t.val = sh 1 4) ∧ ((qM 3).testBit t.val = true → t.val = 3 ∨ t.val = sh 0 3 ∨ t.val = sh 1 3) ∧ ((qM 4).testBit t.val = true → t.val = 4 ∨ t.val = sh 0 4 ∨ t.val = sh 1 4) ∧ ((qM 5).testBit t.val = true → t.val = 5 ∨ t.val = sh 0 5 ∨ t.val = sh 1 5) := by decide +kernel
theorem ld_v {U : lV → Prop} (hU : lin U) {t : Nat} (h : ld U t) : ld (vV U) t := by
  obtain ⟨v, v0, v1, v2⟩ := h
  exact ⟨v, vV_u hU v0, v1, v2⟩
theorem ld_w {U : lV → Prop} (hU : lin U) {t : Nat} (ht : t < 6) (h : ld U t) {w : Int} (hw : w = 0 ∨ w = 1) : ld (vV U) (sh w t) := by
  obtain ⟨v, v0, v1, v2⟩ := h
  obtain ⟨-, b, c⟩ := xs_top (v := v) hw (show t < 10 by omega) (fun j hj _ => v2 j hj)
  exact ⟨xs w v, vV_x hU v0 hw, by rw [b]; exact v1, c⟩
theorem lr_01 : ((0 : Int) = 0 ∨ (0 : Int) = 1) ∧ ((1 : Int) = 0 ∨ (1 : Int) = 1) := ⟨Or.inl rfl, Or.inr rfl⟩
theorem thB {S W U : lV → Prop} (hWJ : ∀ J, clo J → (∀ u, S u → J u) → ∀ v, W v → J v) (hWc : clo W) (hU : clU U) (hSU : ∀ u, S u → U u) (hUW : ∀ u, U u → W u) : ∀ v, W v → (∀ j, 10 ≤ j → v j = 0) → vV U v := by
  have lV' := vV_lin hU.1
  have fromJ : (∀ v, vV (vV U) v → (∀ j, 10 ≤ j → v j = 0) → vV U v) → ∀ v, W v → (∀ j, 10 ≤ j → v j = 0) → vV U v := fun hz v hv h10 =>
    hz v (hWJ _ (vV_clo hU hz) (fun u hu => vV_u lV' (vV_u hU.1 (hSU u hu))) v hv) h10
  have VW : ∀ v, vV U v → W v := fun v hv => vV_J hWc.1 hUW (fun u w hw hu => hWc.2 u w hw (fun j hj => hU.2.1 u hu j (by omega)) (hUW u hu)) hv
  have fromL : ∀ (l : lV) (k : Nat), k < 6 → l k ≠ 0 → (∀ j, k < j → l j = 0) → (∀ u, U u → mul1 l u) → (∀ t : Nat, t < 10 → (qM k).testBit t = true → ld (vV U) t) → ∀ v, W v → (∀ j, 10 ≤ j → v j = 0) → vV U v := fun l k hk hl hz hm ht v hv h10 =>
    ld_sub lV' hWc.1 VW (N := 10) (fun t t10 h => by
      obtain ⟨x, x0, x1, x2⟩ := h
      exact ht t t10 (mul1_Q hk hl hz x t (hWJ _ (mul1_clo l) (fun u hu => hm u (hSU u hu)) x x0) (by omega) x1 (fun j hj _ => x2 j hj))) 10 v (Nat.le_refl _) hv h10
  obtain ⟨s1, s2, s3, s4, s5, s6⟩ := sh_6
  have u01 : ld U 0 → ld U 1 := fun h => by have := ld_up hU (by decide) lr_01.2 h; rw [s2] at this; exact this
  have u02 : ld U 0 → ld U 2 := fun h => by have := ld_up hU (by decide) lr_01.1 h; rw [s1] at this; exact this
  have u14 : ld U 1 → ld U 4 := fun h => by have := ld_up hU (by decide) lr_01.1 h; rw [s3] at this; exact this
  have u13 : ld U 1 → ld U 3 := fun h => by have := ld_up hU (by decide) lr_01.2 h; rw [s4] at this; exact this
  have u25 : ld U 2 → ld U 5 := fun h => by have := ld_up hU (by decide) lr_01.1 h; rw [s5] at this; exact this
  have u24 : ld U 2 → ld U 4 := fun h => by have := ld_up hU (by decide) lr_01.2 h; rw [s6] at this; exact this
  rcases Classical.em (ld U 3 ∧ ld U 4 ∧ ld U 5) with ⟨a, b, c⟩ | nn
  · exact fromJ (fun v hv h10 => case_a hU a b c hv h10)
  have n0 : ¬ ld U 0 := fun h => nn ⟨u13 (u01 h), u14 (u01 h), u25 (u02 h)⟩
  have six : ∀ t : Nat, t < 6 → t = 0 ∨ t = 1 ∨ t = 2 ∨ t = 3 ∨ t = 4 ∨ t = 5 := fun t ht => by omega
  rcases Classical.em (ld U 1) with y1 | n1
  · have n5 : ¬ ld U 5 := fun h => nn ⟨u13 y1, u14 y1, h⟩
    have n2 : ¬ ld U 2 := fun h => n5 (u25 h)
    obtain ⟨l, a, b, c⟩ := li_y hU y1 (fun t ht h => by
      rcases six t ht with rfl | rfl | rfl | rfl | rfl | rfl
      · exact absurd h n0
      · exact Or.inl rfl
      · exact absurd h n2
      · exact Or.inr (Or.inl rfl)
      · exact Or.inr (Or.inr rfl)
      · exact absurd h n5)
    refine fromL l 1 (by decide) a b c (fun t ht hb => ?_)
    rcases (qM_b ⟨t, ht⟩).1 hb with e | e | e | e | e | e <;> (have e' : t = _ := e; rw [e'])
    · exact ld_v hU.1 y1
    · exact ld_w hU.1 (by decide) y1 lr_01.1
    · exact ld_w hU.1 (by decide) y1 lr_01.2
    · exact ld_w hU.1 (by decide) (u13 y1) lr_01.1
    · exact ld_w hU.1 (by decide) (u13 y1) lr_01.2
    · exact ld_w hU.1 (by decide) (u14 y1) lr_01.1
  rcases Classical.em (ld U 2) with y2 | n2
  · have n3 : ¬ ld U 3 := fun h => nn ⟨h, u24 y2, u25 y2⟩
    obtain ⟨l, a, b, c⟩ := li_x hU y2 (fun t ht h => by
      rcases six t ht with rfl | rfl | rfl | rfl | rfl | rfl
      · exact absurd h n0
      · exact absurd h n1
      · exact Or.inl rfl
      · exact absurd h n3
      · exact Or.inr (Or.inl rfl)
      · exact Or.inr (Or.inr rfl))
    refine fromL l 2 (by decide) a b c (fun t ht hb => ?_)
    rcases (qM_b ⟨t, ht⟩).2.1 hb with e | e | e | e | e | e <;> (have e' : t = _ := e; rw [e'])
    · exact ld_v hU.1 y2
    · exact ld_w hU.1 (by decide) y2 lr_01.1
    · exact ld_w hU.1 (by decide) y2 lr_01.2
    · exact ld_w hU.1 (by decide) (u25 y2) lr_01.1
    · exact ld_w hU.1 (by decide) (u25 y2) lr_01.2
    · exact ld_w hU.1 (by decide) (u24 y2) lr_01.2
  have one : ∀ t, t < 6 → ld U t → (∀ k, k < 6 → ld U k → k = t) → (∀ s : Nat, s < 10 → (qM t).testBit s = true → s = t ∨ s = sh 0 t ∨ s = sh 1 t) → ∀ v, W v → (∀ j, 10 ≤ j → v j = 0) → vV U v := fun t ht h hh hb => by
    obtain ⟨f, f0, f1, f2, f3⟩ := one_ld hU h hh
    refine fromL f t ht f1 f2 (fun u hu => lin_d (mul1_lin f) (T := f t) (a := u t) (b := 0) f1 (mul1_s (hU.2.1 f f0)) (mul1_lin f).2.2 (fun k => by rw [f3 u hu k]; omega)) (fun s hs hq => ?_)
    rcases hb s hs hq with e | e | e <;> rw [e]
    · exact ld_v hU.1 h
    · exact ld_w hU.1 ht h lr_01.1
    · exact ld_w hU.1 ht h lr_01.2
  rcases Classical.em (ld U 3) with y3 | n3
  · rcases Classical.em (ld U 4) with y4 | n4
    · have n5 : ¬ ld U 5 := fun h => nn ⟨y3, y4, h⟩
      have h34 : ∀ t, t < 6 → ld U t → t = 3 ∨ t = 4 := fun t ht h => by
        rcases six t ht with rfl | rfl | rfl | rfl | rfl | rfl
        · exact absurd h n0
        · exact absurd h n1
        · exact absurd h n2
        · exact Or.inl rfl
        · exact Or.inr rfl
        · exact absurd h n5
      obtain ⟨f, g, Uf, Ug, f3, g4, g3, fz, gz, hs⟩ := two_ld hU (by decide) y3 y4 h34
      have f4 := fz 4 (by decide)
      have f5 := fz 5 (by decide)
      have g5 := gz 5 (by decide)
      obtain ⟨x0, x1, x2, x3, x4, x5, x6, x7, x8, x9⟩ := xs0_v f
      obtain ⟨y0, y1', y2', y3', y4', y5', y6, y7, y8, y9⟩ := xs1_v g
      have US : U (fun k => g 4 * xs 0 f k + -f 3 * xs 1 g k) := hU.2.2 _ (lV'.1 _ _ _ _ (vV_x hU.1 Uf lr_01.1) (vV_x hU.1 Ug lr_01.2)) (fun j hj => by
        show g 4 * xs 0 f j + -f 3 * xs 1 g j = 0
        rcases Nat.lt_or_ge j 10 with q | q
        · have hj' : j = 6 ∨ j = 7 ∨ j = 8 ∨ j = 9 := by omega
          rcases hj' with rfl | rfl | rfl | rfl
          · rw [x6, y6, g3]; omega
          · rw [x7, y7]; grind
          · rw [x8, y8, f4, g5]; omega
          · rw [x9, y9, f5]; omega
        · rw [xs_hi lr_01.1 (fun j hj => fz j (by omega)) q, xs_hi lr_01.2 (fun j hj => gz j (by omega)) q]
          omega)
      refine fromJ (fun v hv h10 => syz_l hU Uf Ug US (D := f 3 * g 4) (c := g 4) (c' := 0) (d := 0) (d' := -f 3) (mul_n f3 g4) hs (fun k => by omega) (fun a1 a2 a3 b1 b2 b3 h0 h1 h2 h3 h4 => ?_) hv h10)
      rw [g3] at h0 h1 h2
      rw [f4] at h1 h2 h3
      rw [f5, g5] at h2 h3
      exact sz_y f3 g4 h0 h1 h2 h3
    · rcases Classical.em (ld U 5) with y5 | n5
      · obtain ⟨f, g, Uf, Ug, f3, g5, g3, fz, gz, hs⟩ := two_ld hU (by decide) y3 y5 (fun t ht h => by
          rcases six t ht with rfl | rfl | rfl | rfl | rfl | rfl
          · exact absurd h n0
          · exact absurd h n1
          · exact absurd h n2
          · exact Or.inl rfl
          · exact absurd h n4
          · exact Or.inr rfl)
        have f4 := fz 4 (by decide)
        have f5 := fz 5 (by decide)
        refine fromJ (fun v hv h10 => syz hU Uf Ug (mul_n f3 g5) hs (fun a1 a2 a3 b1 b2 b3 h0 h1 h2 h3 h4 => ?_) hv h10)
        rw [g3] at h0 h1 h2
        rw [f4] at h1 h2 h3
        rw [f5] at h2 h3 h4
        rw [g3, f4, f5]
        exact sz_b f3 g5 h0 h1 h2 h3 h4
      · exact one 3 (by decide) y3 (fun t ht h => by
          rcases six t ht with rfl | rfl | rfl | rfl | rfl | rfl
          · exact absurd h n0
          · exact absurd h n1
          · exact absurd h n2
          · rfl
          · exact absurd h n4
          · exact absurd h n5) (fun s hs hb => (qM_b ⟨s, hs⟩).2.2.1 hb)
  · rcases Classical.em (ld U 4) with y4 | n4
    · rcases Classical.em (ld U 5) with y5 | n5
      · have h45 : ∀ t, t < 6 → ld U t → t = 4 ∨ t = 5 := fun t ht h => by
          rcases six t ht with rfl | rfl | rfl | rfl | rfl | rfl
          · exact absurd h n0
          · exact absurd h n1
          · exact absurd h n2
          · exact absurd h n3
          · exact Or.inl rfl
          · exact Or.inr rfl
        obtain ⟨f, g, Uf, Ug, f4, g5, g4, fz, gz, hs⟩ := two_ld hU (by decide) y4 y5 h45
        have f5 := fz 5 (by decide)
        rcases Decidable.em (g 5 * (f 3 * f 3) + g 3 * (f 4 * f 4) = 0) with hd | hd
        · obtain ⟨x0, x1, x2, x3, x4, x5, x6, x7, x8, x9⟩ := xs0_v f
          obtain ⟨y0, y1', y2', y3', y4', y5', y6, y7, y8, y9⟩ := xs1_v g
          obtain ⟨t0, t1, t2, t3, t4, t5, t6, t7, t8, t9⟩ := xs1_v f
          have US : U (fun k => 1 * (fun k => f 4 * g 5 * xs 0 f k + -(g 5 * f 3) * xs 1 f k) k + -(f 4 * f 4) * xs 1 g k) := hU.2.2 _ (lV'.1 _ _ _ _ (lV'.1 _ _ _ _ (vV_x hU.1 Uf lr_01.1) (vV_x hU.1 Uf lr_01.2)) (vV_x hU.1 Ug lr_01.2)) (fun j hj => by
            show 1 * (f 4 * g 5 * xs 0 f j + -(g 5 * f 3) * xs 1 f j) + -(f 4 * f 4) * xs 1 g j = 0
            rcases Nat.lt_or_ge j 10 with q | q
            · have hj' : j = 6 ∨ j = 7 ∨ j = 8 ∨ j = 9 := by omega
              rcases hj' with rfl | rfl | rfl | rfl
              · rw [x6, y6, t6]; grind
              · rw [x7, y7, t7, g4]; grind
              · rw [x8, y8, t8, f5]; grind
              · rw [x9, y9, t9, f5]; omega
            · rw [xs_hi lr_01.1 (fun j hj => fz j (by omega)) q, xs_hi lr_01.2 (fun j hj => gz j (by omega)) q, xs_hi lr_01.2 (fun j hj => fz j (by omega)) q]
              omega)
          refine fromJ (fun v hv h10 => syz_l hU Uf Ug US (D := f 4 * g 5) (c := f 4 * g 5) (c' := -(g 5 * f 3)) (d := 0) (d' := -(f 4 * f 4)) (mul_n f4 g5) hs (fun k => by show 1 * (f 4 * g 5 * xs 0 f k + -(g 5 * f 3) * xs 1 f k) + -(f 4 * f 4) * xs 1 g k = _; omega) (fun a1 a2 a3 b1 b2 b3 h0 h1 h2 h3 h4 => ?_) hv h10)
          rw [g4] at h1 h2 h3
          rw [f5] at h2 h3 h4
          exact sz_x f4 g5 hd h0 h1 h2 h3 h4
        · refine fromJ (fun v hv h10 => syz hU Uf Ug (mul_n f4 g5) hs (fun a1 a2 a3 b1 b2 b3 h0 h1 h2 h3 h4 => ?_) hv h10)
          rw [g4] at h1 h2 h3
          rw [f5] at h2 h3 h4
          rw [g4, f5]
          exact sz_c f4 g5 hd h0 h1 h2 h3 h4
      · exact one 4 (by decide) y4 (fun t ht h => by
          rcases six t ht with rfl | rfl | rfl | rfl | rfl | rfl
          · exact absurd h n0
          · exact absurd h n1
          · exact absurd h n2
          · exact absurd h n3
          · rfl
          · exact absurd h n5) (fun s hs hb => (qM_b ⟨s, hs⟩).2.2.2.1 hb)
    · rcases Classical.em (ld U 5) with y5 | n5
      · exact one 5 (by decide) y5 (fun t ht h => by
          rcases six t ht with rfl | rfl | rfl | rfl | rfl | rfl
          · exact absurd h n0
          · exact absurd h n1
          · exact absurd h n2
          · exact absurd h n3
          · exact absurd h n4
          · rfl) (fun s hs hb => (qM_b ⟨s, hs⟩).2.2.2.2 hb)
      · have z : ∀ u, U u → ∀ k, u k = 0 := fun u hu k => no_ld hU.2.1 hu (fun t ht h => by
          rcases six t ht with rfl | rfl | rfl | rfl | rfl | rfl
          · exact absurd h n0
          · exact absurd h n1
          · exact absurd h n2
          · exact absurd h n3
          · exact absurd h n4
          · exact absurd h n5) k
        have lJ : clo (fun v : lV => ∀ j, v j = 0) := ⟨⟨fun u v a b hu hv j => by show a * u j + b * v j = 0; rw [hu j, hv j]; omega, fun v T hT hv j => mul_z hT (hv j), fun _ => rfl⟩, fun v w _ _ hv j => xs_0 w hv j⟩
        exact fun v hv _ => lin_0 lV' (hWJ _ lJ (fun u hu => z u (hSU u hu)) v hv)
