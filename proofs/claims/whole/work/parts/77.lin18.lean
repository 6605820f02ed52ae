/-! Two quadrics with a common line. -/
theorem shP_0 : shP 0 0 = 15 ∧ shP 0 1 = 15 ∧ shP 0 2 = 0 ∧ shP 0 3 = 15 ∧ shP 0 4 = 1 ∧ shP 0 5 = 2 ∧ shP 0 6 = 15 ∧ shP 0 7 = 3 ∧ shP 0 8 = 4 ∧ shP 0 9 = 5 := by decide +kernel
theorem shP_1 : shP 1 0 = 15 ∧ shP 1 1 = 0 ∧ shP 1 2 = 15 ∧ shP 1 3 = 1 ∧ shP 1 4 = 2 ∧ shP 1 5 = 15 ∧ shP 1 6 = 3 ∧ shP 1 7 = 4 ∧ shP 1 8 = 5 ∧ shP 1 9 = 15 := by decide +kernel
theorem shP_2 : ∀ w : Fin 2, ∀ j : Fin 15, 10 ≤ j.val → 6 ≤ shP (w.val : Nat) j.val := by decide +kernel
theorem xs_15 {w : Int} {v : lV} {j : Nat} (h : shP w j = 15) : xs w v j = 0 := by
  unfold xs
  rw [if_neg (by omega)]
theorem xs_at {w : Int} {v : lV} {j k : Nat} (h : shP w j = k) (hk : k < 10) (hj : j < 15) : xs w v j = v k := by
  unfold xs
  rw [h, if_pos ⟨hj, hk⟩]
theorem xs0_v (v : lV) : xs 0 v 0 = 0 ∧ xs 0 v 1 = 0 ∧ xs 0 v 2 = v 0 ∧ xs 0 v 3 = 0 ∧ xs 0 v 4 = v 1 ∧ xs 0 v 5 = v 2 ∧ xs 0 v 6 = 0 ∧ xs 0 v 7 = v 3 ∧ xs 0 v 8 = v 4 ∧ xs 0 v 9 = v 5 := by
  obtain ⟨a0, a1, a2, a3, a4, a5, a6, a7, a8, a9⟩ := shP_0
  exact ⟨xs_15 a0, xs_15 a1, xs_at a2 (by decide) (by decide), xs_15 a3, xs_at a4 (by decide) (by decide), xs_at a5 (by decide) (by decide), xs_15 a6, xs_at a7 (by decide) (by decide), xs_at a8 (by decide) (by decide), xs_at a9 (by decide) (by decide)⟩
theorem xs1_v (v : lV) : xs 1 v 0 = 0 ∧ xs 1 v 1 = v 0 ∧ xs 1 v 2 = 0 ∧ xs 1 v 3 = v 1 ∧ xs 1 v 4 = v 2 ∧ xs 1 v 5 = 0 ∧ xs 1 v 6 = v 3 ∧ xs 1 v 7 = v 4 ∧ xs 1 v 8 = v 5 ∧ xs 1 v 9 = 0 := by
  obtain ⟨a0, a1, a2, a3, a4, a5, a6, a7, a8, a9⟩ := shP_1
  exact ⟨xs_15 a0, xs_at a1 (by decide) (by decide), xs_15 a2, xs_at a3 (by decide) (by decide), xs_at a4 (by decide) (by decide), xs_15 a5, xs_at a6 (by decide) (by decide), xs_at a7 (by decide) (by decide), xs_at a8 (by decide) (by decide), xs_15 a9⟩
theorem xs_hi {w : Int} {v : lV} (hw : w = 0 ∨ w = 1) (hz : ∀ j, 6 ≤ j → v j = 0) {j : Nat} (hj : 10 ≤ j) : xs w v j = 0 := by
  unfold xs
  rcases Nat.lt_or_ge j 15 with g | g
  · have h : 6 ≤ shP w j := by
      rcases hw with rfl | rfl
      · exact shP_2 0 ⟨j, g⟩ hj
      · exact shP_2 1 ⟨j, g⟩ hj
    rw [hz _ h]
    split <;> rfl
  · rw [if_neg (by omega)]
/-- a product of two of degree 1 -/
theorem mul_2 {l v : lV} {T c0 c1 c2 : Int} (hT : T ≠ 0) (hl : ∀ j, 3 ≤ j → l j = 0) (hv : ∀ j, 6 ≤ j → v j = 0) (h0 : T * v 0 = l 0 * c0) (h1 : T * v 1 = l 0 * c1 + l 1 * c0) (h2 : T * v 2 = l 0 * c2 + l 2 * c0) (h3 : T * v 3 = l 1 * c1) (h4 : T * v 4 = l 1 * c2 + l 2 * c1) (h5 : T * v 5 = l 2 * c2) : mul1 l v := by
  refine ⟨T, 1, fun a b => if a = 0 ∧ b = 0 then c0 else if a = 0 ∧ b = 1 then c1 else if a = 1 ∧ b = 0 then c2 else 0, hT, fun a b h => ?_, fun a b => ?_⟩
  · dsimp only
    rw [if_neg (by omega), if_neg (by omega), if_neg (by omega)]
  · unfold cvl
    rw [hl 3 (by decide), hl 4 (by decide), hl 5 (by decide)]
    rcases Decidable.em (0 ≤ a ∧ 0 ≤ b ∧ a + b ≤ 2) with g | g
    · have hh : (a = 0 ∧ b = 0) ∨ (a = 0 ∧ b = 1) ∨ (a = 1 ∧ b = 0) ∨ (a = 0 ∧ b = 2) ∨ (a = 1 ∧ b = 1) ∨ (a = 2 ∧ b = 0) := by omega
      rcases hh with ⟨rfl, rfl⟩ | ⟨rfl, rfl⟩ | ⟨rfl, rfl⟩ | ⟨rfl, rfl⟩ | ⟨rfl, rfl⟩ | ⟨rfl, rfl⟩
      · rw [show pv v 0 0 = v 0 by unfold pv; rw [if_pos (by decide)]; rfl, h0]
        simp
      · rw [show pv v 0 1 = v 1 by unfold pv; rw [if_pos (by decide)]; rfl, h1]
        simp
      · rw [show pv v 1 0 = v 2 by unfold pv; rw [if_pos (by decide)]; rfl, h2]
        simp
      · rw [show pv v 0 2 = v 3 by unfold pv; rw [if_pos (by decide)]; rfl, h3]
        simp
      · rw [show pv v 1 1 = v 4 by unfold pv; rw [if_pos (by decide)]; rfl, h4]
        simp
      · rw [show pv v 2 0 = v 5 by unfold pv; rw [if_pos (by decide)]; rfl, h5]
        simp
    · have z : pv v a b = 0 := by
        unfold pv
        split
        · rename_i q
          obtain ⟨x, y, rfl, rfl, xy⟩ := pw5 q
          exact hv _ ((mN_t x y).2.2 (by omega) xy)
        · rfl
      rw [z]
      dsimp only
      rw [if_neg (show ¬ (a = 0 ∧ b = 0) by omega), if_neg (show ¬ (a = 0 ∧ b = 1) by omega), if_neg (show ¬ (a = 1 ∧ b = 0) by omega), if_neg (show ¬ (a = 0 ∧ b - 1 = 0) by omega), if_neg (show ¬ (a = 0 ∧ b - 1 = 1) by omega), if_neg (show ¬ (a = 1 ∧ b - 1 = 0) by omega), if_neg (show ¬ (a - 1 = 0 ∧ b = 0) by omega), if_neg (show ¬ (a - 1 = 0 ∧ b = 1) by omega), if_neg (show ¬ (a - 1 = 1 ∧ b = 0) by omega)]
      omega
section
variable {hs0 s0 : Int → Int} {z : (Int → Int) × (Int → Int)}
theorem fin_e (f : fin hs0 s0 z) : ech z.1 z.2 := by
  obtain ⟨⟨M, b, r, -⟩, -⟩ := f
  exact r.2.2.1
theorem rv_z {l : Nat} (e : ech z.1 z.2) (hl : l < 15) (h : z.1 l ≠ 0) : ∀ j, l < j → rv z.2 l j = 0 := fun j hj => by
  rcases Nat.lt_or_ge j 15 with q | q
  · exact (e l hl h).2.1 j hj q
  · exact rv_o z.2 l q
/-- all rows are multiples of l, if those below 6 are -/
theorem line_h {sy : Int → Int} {P : Nat} (f : fin hs0 s0 z) (hsys : ∀ J, lin J → (jr J hs0 s0 ↔ ∀ q : Nat, q < P → J (sv sy (6 * q)))) {l : lV} {k : Nat} (hk : k < 6) (hl : l k ≠ 0) (hz : ∀ j, k < j → l j = 0) (h : ∀ t : Nat, t < 6 → z.1 t ≠ 0 → mul1 l (rv z.2 t)) : ∀ t : Nat, t < 15 → z.1 t ≠ 0 → (qM k).testBit t = true := by
  have hj : jr (mul1 l) hs0 s0 := by
    refine (hsys _ (mul1_lin l)).mpr (fun q hq => ?_)
    have hw := (hsys _ (wsp_lin z.1 z.2)).mp (f.2.2.1 _ (wsp_lin _ _) wsp_r) q hq
    exact fin_2 f (mul1_lin l) h hw (fun j hj => by unfold sv; rw [if_neg (by omega)])
  exact fun t ht h2 => fin_Q f (mul1_clo l) (mul1_Q hk hl hz) hj ht h2
/-- leads yy and xy alone: all leads are multiples of y -/
theorem line_y {sy : Int → Int} {P : Nat} (f : fin hs0 s0 z) (hsys : ∀ J, lin J → (jr J hs0 s0 ↔ ∀ q : Nat, q < P → J (sv sy (6 * q)))) (n0 : z.1 (0 : Nat) = 0) (n1 : z.1 (1 : Nat) = 0) (n2 : z.1 (2 : Nat) = 0) (n3 : z.1 (3 : Nat) ≠ 0) (n4 : z.1 (4 : Nat) ≠ 0) (n5 : z.1 (5 : Nat) = 0) : ∀ t : Nat, t < 15 → z.1 t ≠ 0 → (qM 1).testBit t = true := by
  have e := fin_e f
  have wc := wsp_c f
  obtain ⟨u, hu⟩ : ∃ u, rv z.2 3 = u := ⟨_, rfl⟩
  obtain ⟨v, hv⟩ : ∃ v, rv z.2 4 = v := ⟨_, rfl⟩
  have wu : wsp z.1 z.2 u := by rw [← hu]; exact wsp_r 3 (by decide) n3
  have wv' : wsp z.1 z.2 v := by rw [← hv]; exact wsp_r 4 (by decide) n4
  have uz : ∀ j, 3 < j → u j = 0 := by rw [← hu]; exact rv_z e (by decide) n3
  have vz : ∀ j, 4 < j → v j = 0 := by rw [← hv]; exact rv_z e (by decide) n4
  have v3 : v 3 = 0 := by rw [← hv]; exact (e 4 (by decide) n4).2.2.1 3 (by decide) (by decide) n3
  have u3 : u 3 ≠ 0 := by rw [← hu]; have := (e 3 (by decide) n3).1; omega
  have v4 : v 4 ≠ 0 := by rw [← hv]; have := (e 4 (by decide) n4).1; omega
  have u4 := uz 4 (by decide)
  have u5 := uz 5 (by decide)
  have v5 := vz 5 (by decide)
  obtain ⟨x0, x1, x2, x3, x4, x5, x6, x7, x8, x9⟩ := xs0_v u
  obtain ⟨y0, y1, y2, y3, y4, y5, y6, y7, y8, y9⟩ := xs1_v v
  obtain ⟨S, hS⟩ : ∃ S : lV, S = fun k => v 4 * xs 0 u k + -u 3 * xs 1 v k := ⟨_, rfl⟩
  have Sk : ∀ k, S k = v 4 * xs 0 u k + -u 3 * xs 1 v k := fun k => by rw [hS]
  have wS : wsp z.1 z.2 S := by
    rw [hS]
    exact wc.1.1 _ _ _ _ (wc.2 u 0 (Or.inl rfl) (fun j hj => uz j (by omega)) wu) (wc.2 v 1 (Or.inr rfl) (fun j hj => vz j (by omega)) wv')
  have S6 : ∀ j, 6 ≤ j → S j = 0 := fun j hj => by
    rw [Sk]
    rcases Nat.lt_or_ge j 10 with g | g
    · have hj' : j = 6 ∨ j = 7 ∨ j = 8 ∨ j = 9 := by omega
      rcases hj' with rfl | rfl | rfl | rfl
      · rw [x6, y6, v3]; omega
      · rw [x7, y7]; grind
      · rw [x8, y8, u4, v5]; omega
      · rw [x9, y9, u5]; omega
    · rw [xs_hi (Or.inl rfl) (fun j hj => uz j (by omega)) g, xs_hi (Or.inr rfl) (fun j hj => vz j (by omega)) g]
      omega
  have S5 : S 5 = v 4 * u 2 := by rw [Sk, x5, y5]; omega
  have S4 : S 4 = v 4 * u 1 - u 3 * v 2 := by rw [Sk, x4, y4]; grind
  have S3 : S 3 = -(u 3 * v 1) := by rw [Sk, x3, y3]; grind
  have S2 : S 2 = v 4 * u 0 := by rw [Sk, x2, y2]; omega
  have S1 : S 1 = -(u 3 * v 0) := by rw [Sk, x1, y1]; grind
  have S0 : S 0 = 0 := by rw [Sk, x0, y0]; omega
  have u2 : u 2 = 0 := by
    rcases Decidable.em (S 5 = 0) with q | q
    · rw [S5] at q
      exact mul_z v4 q
    · exact absurd n5 (wsp_t e wS (by decide) q (fun j j0 _ => S6 j (by omega)))
  obtain ⟨R, hR⟩ : ∃ R : lV, R = fun k => 1 * (fun k => v 4 * u 3 * S k + -(S 4 * u 3) * v k) k + -(S 3 * v 4) * u k := ⟨_, rfl⟩
  have Rk : ∀ k, R k = v 4 * u 3 * S k - S 4 * u 3 * v k - S 3 * v 4 * u k := fun k => by rw [hR]; grind
  have wR : wsp z.1 z.2 R := by
    rw [hR]
    exact wc.1.1 _ _ _ _ (wc.1.1 _ _ _ _ wS wv') wu
  have Rz := wsp_z e wR 3 (by decide) (fun j h3 _ => by
    rw [Rk]
    rcases Nat.lt_or_ge j 6 with g | g
    · have hj' : j = 3 ∨ j = 4 ∨ j = 5 := by omega
      rcases hj' with rfl | rfl | rfl
      · rw [v3]; grind
      · rw [u4]; grind
      · rw [S5, u2, v5, u5]; omega
    · rw [S6 j g, vz j (by omega), uz j (by omega)]; omega) (fun j h3 hj => by
    have hj' : j = 0 ∨ j = 1 ∨ j = 2 := by omega
    rcases hj' with rfl | rfl | rfl
    · exact absurd n0 hj
    · exact absurd n1 hj
    · exact absurd n2 hj)
  have R2 := Rz 2 (by decide)
  have R1 := Rz 1 (by decide)
  rw [Rk, S2, S4, S3, u2] at R2
  rw [Rk, S1, S4, S3] at R1
  -- the relations
  have q1 : v 4 * v 4 * u 0 = v 2 * (v 4 * u 1 - u 3 * v 2) := by
    have : u 3 * (v 4 * v 4 * u 0 - v 2 * (v 4 * u 1 - u 3 * v 2)) = 0 := by grind
    have := mul_z u3 this
    omega
  have q2 : v 4 * v 0 = v 2 * v 1 := by
    have : u 3 * u 3 * (v 4 * v 0 - v 2 * v 1) = 0 := by grind
    have := mul_z (fun h => by rcases Int.mul_eq_zero.mp h with q | q <;> exact u3 q) this
    omega
  refine line_h f hsys (l := fun j => if j = 0 then v 2 else if j = 1 then v 4 else 0) (k := 1) (by decide) (by show v 4 ≠ 0; exact v4) (fun j hj => by show (if j = 0 then v 2 else if j = 1 then v 4 else 0) = 0; rw [if_neg (by omega), if_neg (by omega)]) (fun t ht h2 => ?_)
  have ht' : t = 0 ∨ t = 1 ∨ t = 2 ∨ t = 3 ∨ t = 4 ∨ t = 5 := by omega
  have l3 : ∀ j : Nat, 3 ≤ j → (if j = 0 then v 2 else if j = 1 then v 4 else 0) = (0 : Int) := fun j hj => by rw [if_neg (by omega), if_neg (by omega)]
  rcases ht' with rfl | rfl | rfl | rfl | rfl | rfl
  · exact absurd n0 h2
  · exact absurd n1 h2
  · exact absurd n2 h2
  · rw [hu]
    refine mul_2 (T := v 4 * v 4) (c0 := v 4 * u 1 - u 3 * v 2) (c1 := v 4 * u 3) (c2 := 0) (fun h => by rcases Int.mul_eq_zero.mp h with q | q <;> exact v4 q) l3 (fun j hj => uz j (by omega)) ?_ ?_ ?_ ?_ ?_ ?_
    · show v 4 * v 4 * u 0 = v 2 * (v 4 * u 1 - u 3 * v 2); exact q1
    · show v 4 * v 4 * u 1 = v 2 * (v 4 * u 3) + v 4 * (v 4 * u 1 - u 3 * v 2); grind
    · show v 4 * v 4 * u 2 = v 2 * 0 + 0 * (v 4 * u 1 - u 3 * v 2); rw [u2]; omega
    · show v 4 * v 4 * u 3 = v 4 * (v 4 * u 3); grind
    · show v 4 * v 4 * u 4 = v 4 * 0 + 0 * (v 4 * u 3); rw [u4]; omega
    · show v 4 * v 4 * u 5 = 0 * 0; rw [u5]; omega
  · rw [hv]
    refine mul_2 (T := v 4) (c0 := v 1) (c1 := 0) (c2 := v 4) v4 l3 (fun j hj => vz j (by omega)) ?_ ?_ ?_ ?_ ?_ ?_
    · show v 4 * v 0 = v 2 * v 1; exact q2
    · show v 4 * v 1 = v 2 * 0 + v 4 * v 1; omega
    · show v 4 * v 2 = v 2 * v 4 + 0 * v 1; grind
    · show v 4 * v 3 = v 4 * 0; rw [v3]
    · show v 4 * v 4 = v 4 * v 4 + 0 * 0; omega
    · show v 4 * v 5 = 0 * v 4; rw [v5]; omega
  · exact absurd n5 h2
end
