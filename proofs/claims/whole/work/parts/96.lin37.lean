/-! Remainders: x and y commute; they go on to degree 5. -/
theorem xs_cc (t : lV) (j : Nat) : xs 0 (xs 1 t) j = xs 1 (xs 0 t) j := by
  obtain ⟨a0, a1, a2, a3, a4, a5, a6, a7, a8, a9⟩ := xs0_v (xs 1 t)
  obtain ⟨b0, b1, b2, b3, b4⟩ := xs0_w (xs 1 t)
  obtain ⟨c0, c1, c2, c3, c4, c5, c6, c7, c8, c9⟩ := xs1_v (xs 0 t)
  obtain ⟨d0, d1, d2, d3, d4⟩ := xs1_w (xs 0 t)
  obtain ⟨x0, x1, x2, x3, x4, x5, x6, x7, x8, x9⟩ := xs0_v t
  obtain ⟨y0, y1, y2, y3, y4, y5, y6, y7, y8, y9⟩ := xs1_v t
  rcases Nat.lt_or_ge j 15 with g | g
  · have hj : j = 0 ∨ j = 1 ∨ j = 2 ∨ j = 3 ∨ j = 4 ∨ j = 5 ∨ j = 6 ∨ j = 7 ∨ j = 8 ∨ j = 9 ∨ j = 10 ∨ j = 11 ∨ j = 12 ∨ j = 13 ∨ j = 14 := by omega
    rcases hj with rfl | rfl | rfl | rfl | rfl | rfl | rfl | rfl | rfl | rfl | rfl | rfl | rfl | rfl | rfl
    · rw [a0, c0]
    · rw [a1, c1, x0]
    · rw [a2, c2, y0]
    · rw [a3, c3, x1]
    · rw [a4, c4, y1, x2]
    · rw [a5, c5, y2]
    · rw [a6, c6, x3]
    · rw [a7, c7, y3, x4]
    · rw [a8, c8, y4, x5]
    · rw [a9, c9, y5]
    · rw [b0, d0, x6]
    · rw [b1, d1, y6, x7]
    · rw [b2, d2, y7, x8]
    · rw [b3, d3, y8, x9]
    · rw [b4, d4, y9]
  · unfold xs
    rw [if_neg (show ¬ (j < 15 ∧ shP 0 j < 10) by omega), if_neg (show ¬ (j < 15 ∧ shP 1 j < 10) by omega)]
def nf (N : Nat → lV) (v : lV) : lV := fun j => dS (fun k => v k * N k j) 15
def nfd (W : lV → Prop) (B : Nat → Prop) (D : Int) (N : Nat → lV) : Prop := clo W ∧ D ≠ 0 ∧ (∀ k, k < 15 → W (fun j => (if j = k then D else 0) - N k j)) ∧ (∀ k j, k < 15 → ¬ B j → N k j = 0) ∧ (∀ v, W v → (∀ j, ¬ B j → v j = 0) → ∀ j, v j = 0) ∧ ∀ j, B j → j < 6
section
variable {W : lV → Prop} {B : Nat → Prop} {D : Int} {N : Nat → lV}
theorem nf_l (a b : Int) (u v : lV) (j : Nat) : nf N (fun k => a * u k + b * v k) j = a * nf N u j + b * nf N v j := by
  unfold nf
  rw [← dS_l]
  exact dS_c (fun l _ => by grind)
theorem nf_e {u v : lV} (h : ∀ k, k < 15 → u k = v k) (j : Nat) : nf N u j = nf N v j := dS_c (fun l hl => by rw [h l hl])
theorem nf_0 {u : lV} (h : ∀ k, k < 15 → u k = 0) (j : Nat) : nf N u j = 0 := dS_0 (fun l hl => by rw [h l hl, Int.zero_mul])
theorem nf_B (h : nfd W B D N) (v : lV) {j : Nat} (hj : ¬ B j) : nf N v j = 0 := dS_0 (fun l hl => by rw [h.2.2.2.1 l j hl hj, Int.mul_zero])
theorem nf_6 (h : nfd W B D N) (v : lV) {j : Nat} (hj : 6 ≤ j) : nf N v j = 0 := nf_B h v (fun q => by have := h.2.2.2.2.2 j q; omega)
theorem nf_W (h : nfd W B D N) {v : lV} (hv : ∀ j, 15 ≤ j → v j = 0) : W (fun j => D * v j - nf N v j) := by
  have h1 := lin_S h.1.1 (c := v) (r := fun k j => (if j = k then D else 0) - N k j) (n := 15) (fun l hl _ => h.2.2.1 l hl)
  refine lin_d h.1.1 (T := 1) (a := 1) (b := 0) (by decide) h1 h1 (fun j => ?_)
  have e : dS (fun l => v l * ((if j = l then D else 0) - N l j)) 15 = dS (fun l => 1 * (v l * (if j = l then D else 0)) + -1 * (v l * N l j)) 15 := dS_c (fun l _ => by grind)
  show 1 * (D * v j - nf N v j) = 1 * dS (fun l => v l * ((if j = l then D else 0) - N l j)) 15 + 0 * _
  rw [e, dS_l]
  have e2 : dS (fun l => v l * (if j = l then D else 0)) 15 = D * v j := by
    rcases Nat.lt_or_ge j 15 with g | g
    · rw [dS_1 (q := j) g (fun l _ hn => by rw [if_neg (fun q => hn q.symm), Int.mul_zero]), if_pos rfl, Int.mul_comm]
    · rw [dS_0 (fun l hl => by rw [if_neg (show ¬ j = l by omega), Int.mul_zero]), hv j g, Int.mul_zero]
  rw [e2]
  unfold nf
  omega
theorem nf_k (h : nfd W B D N) {v : lV} (hv : ∀ j, 15 ≤ j → v j = 0) (hw : W v) (j : Nat) : nf N v j = 0 := by
  refine h.2.2.2.2.1 (nf N v) ?_ (fun i hi => nf_B h v hi) j
  exact lin_d h.1.1 (T := 1) (a := D) (b := -1) (by decide) hw (nf_W h hv) (fun k => by omega)
theorem nf_s (h : nfd W B D N) {v : lV} (hv : ∀ j, ¬ B j → v j = 0) (j : Nat) : nf N v j = D * v j := by
  have := h.2.2.2.2.1 _ (nf_W h (v := v) (fun j hj => hv j (fun q => by have := h.2.2.2.2.2 j q; omega))) (fun i hi => by rw [hv i hi, nf_B h v hi]; omega) j
  omega
/-- x (0) or y (1) on remainders -/
def nA (N : Nat → lV) (w : Int) (u : lV) : lV := nf N (xs w u)
theorem nA_l (w a b : Int) (u v : lV) (j : Nat) : nA N w (fun k => a * u k + b * v k) j = a * nA N w u j + b * nA N w v j := by
  unfold nA
  rw [show xs w (fun k => a * u k + b * v k) = fun k => a * xs w u k + b * xs w v k from funext (xs_l w a b u v)]
  exact nf_l _ _ _ _ _
theorem nA_0 (w : Int) {u : lV} (h : ∀ k, u k = 0) (j : Nat) : nA N w u j = 0 := nf_0 (fun k _ => xs_0 w h k) j
theorem nA_1 (h : nfd W B D N) {w : Int} (hw : w = 0 ∨ w = 1) {u : lV} (hu : ∀ j, 10 ≤ j → u j = 0) (j : Nat) : nA N w (nf N u) j = D * nA N w u j := by
  have t := nf_W h (v := u) (fun j hj => hu j (by omega))
  have t10 : ∀ j, 10 ≤ j → D * u j - nf N u j = 0 := fun j hj => by rw [hu j hj, nf_6 h u (by omega)]; omega
  have k := nf_k h (v := xs w (fun j => D * u j - nf N u j)) (fun j hj => by unfold xs; rw [if_neg (by omega)]) (h.1.2 _ w hw t10 t) j
  have e : (fun j => D * u j - nf N u j) = fun j => D * u j + -1 * nf N u j := funext (fun j => by omega)
  rw [e] at k
  have k2 : nA N w (fun j => D * u j + -1 * nf N u j) j = 0 := k
  rw [nA_l] at k2
  omega
theorem nA_c (h : nfd W B D N) {u : lV} (hu : ∀ j, 10 ≤ j → u j = 0) (j : Nat) : nA N 0 (nA N 1 u) j = nA N 1 (nA N 0 u) j := by
  have two : ∀ (w w' : Int), (w = 0 ∨ w = 1) → (w' = 0 ∨ w' = 1) → ∀ t : lV, (∀ j, 6 ≤ j → t j = 0) → ∀ j, nA N w (nA N w' t) j = D * nf N (xs w (xs w' t)) j := fun w w' hw hw' t ht j => nA_1 h hw (u := xs w' t) (fun j hj => xs_hi hw' ht hj) j
  have sc : ∀ (w w' : Int), (w = 0 ∨ w = 1) → (w' = 0 ∨ w' = 1) → ∀ j, D * nA N w (nA N w' u) j = nA N w (nA N w' (nf N u)) j := fun w w' hw hw' j => by
    have e : nA N w' (nf N u) = fun k => D * nA N w' u k + 0 * nA N w' u k := funext (fun k => by rw [nA_1 h hw' hu k]; omega)
    rw [e, nA_l]
    omega
  have e1 := sc 0 1 (Or.inl rfl) (Or.inr rfl) j
  have e2 := sc 1 0 (Or.inr rfl) (Or.inl rfl) j
  have n6 : ∀ j, 6 ≤ j → nf N u j = 0 := fun j hj => nf_6 h u hj
  rw [two 0 1 (Or.inl rfl) (Or.inr rfl) _ n6 j] at e1
  rw [two 1 0 (Or.inr rfl) (Or.inl rfl) _ n6 j] at e2
  have e3 : xs 0 (xs 1 (nf N u)) = xs 1 (xs 0 (nf N u)) := funext (xs_cc _)
  rw [e3, ← e2] at e1
  exact Int.eq_of_mul_eq_mul_left h.2.1 e1
def nL (D : Int) (N : Nat → lV) (v : lV) : lV := fun j => D * nf N v j + nA N 0 (nf N (fun j => if 10 ≤ j ∧ j < 15 then v (j + 6) else 0)) j + nA N 1 (nf N (fun j => if j = 10 then v 15 else 0)) j
theorem nL_l (a b : Int) (u v : lV) (j : Nat) : nL D N (fun k => a * u k + b * v k) j = a * nL D N u j + b * nL D N v j := by
  unfold nL
  have e1 : (fun j => if 10 ≤ j ∧ j < 15 then a * u (j + 6) + b * v (j + 6) else 0) = fun j => a * (fun j => if 10 ≤ j ∧ j < 15 then u (j + 6) else 0) j + b * (fun j => if 10 ≤ j ∧ j < 15 then v (j + 6) else 0) j := funext (fun j => by
    dsimp only
    split
    · rfl
    · omega)
  have e2 : (fun j => if j = 10 then a * u 15 + b * v 15 else 0) = fun j => a * (fun j => if j = 10 then u 15 else 0) j + b * (fun j => if j = 10 then v 15 else 0) j := funext (fun j => by
    dsimp only
    split
    · rfl
    · omega)
  have e3 : ∀ p q : lV, nf N (fun k => a * p k + b * q k) = fun k => a * nf N p k + b * nf N q k := fun p q => funext (nf_l a b p q)
  rw [e1, e2, e3, e3, e3, nA_l, nA_l]
  grind
theorem nL_lin : lin (fun v => ∀ j, nL D N v j = 0) := by
  refine ⟨fun u v a b hu hv j => ?_, fun v T hT hv j => ?_, fun j => ?_⟩
  · show nL D N (fun k => a * u k + b * v k) j = 0
    rw [nL_l, hu j, hv j]
    omega
  · have e : (fun k => T * v k) = fun k => T * v k + 0 * v k := funext (fun k => by omega)
    have := hv j
    rw [e, nL_l] at this
    exact mul_z hT (by omega)
  · show nL D N (fun _ => 0) j = 0
    have e : (fun _ : Nat => (0 : Int)) = fun k => 0 * (fun _ => (0 : Int)) k + 0 * (fun _ => (0 : Int)) k := funext (fun k => rfl)
    rw [e, nL_l]
    omega
theorem nL_4 (h : nfd W B D N) {v : lV} (hv : ∀ j, 15 ≤ j → v j = 0) (hw : W v) (j : Nat) : nL D N v j = 0 := by
  unfold nL
  rw [nf_k h hv hw, nA_0 0 (fun k => nf_0 (fun i _ => by split; exact hv _ (by omega); rfl) k), nA_0 1 (fun k => nf_0 (fun i _ => by split; exact hv _ (by omega); rfl) k)]
  omega
theorem nL_5 (h : nfd W B D N) {p : lV} (hp : ∀ j, 15 ≤ j → p j = 0) (hw : W p) {w : Int} (hw2 : w = 0 ∨ w = 1) (j : Nat) : nL D N (bs w p) j = 0 := by
  obtain ⟨p3, hp3⟩ : ∃ p3 : lV, p3 = fun j => if j < 10 then p j else 0 := ⟨_, rfl⟩
  have p3z : ∀ j, 10 ≤ j → p3 j = 0 := fun j hj => by rw [hp3]; exact if_neg (by omega)
  have x3 : ∀ w : Int, xs w p3 = xs w p := fun w => funext (fun j => by
    unfold xs
    rcases Decidable.em (j < 15 ∧ shP w j < 10) with g | g
    · rw [if_pos g, if_pos g, hp3]
      exact if_pos g.2
    · rw [if_neg g, if_neg g])
  have lo : ∀ w, nf N (bs w p) = nA N w p3 := fun w => funext (fun j => by
    unfold nA
    rw [x3]
    exact nf_e (fun k hk => if_pos hk) j)
  have pz := nf_k h hp hw
  have zz : ∀ w : Int, ∀ j, nA N w (nf N p) j = 0 := fun w j => nA_0 w pz j
  unfold nL
  rw [lo]
  rcases hw2 with rfl | rfl
  · obtain ⟨p4, hp4⟩ : ∃ p4 : lV, p4 = fun j => if 10 ≤ j ∧ j < 15 then p j else 0 := ⟨_, rfl⟩
    have e1 : (fun j => if 10 ≤ j ∧ j < 15 then bs 0 p (j + 6) else 0) = p4 := funext (fun j => by
      rw [hp4]
      dsimp only
      split
      · unfold bs
        rw [if_neg (by omega), if_pos rfl, if_pos (by omega)]
        rfl
      · rfl)
    have e2 : (fun j => if j = 10 then bs 0 p 15 else 0) = fun _ => 0 := funext (fun j => by
      split <;> rfl)
    have e3 : p = fun k => 1 * p3 k + 1 * p4 k := funext (fun k => by
      rw [hp3, hp4]
      dsimp only
      rcases Nat.lt_or_ge k 10 with g | g
      · rw [if_pos g, if_neg (by omega)]
        omega
      · rw [if_neg (by omega)]
        rcases Nat.lt_or_ge k 15 with g2 | g2
        · rw [if_pos ⟨g, g2⟩]
          omega
        · rw [if_neg (by omega), hp k g2]
          rfl)
    have z := zz 0 j
    rw [e3, show nf N (fun k => 1 * p3 k + 1 * p4 k) = fun k => 1 * nf N p3 k + 1 * nf N p4 k from funext (nf_l 1 1 p3 p4), nA_l, nA_1 h (Or.inl rfl) p3z] at z
    rw [e1, e2, nA_0 1 (fun k => nf_0 (fun _ _ => rfl) k)]
    omega
  · obtain ⟨q, hq⟩ : ∃ q : lV, q = fun j => if 6 ≤ j ∧ j < 10 then p (j + 5) else 0 := ⟨_, rfl⟩
    obtain ⟨b4, hb4⟩ : ∃ b4 : lV, b4 = fun j => if j = 10 then p 10 else 0 := ⟨_, rfl⟩
    have qz : ∀ j, 10 ≤ j → q j = 0 := fun j hj => by rw [hq]; exact if_neg (by omega)
    have q0 : q 0 = 0 ∧ q 1 = 0 ∧ q 2 = 0 ∧ q 3 = 0 ∧ q 4 = 0 ∧ q 5 = 0 ∧ q 6 = p 11 ∧ q 7 = p 12 ∧ q 8 = p 13 ∧ q 9 = p 14 := by
      rw [hq]
      exact ⟨rfl, rfl, rfl, rfl, rfl, rfl, rfl, rfl, rfl, rfl⟩
    obtain ⟨q0, q1, q2, q3, q4, q5, q6, q7, q8, q9⟩ := q0
    obtain ⟨a0, a1, a2, a3, a4, a5, a6, a7, a8, a9⟩ := xs0_v q
    obtain ⟨b0, b1, b2, b3, b4'⟩ := xs0_w q
    obtain ⟨c0, c1, c2, c3, c4, c5, c6, c7, c8, c9⟩ := xs1_v q
    obtain ⟨d0, d1, d2, d3, d4⟩ := xs1_w q
    have e1 : ∀ k, k < 15 → (fun j => if 10 ≤ j ∧ j < 15 then bs 1 p (j + 6) else 0) k = xs 1 q k := fun k hk => by
      dsimp only
      have hj : k = 0 ∨ k = 1 ∨ k = 2 ∨ k = 3 ∨ k = 4 ∨ k = 5 ∨ k = 6 ∨ k = 7 ∨ k = 8 ∨ k = 9 ∨ k = 10 ∨ k = 11 ∨ k = 12 ∨ k = 13 ∨ k = 14 := by omega
      rcases hj with rfl | rfl | rfl | rfl | rfl | rfl | rfl | rfl | rfl | rfl | rfl | rfl | rfl | rfl | rfl
      · rw [c0]; rfl
      · rw [c1, q0]; rfl
      · rw [c2]; rfl
      · rw [c3, q1]; rfl
      · rw [c4, q2]; rfl
      · rw [c5]; rfl
      · rw [c6, q3]; rfl
      · rw [c7, q4]; rfl
      · rw [c8, q5]; rfl
      · rw [c9]; rfl
      · rw [d0, q6]; rfl
      · rw [d1, q7]; rfl
      · rw [d2, q8]; rfl
      · rw [d3, q9]; rfl
      · rw [d4]; rfl
    have e2 : (fun j => if j = 10 then bs 1 p 15 else 0) = b4 := by
      rw [hb4]
      rfl
    have e3 : p = fun k => 1 * (fun k => 1 * p3 k + 1 * xs 0 q k) k + 1 * b4 k := funext (fun k => by
      rw [hp3, hb4]
      dsimp only
      rcases Nat.lt_or_ge k 10 with g | g
      · rw [if_pos g, if_neg (by omega)]
        have e : xs 0 q k = 0 := by
          have hj : k = 0 ∨ k = 1 ∨ k = 2 ∨ k = 3 ∨ k = 4 ∨ k = 5 ∨ k = 6 ∨ k = 7 ∨ k = 8 ∨ k = 9 := by omega
          rcases hj with rfl | rfl | rfl | rfl | rfl | rfl | rfl | rfl | rfl | rfl
          · exact a0
          · exact a1
          · rw [a2, q0]
          · exact a3
          · rw [a4, q1]
          · rw [a5, q2]
          · exact a6
          · rw [a7, q3]
          · rw [a8, q4]
          · rw [a9, q5]
        omega
      · rw [if_neg (by omega)]
        rcases Nat.lt_or_ge k 15 with g2 | g2
        · have hj : k = 10 ∨ k = 11 ∨ k = 12 ∨ k = 13 ∨ k = 14 := by omega
          rcases hj with rfl | rfl | rfl | rfl | rfl
          · rw [b0, if_pos rfl]; omega
          · rw [b1, q6, if_neg (by decide)]; omega
          · rw [b2, q7, if_neg (by decide)]; omega
          · rw [b3, q8, if_neg (by decide)]; omega
          · rw [b4', q9, if_neg (by decide)]; omega
        · rw [if_neg (by omega), hp k g2]
          have e : xs 0 q k = 0 := by unfold xs; rw [if_neg (by omega)]
          rw [e]
          rfl)
    have z := zz 1 j
    rw [e3, show nf N (fun k => 1 * (fun k => 1 * p3 k + 1 * xs 0 q k) k + 1 * b4 k) = fun k => 1 * nf N (fun k => 1 * p3 k + 1 * xs 0 q k) k + 1 * nf N b4 k from funext (nf_l 1 1 _ b4), nA_l, show nf N (fun k => 1 * p3 k + 1 * xs 0 q k) = fun k => 1 * nf N p3 k + 1 * nf N (xs 0 q) k from funext (nf_l 1 1 p3 (xs 0 q)), nA_l, nA_1 h (Or.inr rfl) p3z] at z
    have c := nA_c h qz j
    rw [e2, show nf N (fun j => if 10 ≤ j ∧ j < 15 then bs 1 p (j + 6) else 0) = nA N 1 q from funext (nf_e e1), c]
    have z2 : nA N 1 (nf N (xs 0 q)) j = nA N 1 (nA N 0 q) j := rfl
    omega
/-- what is supported on B and killed is 0 -/
theorem nL_B (h : nfd W B D N) {v : lV} (hv : ∀ j, ¬ B j → v j = 0) (hk : ∀ j, nL D N v j = 0) (j : Nat) : v j = 0 := by
  have v6 : ∀ j, 6 ≤ j → v j = 0 := fun j hj => hv j (fun q => by have := h.2.2.2.2.2 j q; omega)
  have := hk j
  unfold nL at this
  rw [nf_s h hv, nA_0 0 (fun k => nf_0 (fun i _ => by split; exact v6 _ (by omega); rfl) k), nA_0 1 (fun k => nf_0 (fun i _ => by split; exact v6 _ (by omega); rfl) k)] at this
  exact mul_z h.2.1 (mul_z h.2.1 (by omega))
end
