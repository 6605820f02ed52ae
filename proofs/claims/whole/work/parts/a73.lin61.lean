/-! Class and reference: what they have alike after a solve. -/
theorem mem_e {hs0 s0 q : Int → Int} {z : (Int → Int) × (Int → Int)} (F : fin hs0 s0 z) (hq : ∀ k : Nat, k < 6 → -5 ≤ q k ∧ q k ≤ 5) : tF (aK z.1 q z.2 15) 2025 15 < 0 ↔ wsp z.1 z.2 (sv q 0) := by
  obtain ⟨⟨M, bb, r, hb⟩, -⟩ := F
  have lo : ∀ p, p < 2025 → lW z.2 q 0 6 p = z.2 p := fun p hp => lW_o hp 6
  have r' : rel M bb z.1 (lW z.2 q 0 6) := rel_s r lo
  have e := r.2.2.1
  have e' := r'.2.2.1
  have rr : ∀ l : Nat, l < 15 → rv (lW z.2 q 0 6) l = rv z.2 l := fun l hl => funext (fun j => by
    rcases Nat.lt_or_ge j 15 with g | g
    · rw [rv_in g, rv_in g, lo _ (by omega)]
    · rw [rv_o _ l g, rv_o _ l g])
  have wz : ∀ j, 5 < j → j < 15 → wv (lW z.2 q 0 6) j = 0 := fun j hj _ => by
    rw [lW_v]
    unfold sv
    rw [if_neg (by omega)]
  have ws : nS (wv (lW z.2 q 0 6)) 15 ≤ 2 ^ 7 := by
    have h1 := nS_B (a := wv (lW z.2 q 0 6)) (B := 5) (n := 15) (fun j hj => by
      rw [lW_v]
      unfold sv
      split
      · rename_i g
        have := hq j g
        rw [show (0 : Int) + (j : Int) = j by omega]
        unfold zAbs
        split <;> omega
      · decide)
    have h2 : ((15 : Nat) : Int) * 5 = 75 := by decide
    have h3 : (2 : Int) ^ 7 = 128 := by decide
    omega
  obtain ⟨G, L, c, n⟩ := r'.2.2.2 5 (by decide)
  have b5 := hb 5
  have b14 := hb 14
  have N0 := nP_p 15 G
  have V0 := nS_p (wv (lW z.2 q 0 6)) 15
  have pp : ∀ a : Nat, (0 : Int) < 2 ^ a := fun a => Int.pow_pos (by decide)
  have q1 : 2 * (nP 15 G * nS (wv (lW z.2 q 0 6)) 15) ≤ 2 ^ (1 + (bb.getD 5 0 + 7)) := by
    have := Int.mul_le_mul n ws V0 (Int.le_of_lt (pp _))
    rw [← Int.pow_add] at this
    rw [Int.pow_add]
    show 2 * _ ≤ 2 * _
    omega
  have rm1 : 2 * (nP 15 G * nS (wv (lW z.2 q 0 6)) 15) * nP 15 G < bB ^ 598 := by
    have := Int.mul_le_mul q1 n N0 (Int.le_of_lt (pp _))
    rw [← Int.pow_add] at this
    rw [bB_p2]
    exact Int.lt_of_le_of_lt this (pow_s (by omega))
  have rm2 : nS (wv (lW z.2 q 0 6)) 15 * 2 ^ bb.getD 14 0 < bB ^ 598 := by
    have := Int.mul_le_mul_of_nonneg_right ws (Int.le_of_lt (pp (bb.getD 14 0)))
    rw [← Int.pow_add] at this
    rw [bB_p2]
    exact Int.lt_of_le_of_lt this (pow_s (by omega))
  obtain ⟨-, T, cc, hI⟩ := dA_3 (R := 2 ^ bb.getD 14 0) e' c (by decide) wz rm1 (fun l l0 l1 => rel_r r' l0 l1 (by omega) (by decide)) rm2
  have lz := fun t h15 ht => dI_l e' hI (q := t) h15 ht (Nat.zero_le t)
  obtain ⟨-, T0, -, c0, -, hw⟩ := hI
  have hw' : ∀ j : Nat, j < 15 → aK z.1 q z.2 15 (2025 + j) = T * sv q 0 j - dS (fun l => cc l * rv z.2 l j) 15 := fun j hj => by
    have := hw j hj
    rw [lW_v, dS_c (g := fun l => cc l * rv z.2 l j) (fun l hl => by rw [rr l hl])] at this
    exact this
  have c0' : ∀ l : Nat, l < 15 → z.1 l = 0 → cc l = 0 := fun l hl h => c0 l hl (Or.inr h)
  constructor
  · intro h
    have z0 : ∀ j : Nat, j < 15 → aK z.1 q z.2 15 (2025 + j) = 0 := fun j hj => by
      rcases tF_h (s := aK z.1 q z.2 15) (a := 2025) (n := 15) with ⟨-, g⟩ | ⟨t, g, -⟩
      · exact g j (by omega) (by omega)
      · omega
    exact ⟨T, cc, by omega, c0', fun j hj => by have := hw' j hj; rw [z0 j hj] at this; omega⟩
  · intro h
    have wl := wsp_lin z.1 z.2
    have hr : wsp z.1 z.2 (fun j => T * sv q 0 j + -1 * dS (fun l => cc l * rv z.2 l j) 15) := wl.1 _ _ T (-1) h (lin_S wl (c := cc) (r := fun l => rv z.2 l) (fun l hl hc => wsp_r l hl (fun g => hc (c0' l hl g))))
    have z0 := wsp_z e hr 15 (Nat.le_refl _) (fun j h1 h2 => by omega) (fun j hj h2 => by
      have h3 := hw' j hj
      have h4 : aK z.1 q z.2 15 (2025 + j) = 0 := lz j hj h2
      show T * sv q 0 j + -1 * dS (fun l => cc l * rv z.2 l j) 15 = 0
      omega)
    rcases tF_h (s := aK z.1 q z.2 15) (a := 2025) (n := 15) with ⟨g, -⟩ | ⟨t, g, t0, t1, -⟩
    · rw [g]; decide
    · have := hw' t t0
      have h5 : T * sv q 0 t + -1 * dS (fun l => cc l * rv z.2 l t) 15 = 0 := z0 t t0
      exact absurd (by omega) t1
-- congruences
section
variable {hs s s' st st' : Int → Int} {n : Nat}
theorem mv_c {j : Nat} {w : Int} (h : st' j = st j) : mv st' j w = mv st j w := by unfold mv; rw [h]
theorem dnF_cg (hs_ : ∀ p, p < 2025 → s' p = s p) : ∀ n, (∀ j : Nat, j < n → st' j = st j ∧ 0 ≤ st j ∧ st j < 6) → dnF hs s' st' n = dnF hs s st n
  | 0, _ => rfl
  | n + 1, h => by
    obtain ⟨a, b⟩ := h n (by omega)
    have m0 := (mv_h b).2.2.2.2
    unfold dnF dnS
    rw [dnF_cg hs_ n (fun j hj => h j (by omega)), mv_c a, mv_c a, hs_ _ (by have := m0 0 (by decide) (by decide); omega), hs_ _ (by have := m0 1 (by decide) (by decide); omega)]
theorem xT_cg (hs_ : ∀ p, p < 2025 → s' p = s p) (h : ∀ j : Nat, j < n → st' j = st j ∧ 0 ≤ st j ∧ st j < 6) {D w : Int} (hw : w = 0 ∨ w = 1) : mQ n (xT hs s' st' D w) (xT hs s st D w) := fun i j hi hj => by
  obtain ⟨a, b⟩ := h j hj
  obtain ⟨c, d⟩ := h i hi
  have m0 := (mv_h b).2.2.2.2 w (by omega) (by omega)
  unfold xT
  rw [mv_c a, c, hs_ _ (by omega), hs_ _ (by omega)]
theorem pQ_cg {X X' Y Y' : mT} (hX : mQ n X' X) (hY : mQ n Y' Y) (a : Nat) : ∀ k, mQ n (pQ n X' Y' a k) (pQ n X Y a k)
  | 0 => mQ_rf n _
  | k + 1 => by
    show mQ n (mM n (if k < a then X' else Y') (pQ n X' Y' a k)) (mM n (if k < a then X else Y) (pQ n X Y a k))
    refine mM_q ?_ (pQ_cg hX hY a k)
    split
    · exact hX
    · exact hY
theorem hT_cg {X X' Y Y' : mT} (hX : mQ n X' X) (hY : mQ n Y' Y) {D : Int} {q : Int → Int} : ∀ k, mQ n (hT n X' Y' D q k) (hT n X Y D q k)
  | 0 => mQ_rf n _
  | k + 1 => fun i j hi hj => by
    show hT n X' Y' D q k i j + _ = hT n X Y D q k i j + _
    rw [hT_cg hX hY k i j hi hj, pQ_cg hX hY _ _ i j hi hj]
theorem uPw_cg {H H' : mT} (h : mQ n H' H) : ∀ e, mQ n (uPw n H' e) (uPw n H e)
  | 0 => mQ_rf n _
  | e + 1 => mM_q h (uPw_cg h e)
theorem fT_cg {U U' : mT} {M M' : Nat → mT} (hU : mQ n U' U) (hM : ∀ i, i < n → mQ n (M' i) (M i)) : mQ n (fT n U' M') (fT n U M) := fun i j hi hj => dS_c (fun k hk => mM_q (mM_q hU (hM i hi)) (hM j hj) k k hk hk)
end
