/-! What is of the rows' span has a lead at its top. -/
def wsp (hs s : Int → Int) (v : lV) : Prop := ∃ (T : Int) (c : Nat → Int), T ≠ 0 ∧ (∀ l : Nat, l < 15 → hs l = 0 → c l = 0) ∧ ∀ j, j < 15 → T * v j = dS (fun l => c l * rv s l j) 15
theorem wsp_lin (hs s : Int → Int) : lin (wsp hs s) := by
  refine ⟨?_, ?_, ?_⟩
  · rintro u v x y ⟨T, c, hT, c0, e⟩ ⟨T', c', hT', c0', e'⟩
    refine ⟨T * T', fun l => T' * x * c l + T * y * c' l, ?_, fun l hl h => ?_, fun j hj => ?_⟩
    · intro h
      rcases Int.mul_eq_zero.mp h with q | q
      · exact hT q
      · exact hT' q
    · show T' * x * c l + T * y * c' l = 0
      rw [c0 l hl h, c0' l hl h]
      omega
    · have h1 : dS (fun l => (T' * x * c l + T * y * c' l) * rv s l j) 15 = T' * x * dS (fun l => c l * rv s l j) 15 + T * y * dS (fun l => c' l * rv s l j) 15 := by
        rw [← dS_l]
        exact dS_c (fun l _ => by grind)
      rw [h1, ← e j hj, ← e' j hj]
      grind
  · rintro v x hx ⟨T, c, hT, c0, e⟩
    refine ⟨T * x, c, ?_, c0, fun j hj => ?_⟩
    · intro h
      rcases Int.mul_eq_zero.mp h with q | q
      · exact hT q
      · exact hx q
    · rw [← e j hj]
      grind
  · refine ⟨1, fun _ => 0, by decide, fun _ _ _ => rfl, fun j _ => ?_⟩
    rw [dS_0 (fun l _ => by show 0 * rv s l j = 0; omega)]
    rfl
theorem wsp_r {hs s : Int → Int} : jr (wsp hs s) hs s := fun q hq hq2 => by
  refine ⟨1, fun l => if l = q then 1 else 0, by decide, fun l _ h => ?_, fun j hj => ?_⟩
  · show (if l = q then (1 : Int) else 0) = 0
    rw [if_neg (show ¬ l = q from fun e => hq2 (e ▸ h))]
  · rw [dS_1 (q := q) hq (fun l _ hn => by show (if l = q then (1 : Int) else 0) * rv s l j = 0; rw [if_neg hn, Int.zero_mul])]
    show 1 * rv s q j = (if q = q then (1 : Int) else 0) * rv s q j
    rw [if_pos rfl]
theorem wsp_t {hs s : Int → Int} (e : ech hs s) {v : lV} {t : Nat} (h : wsp hs s v) (ht : t < 15) (hv : v t ≠ 0) (hz : ∀ j, t < j → j < 15 → v j = 0) : hs t ≠ 0 := by
  intro h0
  obtain ⟨T, c, hT, c0, eq⟩ := h
  have e1 := eq t ht
  rw [dS_0 (fun l hl => ?_)] at e1
  · exact hv (mul_z hT e1)
  · show c l * rv s l t = 0
    rcases Decidable.em (hs l = 0) with g | g
    · rw [c0 l hl g, Int.zero_mul]
    · obtain ⟨r0, r1, r2, -⟩ := e l hl g
      rcases Nat.lt_trichotomy l t with q | q | q
      · rw [r1 t q ht, Int.mul_zero]
      · rw [q] at g
        exact absurd h0 g
      · have e2 := eq l hl
        rw [hz l q hl, Int.mul_zero, dS_1 (q := l) hl (fun m hm hn => ?_)] at e2
        · rcases Int.mul_eq_zero.mp e2.symm with q2 | q2
          · rw [q2, Int.zero_mul]
          · omega
        · show c m * rv s m l = 0
          rcases Decidable.em (hs m = 0) with g2 | g2
          · rw [c0 m hm g2, Int.zero_mul]
          · rw [(e m hm g2).2.2.1 l hl (fun g3 => hn g3.symm) g, Int.mul_zero]
/-- a vector of degree 2 at most of the span, that is 0 at all leads below 6, is 0 -/
theorem wsp_z {hs s : Int → Int} (e : ech hs s) {v : lV} (h : wsp hs s v) (n : Nat) (hn : n ≤ 15) (hz : ∀ j, n ≤ j → j < 15 → v j = 0) (hl : ∀ j, j < n → hs j ≠ 0 → v j = 0) : ∀ j, j < 15 → v j = 0 := by
  intro j hj
  rcases top_6 v 15 with ⟨p, h1, h2, h3⟩ | g
  · have hp := wsp_t e h h1 h2 h3
    rcases Nat.lt_or_ge p n with q | q
    · exact absurd (hl p q hp) h2
    · exact absurd (hz p q h1) h2
  · exact g j hj
/-- leads go up -/
theorem lead_up {hs0 s0 : Int → Int} {z : (Int → Int) × (Int → Int)} (f : fin hs0 s0 z) {k : Nat} {w : Int} (hw : w = 0 ∨ w = 1) (hk : k < 10) (h : z.1 k ≠ 0) : z.1 (sh w k) ≠ 0 := by
  obtain ⟨⟨M, b, r, -⟩, -, -, cl, -⟩ := f
  have e := r.2.2.1
  obtain ⟨r0, r1, -, -⟩ := e k (by omega) h
  have hx := cl k hk h (wsp z.1 z.2) (wsp_lin _ _) wsp_r w hw
  obtain ⟨-, h15⟩ := sh_i (k := k) hw hk
  have at_ : ∀ j, j < 15 → ∀ i, i < 10 → (shP w j = i ↔ j = sh w i) := fun j hj i hi => shP_e hw hj hi
  refine wsp_t e hx h15 ?_ (fun j j0 j1 => ?_)
  · unfold xs
    rw [(at_ _ h15 k hk).mpr rfl, if_pos ⟨h15, hk⟩]
    omega
  · unfold xs
    rcases Nat.lt_or_ge (shP w j) 10 with g | g
    · rw [if_pos ⟨j1, g⟩]
      refine r1 _ ?_ (by omega)
      have h1 := (at_ j j1 (shP w j) g).mp rfl
      rcases Nat.lt_or_ge k (shP w j) with q | q
      · exact q
      · have := sh_mo (i := shP w j) hw hk q
        omega
    · rw [if_neg (by omega)]
/-- what is of all linear sets with the rows: x and y times a row -/
theorem fin_x {hs0 s0 : Int → Int} {z : (Int → Int) × (Int → Int)} (f : fin hs0 s0 z) {k : Nat} {w : Int} (hw : w = 0 ∨ w = 1) (hk : k < 10) (h : z.1 k ≠ 0) : wsp z.1 z.2 (xs w (rv z.2 k)) := f.2.2.2.1 k hk h _ (wsp_lin _ _) wsp_r w hw
/-- if the system is in a set closed under x and y, all leads are of its -/
theorem fin_Q {hs0 s0 : Int → Int} {z : (Int → Int) × (Int → Int)} (f : fin hs0 s0 z) {J : lV → Prop} {Q : Nat} (hc : clo J) (hq : jQ J Q) (h0 : jr J hs0 s0) {t : Nat} (ht : t < 15) (h : z.1 t ≠ 0) : Q.testBit t = true := by
  obtain ⟨⟨M, b, r, -⟩, g, -⟩ := f
  obtain ⟨r0, r1, -, -⟩ := r.2.2.1 t ht h
  exact hq _ t (g J hc h0 t ht h) ht (by omega) r1
/-- the system's rows, of degree 2 at most, are sums of the rows with leads below 6 -/
theorem fin_2 {hs0 s0 : Int → Int} {z : (Int → Int) × (Int → Int)} (f : fin hs0 s0 z) {J : lV → Prop} (hJ : lin J) (h : ∀ l : Nat, l < 6 → z.1 l ≠ 0 → J (rv z.2 l)) {v : lV} (hv : wsp z.1 z.2 v) (hz : ∀ j, 6 ≤ j → v j = 0) : J v := by
  obtain ⟨⟨M, b, r, -⟩, -⟩ := f
  have e := r.2.2.1
  obtain ⟨T, c, hT, c0, eq⟩ := hv
  have c6 : ∀ l, l < 15 → 6 ≤ l → c l = 0 := fun l hl h6 => by
    rcases Decidable.em (z.1 l = 0) with g | g
    · exact c0 l hl g
    · have e2 := eq l hl
      rw [hz l h6, Int.mul_zero, dS_1 (q := l) hl (fun m hm hn => ?_)] at e2
      · rcases Int.mul_eq_zero.mp e2.symm with q | q
        · exact q
        · have := (e l hl g).1
          omega
      · show c m * rv z.2 m l = 0
        rcases Decidable.em (z.1 m = 0) with g2 | g2
        · rw [c0 m hm g2, Int.zero_mul]
        · rw [(e m hm g2).2.2.1 l hl (fun g3 => hn g3.symm) g, Int.mul_zero]
  have hS : J (fun j => dS (fun l => c l * rv z.2 l j) 15) := lin_S hJ (fun l hl hc => by
    rcases Nat.lt_or_ge l 6 with g | g
    · exact h l g (fun q => hc (c0 l hl q))
    · exact absurd (c6 l hl g) hc)
  refine lin_d hJ hT hS hJ.2.2 (a := 1) (b := 0) (fun k => ?_)
  rcases Nat.lt_or_ge k 15 with g | g
  · rw [eq k g]
    omega
  · rw [hz k (by omega), dS_0 (fun l _ => by rw [rv_o z.2 l g]; omega)]
    omega
