/-! A new row, and the rows above it lose its lead. -/
def prm (v : lV) : Prop := ∀ c : Int, (∀ k, k < 15 → c ∣ v k) → c ∣ 1
theorem nul_d {G : List lV} {v w : lV} {h : Int} (h0 : h ≠ 0) (e : ∀ k, w k = h * v k) (n : nul G w) : nul G v := by
  intro J
  have e1 : dt (w :: G) J = h * dt (v :: G) J := dt_w h 0 (nul_0 G (v := fun _ => 0) (fun _ => rfl)) (fun k => by rw [e k]; omega) J
  rw [n J] at e1
  rcases Int.mul_eq_zero.mp e1.symm with g | g
  · exact absurd g h0
  · exact g
theorem uS_h {s hs : Int → Int} {t l : Nat} {R Q : Int} (ht : t < l) (hl : l < 15) (r0 : 0 < rv s t t) (r1 : ∀ k, t < k → k < 15 → rv s t k = 0) (l0 : 0 < rv s l l) (l1 : ∀ k, l < k → k < 15 → rv s l k = 0) (hp : prm (rv s l)) (bR : ∀ j, j < 15 → zAbs (rv s l j) ≤ R) (bQ : ∀ j, j < 15 → zAbs (rv s t j) ≤ Q) (room : 2 * (R * Q) < bB ^ 598) (hh : hs l ≠ 0) :
    uB s hs t l ∧ (∀ q, q < 2070 → (q < 45 * (l : Int) ∨ 45 * (l : Int) + l < q) → uS s hs t l q = s q) ∧ ∃ C h D, 0 < C ∧ h ≠ 0 ∧ (∀ j, j < 15 → h * rv (uS s hs t l) l j = C * rv s l j - D * rv s t j) ∧ C * rv s l t = D * rv s t t ∧ 0 < rv (uS s hs t l) l l ∧ prm (rv (uS s hs t l) l) := by
  have et : s (45 * (t : Int) + t) = rv s t t := (rv_in (by omega)).symm
  have elt : s (45 * (l : Int) + t) = rv s l t := (rv_in (by omega)).symm
  rcases Decidable.em (s (45 * (l : Int) + t) = 0) with g | g
  · have e : uS s hs t l = s := by
      unfold uS
      rw [if_pos (Or.inr g)]
    rw [e]
    refine ⟨Or.inr (Or.inl g), fun _ _ _ => rfl, 1, 1, 0, by decide, by decide, fun j _ => by omega, ?_, l0, hp⟩
    rw [← elt, g]
    omega
  · have e : uS s hs t l = pS (hS s (45 * (l : Int)) t l) (45 * (l : Int)) l := by
      unfold uS
      rw [if_neg (by rintro (q | q); exact hh q; exact g q)]
    rw [e]
    have rp : 0 < s (45 * (t : Int) + t) := by rw [et]; exact r0
    obtain ⟨g0, g1, g2, C0, CD⟩ := hCD (a := 45 * (l : Int)) rp
    obtain ⟨C, hC⟩ : ∃ C, hC1 s (45 * (l : Int)) t = C := ⟨_, rfl⟩
    obtain ⟨D, hD⟩ : ∃ D, hD1 s (45 * (l : Int)) t = D := ⟨_, rfl⟩
    rw [hC] at g1 C0 CD
    rw [hD] at g2 CD
    obtain ⟨s1, hs1⟩ : ∃ s1, hS s (45 * (l : Int)) t l = s1 := ⟨_, rfl⟩
    have in1 : ∀ j : Nat, j ≤ l → s1 (45 * (l : Int) + j) = C * rv s l j - D * rv s t j := fun j hj => by
      rw [← hs1, hS_in (by omega) rp (fun q => r1 j q (by omega)) (by omega) (by omega), hC, hD, ← rv_in (s := s) (l := l) (k := j) (by omega)]
    have out1 : ∀ q, q < 2070 → (q < 45 * (l : Int) ∨ 45 * (l : Int) + l < q) → s1 q = s q := fun q q0 q1 => by rw [← hs1]; exact hS_out q0 q1
    have ll : s1 (45 * (l : Int) + l) = C * rv s l l := by rw [in1 l (Nat.le_refl l), r1 l ht hl]; omega
    have lp : 0 < C * rv s l l := Int.mul_pos C0 l0
    have ln : s1 (45 * (l : Int) + l) ≠ 0 := by omega
    have bC : zAbs C ≤ Q := by
      have b0 := bQ t (by omega)
      rw [← et, g1, zAbs_x] at b0
      have b1 := Int.mul_le_mul_of_nonneg_right (show 1 ≤ zAbs (lG' (s (45 * (l : Int) + t)) (s (45 * (t : Int) + t))) by unfold zAbs; split <;> omega) (zAbs_p C)
      omega
    have bD : zAbs D ≤ R := by
      have b0 := bR t (by omega)
      rw [← elt, g2, zAbs_x] at b0
      have b1 := Int.mul_le_mul_of_nonneg_right (show 1 ≤ zAbs (lG' (s (45 * (l : Int) + t)) (s (45 * (t : Int) + t))) by unfold zAbs; split <;> omega) (zAbs_p D)
      omega
    have R0 : 0 ≤ R := Int.le_trans (zAbs_p _) (bR 0 (by decide))
    have Q0 : 0 ≤ Q := Int.le_trans (zAbs_p _) (bQ 0 (by decide))
    have b1 : ∀ j : Nat, j ≤ l → zAbs (s1 (45 * (l : Int) + j)) ≤ 2 * (R * Q) := fun j hj => by
      rw [in1 j hj]
      have t1 := zAbs_tri (C * rv s l j) (-(D * rv s t j))
      have t2 : zAbs (C * rv s l j) ≤ Q * R := by rw [zAbs_x]; exact Int.mul_le_mul bC (bR j (by omega)) (zAbs_p _) Q0
      have t3 : zAbs (-(D * rv s t j)) ≤ R * Q := by
        rw [show zAbs (-(D * rv s t j)) = zAbs (D * rv s t j) by unfold zAbs; split <;> split <;> omega, zAbs_x]
        exact Int.mul_le_mul bD (bQ j (by omega)) (zAbs_p _) R0
      rw [Int.mul_comm Q R] at t2
      rw [Int.sub_eq_add_neg]
      omega
    have hP : pB s1 (45 * (l : Int)) l := ⟨ln, fun j hj => by have := b1 j hj; omega⟩
    refine ⟨Or.inr (Or.inr ⟨⟨by omega, R, Q, fun k k0 k1 => ?_, fun k k0 k1 => ?_, ?_⟩, by rw [hs1]; exact hP⟩), fun q q0 q1 => ?_, C, pH s1 (45 * (l : Int)) l, D, C0, pH_n ln, fun j hj => ?_, ?_, ?_, ?_⟩
    · have := bR k.toNat (by omega)
      rw [rv_in (by omega), show ((k.toNat : Nat) : Int) = k by omega] at this
      exact this
    · have := bQ k.toNat (by omega)
      rw [rv_in (by omega), show ((k.toNat : Nat) : Int) = k by omega] at this
      exact this
    · have := Int.mul_nonneg R0 Q0
      omega
    · rw [hs1, pS_out q0 q1]
      exact out1 q q0 q1
    · rw [hs1, rv_in hj]
      rcases Nat.lt_or_ge l j with q | q
      · rw [pS_out (by omega) (by omega), out1 _ (by omega) (by omega), ← rv_in (s := s) (l := l) hj, l1 j q hj, r1 j (by omega) hj]
        omega
      · rw [← pS_in (by omega) ln q]
        exact in1 j q
    · rw [← elt, ← et]
      exact CD
    · rw [hs1, rv_in hl]
      exact pS_pos (by omega) ln
    · intro c hc
      refine pS_prim (s := s1) (a := 45 * (l : Int)) (l := l) (by omega) ln (fun j hj => ?_)
      have := hc j (by omega)
      rw [hs1, rv_in (by omega)] at this
      exact this
/-- the rows above lose the new lead -/
theorem uC_h {s3 hs : Int → Int} {t : Nat} {R Q : Int} (ht : t < 15) (r0 : 0 < rv s3 t t) (r1 : ∀ k, t < k → k < 15 → rv s3 t k = 0) (bQ : ∀ j, j < 15 → zAbs (rv s3 t j) ≤ Q) (room : 2 * (R * Q) < bB ^ 598) (hrow : ∀ l : Nat, t < l → l < 15 → hs l ≠ 0 → 0 < rv s3 l l ∧ (∀ k, l < k → k < 15 → rv s3 l k = 0) ∧ prm (rv s3 l) ∧ ∀ j, j < 15 → zAbs (rv s3 l j) ≤ R) :
    ∀ (d l : Nat) (s : Int → Int), t < l → l + d = 15 → (∀ m : Nat, m < 15 → (m ≤ t ∨ l ≤ m) → ∀ j, rv s m j = rv s3 m j) → uP hs t d l s ∧ (∀ q, q < 2070 → (∀ m : Nat, l ≤ m → m < 15 → q < 45 * (m : Int) ∨ 45 * (m : Int) + m < q) → uC hs t d l s q = s q) ∧ ∀ m : Nat, l ≤ m → m < 15 → (hs m = 0 → ∀ j, rv (uC hs t d l s) m j = rv s3 m j) ∧ (hs m ≠ 0 → ∃ C h D, 0 < C ∧ h ≠ 0 ∧ (∀ j, j < 15 → h * rv (uC hs t d l s) m j = C * rv s3 m j - D * rv s3 t j) ∧ C * rv s3 m t = D * rv s3 t t ∧ 0 < rv (uC hs t d l s) m m ∧ prm (rv (uC hs t d l s) m)) := by
  intro d
  induction d with
  | zero =>
    intro l s hl hd h
    exact ⟨trivial, fun _ _ _ => rfl, fun m m0 m1 => by omega⟩
  | succ d ih =>
    intro l s hl hd h
    have hl15 : l < 15 := by omega
    -- one step
    have st : uB s hs t l ∧ (∀ q, q < 2070 → (q < 45 * (l : Int) ∨ 45 * (l : Int) + l < q) → uS s hs t l q = s q) ∧ (hs l = 0 → uS s hs t l = s) ∧ (hs l ≠ 0 → ∃ C h D, 0 < C ∧ h ≠ 0 ∧ (∀ j, j < 15 → h * rv (uS s hs t l) l j = C * rv s3 l j - D * rv s3 t j) ∧ C * rv s3 l t = D * rv s3 t t ∧ 0 < rv (uS s hs t l) l l ∧ prm (rv (uS s hs t l) l)) := by
      rcases Decidable.em (hs l = 0) with g | g
      · have e : uS s hs t l = s := by
          unfold uS
          rw [if_pos (Or.inl g)]
        exact ⟨Or.inl g, fun _ _ _ => by rw [e], fun _ => e, fun q => absurd g q⟩
      · obtain ⟨a0, a1, a2, a3⟩ := hrow l hl hl15 g
        have et := h t ht (Or.inl (Nat.le_refl t))
        have el := h l hl15 (Or.inr (Nat.le_refl l))
        have fl : rv s l = rv s3 l := funext el
        have ft : rv s t = rv s3 t := funext et
        obtain ⟨b0, b1, b2⟩ := uS_h (s := s) (hs := hs) (R := R) (Q := Q) hl hl15 (by rw [ft]; exact r0) (by rw [ft]; exact r1) (by rw [fl]; exact a0) (by rw [fl]; exact a1) (by rw [fl]; exact a2) (by rw [fl]; exact a3) (by rw [ft]; exact bQ) room g
        rw [fl, ft] at b2
        exact ⟨b0, b1, fun q => absurd q g, fun _ => b2⟩
    obtain ⟨s0, s1, s2, s4⟩ := st
    have same : ∀ m : Nat, m < 15 → m ≠ l → ∀ j, rv (uS s hs t l) m j = rv s m j := fun m hm hn j => by
      rcases Nat.lt_or_ge j 15 with g | g
      · rw [rv_in g, rv_in g, s1 _ (by omega) (by omega)]
      · unfold rv
        rw [if_neg (by omega), if_neg (by omega)]
    obtain ⟨i0, i1, i2⟩ := ih (l + 1) (uS s hs t l) (by omega) (by omega) (fun m hm hc j => by rw [same m hm (by omega)]; exact h m hm (by omega) j)
    refine ⟨⟨s0, i0⟩, fun q q0 q1 => ?_, fun m m0 m1 => ?_⟩
    · show uC hs t d (l + 1) (uS s hs t l) q = s q
      rw [i1 q q0 (fun m m0 m1 => q1 m (by omega) m1), s1 q q0 (q1 l (Nat.le_refl l) hl15)]
    · show (hs m = 0 → ∀ j, rv (uC hs t d (l + 1) (uS s hs t l)) m j = rv s3 m j) ∧ (hs m ≠ 0 → ∃ C h D, 0 < C ∧ h ≠ 0 ∧ (∀ j, j < 15 → h * rv (uC hs t d (l + 1) (uS s hs t l)) m j = C * rv s3 m j - D * rv s3 t j) ∧ C * rv s3 m t = D * rv s3 t t ∧ 0 < rv (uC hs t d (l + 1) (uS s hs t l)) m m ∧ prm (rv (uC hs t d (l + 1) (uS s hs t l)) m))
      rcases Decidable.em (m = l) with e | e
      · subst e
        have er : rv (uC hs t d (m + 1) (uS s hs t m)) m = rv (uS s hs t m) m := funext (fun j => by
          rcases Nat.lt_or_ge j 15 with g | g
          · rw [rv_in g, rv_in g, i1 _ (by omega) (fun k k0 k1 => by omega)]
          · unfold rv
            rw [if_neg (by omega), if_neg (by omega)])
        rw [er]
        exact ⟨fun g j => by rw [s2 g]; exact h m m1 (Or.inr (Nat.le_refl m)) j, s4⟩
      · exact i2 m (by omega) m1
