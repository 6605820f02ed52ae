/-! enters, as a step of reduced rows. -/
theorem dS_0 {f : Nat → Int} : ∀ {n : Nat}, (∀ l, l < n → f l = 0) → dS f n = 0
  | 0, _ => rfl
  | n + 1, h => by
    show dS f n + f n = 0
    rw [dS_0 (fun l hl => h l (by omega)), h n (by omega)]
    rfl
theorem mul_z {h x : Int} (h0 : h ≠ 0) (e : h * x = 0) : x = 0 := by
  rcases Int.mul_eq_zero.mp e with g | g
  · exact absurd g h0
  · exact g
/-- the new row, out of the old ones and the vector at hand -/
def stA (hs s0 s' : Int → Int) (t : Nat) : Prop := ∃ (T h : Int) (c : Nat → Int), 0 < T ∧ h ≠ 0 ∧ (∀ l : Nat, l < 15 → hs l = 0 → c l = 0) ∧ (∀ l : Nat, l < 15 → hs l ≠ 0 → c l * rv s0 l l = T * wv s0 l) ∧ ∀ j, j < 15 → h * rv s' t j = T * wv s0 j - dS (fun l => c l * rv s0 l j) 15
def stB (hs s0 s' : Int → Int) (t : Nat) : Prop := ∀ l : Nat, l < 15 → hs l ≠ 0 → ∃ C h D : Int, 0 < C ∧ h ≠ 0 ∧ ∀ j, j < 15 → h * rv s' l j = C * rv s0 l j - D * rv s' t j
def stC (s0 s' : Int → Int) (t : Nat) : Prop := ∀ l : Nat, l < t → ∀ j, rv s' l j = rv s0 l j
def spn (hs s0 : Int → Int) (v : lV) : Prop := ∃ (T : Int) (c : Nat → Int), 0 < T ∧ (∀ l : Nat, l < 15 → hs l = 0 → c l = 0) ∧ (∀ l : Nat, l < 15 → hs l ≠ 0 → c l * rv s0 l l = T * v l) ∧ ∀ j, j < 15 → T * v j = dS (fun l => c l * rv s0 l j) 15
theorem en_h {hs s0 : Int → Int} {p : Nat} {G : List lV} {L : List Nat} {R : Int} (e : ech hs s0) (k : crt hs s0 p G L) (hp : p < 15) (hv : ∀ j, p < j → j < 15 → wv s0 j = 0) (hR : ∀ l : Nat, l < 15 → hs l ≠ 0 → ∀ j, j < 15 → zAbs (rv s0 l j) ≤ R) (rm0 : 2 * (nP 15 G * nS (wv s0) 15) < bB ^ 598) (rm1 : 2 * (nP 15 G * nS (wv s0) 15) * nP 15 G < bB ^ 598) (rm2 : nS (wv s0) 15 * R < bB ^ 598) (rm3 : 2 * (R * (2 * (nP 15 G * nS (wv s0) 15))) < bB ^ 598) :
    enB hs s0 15 ∧ (((en hs s0 15).2.2 = 0 ∧ (en hs s0 15).1 = hs ∧ (∀ q, q < 2025 → (en hs s0 15).2.1 q = s0 q) ∧ spn hs s0 (wv s0)) ∨
    ∃ t : Nat, t ≤ p ∧ t < 15 ∧ hs t = 0 ∧ (en hs s0 15).2.2 = 1 ∧ (en hs s0 15).1 = uI hs t 1 ∧ ech (uI hs t 1) (en hs s0 15).2.1 ∧ stA hs s0 (en hs s0 15).2.1 t ∧ stB hs s0 (en hs s0 15).2.1 t ∧ stC s0 (en hs s0 15).2.1 t) := by
  obtain ⟨a1, T, c, a2⟩ := dA_3 (R := R) e k hp hv rm1 hR rm2
  have bw := dI_b e k hv a2
  have lw := fun q h15 hq => dI_l e a2 (q := q) h15 hq (Nat.zero_le q)
  have dn := dI_n e k hv a2
  obtain ⟨s1, hs1⟩ : ∃ s1, dA hs (15 : Nat) 15 s0 = s1 := ⟨_, rfl⟩
  rw [hs1] at a2 bw
  simp only [hs1] at lw
  obtain ⟨b1, T0, T1, c0, c1, hw⟩ := a2
  have c0' : ∀ l : Nat, l < 15 → hs l = 0 → c l = 0 := fun l hl h => c0 l hl (Or.inr h)
  have wz : ∀ j : Nat, p < j → j < 15 → s1 (2025 + j) = 0 := by
    intro j j0 j1
    rw [hw j j1, hv j j0 j1, dS_0 (fun l hl => ?_)]
    · omega
    · show c l * rv s0 l j = 0
      rcases Decidable.em (hs l = 0) with g | g
      · rw [c0' l hl g, Int.zero_mul]
      · obtain ⟨r0, r1, -, -⟩ := e l hl g
        rcases Nat.lt_or_ge l j with g2 | g2
        · rw [r1 j g2 j1, Int.mul_zero]
        · have e1 := c1 l (Nat.zero_le l) hl g
          rw [hv l (by omega) hl, Int.mul_zero] at e1
          have : c l = 0 := by
            rcases Int.mul_eq_zero.mp e1 with q | q
            · exact q
            · omega
          rw [this, Int.zero_mul]
  have hen : en hs s0 15 = if tF s1 2025 15 < 0 then (hs, s1, 0) else (uI hs (tF s1 2025 15).toNat 1, uC (uI hs (tF s1 2025 15).toNat 1) (tF s1 2025 15).toNat (15 - 1 - (tF s1 2025 15).toNat) ((tF s1 2025 15).toNat + 1) (rC (pS s1 2025 (tF s1 2025 15).toNat) (tF s1 2025 15).toNat 45), 1) := by
    unfold en
    rw [hs1]
  rcases tF_h (s := s1) (a := 2025) (n := 15) with ⟨g, gz⟩ | ⟨t, g, g0, g1, g2⟩
  · -- nothing is left
    rw [hen, if_pos (by rw [g]; decide)]
    refine ⟨⟨a1, fun t ht => ?_⟩, Or.inl ⟨rfl, rfl, b1, T, c, T0, c0', fun l hl g => c1 l (Nat.zero_le l) hl g, fun j hj => ?_⟩⟩
    · rw [hs1, g] at ht
      omega
    · have h1 := hw j hj
      rw [gz j (by omega) (by omega)] at h1
      omega
  · have htp : t ≤ p := by
      rcases Nat.lt_or_ge p t with q | q
      · exact absurd (wz t q g0) g1
      · exact q
    have hst : hs t = 0 := by
      rcases Decidable.em (hs t = 0) with q | q
      · exact q
      · exact absurd (lw t g0 q) g1
    have tz : ∀ j : Nat, t < j → j < 15 → s1 (2025 + j) = 0 := fun j j0 j1 => g2 j (by omega) (by omega)
    obtain ⟨h, hh⟩ : ∃ h, pH s1 2025 t = h := ⟨_, rfl⟩
    have hn : h ≠ 0 := by rw [← hh]; exact pH_n g1
    obtain ⟨s3, hs3⟩ : ∃ s3, rC (pS s1 2025 t) t 45 = s3 := ⟨_, rfl⟩
    have rt : ∀ j : Nat, j < 15 → rv s3 t j = pS s1 2025 t (2025 + j) := fun j hj => by
      rw [rv_in hj, ← hs3]
      unfold rC
      rw [if_pos (by omega), show 2025 + (45 * (t : Int) + j - 45 * t) = 2025 + (j : Int) by omega]
    have rt2 : ∀ j : Nat, j < 15 → h * rv s3 t j = s1 (2025 + j) := fun j hj => by
      rw [rt j hj]
      rcases Nat.lt_or_ge t j with q | q
      · rw [pS_out (by omega) (by omega), tz j q hj, Int.mul_zero]
      · rw [← hh, ← pS_in (by omega) g1 q]
    have ro : ∀ m : Nat, m < 15 → m ≠ t → ∀ j, rv s3 m j = rv s0 m j := fun m hm hn j => by
      rcases Nat.lt_or_ge j 15 with q | q
      · rw [rv_in q, rv_in q, ← hs3]
        unfold rC
        rw [if_neg (by omega), pS_out (by omega) (by omega), b1 _ (by omega)]
      · unfold rv
        rw [if_neg (by omega), if_neg (by omega)]
    have r0 : 0 < rv s3 t t := by rw [rt t g0]; exact pS_pos (by omega) g1
    have r1 : ∀ k, t < k → k < 15 → rv s3 t k = 0 := fun k k0 k1 => mul_z hn (by rw [rt2 k k1, tz k k0 k1])
    have r2 : ∀ m : Nat, m < 15 → hs m ≠ 0 → rv s3 t m = 0 := fun m hm hm2 => mul_z hn (by rw [rt2 m hm, lw m hm hm2])
    have r3 : prm (rv s3 t) := fun c hc => pS_prim (s := s1) (a := 2025) (l := t) (by omega) g1 (fun j hj => by rw [← rt j (by omega)]; exact hc j (by omega))
    have bQ : ∀ j, j < 15 → zAbs (rv s3 t j) ≤ 2 * (nP 15 G * nS (wv s0) 15) := fun j hj => by
      have h1 := bw j hj
      rw [← rt2 j hj, zAbs_x] at h1
      have h2 := Int.mul_le_mul_of_nonneg_right (show 1 ≤ zAbs h by unfold zAbs; split <;> omega) (zAbs_p (rv s3 t j))
      omega
    have u1 : ∀ l : Nat, l ≠ t → uI hs t 1 l = hs l := fun l hl => uI_n _ _ (by omega)
    have hrow : ∀ l : Nat, t < l → l < 15 → uI hs t 1 l ≠ 0 → 0 < rv s3 l l ∧ (∀ k, l < k → k < 15 → rv s3 l k = 0) ∧ prm (rv s3 l) ∧ ∀ j, j < 15 → zAbs (rv s3 l j) ≤ R := fun l l0 l1 l2 => by
      rw [u1 l (by omega)] at l2
      have fl : rv s3 l = rv s0 l := funext (ro l l1 (by omega))
      rw [fl]
      obtain ⟨e0, e1, -, e3⟩ := e l l1 l2
      exact ⟨e0, e1, e3, hR l l1 l2⟩
    obtain ⟨v0, v1, v2⟩ := uC_h (s3 := s3) (hs := uI hs t 1) (R := R) (Q := 2 * (nP 15 G * nS (wv s0) 15)) g0 r0 r1 bQ rm3 hrow (15 - 1 - t) (t + 1) s3 (by omega) (by omega) (fun _ _ _ _ => rfl)
    have hnn : ¬ tF s1 2025 15 < 0 := by rw [g]; omega
    have htn : (tF s1 2025 15).toNat = t := by rw [g]; rfl
    obtain ⟨s', hs'⟩ : ∃ s', uC (uI hs t 1) t (15 - 1 - t) (t + 1) s3 = s' := ⟨_, rfl⟩
    rw [hs'] at v1 v2
    have hen2 : en hs s0 15 = (uI hs t 1, s', 1) := by
      rw [hen, if_neg hnn, htn, hs3, hs']
    have lowr : ∀ m : Nat, m ≤ t → ∀ j, rv s' m j = rv s3 m j := fun m hm j => by
      rcases Nat.lt_or_ge j 15 with q | q
      · rw [rv_in q, rv_in q, v1 _ (by omega) (fun k k0 k1 => by omega)]
      · unfold rv
        rw [if_neg (by omega), if_neg (by omega)]
    have ft : rv s' t = rv s3 t := funext (lowr t (Nat.le_refl t))
    have upr : ∀ l : Nat, t < l → l < 15 → hs l ≠ 0 → ∃ C h D : Int, 0 < C ∧ h ≠ 0 ∧ (∀ j, j < 15 → h * rv s' l j = C * rv s0 l j - D * rv s3 t j) ∧ C * rv s0 l t = D * rv s3 t t ∧ 0 < rv s' l l ∧ prm (rv s' l) := fun l l0 l1 l2 => by
      have := (v2 l (by omega) l1).2 (by rw [u1 l (by omega)]; exact l2)
      have fl : rv s3 l = rv s0 l := funext (ro l l1 (by omega))
      rw [fl] at this
      exact this
    rw [hen2]
    refine ⟨⟨a1, fun t2 ht2 => ?_⟩, Or.inr ⟨t, htp, g0, hst, rfl, rfl, fun l l0 l1 => ?_, ?_, fun l l0 l1 => ?_, fun l l0 j => ?_⟩⟩
    · rw [hs1, g] at ht2
      have et : t2 = t := by omega
      rw [hs1, et, hs3]
      exact ⟨⟨g1, fun j hj => by have := bw j (by omega); omega⟩, v0⟩
    · rcases Nat.lt_trichotomy l t with q | q | q
      · have fl : rv s' l = rv s0 l := funext (fun j => by rw [lowr l (by omega), ro l l0 (by omega)])
        rw [u1 l (by omega)] at l1
        obtain ⟨e0, e1, e2, e3⟩ := e l l0 l1
        rw [fl]
        refine ⟨e0, e1, fun m m0 m1 m2 => ?_, e3⟩
        rcases Decidable.em (m = t) with q2 | q2
        · rw [q2]
          exact e1 t q g0
        · rw [u1 m q2] at m2
          exact e2 m m0 m1 m2
      · subst q
        rw [ft]
        exact ⟨r0, r1, fun m m0 m1 m2 => r2 m m0 (by rw [u1 m m1] at m2; exact m2), r3⟩
      · rw [u1 l (by omega)] at l1
        obtain ⟨C, h', D, C0, h0, er, et, p0, p1⟩ := upr l q l0 l1
        obtain ⟨e0, e1, e2, e3⟩ := e l l0 l1
        refine ⟨p0, fun k k0 k1 => mul_z h0 ?_, fun m m0 m1 m2 => mul_z h0 ?_, p1⟩
        · rw [er k k1, e1 k k0 k1, r1 k (by omega) k1]
          omega
        · rw [er m m0]
          rcases Decidable.em (m = t) with q2 | q2
          · rw [q2, et]
            omega
          · rw [u1 m q2] at m2
            rw [e2 m m0 m1 m2, r2 m m0 m2]
            omega
    · refine ⟨T, h, c, T0, hn, c0', fun l hl g => c1 l (Nat.zero_le l) hl g, fun j hj => ?_⟩
      rw [ft, rt2 j hj]
      exact hw j hj
    · rw [ft]
      rcases Nat.lt_or_ge t l with q | q
      · obtain ⟨C, h', D, C0, h0, er, -⟩ := upr l q l0 l1
        exact ⟨C, h', D, C0, h0, er⟩
      · refine ⟨1, 1, 0, by decide, by decide, fun j _ => ?_⟩
        have hne : l ≠ t := fun e => l1 (e ▸ hst)
        rw [lowr l q, ro l l0 hne]
        omega
    · rw [lowr l (by omega), ro l (by omega) (by omega)]
