/-! What the signs of a form and of its part tell. -/
theorem zSgn_l0 (x : Int) : zSgn x ≤ 0 ↔ x ≤ 0 := by
  unfold zSgn
  split
  · omega
  · split <;> omega
theorem lf_3 (l : List Int) : ∀ k, sg (lf l) k = lf (l.map zSgn) k := by
  induction l with
  | nil => intro k; rfl
  | cons x r ih =>
    intro k
    cases k with
    | zero => rfl
    | succ k => exact ih k
theorem sg_e (l : List Int) : sg (lf l) = lf (l.map zSgn) := funext (lf_3 l)
theorem z1 : zSgn 1 = 1 := rfl
theorem cq1 (e1 : Int) : cnc 1 (lf [1, e1]) (lf [1]) := by
  apply cnc_s
  obtain ⟨a, ha⟩ := g3_s e1
  rw [sg_e, sg_e]
  show cnc 1 (lf [zSgn 1, zSgn e1]) (lf [zSgn 1])
  rw [z1, ha]
  exact cncB_h (sg_1 a)
theorem cq2 {e1 e2 s1 : Int} (P1 : e2 ≤ e1 * s1) (Q1 : e1 = 0 → e2 ≤ 0) (R1 : e1 = 0 → e2 = 0 → s1 = 0) : cnc 2 (lf [1, e1, e2]) (lf [1, s1]) := by
  apply cnc_s
  obtain ⟨a, ha⟩ := g3_s e1
  obtain ⟨b, hb⟩ := g3_s e2
  obtain ⟨x, hx⟩ := g3_s s1
  rw [sg_e, sg_e]
  show cnc 2 (lf [zSgn 1, zSgn e1, zSgn e2]) (lf [zSgn 1, zSgn s1])
  have h := sg_2 a b x
  rw [← ha, ← hb, ← hx] at h
  have ok : ok2 (zSgn e1) (zSgn e2) (zSgn s1) = true := by
    unfold ok2
    simp only [Bool.and_eq_true, Bool.or_eq_true, Bool.not_eq_true', decide_eq_true_eq, decide_eq_false_iff_not, Bool.and_eq_false_iff, ← zSgn_m, zSgn_zz, zSgn_l0]
    refine ⟨⟨zSgn_le P1, ?_⟩, ?_⟩
    · rcases Decidable.em (e1 = 0) with q | q
      · exact Or.inr (Q1 q)
      · exact Or.inl q
    · rcases Decidable.em (e1 = 0) with q | q
      · rcases Decidable.em (e2 = 0) with q2 | q2
        · exact Or.inr (R1 q q2)
        · exact Or.inl (Or.inr q2)
      · exact Or.inl (Or.inl q)
  rw [ok] at h
  exact cncB_h h
theorem cq3 {e1 e2 e3 s1 s2 : Int} (P1 : e2 ≤ e1 * s1) (P2 : e3 * s1 ≤ e2 * s2) (Q1 : e1 = 0 → e2 ≤ 0) (Q2 : e2 = 0 → e1 * e3 ≤ 0) (R1 : e1 = 0 → e2 = 0 → e3 = 0 ∧ s1 = 0 ∧ s2 = 0) (R2 : e2 = 0 → e3 = 0 → s2 = 0) : cnc 3 (lf [1, e1, e2, e3]) (lf [1, s1, s2]) := by
  apply cnc_s
  obtain ⟨a, ha⟩ := g3_s e1
  obtain ⟨b, hb⟩ := g3_s e2
  obtain ⟨c, hc⟩ := g3_s e3
  obtain ⟨x, hx⟩ := g3_s s1
  obtain ⟨y, hy⟩ := g3_s s2
  rw [sg_e, sg_e]
  show cnc 3 (lf [zSgn 1, zSgn e1, zSgn e2, zSgn e3]) (lf [zSgn 1, zSgn s1, zSgn s2])
  have h := sg_3 a b c x y
  rw [← ha, ← hb, ← hc, ← hx, ← hy] at h
  have ok : ok3 (zSgn e1) (zSgn e2) (zSgn e3) (zSgn s1) (zSgn s2) = true := by
    unfold ok3
    simp only [Bool.and_eq_true, Bool.or_eq_true, Bool.not_eq_true', decide_eq_true_eq, decide_eq_false_iff_not, Bool.and_eq_false_iff, ← zSgn_m, zSgn_zz, zSgn_l0]
    refine ⟨⟨⟨⟨⟨zSgn_le P1, zSgn_le P2⟩, ?_⟩, ?_⟩, ?_⟩, ?_⟩
    · rcases Decidable.em (e1 = 0) with q | q
      · exact Or.inr (Q1 q)
      · exact Or.inl q
    · rcases Decidable.em (e2 = 0) with q | q
      · exact Or.inr (Q2 q)
      · exact Or.inl q
    · rcases Decidable.em (e1 = 0) with q | q
      · rcases Decidable.em (e2 = 0) with q2 | q2
        · obtain ⟨r1, r2, r3⟩ := R1 q q2
          exact Or.inr ⟨⟨r1, r2⟩, r3⟩
        · exact Or.inl (Or.inr q2)
      · exact Or.inl (Or.inl q)
    · rcases Decidable.em (e2 = 0) with q | q
      · rcases Decidable.em (e3 = 0) with q2 | q2
        · exact Or.inr (R2 q q2)
        · exact Or.inl (Or.inr q2)
      · exact Or.inl (Or.inl q)
  rw [ok] at h
  exact cncB_h h
theorem cq4 {e1 e2 e3 e4 s1 s2 s3 : Int} (P1 : e2 ≤ e1 * s1) (P2 : e3 * s1 ≤ e2 * s2) (P3 : e4 * s2 ≤ e3 * s3) (Q1 : e1 = 0 → e2 ≤ 0) (Q2 : e2 = 0 → e1 * e3 ≤ 0) (Q3 : e3 = 0 → e2 * e4 ≤ 0) (R1 : e1 = 0 → e2 = 0 → e3 = 0 ∧ e4 = 0 ∧ s1 = 0 ∧ s2 = 0 ∧ s3 = 0) (R2 : e2 = 0 → e3 = 0 → e4 = 0) (R3 : e3 = 0 → e4 = 0 → s3 = 0) (R4 : e2 = 0 → e3 = 0 → e4 = 0 → s2 = 0 ∧ s3 = 0) (R5 : s1 = 0 → s2 = 0 → s3 = 0) : cnc 4 (lf [1, e1, e2, e3, e4]) (lf [1, s1, s2, s3]) := by
  apply cnc_s
  obtain ⟨a, ha⟩ := g3_s e1
  obtain ⟨b, hb⟩ := g3_s e2
  obtain ⟨c, hc⟩ := g3_s e3
  obtain ⟨d, hd⟩ := g3_s e4
  obtain ⟨x, hx⟩ := g3_s s1
  obtain ⟨y, hy⟩ := g3_s s2
  obtain ⟨z, hz⟩ := g3_s s3
  rw [sg_e, sg_e]
  show cnc 4 (lf [zSgn 1, zSgn e1, zSgn e2, zSgn e3, zSgn e4]) (lf [zSgn 1, zSgn s1, zSgn s2, zSgn s3])
  have h := sg_4 a b c d x y z
  rw [← ha, ← hb, ← hc, ← hd, ← hx, ← hy, ← hz] at h
  have ok : ok4 (zSgn e1) (zSgn e2) (zSgn e3) (zSgn e4) (zSgn s1) (zSgn s2) (zSgn s3) = true := by
    unfold ok4
    simp only [Bool.and_eq_true, Bool.or_eq_true, Bool.not_eq_true', decide_eq_true_eq, decide_eq_false_iff_not, Bool.and_eq_false_iff, ← zSgn_m, zSgn_zz, zSgn_l0]
    refine ⟨⟨⟨⟨⟨⟨⟨⟨⟨⟨zSgn_le P1, zSgn_le P2⟩, zSgn_le P3⟩, ?_⟩, ?_⟩, ?_⟩, ?_⟩, ?_⟩, ?_⟩, ?_⟩, ?_⟩
    · rcases Decidable.em (e1 = 0) with q | q
      · exact Or.inr (Q1 q)
      · exact Or.inl q
    · rcases Decidable.em (e2 = 0) with q | q
      · exact Or.inr (Q2 q)
      · exact Or.inl q
    · rcases Decidable.em (e3 = 0) with q | q
      · exact Or.inr (Q3 q)
      · exact Or.inl q
    · rcases Decidable.em (e1 = 0) with q | q
      · rcases Decidable.em (e2 = 0) with q2 | q2
        · obtain ⟨r1, r2, r3, r4, r5⟩ := R1 q q2
          exact Or.inr ⟨⟨⟨⟨r1, r2⟩, r3⟩, r4⟩, r5⟩
        · exact Or.inl (Or.inr q2)
      · exact Or.inl (Or.inl q)
    · rcases Decidable.em (e2 = 0) with q | q
      · rcases Decidable.em (e3 = 0) with q2 | q2
        · exact Or.inr (R2 q q2)
        · exact Or.inl (Or.inr q2)
      · exact Or.inl (Or.inl q)
    · rcases Decidable.em (e3 = 0) with q | q
      · rcases Decidable.em (e4 = 0) with q2 | q2
        · exact Or.inr (R3 q q2)
        · exact Or.inl (Or.inr q2)
      · exact Or.inl (Or.inl q)
    · rcases Decidable.em (e2 = 0) with q | q
      · rcases Decidable.em (e3 = 0) with q2 | q2
        · rcases Decidable.em (e4 = 0) with q3 | q3
          · exact Or.inr (R4 q q2 q3)
          · exact Or.inl (Or.inr q3)
        · exact Or.inl (Or.inl (Or.inr q2))
      · exact Or.inl (Or.inl (Or.inl q))
    · rcases Decidable.em (s1 = 0) with q | q
      · rcases Decidable.em (s2 = 0) with q2 | q2
        · exact Or.inr (R5 q q2)
        · exact Or.inl (Or.inr q2)
      · exact Or.inl (Or.inl q)
  rw [ok] at h
  exact cncB_h h
/-- the sums of the principal minors -/
def ePm (n : Nat) (F : mT) : Nat → Int := match n with
  | 0 => lf [1]
  | 1 => lf [1, F 0 0]
  | 2 => lf [1, sE21 F, sE22 F]
  | 3 => lf [1, sE31 F, sE32 F, sE33 F]
  | 4 => lf [1, sE41 F, sE42 F, sE43 F, sE44 F]
  | _ => lf [1]
def syN (n : Nat) (F : mT) : Prop := ∀ i j, i < n → j < n → F i j = F j i
theorem e4_e {F : mT} (h : syN 4 F) : sE41 F = F 0 0 + F 1 1 + F 2 2 + F 3 3 ∧ sE42 F = F 0 0 * F 1 1 - F 0 1 * F 0 1 + (F 0 0 * F 2 2 - F 0 2 * F 0 2) + (F 1 1 * F 2 2 - F 1 2 * F 1 2) + F 3 3 * (F 0 0 + F 1 1 + F 2 2) - (F 0 3 * F 0 3 + F 1 3 * F 1 3 + F 2 3 * F 2 3) ∧ sE43 F = F 0 0 * (F 1 1 * F 2 2 - F 1 2 * F 1 2) - F 0 1 * (F 0 1 * F 2 2 - F 0 2 * F 1 2) + F 0 2 * (F 0 1 * F 1 2 - F 0 2 * F 1 1) + F 3 3 * (F 0 0 * F 1 1 - F 0 1 * F 0 1 + (F 0 0 * F 2 2 - F 0 2 * F 0 2) + (F 1 1 * F 2 2 - F 1 2 * F 1 2)) - ((F 0 0 + F 1 1 + F 2 2) * (F 0 3 * F 0 3 + F 1 3 * F 1 3 + F 2 3 * F 2 3) - (F 0 3 * (F 0 0 * F 0 3 + F 0 1 * F 1 3 + F 0 2 * F 2 3) + F 1 3 * (F 0 1 * F 0 3 + F 1 1 * F 1 3 + F 1 2 * F 2 3) + F 2 3 * (F 0 2 * F 0 3 + F 1 2 * F 1 3 + F 2 2 * F 2 3))) ∧ sE44 F = F 3 3 * (F 0 0 * (F 1 1 * F 2 2 - F 1 2 * F 1 2) - F 0 1 * (F 0 1 * F 2 2 - F 0 2 * F 1 2) + F 0 2 * (F 0 1 * F 1 2 - F 0 2 * F 1 1)) - (F 0 3 * ((F 1 1 * F 2 2 - F 1 2 * F 1 2) * F 0 3 + (-(F 0 1 * F 2 2 - F 0 2 * F 1 2)) * F 1 3 + (F 0 1 * F 1 2 - F 0 2 * F 1 1) * F 2 3) + F 1 3 * ((-(F 0 1 * F 2 2 - F 0 2 * F 1 2)) * F 0 3 + (F 0 0 * F 2 2 - F 0 2 * F 0 2) * F 1 3 + (-(F 0 0 * F 1 2 - F 0 1 * F 0 2)) * F 2 3) + F 2 3 * ((F 0 1 * F 1 2 - F 0 2 * F 1 1) * F 0 3 + (-(F 0 0 * F 1 2 - F 0 1 * F 0 2)) * F 1 3 + (F 0 0 * F 1 1 - F 0 1 * F 0 1) * F 2 3)) := by
  have h10 := h 1 0 (by decide) (by decide)
  have h20 := h 2 0 (by decide) (by decide)
  have h21 := h 2 1 (by decide) (by decide)
  have h30 := h 3 0 (by decide) (by decide)
  have h31 := h 3 1 (by decide) (by decide)
  have h32 := h 3 2 (by decide) (by decide)
  unfold sE41 sE42 sE43 sE44
  rw [h10, h20, h21, h30, h31, h32]
  refine ⟨by grind, by grind, by grind, by grind⟩
theorem e3_e {F : mT} (h : syN 3 F) : (sE31 F = F 0 0 + F 1 1 + F 2 2 ∧ sE32 F = F 0 0 * F 1 1 - F 0 1 * F 0 1 + (F 0 0 * F 2 2 - F 0 2 * F 0 2) + (F 1 1 * F 2 2 - F 1 2 * F 1 2) ∧ sE33 F = F 0 0 * (F 1 1 * F 2 2 - F 1 2 * F 1 2) - F 0 1 * (F 0 1 * F 2 2 - F 0 2 * F 1 2) + F 0 2 * (F 0 1 * F 1 2 - F 0 2 * F 1 1)) ∧ sE31 F = F 0 0 + F 1 1 + F 2 2 ∧ sE32 F = F 0 0 * F 1 1 - F 0 1 * F 0 1 + F 2 2 * (F 0 0 + F 1 1) - (F 0 2 * F 0 2 + F 1 2 * F 1 2) ∧ sE33 F = F 2 2 * (F 0 0 * F 1 1 - F 0 1 * F 0 1) - (F 0 2 * (F 1 1 * F 0 2 - F 0 1 * F 1 2) + F 1 2 * (F 0 0 * F 1 2 - F 0 1 * F 0 2)) := by
  have h10 := h 1 0 (by decide) (by decide)
  have h20 := h 2 0 (by decide) (by decide)
  have h21 := h 2 1 (by decide) (by decide)
  unfold sE31 sE32 sE33
  rw [h10, h20, h21]
  refine ⟨⟨by grind, by grind, by grind⟩, by grind, by grind, by grind⟩
theorem e2_e {F : mT} (h : syN 2 F) : (sE21 F = F 0 0 + F 1 1 ∧ sE22 F = F 0 0 * F 1 1 - F 0 1 * F 0 1) ∧ sE21 F = F 0 0 + F 1 1 ∧ sE22 F = F 0 0 * F 1 1 - F 0 1 * F 0 1 := by
  have h10 := h 1 0 (by decide) (by decide)
  unfold sE21 sE22
  rw [h10]
  refine ⟨⟨by grind, by grind⟩, by grind, by grind⟩
theorem q4_all {a1 a2 a3 a4 a5 a6 b1 b2 b3 c e1 e2 e3 e4 s1 s2 s3 : Int} (he1 : e1 = a1 + a4 + a6 + c) (he2 : e2 = a1 * a4 - a2 * a2 + (a1 * a6 - a3 * a3) + (a4 * a6 - a5 * a5) + c * (a1 + a4 + a6) - (b1 * b1 + b2 * b2 + b3 * b3)) (he3 : e3 = a1 * (a4 * a6 - a5 * a5) - a2 * (a2 * a6 - a3 * a5) + a3 * (a2 * a5 - a3 * a4) + c * (a1 * a4 - a2 * a2 + (a1 * a6 - a3 * a3) + (a4 * a6 - a5 * a5)) - ((a1 + a4 + a6) * (b1 * b1 + b2 * b2 + b3 * b3) - (b1 * (a1 * b1 + a2 * b2 + a3 * b3) + b2 * (a2 * b1 + a4 * b2 + a5 * b3) + b3 * (a3 * b1 + a5 * b2 + a6 * b3)))) (he4 : e4 = c * (a1 * (a4 * a6 - a5 * a5) - a2 * (a2 * a6 - a3 * a5) + a3 * (a2 * a5 - a3 * a4)) - (b1 * ((a4 * a6 - a5 * a5) * b1 + (-(a2 * a6 - a3 * a5)) * b2 + (a2 * a5 - a3 * a4) * b3) + b2 * ((-(a2 * a6 - a3 * a5)) * b1 + (a1 * a6 - a3 * a3) * b2 + (-(a1 * a5 - a2 * a3)) * b3) + b3 * ((a2 * a5 - a3 * a4) * b1 + (-(a1 * a5 - a2 * a3)) * b2 + (a1 * a4 - a2 * a2) * b3))) (hs1 : s1 = a1 + a4 + a6) (hs2 : s2 = a1 * a4 - a2 * a2 + (a1 * a6 - a3 * a3) + (a4 * a6 - a5 * a5)) (hs3 : s3 = a1 * (a4 * a6 - a5 * a5) - a2 * (a2 * a6 - a3 * a5) + a3 * (a2 * a5 - a3 * a4)) : cnc 4 (lf [1, e1, e2, e3, e4]) (lf [1, s1, s2, s3]) := by
  have P1 := q4_P1 a1 a2 a3 a4 a5 a6 b1 b2 b3 c
  have P2 := q4_P2 a1 a2 a3 a4 a5 a6 b1 b2 b3 c
  have P3 := q4_P3 a1 a2 a3 a4 a5 a6 b1 b2 b3 c
  have F0 := q4_F0 a1 a2 a3 a4 a5 a6 b1 b2 b3 c
  have A0 := q4_A0 a1 a2 a3 a4 a5 a6 b1 b2 b3 c
  have C0 := q4_C0 a1 a2 a3 a4 a5 a6 b1 b2 b3 c
  have M0 := q4_M0 a1 a2 a3 a4 a5 a6 b1 b2 b3 c
  have FF := @q4_F a1 a2 a3 a4 a5 a6 b1 b2 b3 c
  have AA := @q4_A a1 a2 a3 a4 a5 a6 b1 b2 b3 c
  have CC := @q4_C a1 a2 a3 a4 a5 a6 b1 b2 b3 c
  have SS := @q3_S a1 a2 a3 a4 a5 a6
  rw [← he2, ← he1, ← hs1] at P1
  rw [← he3, ← he2, ← hs2, ← hs1] at P2
  rw [← he4, ← he3, ← hs3, ← hs2] at P3
  rw [← he2, ← he1] at F0 FF
  rw [← he4, ← he3, ← he2] at A0
  rw [← he4, ← he3, ← he2] at AA
  rw [← he4, ← he3, ← he2, ← he1] at C0 M0
  rw [← he4, ← he3] at CC
  rw [← hs2, ← hs1] at SS
  have R1 : e1 = 0 → e2 = 0 → e3 = 0 ∧ e4 = 0 ∧ s1 = 0 ∧ s2 = 0 ∧ s3 = 0 := fun q1 q2 => by
    obtain ⟨f1, f2, f3, f4, f5, f6, f7, f8, f9, f10⟩ := FF (by rw [q1, q2]; rfl)
    subst f1 f2 f3 f4 f5 f6 f7 f8 f9 f10
    rw [he3, he4, hs1, hs2, hs3]
    refine ⟨by decide, by decide, by decide, by decide, by decide⟩
  have adz : e3 * e3 - 2 * (e2 * e4) = 0 → e4 = 0 ∧ s3 = 0 := fun q => by
    obtain ⟨f1, f2, f3, f4⟩ := AA q
    have d4 : e4 = b1 * (-(a2 * (a5 * (b3) - a6 * (b2)) - a4 * (a3 * (b3) - a6 * (b1)) + a5 * (a3 * (b2) - a5 * (b1)))) + b2 * ((a1 * (a5 * (b3) - a6 * (b2)) - a2 * (a3 * (b3) - a6 * (b1)) + a3 * (a3 * (b2) - a5 * (b1)))) + b3 * (-(a1 * (a4 * (b3) - a5 * (b2)) - a2 * (a2 * (b3) - a5 * (b1)) + a3 * (a2 * (b2) - a4 * (b1)))) + c * ((a1 * (a4 * (a6) - a5 * (a5)) - a2 * (a2 * (a6) - a5 * (a3)) + a3 * (a2 * (a5) - a4 * (a3)))) := by rw [he4]; grind
    rw [f1, f2, f3, f4] at d4
    refine ⟨by omega, ?_⟩
    rw [hs3]
    have : (a1 * (a4 * (a6) - a5 * (a5)) - a2 * (a2 * (a6) - a5 * (a3)) + a3 * (a2 * (a5) - a4 * (a3))) = a1 * (a4 * a6 - a5 * a5) - a2 * (a2 * a6 - a3 * a5) + a3 * (a2 * a5 - a3 * a4) := by grind
    rw [← this, f4]
  refine cq4 (by omega) (by omega) (by omega) (fun q => ?_) (fun q => ?_) (fun q => ?_) R1 (fun q1 q2 => (adz (by rw [q1, q2]; omega)).1) (fun q1 q2 => (adz (by rw [q1, q2]; omega)).2) (fun q1 q2 q3 => ⟨?_, (adz (by rw [q2, q3]; omega)).2⟩) (fun q1 q2 => ?_)
  · rw [q] at F0
    omega
  · rw [q] at C0 M0
    omega
  · rw [q] at A0
    omega
  · have c3 := CC (by rw [q2, q3, ← he2, q1]; omega)
    rw [hs2, ← c3]
    grind
  · obtain ⟨f1, f2, f3, f4, f5, f6⟩ := SS (by rw [q1, q2]; rfl)
    subst f1 f2 f3 f4 f5 f6
    rw [hs3]
    decide
theorem q3_all {a1 a2 a4 b1 b2 c e1 e2 e3 s1 s2 : Int} (he1 : e1 = a1 + a4 + c) (he2 : e2 = a1 * a4 - a2 * a2 + c * (a1 + a4) - (b1 * b1 + b2 * b2)) (he3 : e3 = c * (a1 * a4 - a2 * a2) - (b1 * (a4 * b1 - a2 * b2) + b2 * (a1 * b2 - a2 * b1))) (hs1 : s1 = a1 + a4) (hs2 : s2 = a1 * a4 - a2 * a2) : cnc 3 (lf [1, e1, e2, e3]) (lf [1, s1, s2]) := by
  have P1 := q3_P1 a1 a2 a4 b1 b2 c
  have P2 := q3_P2 a1 a2 a4 b1 b2 c
  have F0 := q3_F0 a1 a2 a4 b1 b2 c
  have A0 := q3_A0 a1 a2 a4 b1 b2 c
  have FF := @q3_F a1 a2 a4 b1 b2 c
  have AA := @q3_A a1 a2 a4 b1 b2 c
  rw [← he2, ← he1, ← hs1] at P1
  rw [← he3, ← he2, ← hs2, ← hs1] at P2
  rw [← he2, ← he1] at F0 FF
  rw [← he3, ← he2, ← he1] at A0 AA
  refine cq3 (by omega) (by omega) (fun q => ?_) (fun q => ?_) (fun q1 q2 => ?_) (fun q1 q2 => ?_)
  · rw [q] at F0
    omega
  · rw [q] at A0
    omega
  · obtain ⟨f1, f2, f3, f4, f5, f6⟩ := FF (by rw [q1, q2]; rfl)
    subst f1 f2 f3 f4 f5 f6
    rw [he3, hs1, hs2]
    refine ⟨by decide, by decide, by decide⟩
  · have := AA (by rw [q1, q2]; omega)
    rw [hs2, ← this]
theorem cnc_4 {F : mT} (h : syN 4 F) : cnc 4 (ePm 4 F) (ePm 3 F) := by
  obtain ⟨a1, a2, a3, a4⟩ := e4_e h
  obtain ⟨⟨b1, b2, b3⟩, -⟩ := e3_e (fun i j hi hj => h i j (by omega) (by omega) : syN 3 F)
  exact q4_all a1 a2 a3 a4 b1 b2 b3
theorem cnc_3 {F : mT} (h : syN 3 F) : cnc 3 (ePm 3 F) (ePm 2 F) := by
  obtain ⟨-, a1, a2, a3⟩ := e3_e h
  obtain ⟨⟨b1, b2⟩, -⟩ := e2_e (fun i j hi hj => h i j (by omega) (by omega) : syN 2 F)
  exact q3_all a1 a2 a3 b1 b2
theorem cnc_2 {F : mT} (h : syN 2 F) : cnc 2 (ePm 2 F) (ePm 1 F) := by
  obtain ⟨-, a1, a2⟩ := e2_e h
  show cnc 2 (lf [1, sE21 F, sE22 F]) (lf [1, F 0 0])
  have P1 := q2_P1 (F 0 0) (F 0 1) (F 1 1)
  have F0 := q2_F0 (F 0 0) (F 0 1) (F 1 1)
  have FF := @q2_F (F 0 0) (F 0 1) (F 1 1)
  rw [← a2, ← a1] at P1 F0 FF
  refine cq2 (by omega) (fun q => ?_) (fun q1 q2 => (FF (by rw [q1, q2]; rfl)).1)
  rw [q] at F0
  omega
theorem cnc_1 (F : mT) : cnc 1 (ePm 1 F) (ePm 0 F) := cq1 (F 0 0)
theorem cnc_n {n : Nat} {F : mT} (n4 : n ≤ 4) (n0 : 0 < n) (h : syN n F) : cnc n (ePm n F) (ePm (n - 1) F) := by
  have hn : n = 1 ∨ n = 2 ∨ n = 3 ∨ n = 4 := by omega
  rcases hn with rfl | rfl | rfl | rfl
  · exact cnc_1 F
  · exact cnc_2 h
  · exact cnc_3 h
  · exact cnc_4 h
/-- what the reference tells of a form -/
theorem sqC_e {n : Nat} {F : mT} (n4 : n ≤ 4) : ∀ k, k ≤ n → sqC n F k = cf n (ePm n F) k := by
  have hn : n = 0 ∨ n = 1 ∨ n = 2 ∨ n = 3 ∨ n = 4 := by omega
  rcases hn with rfl | rfl | rfl | rfl | rfl
  · intro k hk
    have : k = 0 := by omega
    subst this
    rfl
  · intro k hk
    have : k = 0 ∨ k = 1 := by omega
    rcases this with rfl | rfl
    · show (sqP 1 F 1).2 = -(F 0 0)
      rw [sq_c1]
      show -(0 + F 0 0) = _
      omega
    · rfl
  · intro k hk
    have : k = 0 ∨ k = 1 ∨ k = 2 := by omega
    rcases this with rfl | rfl | rfl
    · exact sq2_c2 F
    · exact sq2_c1 F
    · rfl
  · intro k hk
    have : k = 0 ∨ k = 1 ∨ k = 2 ∨ k = 3 := by omega
    rcases this with rfl | rfl | rfl | rfl
    · exact sq3_c3 F
    · exact sq3_c2 F
    · exact sq3_c1 F
    · rfl
  · intro k hk
    have : k = 0 ∨ k = 1 ∨ k = 2 ∨ k = 3 ∨ k = 4 := by omega
    rcases this with rfl | rfl | rfl | rfl | rfl
    · exact sq4_c4 F
    · exact sq4_c3 F
    · exact sq4_c2 F
    · exact sq4_c1 F
    · rfl
theorem lz_cg {c d : Nat → Int} : ∀ m l, (∀ k, l ≤ k → k < l + m → c k = d k) → lz c m l = lz d m l
  | 0, _, _ => rfl
  | m + 1, l, h => by
    unfold lz
    rw [h l (Nat.le_refl _) (by omega), lz_cg m (l + 1) (fun k h1 h2 => h k (by omega) (by omega))]
theorem sqR_e {n : Nat} {F : mT} (n4 : n ≤ 4) : sqR n F = rk n (ePm n F) ∧ sqS n F = Vp n (ePm n F) - Vn n (ePm n F) := by
  have e := sqC_e (F := F) n4
  unfold sqR sqS rk Vp Vn
  rw [chF_c 0 (n + 1) (fun k hk => e k (by omega)), chF_c 1 (n + 1) (fun k hk => e k (by omega)), lz_cg n 0 (fun k _ hk => e k (by omega))]
  exact ⟨rfl, rfl⟩
