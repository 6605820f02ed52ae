/-! Inequalities between the sums of principal minors of a symmetric form and of its part. Printed by gen_a80.py. -/
theorem sq_z {x y : Int} (h : x * x + y = 0) (hy : 0 ≤ y) : x = 0 ∧ y = 0 := by
  have := sq_nn x
  have e : x * x = 0 := by omega
  refine ⟨?_, by omega⟩
  rcases Int.mul_eq_zero.mp e with g | g <;> exact g
theorem q4_P1 (a1 a2 a3 a4 a5 a6 b1 b2 b3 c : Int) : 0 ≤ (a1 + a4 + a6 + c) * (a1 + a4 + a6) - (a1 * a4 - a2 * a2 + (a1 * a6 - a3 * a3) + (a4 * a6 - a5 * a5) + c * (a1 + a4 + a6) - (b1 * b1 + b2 * b2 + b3 * b3)) := by
  obtain ⟨x0, h0⟩ : ∃ x, x = a1 + a4 + a6 := ⟨_, rfl⟩
  obtain ⟨x1, h1⟩ : ∃ x, x = a1 := ⟨_, rfl⟩
  obtain ⟨x2, h2⟩ : ∃ x, x = a2 := ⟨_, rfl⟩
  obtain ⟨x3, h3⟩ : ∃ x, x = a3 := ⟨_, rfl⟩
  obtain ⟨x4, h4⟩ : ∃ x, x = a4 := ⟨_, rfl⟩
  obtain ⟨x5, h5⟩ : ∃ x, x = a5 := ⟨_, rfl⟩
  obtain ⟨x6, h6⟩ : ∃ x, x = a6 := ⟨_, rfl⟩
  obtain ⟨x7, h7⟩ : ∃ x, x = b1 := ⟨_, rfl⟩
  obtain ⟨x8, h8⟩ : ∃ x, x = b2 := ⟨_, rfl⟩
  obtain ⟨x9, h9⟩ : ∃ x, x = b3 := ⟨_, rfl⟩
  have id : 2 * ((a1 + a4 + a6 + c) * (a1 + a4 + a6) - (a1 * a4 - a2 * a2 + (a1 * a6 - a3 * a3) + (a4 * a6 - a5 * a5) + c * (a1 + a4 + a6) - (b1 * b1 + b2 * b2 + b3 * b3))) = x0 * x0 + x1 * x1 + 2 * (x2 * x2) + 2 * (x3 * x3) + x4 * x4 + 2 * (x5 * x5) + x6 * x6 + 2 * (x7 * x7) + 2 * (x8 * x8) + 2 * (x9 * x9) := by
    rw [h0, h1, h2, h3, h4, h5, h6, h7, h8, h9]
    grind
  have q0 := sq_nn x0
  have q1 := sq_nn x1
  have q2 := sq_nn x2
  have q3 := sq_nn x3
  have q4 := sq_nn x4
  have q5 := sq_nn x5
  have q6 := sq_nn x6
  have q7 := sq_nn x7
  have q8 := sq_nn x8
  have q9 := sq_nn x9
  generalize (a1 + a4 + a6 + c) * (a1 + a4 + a6) - (a1 * a4 - a2 * a2 + (a1 * a6 - a3 * a3) + (a4 * a6 - a5 * a5) + c * (a1 + a4 + a6) - (b1 * b1 + b2 * b2 + b3 * b3)) = T at *
  omega
theorem q4_P2 (a1 a2 a3 a4 a5 a6 b1 b2 b3 c : Int) : 0 ≤ (a1 * a4 - a2 * a2 + (a1 * a6 - a3 * a3) + (a4 * a6 - a5 * a5) + c * (a1 + a4 + a6) - (b1 * b1 + b2 * b2 + b3 * b3)) * (a1 * a4 - a2 * a2 + (a1 * a6 - a3 * a3) + (a4 * a6 - a5 * a5)) - (a1 * (a4 * a6 - a5 * a5) - a2 * (a2 * a6 - a3 * a5) + a3 * (a2 * a5 - a3 * a4) + c * (a1 * a4 - a2 * a2 + (a1 * a6 - a3 * a3) + (a4 * a6 - a5 * a5)) - ((a1 + a4 + a6) * (b1 * b1 + b2 * b2 + b3 * b3) - (b1 * (a1 * b1 + a2 * b2 + a3 * b3) + b2 * (a2 * b1 + a4 * b2 + a5 * b3) + b3 * (a3 * b1 + a5 * b2 + a6 * b3)))) * (a1 + a4 + a6) := by
  obtain ⟨x0, h0⟩ : ∃ x, x = a1 * a4 - a2 * a2 + (a1 * a6 - a3 * a3) + (a4 * a6 - a5 * a5) := ⟨_, rfl⟩
  obtain ⟨x1, h1⟩ : ∃ x, x = a4 * a6 - a5 * a5 := ⟨_, rfl⟩
  obtain ⟨x2, h2⟩ : ∃ x, x = -(a2 * a6 - a3 * a5) := ⟨_, rfl⟩
  obtain ⟨x3, h3⟩ : ∃ x, x = a2 * a5 - a3 * a4 := ⟨_, rfl⟩
  obtain ⟨x4, h4⟩ : ∃ x, x = a1 * a6 - a3 * a3 := ⟨_, rfl⟩
  obtain ⟨x5, h5⟩ : ∃ x, x = -(a1 * a5 - a2 * a3) := ⟨_, rfl⟩
  obtain ⟨x6, h6⟩ : ∃ x, x = a1 * a4 - a2 * a2 := ⟨_, rfl⟩
  obtain ⟨x7, h7⟩ : ∃ x, x = (a1 + a4 + a6) * b1 - (a1 * b1 + a2 * b2 + a3 * b3) := ⟨_, rfl⟩
  obtain ⟨x8, h8⟩ : ∃ x, x = (a1 + a4 + a6) * b2 - (a2 * b1 + a4 * b2 + a5 * b3) := ⟨_, rfl⟩
  obtain ⟨x9, h9⟩ : ∃ x, x = (a1 + a4 + a6) * b3 - (a3 * b1 + a5 * b2 + a6 * b3) := ⟨_, rfl⟩
  obtain ⟨x10, h10⟩ : ∃ x, x = a1 * b2 - a2 * b1 := ⟨_, rfl⟩
  obtain ⟨x11, h11⟩ : ∃ x, x = a1 * b3 - a3 * b1 := ⟨_, rfl⟩
  obtain ⟨x12, h12⟩ : ∃ x, x = a2 * b3 - a3 * b2 := ⟨_, rfl⟩
  obtain ⟨x13, h13⟩ : ∃ x, x = a2 * b2 - a4 * b1 := ⟨_, rfl⟩
  obtain ⟨x14, h14⟩ : ∃ x, x = a2 * b3 - a5 * b1 := ⟨_, rfl⟩
  obtain ⟨x15, h15⟩ : ∃ x, x = a4 * b3 - a5 * b2 := ⟨_, rfl⟩
  obtain ⟨x16, h16⟩ : ∃ x, x = a3 * b2 - a5 * b1 := ⟨_, rfl⟩
  obtain ⟨x17, h17⟩ : ∃ x, x = a3 * b3 - a6 * b1 := ⟨_, rfl⟩
  obtain ⟨x18, h18⟩ : ∃ x, x = a5 * b3 - a6 * b2 := ⟨_, rfl⟩
  have id : 2 * ((a1 * a4 - a2 * a2 + (a1 * a6 - a3 * a3) + (a4 * a6 - a5 * a5) + c * (a1 + a4 + a6) - (b1 * b1 + b2 * b2 + b3 * b3)) * (a1 * a4 - a2 * a2 + (a1 * a6 - a3 * a3) + (a4 * a6 - a5 * a5)) - (a1 * (a4 * a6 - a5 * a5) - a2 * (a2 * a6 - a3 * a5) + a3 * (a2 * a5 - a3 * a4) + c * (a1 * a4 - a2 * a2 + (a1 * a6 - a3 * a3) + (a4 * a6 - a5 * a5)) - ((a1 + a4 + a6) * (b1 * b1 + b2 * b2 + b3 * b3) - (b1 * (a1 * b1 + a2 * b2 + a3 * b3) + b2 * (a2 * b1 + a4 * b2 + a5 * b3) + b3 * (a3 * b1 + a5 * b2 + a6 * b3)))) * (a1 + a4 + a6)) = x0 * x0 + x1 * x1 + 2 * (x2 * x2) + 2 * (x3 * x3) + x4 * x4 + 2 * (x5 * x5) + x6 * x6 + x7 * x7 + x8 * x8 + x9 * x9 + x10 * x10 + x11 * x11 + x12 * x12 + x13 * x13 + x14 * x14 + x15 * x15 + x16 * x16 + x17 * x17 + x18 * x18 := by
    rw [h0, h1, h2, h3, h4, h5, h6, h7, h8, h9, h10, h11, h12, h13, h14, h15, h16, h17, h18]
    grind
  have q0 := sq_nn x0
  have q1 := sq_nn x1
  have q2 := sq_nn x2
  have q3 := sq_nn x3
  have q4 := sq_nn x4
  have q5 := sq_nn x5
  have q6 := sq_nn x6
  have q7 := sq_nn x7
  have q8 := sq_nn x8
  have q9 := sq_nn x9
  have q10 := sq_nn x10
  have q11 := sq_nn x11
  have q12 := sq_nn x12
  have q13 := sq_nn x13
  have q14 := sq_nn x14
  have q15 := sq_nn x15
  have q16 := sq_nn x16
  have q17 := sq_nn x17
  have q18 := sq_nn x18
  generalize (a1 * a4 - a2 * a2 + (a1 * a6 - a3 * a3) + (a4 * a6 - a5 * a5) + c * (a1 + a4 + a6) - (b1 * b1 + b2 * b2 + b3 * b3)) * (a1 * a4 - a2 * a2 + (a1 * a6 - a3 * a3) + (a4 * a6 - a5 * a5)) - (a1 * (a4 * a6 - a5 * a5) - a2 * (a2 * a6 - a3 * a5) + a3 * (a2 * a5 - a3 * a4) + c * (a1 * a4 - a2 * a2 + (a1 * a6 - a3 * a3) + (a4 * a6 - a5 * a5)) - ((a1 + a4 + a6) * (b1 * b1 + b2 * b2 + b3 * b3) - (b1 * (a1 * b1 + a2 * b2 + a3 * b3) + b2 * (a2 * b1 + a4 * b2 + a5 * b3) + b3 * (a3 * b1 + a5 * b2 + a6 * b3)))) * (a1 + a4 + a6) = T at *
  omega
theorem q4_P3 (a1 a2 a3 a4 a5 a6 b1 b2 b3 c : Int) : 0 ≤ (a1 * (a4 * a6 - a5 * a5) - a2 * (a2 * a6 - a3 * a5) + a3 * (a2 * a5 - a3 * a4) + c * (a1 * a4 - a2 * a2 + (a1 * a6 - a3 * a3) + (a4 * a6 - a5 * a5)) - ((a1 + a4 + a6) * (b1 * b1 + b2 * b2 + b3 * b3) - (b1 * (a1 * b1 + a2 * b2 + a3 * b3) + b2 * (a2 * b1 + a4 * b2 + a5 * b3) + b3 * (a3 * b1 + a5 * b2 + a6 * b3)))) * (a1 * (a4 * a6 - a5 * a5) - a2 * (a2 * a6 - a3 * a5) + a3 * (a2 * a5 - a3 * a4)) - (c * (a1 * (a4 * a6 - a5 * a5) - a2 * (a2 * a6 - a3 * a5) + a3 * (a2 * a5 - a3 * a4)) - (b1 * ((a4 * a6 - a5 * a5) * b1 + (-(a2 * a6 - a3 * a5)) * b2 + (a2 * a5 - a3 * a4) * b3) + b2 * ((-(a2 * a6 - a3 * a5)) * b1 + (a1 * a6 - a3 * a3) * b2 + (-(a1 * a5 - a2 * a3)) * b3) + b3 * ((a2 * a5 - a3 * a4) * b1 + (-(a1 * a5 - a2 * a3)) * b2 + (a1 * a4 - a2 * a2) * b3))) * (a1 * a4 - a2 * a2 + (a1 * a6 - a3 * a3) + (a4 * a6 - a5 * a5)) := by
  obtain ⟨x0, h0⟩ : ∃ x, x = a1 * (a4 * a6 - a5 * a5) - a2 * (a2 * a6 - a3 * a5) + a3 * (a2 * a5 - a3 * a4) := ⟨_, rfl⟩
  obtain ⟨x1, h1⟩ : ∃ x, x = (a4 * a6 - a5 * a5) * b1 + (-(a2 * a6 - a3 * a5)) * b2 + (a2 * a5 - a3 * a4) * b3 := ⟨_, rfl⟩
  obtain ⟨x2, h2⟩ : ∃ x, x = (-(a2 * a6 - a3 * a5)) * b1 + (a1 * a6 - a3 * a3) * b2 + (-(a1 * a5 - a2 * a3)) * b3 := ⟨_, rfl⟩
  obtain ⟨x3, h3⟩ : ∃ x, x = (a2 * a5 - a3 * a4) * b1 + (-(a1 * a5 - a2 * a3)) * b2 + (a1 * a4 - a2 * a2) * b3 := ⟨_, rfl⟩
  have id : 1 * ((a1 * (a4 * a6 - a5 * a5) - a2 * (a2 * a6 - a3 * a5) + a3 * (a2 * a5 - a3 * a4) + c * (a1 * a4 - a2 * a2 + (a1 * a6 - a3 * a3) + (a4 * a6 - a5 * a5)) - ((a1 + a4 + a6) * (b1 * b1 + b2 * b2 + b3 * b3) - (b1 * (a1 * b1 + a2 * b2 + a3 * b3) + b2 * (a2 * b1 + a4 * b2 + a5 * b3) + b3 * (a3 * b1 + a5 * b2 + a6 * b3)))) * (a1 * (a4 * a6 - a5 * a5) - a2 * (a2 * a6 - a3 * a5) + a3 * (a2 * a5 - a3 * a4)) - (c * (a1 * (a4 * a6 - a5 * a5) - a2 * (a2 * a6 - a3 * a5) + a3 * (a2 * a5 - a3 * a4)) - (b1 * ((a4 * a6 - a5 * a5) * b1 + (-(a2 * a6 - a3 * a5)) * b2 + (a2 * a5 - a3 * a4) * b3) + b2 * ((-(a2 * a6 - a3 * a5)) * b1 + (a1 * a6 - a3 * a3) * b2 + (-(a1 * a5 - a2 * a3)) * b3) + b3 * ((a2 * a5 - a3 * a4) * b1 + (-(a1 * a5 - a2 * a3)) * b2 + (a1 * a4 - a2 * a2) * b3))) * (a1 * a4 - a2 * a2 + (a1 * a6 - a3 * a3) + (a4 * a6 - a5 * a5))) = x0 * x0 + x1 * x1 + x2 * x2 + x3 * x3 := by
    rw [h0, h1, h2, h3]
    grind
  have q0 := sq_nn x0
  have q1 := sq_nn x1
  have q2 := sq_nn x2
  have q3 := sq_nn x3
  generalize (a1 * (a4 * a6 - a5 * a5) - a2 * (a2 * a6 - a3 * a5) + a3 * (a2 * a5 - a3 * a4) + c * (a1 * a4 - a2 * a2 + (a1 * a6 - a3 * a3) + (a4 * a6 - a5 * a5)) - ((a1 + a4 + a6) * (b1 * b1 + b2 * b2 + b3 * b3) - (b1 * (a1 * b1 + a2 * b2 + a3 * b3) + b2 * (a2 * b1 + a4 * b2 + a5 * b3) + b3 * (a3 * b1 + a5 * b2 + a6 * b3)))) * (a1 * (a4 * a6 - a5 * a5) - a2 * (a2 * a6 - a3 * a5) + a3 * (a2 * a5 - a3 * a4)) - (c * (a1 * (a4 * a6 - a5 * a5) - a2 * (a2 * a6 - a3 * a5) + a3 * (a2 * a5 - a3 * a4)) - (b1 * ((a4 * a6 - a5 * a5) * b1 + (-(a2 * a6 - a3 * a5)) * b2 + (a2 * a5 - a3 * a4) * b3) + b2 * ((-(a2 * a6 - a3 * a5)) * b1 + (a1 * a6 - a3 * a3) * b2 + (-(a1 * a5 - a2 * a3)) * b3) + b3 * ((a2 * a5 - a3 * a4) * b1 + (-(a1 * a5 - a2 * a3)) * b2 + (a1 * a4 - a2 * a2) * b3))) * (a1 * a4 - a2 * a2 + (a1 * a6 - a3 * a3) + (a4 * a6 - a5 * a5)) = T at *
  omega
theorem q4_F {a1 a2 a3 a4 a5 a6 b1 b2 b3 c : Int} (h : (a1 + a4 + a6 + c) * (a1 + a4 + a6 + c) - 2 * (a1 * a4 - a2 * a2 + (a1 * a6 - a3 * a3) + (a4 * a6 - a5 * a5) + c * (a1 + a4 + a6) - (b1 * b1 + b2 * b2 + b3 * b3)) = 0) : a1 = 0 ∧ a2 = 0 ∧ a3 = 0 ∧ a4 = 0 ∧ a5 = 0 ∧ a6 = 0 ∧ b1 = 0 ∧ b2 = 0 ∧ b3 = 0 ∧ c = 0 := by
  obtain ⟨x0, h0⟩ : ∃ x, x = a1 := ⟨_, rfl⟩
  obtain ⟨x1, h1⟩ : ∃ x, x = a2 := ⟨_, rfl⟩
  obtain ⟨x2, h2⟩ : ∃ x, x = a3 := ⟨_, rfl⟩
  obtain ⟨x3, h3⟩ : ∃ x, x = b1 := ⟨_, rfl⟩
  obtain ⟨x4, h4⟩ : ∃ x, x = a4 := ⟨_, rfl⟩
  obtain ⟨x5, h5⟩ : ∃ x, x = a5 := ⟨_, rfl⟩
  obtain ⟨x6, h6⟩ : ∃ x, x = b2 := ⟨_, rfl⟩
  obtain ⟨x7, h7⟩ : ∃ x, x = a6 := ⟨_, rfl⟩
  obtain ⟨x8, h8⟩ : ∃ x, x = b3 := ⟨_, rfl⟩
  obtain ⟨x9, h9⟩ : ∃ x, x = c := ⟨_, rfl⟩
  have id : x0 * x0 + 2 * (x1 * x1) + 2 * (x2 * x2) + 2 * (x3 * x3) + x4 * x4 + 2 * (x5 * x5) + 2 * (x6 * x6) + x7 * x7 + 2 * (x8 * x8) + x9 * x9 = 0 := by
    have : 1 * ((a1 + a4 + a6 + c) * (a1 + a4 + a6 + c) - 2 * (a1 * a4 - a2 * a2 + (a1 * a6 - a3 * a3) + (a4 * a6 - a5 * a5) + c * (a1 + a4 + a6) - (b1 * b1 + b2 * b2 + b3 * b3))) = x0 * x0 + 2 * (x1 * x1) + 2 * (x2 * x2) + 2 * (x3 * x3) + x4 * x4 + 2 * (x5 * x5) + 2 * (x6 * x6) + x7 * x7 + 2 * (x8 * x8) + x9 * x9 := by
      rw [h0, h1, h2, h3, h4, h5, h6, h7, h8, h9]
      grind
    rw [← this, h]
    rfl
  have q0 := sq_nn x0
  have q1 := sq_nn x1
  have q2 := sq_nn x2
  have q3 := sq_nn x3
  have q4 := sq_nn x4
  have q5 := sq_nn x5
  have q6 := sq_nn x6
  have q7 := sq_nn x7
  have q8 := sq_nn x8
  have q9 := sq_nn x9
  have z0 := sq_z (x := x0) (y := 0) (by omega) (Int.le_refl 0)
  have z1 := sq_z (x := x1) (y := 0) (by omega) (Int.le_refl 0)
  have z2 := sq_z (x := x2) (y := 0) (by omega) (Int.le_refl 0)
  have z3 := sq_z (x := x4) (y := 0) (by omega) (Int.le_refl 0)
  have z4 := sq_z (x := x5) (y := 0) (by omega) (Int.le_refl 0)
  have z5 := sq_z (x := x7) (y := 0) (by omega) (Int.le_refl 0)
  have z6 := sq_z (x := x3) (y := 0) (by omega) (Int.le_refl 0)
  have z7 := sq_z (x := x6) (y := 0) (by omega) (Int.le_refl 0)
  have z8 := sq_z (x := x8) (y := 0) (by omega) (Int.le_refl 0)
  have z9 := sq_z (x := x9) (y := 0) (by omega) (Int.le_refl 0)
  exact ⟨(by rw [← h0]; exact z0.1), (by rw [← h1]; exact z1.1), (by rw [← h2]; exact z2.1), (by rw [← h4]; exact z3.1), (by rw [← h5]; exact z4.1), (by rw [← h7]; exact z5.1), (by rw [← h3]; exact z6.1), (by rw [← h6]; exact z7.1), (by rw [← h8]; exact z8.1), (by rw [← h9]; exact z9.1)⟩
theorem q4_F0 (a1 a2 a3 a4 a5 a6 b1 b2 b3 c : Int) : 0 ≤ (a1 + a4 + a6 + c) * (a1 + a4 + a6 + c) - 2 * (a1 * a4 - a2 * a2 + (a1 * a6 - a3 * a3) + (a4 * a6 - a5 * a5) + c * (a1 + a4 + a6) - (b1 * b1 + b2 * b2 + b3 * b3)) := by
  obtain ⟨x0, h0⟩ : ∃ x, x = a1 := ⟨_, rfl⟩
  obtain ⟨x1, h1⟩ : ∃ x, x = a2 := ⟨_, rfl⟩
  obtain ⟨x2, h2⟩ : ∃ x, x = a3 := ⟨_, rfl⟩
  obtain ⟨x3, h3⟩ : ∃ x, x = b1 := ⟨_, rfl⟩
  obtain ⟨x4, h4⟩ : ∃ x, x = a4 := ⟨_, rfl⟩
  obtain ⟨x5, h5⟩ : ∃ x, x = a5 := ⟨_, rfl⟩
  obtain ⟨x6, h6⟩ : ∃ x, x = b2 := ⟨_, rfl⟩
  obtain ⟨x7, h7⟩ : ∃ x, x = a6 := ⟨_, rfl⟩
  obtain ⟨x8, h8⟩ : ∃ x, x = b3 := ⟨_, rfl⟩
  obtain ⟨x9, h9⟩ : ∃ x, x = c := ⟨_, rfl⟩
  have id : 1 * ((a1 + a4 + a6 + c) * (a1 + a4 + a6 + c) - 2 * (a1 * a4 - a2 * a2 + (a1 * a6 - a3 * a3) + (a4 * a6 - a5 * a5) + c * (a1 + a4 + a6) - (b1 * b1 + b2 * b2 + b3 * b3))) = x0 * x0 + 2 * (x1 * x1) + 2 * (x2 * x2) + 2 * (x3 * x3) + x4 * x4 + 2 * (x5 * x5) + 2 * (x6 * x6) + x7 * x7 + 2 * (x8 * x8) + x9 * x9 := by
    rw [h0, h1, h2, h3, h4, h5, h6, h7, h8, h9]
    grind
  have q0 := sq_nn x0
  have q1 := sq_nn x1
  have q2 := sq_nn x2
  have q3 := sq_nn x3
  have q4 := sq_nn x4
  have q5 := sq_nn x5
  have q6 := sq_nn x6
  have q7 := sq_nn x7
  have q8 := sq_nn x8
  have q9 := sq_nn x9
  generalize (a1 + a4 + a6 + c) * (a1 + a4 + a6 + c) - 2 * (a1 * a4 - a2 * a2 + (a1 * a6 - a3 * a3) + (a4 * a6 - a5 * a5) + c * (a1 + a4 + a6) - (b1 * b1 + b2 * b2 + b3 * b3)) = T at *
  omega
theorem q4_A0 (a1 a2 a3 a4 a5 a6 b1 b2 b3 c : Int) : 0 ≤ (a1 * (a4 * a6 - a5 * a5) - a2 * (a2 * a6 - a3 * a5) + a3 * (a2 * a5 - a3 * a4) + c * (a1 * a4 - a2 * a2 + (a1 * a6 - a3 * a3) + (a4 * a6 - a5 * a5)) - ((a1 + a4 + a6) * (b1 * b1 + b2 * b2 + b3 * b3) - (b1 * (a1 * b1 + a2 * b2 + a3 * b3) + b2 * (a2 * b1 + a4 * b2 + a5 * b3) + b3 * (a3 * b1 + a5 * b2 + a6 * b3)))) * (a1 * (a4 * a6 - a5 * a5) - a2 * (a2 * a6 - a3 * a5) + a3 * (a2 * a5 - a3 * a4) + c * (a1 * a4 - a2 * a2 + (a1 * a6 - a3 * a3) + (a4 * a6 - a5 * a5)) - ((a1 + a4 + a6) * (b1 * b1 + b2 * b2 + b3 * b3) - (b1 * (a1 * b1 + a2 * b2 + a3 * b3) + b2 * (a2 * b1 + a4 * b2 + a5 * b3) + b3 * (a3 * b1 + a5 * b2 + a6 * b3)))) - 2 * ((a1 * a4 - a2 * a2 + (a1 * a6 - a3 * a3) + (a4 * a6 - a5 * a5) + c * (a1 + a4 + a6) - (b1 * b1 + b2 * b2 + b3 * b3)) * (c * (a1 * (a4 * a6 - a5 * a5) - a2 * (a2 * a6 - a3 * a5) + a3 * (a2 * a5 - a3 * a4)) - (b1 * ((a4 * a6 - a5 * a5) * b1 + (-(a2 * a6 - a3 * a5)) * b2 + (a2 * a5 - a3 * a4) * b3) + b2 * ((-(a2 * a6 - a3 * a5)) * b1 + (a1 * a6 - a3 * a3) * b2 + (-(a1 * a5 - a2 * a3)) * b3) + b3 * ((a2 * a5 - a3 * a4) * b1 + (-(a1 * a5 - a2 * a3)) * b2 + (a1 * a4 - a2 * a2) * b3)))) := by
  obtain ⟨x0, h0⟩ : ∃ x, x = (a4 * (a6 * (c) - b3 * (b3)) - a5 * (a5 * (c) - b3 * (b2)) + b2 * (a5 * (b3) - a6 * (b2))) := ⟨_, rfl⟩
  obtain ⟨x1, h1⟩ : ∃ x, x = -(a2 * (a6 * (c) - b3 * (b3)) - a5 * (a3 * (c) - b3 * (b1)) + b2 * (a3 * (b3) - a6 * (b1))) := ⟨_, rfl⟩
  obtain ⟨x2, h2⟩ : ∃ x, x = (a2 * (a5 * (c) - b3 * (b2)) - a4 * (a3 * (c) - b3 * (b1)) + b2 * (a3 * (b2) - a5 * (b1))) := ⟨_, rfl⟩
  obtain ⟨x3, h3⟩ : ∃ x, x = -(a2 * (a5 * (b3) - a6 * (b2)) - a4 * (a3 * (b3) - a6 * (b1)) + a5 * (a3 * (b2) - a5 * (b1))) := ⟨_, rfl⟩
  obtain ⟨x4, h4⟩ : ∃ x, x = (a1 * (a6 * (c) - b3 * (b3)) - a3 * (a3 * (c) - b3 * (b1)) + b1 * (a3 * (b3) - a6 * (b1))) := ⟨_, rfl⟩
  obtain ⟨x5, h5⟩ : ∃ x, x = -(a1 * (a5 * (c) - b3 * (b2)) - a2 * (a3 * (c) - b3 * (b1)) + b1 * (a3 * (b2) - a5 * (b1))) := ⟨_, rfl⟩
  obtain ⟨x6, h6⟩ : ∃ x, x = (a1 * (a5 * (b3) - a6 * (b2)) - a2 * (a3 * (b3) - a6 * (b1)) + a3 * (a3 * (b2) - a5 * (b1))) := ⟨_, rfl⟩
  obtain ⟨x7, h7⟩ : ∃ x, x = (a1 * (a4 * (c) - b2 * (b2)) - a2 * (a2 * (c) - b2 * (b1)) + b1 * (a2 * (b2) - a4 * (b1))) := ⟨_, rfl⟩
  obtain ⟨x8, h8⟩ : ∃ x, x = -(a1 * (a4 * (b3) - a5 * (b2)) - a2 * (a2 * (b3) - a5 * (b1)) + a3 * (a2 * (b2) - a4 * (b1))) := ⟨_, rfl⟩
  obtain ⟨x9, h9⟩ : ∃ x, x = (a1 * (a4 * (a6) - a5 * (a5)) - a2 * (a2 * (a6) - a5 * (a3)) + a3 * (a2 * (a5) - a4 * (a3))) := ⟨_, rfl⟩
  have id : 1 * ((a1 * (a4 * a6 - a5 * a5) - a2 * (a2 * a6 - a3 * a5) + a3 * (a2 * a5 - a3 * a4) + c * (a1 * a4 - a2 * a2 + (a1 * a6 - a3 * a3) + (a4 * a6 - a5 * a5)) - ((a1 + a4 + a6) * (b1 * b1 + b2 * b2 + b3 * b3) - (b1 * (a1 * b1 + a2 * b2 + a3 * b3) + b2 * (a2 * b1 + a4 * b2 + a5 * b3) + b3 * (a3 * b1 + a5 * b2 + a6 * b3)))) * (a1 * (a4 * a6 - a5 * a5) - a2 * (a2 * a6 - a3 * a5) + a3 * (a2 * a5 - a3 * a4) + c * (a1 * a4 - a2 * a2 + (a1 * a6 - a3 * a3) + (a4 * a6 - a5 * a5)) - ((a1 + a4 + a6) * (b1 * b1 + b2 * b2 + b3 * b3) - (b1 * (a1 * b1 + a2 * b2 + a3 * b3) + b2 * (a2 * b1 + a4 * b2 + a5 * b3) + b3 * (a3 * b1 + a5 * b2 + a6 * b3)))) - 2 * ((a1 * a4 - a2 * a2 + (a1 * a6 - a3 * a3) + (a4 * a6 - a5 * a5) + c * (a1 + a4 + a6) - (b1 * b1 + b2 * b2 + b3 * b3)) * (c * (a1 * (a4 * a6 - a5 * a5) - a2 * (a2 * a6 - a3 * a5) + a3 * (a2 * a5 - a3 * a4)) - (b1 * ((a4 * a6 - a5 * a5) * b1 + (-(a2 * a6 - a3 * a5)) * b2 + (a2 * a5 - a3 * a4) * b3) + b2 * ((-(a2 * a6 - a3 * a5)) * b1 + (a1 * a6 - a3 * a3) * b2 + (-(a1 * a5 - a2 * a3)) * b3) + b3 * ((a2 * a5 - a3 * a4) * b1 + (-(a1 * a5 - a2 * a3)) * b2 + (a1 * a4 - a2 * a2) * b3))))) = x0 * x0 + 2 * (x1 * x1) + 2 * (x2 * x2) + 2 * (x3 * x3) + x4 * x4 + 2 * (x5 * x5) + 2 * (x6 * x6) + x7 * x7 + 2 * (x8 * x8) + x9 * x9 := by
    rw [h0, h1, h2, h3, h4, h5, h6, h7, h8, h9]
    grind
  have q0 := sq_nn x0
  have q1 := sq_nn x1
  have q2 := sq_nn x2
  have q3 := sq_nn x3
  have q4 := sq_nn x4
  have q5 := sq_nn x5
  have q6 := sq_nn x6
  have q7 := sq_nn x7
  have q8 := sq_nn x8
  have q9 := sq_nn x9
  generalize (a1 * (a4 * a6 - a5 * a5) - a2 * (a2 * a6 - a3 * a5) + a3 * (a2 * a5 - a3 * a4) + c * (a1 * a4 - a2 * a2 + (a1 * a6 - a3 * a3) + (a4 * a6 - a5 * a5)) - ((a1 + a4 + a6) * (b1 * b1 + b2 * b2 + b3 * b3) - (b1 * (a1 * b1 + a2 * b2 + a3 * b3) + b2 * (a2 * b1 + a4 * b2 + a5 * b3) + b3 * (a3 * b1 + a5 * b2 + a6 * b3)))) * (a1 * (a4 * a6 - a5 * a5) - a2 * (a2 * a6 - a3 * a5) + a3 * (a2 * a5 - a3 * a4) + c * (a1 * a4 - a2 * a2 + (a1 * a6 - a3 * a3) + (a4 * a6 - a5 * a5)) - ((a1 + a4 + a6) * (b1 * b1 + b2 * b2 + b3 * b3) - (b1 * (a1 * b1 + a2 * b2 + a3 * b3) + b2 * (a2 * b1 + a4 * b2 + a5 * b3) + b3 * (a3 * b1 + a5 * b2 + a6 * b3)))) - 2 * ((a1 * a4 - a2 * a2 + (a1 * a6 - a3 * a3) + (a4 * a6 - a5 * a5) + c * (a1 + a4 + a6) - (b1 * b1 + b2 * b2 + b3 * b3)) * (c * (a1 * (a4 * a6 - a5 * a5) - a2 * (a2 * a6 - a3 * a5) + a3 * (a2 * a5 - a3 * a4)) - (b1 * ((a4 * a6 - a5 * a5) * b1 + (-(a2 * a6 - a3 * a5)) * b2 + (a2 * a5 - a3 * a4) * b3) + b2 * ((-(a2 * a6 - a3 * a5)) * b1 + (a1 * a6 - a3 * a3) * b2 + (-(a1 * a5 - a2 * a3)) * b3) + b3 * ((a2 * a5 - a3 * a4) * b1 + (-(a1 * a5 - a2 * a3)) * b2 + (a1 * a4 - a2 * a2) * b3)))) = T at *
  omega
theorem q4_A {a1 a2 a3 a4 a5 a6 b1 b2 b3 c : Int} (h : (a1 * (a4 * a6 - a5 * a5) - a2 * (a2 * a6 - a3 * a5) + a3 * (a2 * a5 - a3 * a4) + c * (a1 * a4 - a2 * a2 + (a1 * a6 - a3 * a3) + (a4 * a6 - a5 * a5)) - ((a1 + a4 + a6) * (b1 * b1 + b2 * b2 + b3 * b3) - (b1 * (a1 * b1 + a2 * b2 + a3 * b3) + b2 * (a2 * b1 + a4 * b2 + a5 * b3) + b3 * (a3 * b1 + a5 * b2 + a6 * b3)))) * (a1 * (a4 * a6 - a5 * a5) - a2 * (a2 * a6 - a3 * a5) + a3 * (a2 * a5 - a3 * a4) + c * (a1 * a4 - a2 * a2 + (a1 * a6 - a3 * a3) + (a4 * a6 - a5 * a5)) - ((a1 + a4 + a6) * (b1 * b1 + b2 * b2 + b3 * b3) - (b1 * (a1 * b1 + a2 * b2 + a3 * b3) + b2 * (a2 * b1 + a4 * b2 + a5 * b3) + b3 * (a3 * b1 + a5 * b2 + a6 * b3)))) - 2 * ((a1 * a4 - a2 * a2 + (a1 * a6 - a3 * a3) + (a4 * a6 - a5 * a5) + c * (a1 + a4 + a6) - (b1 * b1 + b2 * b2 + b3 * b3)) * (c * (a1 * (a4 * a6 - a5 * a5) - a2 * (a2 * a6 - a3 * a5) + a3 * (a2 * a5 - a3 * a4)) - (b1 * ((a4 * a6 - a5 * a5) * b1 + (-(a2 * a6 - a3 * a5)) * b2 + (a2 * a5 - a3 * a4) * b3) + b2 * ((-(a2 * a6 - a3 * a5)) * b1 + (a1 * a6 - a3 * a3) * b2 + (-(a1 * a5 - a2 * a3)) * b3) + b3 * ((a2 * a5 - a3 * a4) * b1 + (-(a1 * a5 - a2 * a3)) * b2 + (a1 * a4 - a2 * a2) * b3)))) = 0) : -(a2 * (a5 * (b3) - a6 * (b2)) - a4 * (a3 * (b3) - a6 * (b1)) + a5 * (a3 * (b2) - a5 * (b1))) = 0 ∧ (a1 * (a5 * (b3) - a6 * (b2)) - a2 * (a3 * (b3) - a6 * (b1)) + a3 * (a3 * (b2) - a5 * (b1))) = 0 ∧ -(a1 * (a4 * (b3) - a5 * (b2)) - a2 * (a2 * (b3) - a5 * (b1)) + a3 * (a2 * (b2) - a4 * (b1))) = 0 ∧ (a1 * (a4 * (a6) - a5 * (a5)) - a2 * (a2 * (a6) - a5 * (a3)) + a3 * (a2 * (a5) - a4 * (a3))) = 0 := by
  obtain ⟨x0, h0⟩ : ∃ x, x = (a4 * (a6 * (c) - b3 * (b3)) - a5 * (a5 * (c) - b3 * (b2)) + b2 * (a5 * (b3) - a6 * (b2))) := ⟨_, rfl⟩
  obtain ⟨x1, h1⟩ : ∃ x, x = -(a2 * (a6 * (c) - b3 * (b3)) - a5 * (a3 * (c) - b3 * (b1)) + b2 * (a3 * (b3) - a6 * (b1))) := ⟨_, rfl⟩
  obtain ⟨x2, h2⟩ : ∃ x, x = (a2 * (a5 * (c) - b3 * (b2)) - a4 * (a3 * (c) - b3 * (b1)) + b2 * (a3 * (b2) - a5 * (b1))) := ⟨_, rfl⟩
  obtain ⟨x3, h3⟩ : ∃ x, x = -(a2 * (a5 * (b3) - a6 * (b2)) - a4 * (a3 * (b3) - a6 * (b1)) + a5 * (a3 * (b2) - a5 * (b1))) := ⟨_, rfl⟩
  obtain ⟨x4, h4⟩ : ∃ x, x = (a1 * (a6 * (c) - b3 * (b3)) - a3 * (a3 * (c) - b3 * (b1)) + b1 * (a3 * (b3) - a6 * (b1))) := ⟨_, rfl⟩
  obtain ⟨x5, h5⟩ : ∃ x, x = -(a1 * (a5 * (c) - b3 * (b2)) - a2 * (a3 * (c) - b3 * (b1)) + b1 * (a3 * (b2) - a5 * (b1))) := ⟨_, rfl⟩
  obtain ⟨x6, h6⟩ : ∃ x, x = (a1 * (a5 * (b3) - a6 * (b2)) - a2 * (a3 * (b3) - a6 * (b1)) + a3 * (a3 * (b2) - a5 * (b1))) := ⟨_, rfl⟩
  obtain ⟨x7, h7⟩ : ∃ x, x = (a1 * (a4 * (c) - b2 * (b2)) - a2 * (a2 * (c) - b2 * (b1)) + b1 * (a2 * (b2) - a4 * (b1))) := ⟨_, rfl⟩
  obtain ⟨x8, h8⟩ : ∃ x, x = -(a1 * (a4 * (b3) - a5 * (b2)) - a2 * (a2 * (b3) - a5 * (b1)) + a3 * (a2 * (b2) - a4 * (b1))) := ⟨_, rfl⟩
  obtain ⟨x9, h9⟩ : ∃ x, x = (a1 * (a4 * (a6) - a5 * (a5)) - a2 * (a2 * (a6) - a5 * (a3)) + a3 * (a2 * (a5) - a4 * (a3))) := ⟨_, rfl⟩
  have id : x0 * x0 + 2 * (x1 * x1) + 2 * (x2 * x2) + 2 * (x3 * x3) + x4 * x4 + 2 * (x5 * x5) + 2 * (x6 * x6) + x7 * x7 + 2 * (x8 * x8) + x9 * x9 = 0 := by
    have : 1 * ((a1 * (a4 * a6 - a5 * a5) - a2 * (a2 * a6 - a3 * a5) + a3 * (a2 * a5 - a3 * a4) + c * (a1 * a4 - a2 * a2 + (a1 * a6 - a3 * a3) + (a4 * a6 - a5 * a5)) - ((a1 + a4 + a6) * (b1 * b1 + b2 * b2 + b3 * b3) - (b1 * (a1 * b1 + a2 * b2 + a3 * b3) + b2 * (a2 * b1 + a4 * b2 + a5 * b3) + b3 * (a3 * b1 + a5 * b2 + a6 * b3)))) * (a1 * (a4 * a6 - a5 * a5) - a2 * (a2 * a6 - a3 * a5) + a3 * (a2 * a5 - a3 * a4) + c * (a1 * a4 - a2 * a2 + (a1 * a6 - a3 * a3) + (a4 * a6 - a5 * a5)) - ((a1 + a4 + a6) * (b1 * b1 + b2 * b2 + b3 * b3) - (b1 * (a1 * b1 + a2 * b2 + a3 * b3) + b2 * (a2 * b1 + a4 * b2 + a5 * b3) + b3 * (a3 * b1 + a5 * b2 + a6 * b3)))) - 2 * ((a1 * a4 - a2 * a2 + (a1 * a6 - a3 * a3) + (a4 * a6 - a5 * a5) + c * (a1 + a4 + a6) - (b1 * b1 + b2 * b2 + b3 * b3)) * (c * (a1 * (a4 * a6 - a5 * a5) - a2 * (a2 * a6 - a3 * a5) + a3 * (a2 * a5 - a3 * a4)) - (b1 * ((a4 * a6 - a5 * a5) * b1 + (-(a2 * a6 - a3 * a5)) * b2 + (a2 * a5 - a3 * a4) * b3) + b2 * ((-(a2 * a6 - a3 * a5)) * b1 + (a1 * a6 - a3 * a3) * b2 + (-(a1 * a5 - a2 * a3)) * b3) + b3 * ((a2 * a5 - a3 * a4) * b1 + (-(a1 * a5 - a2 * a3)) * b2 + (a1 * a4 - a2 * a2) * b3))))) = x0 * x0 + 2 * (x1 * x1) + 2 * (x2 * x2) + 2 * (x3 * x3) + x4 * x4 + 2 * (x5 * x5) + 2 * (x6 * x6) + x7 * x7 + 2 * (x8 * x8) + x9 * x9 := by
      rw [h0, h1, h2, h3, h4, h5, h6, h7, h8, h9]
      grind
    rw [← this, h]
    rfl
  have q0 := sq_nn x0
  have q1 := sq_nn x1
  have q2 := sq_nn x2
  have q3 := sq_nn x3
  have q4 := sq_nn x4
  have q5 := sq_nn x5
  have q6 := sq_nn x6
  have q7 := sq_nn x7
  have q8 := sq_nn x8
  have q9 := sq_nn x9
  have z0 := sq_z (x := x3) (y := 0) (by omega) (Int.le_refl 0)
  have z1 := sq_z (x := x6) (y := 0) (by omega) (Int.le_refl 0)
  have z2 := sq_z (x := x8) (y := 0) (by omega) (Int.le_refl 0)
  have z3 := sq_z (x := x9) (y := 0) (by omega) (Int.le_refl 0)
  exact ⟨(by rw [← h3]; exact z0.1), (by rw [← h6]; exact z1.1), (by rw [← h8]; exact z2.1), (by rw [← h9]; exact z3.1)⟩
theorem q4_C0 (a1 a2 a3 a4 a5 a6 b1 b2 b3 c : Int) : 0 ≤ (a1 * a4 - a2 * a2 + (a1 * a6 - a3 * a3) + (a4 * a6 - a5 * a5) + c * (a1 + a4 + a6) - (b1 * b1 + b2 * b2 + b3 * b3)) * (a1 * a4 - a2 * a2 + (a1 * a6 - a3 * a3) + (a4 * a6 - a5 * a5) + c * (a1 + a4 + a6) - (b1 * b1 + b2 * b2 + b3 * b3)) - (a1 + a4 + a6 + c) * (a1 * (a4 * a6 - a5 * a5) - a2 * (a2 * a6 - a3 * a5) + a3 * (a2 * a5 - a3 * a4) + c * (a1 * a4 - a2 * a2 + (a1 * a6 - a3 * a3) + (a4 * a6 - a5 * a5)) - ((a1 + a4 + a6) * (b1 * b1 + b2 * b2 + b3 * b3) - (b1 * (a1 * b1 + a2 * b2 + a3 * b3) + b2 * (a2 * b1 + a4 * b2 + a5 * b3) + b3 * (a3 * b1 + a5 * b2 + a6 * b3)))) - 2 * (c * (a1 * (a4 * a6 - a5 * a5) - a2 * (a2 * a6 - a3 * a5) + a3 * (a2 * a5 - a3 * a4)) - (b1 * ((a4 * a6 - a5 * a5) * b1 + (-(a2 * a6 - a3 * a5)) * b2 + (a2 * a5 - a3 * a4) * b3) + b2 * ((-(a2 * a6 - a3 * a5)) * b1 + (a1 * a6 - a3 * a3) * b2 + (-(a1 * a5 - a2 * a3)) * b3) + b3 * ((a2 * a5 - a3 * a4) * b1 + (-(a1 * a5 - a2 * a3)) * b2 + (a1 * a4 - a2 * a2) * b3))) := by
  obtain ⟨x0, h0⟩ : ∃ x, x = (a1 * a4 - a2 * a2 + (a1 * a6 - a3 * a3) + (a4 * a6 - a5 * a5) + c * (a1 + a4 + a6) - (b1 * b1 + b2 * b2 + b3 * b3)) - (a1 + a4 + a6 + c) * a1 + (a1 * a1 + a2 * a2 + a3 * a3 + b1 * b1) := ⟨_, rfl⟩
  obtain ⟨x1, h1⟩ : ∃ x, x = 0 - (a1 + a4 + a6 + c) * a2 + (a1 * a2 + a2 * a4 + a3 * a5 + b1 * b2) := ⟨_, rfl⟩
  obtain ⟨x2, h2⟩ : ∃ x, x = 0 - (a1 + a4 + a6 + c) * a3 + (a1 * a3 + a2 * a5 + a3 * a6 + b1 * b3) := ⟨_, rfl⟩
  obtain ⟨x3, h3⟩ : ∃ x, x = 0 - (a1 + a4 + a6 + c) * b1 + (a1 * b1 + a2 * b2 + a3 * b3 + b1 * c) := ⟨_, rfl⟩
  obtain ⟨x4, h4⟩ : ∃ x, x = (a1 * a4 - a2 * a2 + (a1 * a6 - a3 * a3) + (a4 * a6 - a5 * a5) + c * (a1 + a4 + a6) - (b1 * b1 + b2 * b2 + b3 * b3)) - (a1 + a4 + a6 + c) * a4 + (a2 * a2 + a4 * a4 + a5 * a5 + b2 * b2) := ⟨_, rfl⟩
  obtain ⟨x5, h5⟩ : ∃ x, x = 0 - (a1 + a4 + a6 + c) * a5 + (a2 * a3 + a4 * a5 + a5 * a6 + b2 * b3) := ⟨_, rfl⟩
  obtain ⟨x6, h6⟩ : ∃ x, x = 0 - (a1 + a4 + a6 + c) * b2 + (a2 * b1 + a4 * b2 + a5 * b3 + b2 * c) := ⟨_, rfl⟩
  obtain ⟨x7, h7⟩ : ∃ x, x = (a1 * a4 - a2 * a2 + (a1 * a6 - a3 * a3) + (a4 * a6 - a5 * a5) + c * (a1 + a4 + a6) - (b1 * b1 + b2 * b2 + b3 * b3)) - (a1 + a4 + a6 + c) * a6 + (a3 * a3 + a5 * a5 + a6 * a6 + b3 * b3) := ⟨_, rfl⟩
  obtain ⟨x8, h8⟩ : ∃ x, x = 0 - (a1 + a4 + a6 + c) * b3 + (a3 * b1 + a5 * b2 + a6 * b3 + b3 * c) := ⟨_, rfl⟩
  obtain ⟨x9, h9⟩ : ∃ x, x = (a1 * a4 - a2 * a2 + (a1 * a6 - a3 * a3) + (a4 * a6 - a5 * a5) + c * (a1 + a4 + a6) - (b1 * b1 + b2 * b2 + b3 * b3)) - (a1 + a4 + a6 + c) * c + (b1 * b1 + b2 * b2 + b3 * b3 + c * c) := ⟨_, rfl⟩
  have id : 2 * ((a1 * a4 - a2 * a2 + (a1 * a6 - a3 * a3) + (a4 * a6 - a5 * a5) + c * (a1 + a4 + a6) - (b1 * b1 + b2 * b2 + b3 * b3)) * (a1 * a4 - a2 * a2 + (a1 * a6 - a3 * a3) + (a4 * a6 - a5 * a5) + c * (a1 + a4 + a6) - (b1 * b1 + b2 * b2 + b3 * b3)) - (a1 + a4 + a6 + c) * (a1 * (a4 * a6 - a5 * a5) - a2 * (a2 * a6 - a3 * a5) + a3 * (a2 * a5 - a3 * a4) + c * (a1 * a4 - a2 * a2 + (a1 * a6 - a3 * a3) + (a4 * a6 - a5 * a5)) - ((a1 + a4 + a6) * (b1 * b1 + b2 * b2 + b3 * b3) - (b1 * (a1 * b1 + a2 * b2 + a3 * b3) + b2 * (a2 * b1 + a4 * b2 + a5 * b3) + b3 * (a3 * b1 + a5 * b2 + a6 * b3)))) - 2 * (c * (a1 * (a4 * a6 - a5 * a5) - a2 * (a2 * a6 - a3 * a5) + a3 * (a2 * a5 - a3 * a4)) - (b1 * ((a4 * a6 - a5 * a5) * b1 + (-(a2 * a6 - a3 * a5)) * b2 + (a2 * a5 - a3 * a4) * b3) + b2 * ((-(a2 * a6 - a3 * a5)) * b1 + (a1 * a6 - a3 * a3) * b2 + (-(a1 * a5 - a2 * a3)) * b3) + b3 * ((a2 * a5 - a3 * a4) * b1 + (-(a1 * a5 - a2 * a3)) * b2 + (a1 * a4 - a2 * a2) * b3)))) = x0 * x0 + 2 * (x1 * x1) + 2 * (x2 * x2) + 2 * (x3 * x3) + x4 * x4 + 2 * (x5 * x5) + 2 * (x6 * x6) + x7 * x7 + 2 * (x8 * x8) + x9 * x9 := by
    rw [h0, h1, h2, h3, h4, h5, h6, h7, h8, h9]
    grind
  have q0 := sq_nn x0
  have q1 := sq_nn x1
  have q2 := sq_nn x2
  have q3 := sq_nn x3
  have q4 := sq_nn x4
  have q5 := sq_nn x5
  have q6 := sq_nn x6
  have q7 := sq_nn x7
  have q8 := sq_nn x8
  have q9 := sq_nn x9
  generalize (a1 * a4 - a2 * a2 + (a1 * a6 - a3 * a3) + (a4 * a6 - a5 * a5) + c * (a1 + a4 + a6) - (b1 * b1 + b2 * b2 + b3 * b3)) * (a1 * a4 - a2 * a2 + (a1 * a6 - a3 * a3) + (a4 * a6 - a5 * a5) + c * (a1 + a4 + a6) - (b1 * b1 + b2 * b2 + b3 * b3)) - (a1 + a4 + a6 + c) * (a1 * (a4 * a6 - a5 * a5) - a2 * (a2 * a6 - a3 * a5) + a3 * (a2 * a5 - a3 * a4) + c * (a1 * a4 - a2 * a2 + (a1 * a6 - a3 * a3) + (a4 * a6 - a5 * a5)) - ((a1 + a4 + a6) * (b1 * b1 + b2 * b2 + b3 * b3) - (b1 * (a1 * b1 + a2 * b2 + a3 * b3) + b2 * (a2 * b1 + a4 * b2 + a5 * b3) + b3 * (a3 * b1 + a5 * b2 + a6 * b3)))) - 2 * (c * (a1 * (a4 * a6 - a5 * a5) - a2 * (a2 * a6 - a3 * a5) + a3 * (a2 * a5 - a3 * a4)) - (b1 * ((a4 * a6 - a5 * a5) * b1 + (-(a2 * a6 - a3 * a5)) * b2 + (a2 * a5 - a3 * a4) * b3) + b2 * ((-(a2 * a6 - a3 * a5)) * b1 + (a1 * a6 - a3 * a3) * b2 + (-(a1 * a5 - a2 * a3)) * b3) + b3 * ((a2 * a5 - a3 * a4) * b1 + (-(a1 * a5 - a2 * a3)) * b2 + (a1 * a4 - a2 * a2) * b3))) = T at *
  omega
theorem q4_C {a1 a2 a3 a4 a5 a6 b1 b2 b3 c : Int} (h : (a1 * a4 - a2 * a2 + (a1 * a6 - a3 * a3) + (a4 * a6 - a5 * a5) + c * (a1 + a4 + a6) - (b1 * b1 + b2 * b2 + b3 * b3)) * (a1 * a4 - a2 * a2 + (a1 * a6 - a3 * a3) + (a4 * a6 - a5 * a5) + c * (a1 + a4 + a6) - (b1 * b1 + b2 * b2 + b3 * b3)) - (a1 + a4 + a6 + c) * (a1 * (a4 * a6 - a5 * a5) - a2 * (a2 * a6 - a3 * a5) + a3 * (a2 * a5 - a3 * a4) + c * (a1 * a4 - a2 * a2 + (a1 * a6 - a3 * a3) + (a4 * a6 - a5 * a5)) - ((a1 + a4 + a6) * (b1 * b1 + b2 * b2 + b3 * b3) - (b1 * (a1 * b1 + a2 * b2 + a3 * b3) + b2 * (a2 * b1 + a4 * b2 + a5 * b3) + b3 * (a3 * b1 + a5 * b2 + a6 * b3)))) - 2 * (c * (a1 * (a4 * a6 - a5 * a5) - a2 * (a2 * a6 - a3 * a5) + a3 * (a2 * a5 - a3 * a4)) - (b1 * ((a4 * a6 - a5 * a5) * b1 + (-(a2 * a6 - a3 * a5)) * b2 + (a2 * a5 - a3 * a4) * b3) + b2 * ((-(a2 * a6 - a3 * a5)) * b1 + (a1 * a6 - a3 * a3) * b2 + (-(a1 * a5 - a2 * a3)) * b3) + b3 * ((a2 * a5 - a3 * a4) * b1 + (-(a1 * a5 - a2 * a3)) * b2 + (a1 * a4 - a2 * a2) * b3))) = 0) : (a1 * a4 - a2 * a2 + (a1 * a6 - a3 * a3) + (a4 * a6 - a5 * a5) + c * (a1 + a4 + a6) - (b1 * b1 + b2 * b2 + b3 * b3)) - (a1 + a4 + a6 + c) * c + (b1 * b1 + b2 * b2 + b3 * b3 + c * c) = 0 := by
  obtain ⟨x0, h0⟩ : ∃ x, x = (a1 * a4 - a2 * a2 + (a1 * a6 - a3 * a3) + (a4 * a6 - a5 * a5) + c * (a1 + a4 + a6) - (b1 * b1 + b2 * b2 + b3 * b3)) - (a1 + a4 + a6 + c) * a1 + (a1 * a1 + a2 * a2 + a3 * a3 + b1 * b1) := ⟨_, rfl⟩
  obtain ⟨x1, h1⟩ : ∃ x, x = 0 - (a1 + a4 + a6 + c) * a2 + (a1 * a2 + a2 * a4 + a3 * a5 + b1 * b2) := ⟨_, rfl⟩
  obtain ⟨x2, h2⟩ : ∃ x, x = 0 - (a1 + a4 + a6 + c) * a3 + (a1 * a3 + a2 * a5 + a3 * a6 + b1 * b3) := ⟨_, rfl⟩
  obtain ⟨x3, h3⟩ : ∃ x, x = 0 - (a1 + a4 + a6 + c) * b1 + (a1 * b1 + a2 * b2 + a3 * b3 + b1 * c) := ⟨_, rfl⟩
  obtain ⟨x4, h4⟩ : ∃ x, x = (a1 * a4 - a2 * a2 + (a1 * a6 - a3 * a3) + (a4 * a6 - a5 * a5) + c * (a1 + a4 + a6) - (b1 * b1 + b2 * b2 + b3 * b3)) - (a1 + a4 + a6 + c) * a4 + (a2 * a2 + a4 * a4 + a5 * a5 + b2 * b2) := ⟨_, rfl⟩
  obtain ⟨x5, h5⟩ : ∃ x, x = 0 - (a1 + a4 + a6 + c) * a5 + (a2 * a3 + a4 * a5 + a5 * a6 + b2 * b3) := ⟨_, rfl⟩
  obtain ⟨x6, h6⟩ : ∃ x, x = 0 - (a1 + a4 + a6 + c) * b2 + (a2 * b1 + a4 * b2 + a5 * b3 + b2 * c) := ⟨_, rfl⟩
  obtain ⟨x7, h7⟩ : ∃ x, x = (a1 * a4 - a2 * a2 + (a1 * a6 - a3 * a3) + (a4 * a6 - a5 * a5) + c * (a1 + a4 + a6) - (b1 * b1 + b2 * b2 + b3 * b3)) - (a1 + a4 + a6 + c) * a6 + (a3 * a3 + a5 * a5 + a6 * a6 + b3 * b3) := ⟨_, rfl⟩
  obtain ⟨x8, h8⟩ : ∃ x, x = 0 - (a1 + a4 + a6 + c) * b3 + (a3 * b1 + a5 * b2 + a6 * b3 + b3 * c) := ⟨_, rfl⟩
  obtain ⟨x9, h9⟩ : ∃ x, x = (a1 * a4 - a2 * a2 + (a1 * a6 - a3 * a3) + (a4 * a6 - a5 * a5) + c * (a1 + a4 + a6) - (b1 * b1 + b2 * b2 + b3 * b3)) - (a1 + a4 + a6 + c) * c + (b1 * b1 + b2 * b2 + b3 * b3 + c * c) := ⟨_, rfl⟩
  have id : x0 * x0 + 2 * (x1 * x1) + 2 * (x2 * x2) + 2 * (x3 * x3) + x4 * x4 + 2 * (x5 * x5) + 2 * (x6 * x6) + x7 * x7 + 2 * (x8 * x8) + x9 * x9 = 0 := by
    have : 2 * ((a1 * a4 - a2 * a2 + (a1 * a6 - a3 * a3) + (a4 * a6 - a5 * a5) + c * (a1 + a4 + a6) - (b1 * b1 + b2 * b2 + b3 * b3)) * (a1 * a4 - a2 * a2 + (a1 * a6 - a3 * a3) + (a4 * a6 - a5 * a5) + c * (a1 + a4 + a6) - (b1 * b1 + b2 * b2 + b3 * b3)) - (a1 + a4 + a6 + c) * (a1 * (a4 * a6 - a5 * a5) - a2 * (a2 * a6 - a3 * a5) + a3 * (a2 * a5 - a3 * a4) + c * (a1 * a4 - a2 * a2 + (a1 * a6 - a3 * a3) + (a4 * a6 - a5 * a5)) - ((a1 + a4 + a6) * (b1 * b1 + b2 * b2 + b3 * b3) - (b1 * (a1 * b1 + a2 * b2 + a3 * b3) + b2 * (a2 * b1 + a4 * b2 + a5 * b3) + b3 * (a3 * b1 + a5 * b2 + a6 * b3)))) - 2 * (c * (a1 * (a4 * a6 - a5 * a5) - a2 * (a2 * a6 - a3 * a5) + a3 * (a2 * a5 - a3 * a4)) - (b1 * ((a4 * a6 - a5 * a5) * b1 + (-(a2 * a6 - a3 * a5)) * b2 + (a2 * a5 - a3 * a4) * b3) + b2 * ((-(a2 * a6 - a3 * a5)) * b1 + (a1 * a6 - a3 * a3) * b2 + (-(a1 * a5 - a2 * a3)) * b3) + b3 * ((a2 * a5 - a3 * a4) * b1 + (-(a1 * a5 - a2 * a3)) * b2 + (a1 * a4 - a2 * a2) * b3)))) = x0 * x0 + 2 * (x1 * x1) + 2 * (x2 * x2) + 2 * (x3 * x3) + x4 * x4 + 2 * (x5 * x5) + 2 * (x6 * x6) + x7 * x7 + 2 * (x8 * x8) + x9 * x9 := by
      rw [h0, h1, h2, h3, h4, h5, h6, h7, h8, h9]
      grind
    rw [← this, h]
    rfl
  have q0 := sq_nn x0
  have q1 := sq_nn x1
  have q2 := sq_nn x2
  have q3 := sq_nn x3
  have q4 := sq_nn x4
  have q5 := sq_nn x5
  have q6 := sq_nn x6
  have q7 := sq_nn x7
  have q8 := sq_nn x8
  have q9 := sq_nn x9
  have z0 := sq_z (x := x9) (y := 0) (by omega) (Int.le_refl 0)
  exact (by rw [← h9]; exact z0.1)
theorem q4_M0 (a1 a2 a3 a4 a5 a6 b1 b2 b3 c : Int) : 0 ≤ (a1 * a4 - a2 * a2 + (a1 * a6 - a3 * a3) + (a4 * a6 - a5 * a5) + c * (a1 + a4 + a6) - (b1 * b1 + b2 * b2 + b3 * b3)) * (a1 * a4 - a2 * a2 + (a1 * a6 - a3 * a3) + (a4 * a6 - a5 * a5) + c * (a1 + a4 + a6) - (b1 * b1 + b2 * b2 + b3 * b3)) - 2 * ((a1 + a4 + a6 + c) * (a1 * (a4 * a6 - a5 * a5) - a2 * (a2 * a6 - a3 * a5) + a3 * (a2 * a5 - a3 * a4) + c * (a1 * a4 - a2 * a2 + (a1 * a6 - a3 * a3) + (a4 * a6 - a5 * a5)) - ((a1 + a4 + a6) * (b1 * b1 + b2 * b2 + b3 * b3) - (b1 * (a1 * b1 + a2 * b2 + a3 * b3) + b2 * (a2 * b1 + a4 * b2 + a5 * b3) + b3 * (a3 * b1 + a5 * b2 + a6 * b3))))) + 2 * (c * (a1 * (a4 * a6 - a5 * a5) - a2 * (a2 * a6 - a3 * a5) + a3 * (a2 * a5 - a3 * a4)) - (b1 * ((a4 * a6 - a5 * a5) * b1 + (-(a2 * a6 - a3 * a5)) * b2 + (a2 * a5 - a3 * a4) * b3) + b2 * ((-(a2 * a6 - a3 * a5)) * b1 + (a1 * a6 - a3 * a3) * b2 + (-(a1 * a5 - a2 * a3)) * b3) + b3 * ((a2 * a5 - a3 * a4) * b1 + (-(a1 * a5 - a2 * a3)) * b2 + (a1 * a4 - a2 * a2) * b3))) := by
  obtain ⟨x0, h0⟩ : ∃ x, x = a1 * a4 - a2 * a2 := ⟨_, rfl⟩
  obtain ⟨x1, h1⟩ : ∃ x, x = a1 * a5 - a3 * a2 := ⟨_, rfl⟩
  obtain ⟨x2, h2⟩ : ∃ x, x = a1 * b2 - b1 * a2 := ⟨_, rfl⟩
  obtain ⟨x3, h3⟩ : ∃ x, x = a2 * a5 - a3 * a4 := ⟨_, rfl⟩
  obtain ⟨x4, h4⟩ : ∃ x, x = a2 * b2 - b1 * a4 := ⟨_, rfl⟩
  obtain ⟨x5, h5⟩ : ∃ x, x = a3 * b2 - b1 * a5 := ⟨_, rfl⟩
  obtain ⟨x6, h6⟩ : ∃ x, x = a1 * a6 - a3 * a3 := ⟨_, rfl⟩
  obtain ⟨x7, h7⟩ : ∃ x, x = a1 * b3 - b1 * a3 := ⟨_, rfl⟩
  obtain ⟨x8, h8⟩ : ∃ x, x = a2 * a6 - a3 * a5 := ⟨_, rfl⟩
  obtain ⟨x9, h9⟩ : ∃ x, x = a2 * b3 - b1 * a5 := ⟨_, rfl⟩
  obtain ⟨x10, h10⟩ : ∃ x, x = a3 * b3 - b1 * a6 := ⟨_, rfl⟩
  obtain ⟨x11, h11⟩ : ∃ x, x = a1 * c - b1 * b1 := ⟨_, rfl⟩
  obtain ⟨x12, h12⟩ : ∃ x, x = a2 * b3 - a3 * b2 := ⟨_, rfl⟩
  obtain ⟨x13, h13⟩ : ∃ x, x = a2 * c - b1 * b2 := ⟨_, rfl⟩
  obtain ⟨x14, h14⟩ : ∃ x, x = a3 * c - b1 * b3 := ⟨_, rfl⟩
  obtain ⟨x15, h15⟩ : ∃ x, x = a4 * a6 - a5 * a5 := ⟨_, rfl⟩
  obtain ⟨x16, h16⟩ : ∃ x, x = a4 * b3 - b2 * a5 := ⟨_, rfl⟩
  obtain ⟨x17, h17⟩ : ∃ x, x = a5 * b3 - b2 * a6 := ⟨_, rfl⟩
  obtain ⟨x18, h18⟩ : ∃ x, x = a4 * c - b2 * b2 := ⟨_, rfl⟩
  obtain ⟨x19, h19⟩ : ∃ x, x = a5 * c - b2 * b3 := ⟨_, rfl⟩
  obtain ⟨x20, h20⟩ : ∃ x, x = a6 * c - b3 * b3 := ⟨_, rfl⟩
  have id : 1 * ((a1 * a4 - a2 * a2 + (a1 * a6 - a3 * a3) + (a4 * a6 - a5 * a5) + c * (a1 + a4 + a6) - (b1 * b1 + b2 * b2 + b3 * b3)) * (a1 * a4 - a2 * a2 + (a1 * a6 - a3 * a3) + (a4 * a6 - a5 * a5) + c * (a1 + a4 + a6) - (b1 * b1 + b2 * b2 + b3 * b3)) - 2 * ((a1 + a4 + a6 + c) * (a1 * (a4 * a6 - a5 * a5) - a2 * (a2 * a6 - a3 * a5) + a3 * (a2 * a5 - a3 * a4) + c * (a1 * a4 - a2 * a2 + (a1 * a6 - a3 * a3) + (a4 * a6 - a5 * a5)) - ((a1 + a4 + a6) * (b1 * b1 + b2 * b2 + b3 * b3) - (b1 * (a1 * b1 + a2 * b2 + a3 * b3) + b2 * (a2 * b1 + a4 * b2 + a5 * b3) + b3 * (a3 * b1 + a5 * b2 + a6 * b3))))) + 2 * (c * (a1 * (a4 * a6 - a5 * a5) - a2 * (a2 * a6 - a3 * a5) + a3 * (a2 * a5 - a3 * a4)) - (b1 * ((a4 * a6 - a5 * a5) * b1 + (-(a2 * a6 - a3 * a5)) * b2 + (a2 * a5 - a3 * a4) * b3) + b2 * ((-(a2 * a6 - a3 * a5)) * b1 + (a1 * a6 - a3 * a3) * b2 + (-(a1 * a5 - a2 * a3)) * b3) + b3 * ((a2 * a5 - a3 * a4) * b1 + (-(a1 * a5 - a2 * a3)) * b2 + (a1 * a4 - a2 * a2) * b3)))) = x0 * x0 + 2 * (x1 * x1) + 2 * (x2 * x2) + 2 * (x3 * x3) + 2 * (x4 * x4) + 2 * (x5 * x5) + x6 * x6 + 2 * (x7 * x7) + 2 * (x8 * x8) + 2 * (x9 * x9) + 2 * (x10 * x10) + x11 * x11 + 2 * (x12 * x12) + 2 * (x13 * x13) + 2 * (x14 * x14) + x15 * x15 + 2 * (x16 * x16) + 2 * (x17 * x17) + x18 * x18 + 2 * (x19 * x19) + x20 * x20 := by
    rw [h0, h1, h2, h3, h4, h5, h6, h7, h8, h9, h10, h11, h12, h13, h14, h15, h16, h17, h18, h19, h20]
    grind
  have q0 := sq_nn x0
  have q1 := sq_nn x1
  have q2 := sq_nn x2
  have q3 := sq_nn x3
  have q4 := sq_nn x4
  have q5 := sq_nn x5
  have q6 := sq_nn x6
  have q7 := sq_nn x7
  have q8 := sq_nn x8
  have q9 := sq_nn x9
  have q10 := sq_nn x10
  have q11 := sq_nn x11
  have q12 := sq_nn x12
  have q13 := sq_nn x13
  have q14 := sq_nn x14
  have q15 := sq_nn x15
  have q16 := sq_nn x16
  have q17 := sq_nn x17
  have q18 := sq_nn x18
  have q19 := sq_nn x19
  have q20 := sq_nn x20
  generalize (a1 * a4 - a2 * a2 + (a1 * a6 - a3 * a3) + (a4 * a6 - a5 * a5) + c * (a1 + a4 + a6) - (b1 * b1 + b2 * b2 + b3 * b3)) * (a1 * a4 - a2 * a2 + (a1 * a6 - a3 * a3) + (a4 * a6 - a5 * a5) + c * (a1 + a4 + a6) - (b1 * b1 + b2 * b2 + b3 * b3)) - 2 * ((a1 + a4 + a6 + c) * (a1 * (a4 * a6 - a5 * a5) - a2 * (a2 * a6 - a3 * a5) + a3 * (a2 * a5 - a3 * a4) + c * (a1 * a4 - a2 * a2 + (a1 * a6 - a3 * a3) + (a4 * a6 - a5 * a5)) - ((a1 + a4 + a6) * (b1 * b1 + b2 * b2 + b3 * b3) - (b1 * (a1 * b1 + a2 * b2 + a3 * b3) + b2 * (a2 * b1 + a4 * b2 + a5 * b3) + b3 * (a3 * b1 + a5 * b2 + a6 * b3))))) + 2 * (c * (a1 * (a4 * a6 - a5 * a5) - a2 * (a2 * a6 - a3 * a5) + a3 * (a2 * a5 - a3 * a4)) - (b1 * ((a4 * a6 - a5 * a5) * b1 + (-(a2 * a6 - a3 * a5)) * b2 + (a2 * a5 - a3 * a4) * b3) + b2 * ((-(a2 * a6 - a3 * a5)) * b1 + (a1 * a6 - a3 * a3) * b2 + (-(a1 * a5 - a2 * a3)) * b3) + b3 * ((a2 * a5 - a3 * a4) * b1 + (-(a1 * a5 - a2 * a3)) * b2 + (a1 * a4 - a2 * a2) * b3))) = T at *
  omega
theorem q3_P1 (a1 a2 a4 b1 b2 c : Int) : 0 ≤ (a1 + a4 + c) * (a1 + a4) - (a1 * a4 - a2 * a2 + c * (a1 + a4) - (b1 * b1 + b2 * b2)) := by
  obtain ⟨x0, h0⟩ : ∃ x, x = a1 + a4 := ⟨_, rfl⟩
  obtain ⟨x1, h1⟩ : ∃ x, x = a1 := ⟨_, rfl⟩
  obtain ⟨x2, h2⟩ : ∃ x, x = a2 := ⟨_, rfl⟩
  obtain ⟨x3, h3⟩ : ∃ x, x = a4 := ⟨_, rfl⟩
  obtain ⟨x4, h4⟩ : ∃ x, x = b1 := ⟨_, rfl⟩
  obtain ⟨x5, h5⟩ : ∃ x, x = b2 := ⟨_, rfl⟩
  have id : 2 * ((a1 + a4 + c) * (a1 + a4) - (a1 * a4 - a2 * a2 + c * (a1 + a4) - (b1 * b1 + b2 * b2))) = x0 * x0 + x1 * x1 + 2 * (x2 * x2) + x3 * x3 + 2 * (x4 * x4) + 2 * (x5 * x5) := by
    rw [h0, h1, h2, h3, h4, h5]
    grind
  have q0 := sq_nn x0
  have q1 := sq_nn x1
  have q2 := sq_nn x2
  have q3 := sq_nn x3
  have q4 := sq_nn x4
  have q5 := sq_nn x5
  generalize (a1 + a4 + c) * (a1 + a4) - (a1 * a4 - a2 * a2 + c * (a1 + a4) - (b1 * b1 + b2 * b2)) = T at *
  omega
theorem q3_P2 (a1 a2 a4 b1 b2 c : Int) : 0 ≤ (a1 * a4 - a2 * a2 + c * (a1 + a4) - (b1 * b1 + b2 * b2)) * (a1 * a4 - a2 * a2) - (c * (a1 * a4 - a2 * a2) - (b1 * (a4 * b1 - a2 * b2) + b2 * (a1 * b2 - a2 * b1))) * (a1 + a4) := by
  obtain ⟨x0, h0⟩ : ∃ x, x = a1 * a4 - a2 * a2 := ⟨_, rfl⟩
  obtain ⟨x1, h1⟩ : ∃ x, x = a4 * b1 - a2 * b2 := ⟨_, rfl⟩
  obtain ⟨x2, h2⟩ : ∃ x, x = a1 * b2 - a2 * b1 := ⟨_, rfl⟩
  have id : 1 * ((a1 * a4 - a2 * a2 + c * (a1 + a4) - (b1 * b1 + b2 * b2)) * (a1 * a4 - a2 * a2) - (c * (a1 * a4 - a2 * a2) - (b1 * (a4 * b1 - a2 * b2) + b2 * (a1 * b2 - a2 * b1))) * (a1 + a4)) = x0 * x0 + x1 * x1 + x2 * x2 := by
    rw [h0, h1, h2]
    grind
  have q0 := sq_nn x0
  have q1 := sq_nn x1
  have q2 := sq_nn x2
  generalize (a1 * a4 - a2 * a2 + c * (a1 + a4) - (b1 * b1 + b2 * b2)) * (a1 * a4 - a2 * a2) - (c * (a1 * a4 - a2 * a2) - (b1 * (a4 * b1 - a2 * b2) + b2 * (a1 * b2 - a2 * b1))) * (a1 + a4) = T at *
  omega
theorem q3_F0 (a1 a2 a4 b1 b2 c : Int) : 0 ≤ (a1 + a4 + c) * (a1 + a4 + c) - 2 * (a1 * a4 - a2 * a2 + c * (a1 + a4) - (b1 * b1 + b2 * b2)) := by
  obtain ⟨x0, h0⟩ : ∃ x, x = a1 := ⟨_, rfl⟩
  obtain ⟨x1, h1⟩ : ∃ x, x = a2 := ⟨_, rfl⟩
  obtain ⟨x2, h2⟩ : ∃ x, x = b1 := ⟨_, rfl⟩
  obtain ⟨x3, h3⟩ : ∃ x, x = a4 := ⟨_, rfl⟩
  obtain ⟨x4, h4⟩ : ∃ x, x = b2 := ⟨_, rfl⟩
  obtain ⟨x5, h5⟩ : ∃ x, x = c := ⟨_, rfl⟩
  have id : 1 * ((a1 + a4 + c) * (a1 + a4 + c) - 2 * (a1 * a4 - a2 * a2 + c * (a1 + a4) - (b1 * b1 + b2 * b2))) = x0 * x0 + 2 * (x1 * x1) + 2 * (x2 * x2) + x3 * x3 + 2 * (x4 * x4) + x5 * x5 := by
    rw [h0, h1, h2, h3, h4, h5]
    grind
  have q0 := sq_nn x0
  have q1 := sq_nn x1
  have q2 := sq_nn x2
  have q3 := sq_nn x3
  have q4 := sq_nn x4
  have q5 := sq_nn x5
  generalize (a1 + a4 + c) * (a1 + a4 + c) - 2 * (a1 * a4 - a2 * a2 + c * (a1 + a4) - (b1 * b1 + b2 * b2)) = T at *
  omega
theorem q3_F {a1 a2 a4 b1 b2 c : Int} (h : (a1 + a4 + c) * (a1 + a4 + c) - 2 * (a1 * a4 - a2 * a2 + c * (a1 + a4) - (b1 * b1 + b2 * b2)) = 0) : a1 = 0 ∧ a2 = 0 ∧ a4 = 0 ∧ b1 = 0 ∧ b2 = 0 ∧ c = 0 := by
  obtain ⟨x0, h0⟩ : ∃ x, x = a1 := ⟨_, rfl⟩
  obtain ⟨x1, h1⟩ : ∃ x, x = a2 := ⟨_, rfl⟩
  obtain ⟨x2, h2⟩ : ∃ x, x = b1 := ⟨_, rfl⟩
  obtain ⟨x3, h3⟩ : ∃ x, x = a4 := ⟨_, rfl⟩
  obtain ⟨x4, h4⟩ : ∃ x, x = b2 := ⟨_, rfl⟩
  obtain ⟨x5, h5⟩ : ∃ x, x = c := ⟨_, rfl⟩
  have id : x0 * x0 + 2 * (x1 * x1) + 2 * (x2 * x2) + x3 * x3 + 2 * (x4 * x4) + x5 * x5 = 0 := by
    have : 1 * ((a1 + a4 + c) * (a1 + a4 + c) - 2 * (a1 * a4 - a2 * a2 + c * (a1 + a4) - (b1 * b1 + b2 * b2))) = x0 * x0 + 2 * (x1 * x1) + 2 * (x2 * x2) + x3 * x3 + 2 * (x4 * x4) + x5 * x5 := by
      rw [h0, h1, h2, h3, h4, h5]
      grind
    rw [← this, h]
    rfl
  have q0 := sq_nn x0
  have q1 := sq_nn x1
  have q2 := sq_nn x2
  have q3 := sq_nn x3
  have q4 := sq_nn x4
  have q5 := sq_nn x5
  have z0 := sq_z (x := x0) (y := 0) (by omega) (Int.le_refl 0)
  have z1 := sq_z (x := x1) (y := 0) (by omega) (Int.le_refl 0)
  have z2 := sq_z (x := x3) (y := 0) (by omega) (Int.le_refl 0)
  have z3 := sq_z (x := x2) (y := 0) (by omega) (Int.le_refl 0)
  have z4 := sq_z (x := x4) (y := 0) (by omega) (Int.le_refl 0)
  have z5 := sq_z (x := x5) (y := 0) (by omega) (Int.le_refl 0)
  exact ⟨(by rw [← h0]; exact z0.1), (by rw [← h1]; exact z1.1), (by rw [← h3]; exact z2.1), (by rw [← h2]; exact z3.1), (by rw [← h4]; exact z4.1), (by rw [← h5]; exact z5.1)⟩
theorem q3_A0 (a1 a2 a4 b1 b2 c : Int) : 0 ≤ (a1 * a4 - a2 * a2 + c * (a1 + a4) - (b1 * b1 + b2 * b2)) * (a1 * a4 - a2 * a2 + c * (a1 + a4) - (b1 * b1 + b2 * b2)) - 2 * ((a1 + a4 + c) * (c * (a1 * a4 - a2 * a2) - (b1 * (a4 * b1 - a2 * b2) + b2 * (a1 * b2 - a2 * b1)))) := by
  obtain ⟨x0, h0⟩ : ∃ x, x = (a4 * (c) - b2 * (b2)) := ⟨_, rfl⟩
  obtain ⟨x1, h1⟩ : ∃ x, x = -(a2 * (c) - b2 * (b1)) := ⟨_, rfl⟩
  obtain ⟨x2, h2⟩ : ∃ x, x = (a2 * (b2) - a4 * (b1)) := ⟨_, rfl⟩
  obtain ⟨x3, h3⟩ : ∃ x, x = (a1 * (c) - b1 * (b1)) := ⟨_, rfl⟩
  obtain ⟨x4, h4⟩ : ∃ x, x = -(a1 * (b2) - a2 * (b1)) := ⟨_, rfl⟩
  obtain ⟨x5, h5⟩ : ∃ x, x = (a1 * (a4) - a2 * (a2)) := ⟨_, rfl⟩
  have id : 1 * ((a1 * a4 - a2 * a2 + c * (a1 + a4) - (b1 * b1 + b2 * b2)) * (a1 * a4 - a2 * a2 + c * (a1 + a4) - (b1 * b1 + b2 * b2)) - 2 * ((a1 + a4 + c) * (c * (a1 * a4 - a2 * a2) - (b1 * (a4 * b1 - a2 * b2) + b2 * (a1 * b2 - a2 * b1))))) = x0 * x0 + 2 * (x1 * x1) + 2 * (x2 * x2) + x3 * x3 + 2 * (x4 * x4) + x5 * x5 := by
    rw [h0, h1, h2, h3, h4, h5]
    grind
  have q0 := sq_nn x0
  have q1 := sq_nn x1
  have q2 := sq_nn x2
  have q3 := sq_nn x3
  have q4 := sq_nn x4
  have q5 := sq_nn x5
  generalize (a1 * a4 - a2 * a2 + c * (a1 + a4) - (b1 * b1 + b2 * b2)) * (a1 * a4 - a2 * a2 + c * (a1 + a4) - (b1 * b1 + b2 * b2)) - 2 * ((a1 + a4 + c) * (c * (a1 * a4 - a2 * a2) - (b1 * (a4 * b1 - a2 * b2) + b2 * (a1 * b2 - a2 * b1)))) = T at *
  omega
theorem q3_A {a1 a2 a4 b1 b2 c : Int} (h : (a1 * a4 - a2 * a2 + c * (a1 + a4) - (b1 * b1 + b2 * b2)) * (a1 * a4 - a2 * a2 + c * (a1 + a4) - (b1 * b1 + b2 * b2)) - 2 * ((a1 + a4 + c) * (c * (a1 * a4 - a2 * a2) - (b1 * (a4 * b1 - a2 * b2) + b2 * (a1 * b2 - a2 * b1)))) = 0) : (a1 * (a4) - a2 * (a2)) = 0 := by
  obtain ⟨x0, h0⟩ : ∃ x, x = (a4 * (c) - b2 * (b2)) := ⟨_, rfl⟩
  obtain ⟨x1, h1⟩ : ∃ x, x = -(a2 * (c) - b2 * (b1)) := ⟨_, rfl⟩
  obtain ⟨x2, h2⟩ : ∃ x, x = (a2 * (b2) - a4 * (b1)) := ⟨_, rfl⟩
  obtain ⟨x3, h3⟩ : ∃ x, x = (a1 * (c) - b1 * (b1)) := ⟨_, rfl⟩
  obtain ⟨x4, h4⟩ : ∃ x, x = -(a1 * (b2) - a2 * (b1)) := ⟨_, rfl⟩
  obtain ⟨x5, h5⟩ : ∃ x, x = (a1 * (a4) - a2 * (a2)) := ⟨_, rfl⟩
  have id : x0 * x0 + 2 * (x1 * x1) + 2 * (x2 * x2) + x3 * x3 + 2 * (x4 * x4) + x5 * x5 = 0 := by
    have : 1 * ((a1 * a4 - a2 * a2 + c * (a1 + a4) - (b1 * b1 + b2 * b2)) * (a1 * a4 - a2 * a2 + c * (a1 + a4) - (b1 * b1 + b2 * b2)) - 2 * ((a1 + a4 + c) * (c * (a1 * a4 - a2 * a2) - (b1 * (a4 * b1 - a2 * b2) + b2 * (a1 * b2 - a2 * b1))))) = x0 * x0 + 2 * (x1 * x1) + 2 * (x2 * x2) + x3 * x3 + 2 * (x4 * x4) + x5 * x5 := by
      rw [h0, h1, h2, h3, h4, h5]
      grind
    rw [← this, h]
    rfl
  have q0 := sq_nn x0
  have q1 := sq_nn x1
  have q2 := sq_nn x2
  have q3 := sq_nn x3
  have q4 := sq_nn x4
  have q5 := sq_nn x5
  have z0 := sq_z (x := x5) (y := 0) (by omega) (Int.le_refl 0)
  exact (by rw [← h5]; exact z0.1)
theorem q2_P1 (a1 b1 c : Int) : 0 ≤ (a1 + c) * a1 - (a1 * c - b1 * b1) := by
  obtain ⟨x0, h0⟩ : ∃ x, x = a1 := ⟨_, rfl⟩
  obtain ⟨x1, h1⟩ : ∃ x, x = b1 := ⟨_, rfl⟩
  have id : 1 * ((a1 + c) * a1 - (a1 * c - b1 * b1)) = x0 * x0 + x1 * x1 := by
    rw [h0, h1]
    grind
  have q0 := sq_nn x0
  have q1 := sq_nn x1
  generalize (a1 + c) * a1 - (a1 * c - b1 * b1) = T at *
  omega
theorem q2_F {a1 b1 c : Int} (h : (a1 + c) * (a1 + c) - 2 * (a1 * c - b1 * b1) = 0) : a1 = 0 ∧ b1 = 0 ∧ c = 0 := by
  obtain ⟨x0, h0⟩ : ∃ x, x = a1 := ⟨_, rfl⟩
  obtain ⟨x1, h1⟩ : ∃ x, x = b1 := ⟨_, rfl⟩
  obtain ⟨x2, h2⟩ : ∃ x, x = c := ⟨_, rfl⟩
  have id : x0 * x0 + 2 * (x1 * x1) + x2 * x2 = 0 := by
    have : 1 * ((a1 + c) * (a1 + c) - 2 * (a1 * c - b1 * b1)) = x0 * x0 + 2 * (x1 * x1) + x2 * x2 := by
      rw [h0, h1, h2]
      grind
    rw [← this, h]
    rfl
  have q0 := sq_nn x0
  have q1 := sq_nn x1
  have q2 := sq_nn x2
  have z0 := sq_z (x := x0) (y := 0) (by omega) (Int.le_refl 0)
  have z1 := sq_z (x := x1) (y := 0) (by omega) (Int.le_refl 0)
  have z2 := sq_z (x := x2) (y := 0) (by omega) (Int.le_refl 0)
  exact ⟨(by rw [← h0]; exact z0.1), (by rw [← h1]; exact z1.1), (by rw [← h2]; exact z2.1)⟩
theorem q2_F0 (a1 b1 c : Int) : 0 ≤ (a1 + c) * (a1 + c) - 2 * (a1 * c - b1 * b1) := by
  obtain ⟨x0, h0⟩ : ∃ x, x = a1 := ⟨_, rfl⟩
  obtain ⟨x1, h1⟩ : ∃ x, x = b1 := ⟨_, rfl⟩
  obtain ⟨x2, h2⟩ : ∃ x, x = c := ⟨_, rfl⟩
  have id : 1 * ((a1 + c) * (a1 + c) - 2 * (a1 * c - b1 * b1)) = x0 * x0 + 2 * (x1 * x1) + x2 * x2 := by
    rw [h0, h1, h2]
    grind
  have q0 := sq_nn x0
  have q1 := sq_nn x1
  have q2 := sq_nn x2
  generalize (a1 + c) * (a1 + c) - 2 * (a1 * c - b1 * b1) = T at *
  omega
theorem q3_S {a1 a2 a3 a4 a5 a6 : Int} (h : (a1 + a4 + a6) * (a1 + a4 + a6) - 2 * (a1 * a4 - a2 * a2 + (a1 * a6 - a3 * a3) + (a4 * a6 - a5 * a5)) = 0) : a1 = 0 ∧ a2 = 0 ∧ a3 = 0 ∧ a4 = 0 ∧ a5 = 0 ∧ a6 = 0 := by
  obtain ⟨x0, h0⟩ : ∃ x, x = a1 := ⟨_, rfl⟩
  obtain ⟨x1, h1⟩ : ∃ x, x = a2 := ⟨_, rfl⟩
  obtain ⟨x2, h2⟩ : ∃ x, x = a3 := ⟨_, rfl⟩
  obtain ⟨x3, h3⟩ : ∃ x, x = a4 := ⟨_, rfl⟩
  obtain ⟨x4, h4⟩ : ∃ x, x = a5 := ⟨_, rfl⟩
  obtain ⟨x5, h5⟩ : ∃ x, x = a6 := ⟨_, rfl⟩
  have id : x0 * x0 + 2 * (x1 * x1) + 2 * (x2 * x2) + x3 * x3 + 2 * (x4 * x4) + x5 * x5 = 0 := by
    have : 1 * ((a1 + a4 + a6) * (a1 + a4 + a6) - 2 * (a1 * a4 - a2 * a2 + (a1 * a6 - a3 * a3) + (a4 * a6 - a5 * a5))) = x0 * x0 + 2 * (x1 * x1) + 2 * (x2 * x2) + x3 * x3 + 2 * (x4 * x4) + x5 * x5 := by
      rw [h0, h1, h2, h3, h4, h5]
      grind
    rw [← this, h]
    rfl
  have q0 := sq_nn x0
  have q1 := sq_nn x1
  have q2 := sq_nn x2
  have q3 := sq_nn x3
  have q4 := sq_nn x4
  have q5 := sq_nn x5
  have z0 := sq_z (x := x0) (y := 0) (by omega) (Int.le_refl 0)
  have z1 := sq_z (x := x1) (y := 0) (by omega) (Int.le_refl 0)
  have z2 := sq_z (x := x2) (y := 0) (by omega) (Int.le_refl 0)
  have z3 := sq_z (x := x3) (y := 0) (by omega) (Int.le_refl 0)
  have z4 := sq_z (x := x4) (y := 0) (by omega) (Int.le_refl 0)
  have z5 := sq_z (x := x5) (y := 0) (by omega) (Int.le_refl 0)
  exact ⟨(by rw [← h0]; exact z0.1), (by rw [← h1]; exact z1.1), (by rw [← h2]; exact z2.1), (by rw [← h3]; exact z3.1), (by rw [← h4]; exact z4.1), (by rw [← h5]; exact z5.1)⟩
