/-! The rooms of tables and forms together, from one bound 2 ^ u on the tables of x and y. -/
theorem tRm_D {hs s st q : Int → Int} {n : Nat} {Δ U : Int} (t : tRm hs s st q n Δ U) : 0 < dnF hs s st n ∧ dnF hs s st n ≤ U := by
  obtain ⟨a, b, c, -⟩ := t
  obtain ⟨h1, h2, -⟩ := dnF_h a
  exact ⟨h1, Int.le_trans (Int.le_of_dvd b h2) c⟩
theorem rm_h {hs s st q : Int → Int} {n d : Nat} {Δ U V M0 : Int} (hn : n ≤ 4) (hst : ∀ j : Nat, j < n → 0 ≤ st j ∧ st j < 6) (hd : ∀ j : Nat, j < n → mD (st j) ≤ d) (hd2 : d ≤ 2) (t : tRm hs s st q n Δ U) (hM : M0 = (6 * U) ^ d) (hV : V = 216 * (36 * (1080 * (U * U) * (1080 * (U * U))) * M0 * M0)) (hH : 6 * (1080 * (U * U) * (36 * (1080 * (U * U) * (1080 * (U * U))))) < bB ^ 598) (hB : 36 * (V * (42 * V) ^ (n - 1)) < bB ^ 598) : ∃ H0 W0 M0, fRm n (hT n (xT hs s st (dnF hs s st n) 0) (xT hs s st (dnF hs s st n) 1) (dnF hs s st n) q 6) (fun i => pQ n (xT hs s st (dnF hs s st n) 0) (xT hs s st (dnF hs s st n) 1) (mX (st i)).toNat (mD (st i)).toNat) H0 W0 M0 := by
  have hD := tRm_D t
  obtain ⟨-, -, -, hU, hX, hY, hq, -⟩ := t
  have u1 : 1 * U ≤ U * U := Int.mul_le_mul_of_nonneg_right hU (by omega)
  have hm : 1 ≤ M0 := by
    have := Int.pow_pos (n := 6 * U) (m := d) (by omega)
    omega
  refine ⟨_, _, M0, fRm_h hn (by omega) hm ?_ (fun i hi => ?_) hV hH hB⟩
  · have h := hT_B (n := n) (X := xT hs s st (dnF hs s st n) 0) (Y := xT hs s st (dnF hs s st n) 1) (D := dnF hs s st n) (W := 180 * (U * U)) (q := q) (by omega) (fun k hk => (hT_b (by omega) hU hX hY hD hq k hk).2) 6 (by omega)
    intro i j hi hj
    have g := h i j hi hj
    have e : ((6 : Nat) : Int) * (180 * (U * U)) = 1080 * (U * U) := by omega
    rw [e] at g
    exact g
  · obtain ⟨p0, p1, p2⟩ := pQ_b (a := (mX (st i)).toNat) (show n ≤ 6 by omega) hU hX hY
    have h1 := hd i hi
    have h2 := mD_6 (hst i hi)
    have up : ∀ e : Nat, e ≤ d → (6 * U) ^ e ≤ M0 := fun e he => by
      rw [hM]
      obtain ⟨c, rfl⟩ : ∃ c, d = e + c := ⟨d - e, by omega⟩
      clear hM hm hd hd2 h1 he
      induction c with
      | zero => exact Int.le_refl _
      | succ c ih =>
        refine Int.le_trans ih ?_
        rw [show e + (c + 1) = (e + c) + 1 from rfl, Int.pow_succ]
        have hp := Int.pow_pos (n := 6 * U) (m := e + c) (by omega)
        have := Int.mul_le_mul_of_nonneg_left (a := 1) (b := 6 * U) (c := (6 * U) ^ (e + c)) (by omega) (by omega)
        omega
    obtain ⟨k, hk⟩ : ∃ k, (mD (st i)).toNat = k := ⟨_, rfl⟩
    rw [hk]
    have hk2 : k ≤ d ∧ k ≤ 2 := by omega
    intro a b ha hb
    match k, hk2 with
    | 0, h => exact Int.le_trans (p0 a b ha hb) hm
    | 1, h =>
      refine Int.le_trans (p1 a b ha hb) ?_
      have := up 1 h.1
      rw [show (6 * U) ^ 1 = 6 * U from Int.pow_one _] at this
      exact this
    | 2, h =>
      refine Int.le_trans (p2 a b ha hb) ?_
      have := up 2 h.1
      rw [show (6 * U) ^ 2 = 36 * (U * U) by grind] at this
      exact this
    | k + 3, h => omega
theorem two_a (a b : Nat) : (2 : Int) ^ (a + b) = 2 ^ a * 2 ^ b := Int.pow_add _ _ _
theorem pw_le {a b : Int} (h0 : 0 ≤ a) (h : a ≤ b) : ∀ k : Nat, 0 ≤ a ^ k ∧ a ^ k ≤ b ^ k
  | 0 => by
    rw [Int.pow_zero, Int.pow_zero]
    decide
  | k + 1 => by
    obtain ⟨h1, h2⟩ := pw_le h0 h k
    rw [Int.pow_succ, Int.pow_succ]
    exact ⟨Int.mul_nonneg h1 h0, Int.mul_le_mul h2 h h0 (by omega)⟩
theorem two_m {a b : Nat} (h : a < b) : (2 : Int) ^ a < 2 ^ b := by
  have h1 : (2 : Nat) ^ a < 2 ^ b := Nat.pow_lt_pow_right (by decide) h
  have h2 : ((2 ^ a : Nat) : Int) < ((2 ^ b : Nat) : Int) := by omega
  rw [Int.natCast_pow, Int.natCast_pow] at h2
  exact h2
theorem two_pow (a : Nat) : ∀ k : Nat, ((2 : Int) ^ a) ^ k = 2 ^ (a * k)
  | 0 => rfl
  | k + 1 => by
    rw [Int.pow_succ, two_pow a k, ← two_a]
    rfl
theorem bB_p : bB ^ 598 = 2 ^ 16744 := by
  rw [show bB = (2 : Int) ^ 28 from rfl, two_pow]
/-- one bound on the tables serves -/
theorem rm_u {hs s st q : Int → Int} {n d u : Nat} {Δ : Int} (hn : n ≤ 4) (hst : ∀ j : Nat, j < n → 0 ≤ st j ∧ st j < 6) (hd : ∀ j : Nat, j < n → mD (st j) ≤ d) (hd2 : d ≤ 2) (t : tRm hs s st q n Δ (2 ^ u)) (hu : (n - 1 + 1) * (41 + 4 * u + 2 * (d * (u + 3))) < 16744) (hu2 : 41 + 6 * u < 16744) : ∃ H0 W0 M0, fRm n (hT n (xT hs s st (dnF hs s st n) 0) (xT hs s st (dnF hs s st n) 1) (dnF hs s st n) q 6) (fun i => pQ n (xT hs s st (dnF hs s st n) 0) (xT hs s st (dnF hs s st n) 1) (mX (st i)).toNat (mD (st i)).toNat) H0 W0 M0 := by
  obtain ⟨U, hU⟩ : ∃ U : Int, 2 ^ u = U := ⟨_, rfl⟩
  have u0 : 0 < U := hU ▸ Int.pow_pos (by decide)
  obtain ⟨M0, hM⟩ : ∃ M0, M0 = (6 * U) ^ d := ⟨_, rfl⟩
  have m0 : 0 ≤ M0 ∧ M0 ≤ 2 ^ (d * (u + 3)) := by
    have h := pw_le (a := 6 * U) (b := 8 * U) (by omega) (by omega) d
    rw [hM]
    refine ⟨h.1, Int.le_trans h.2 ?_⟩
    rw [show 8 * U = 2 ^ (u + 3) by rw [two_a, hU]; omega, two_pow, Nat.mul_comm]
    exact Int.le_refl _
  obtain ⟨Q, hQ⟩ : ∃ Q, U * U = Q := ⟨_, rfl⟩
  have q0 : Q = 2 ^ (u + u) := by rw [two_a, hU, hQ]
  have q1 : 0 ≤ Q := hQ ▸ Int.mul_nonneg (by omega) (by omega)
  have r0 : Q * Q = 2 ^ (4 * u) := by rw [q0, ← two_a]; congr 1; omega
  have r1 : 0 ≤ Q * Q := Int.mul_nonneg q1 q1
  have r2 : Q * Q * Q = 2 ^ (6 * u) := by rw [r0, q0, ← two_a]; congr 1; omega
  obtain ⟨V, hV⟩ : ∃ V, V = 216 * (36 * (1080 * (U * U) * (1080 * (U * U))) * M0 * M0) := ⟨_, rfl⟩
  have hV2 : V = 9069926400 * (Q * Q * (M0 * M0)) := by rw [hV, hQ]; grind
  have mm := Int.mul_le_mul m0.2 m0.2 m0.1 (Int.le_trans m0.1 m0.2)
  have mz := Int.mul_nonneg m0.1 m0.1
  have v1 := Int.mul_le_mul_of_nonneg_left mm r1
  have v2 := Int.mul_nonneg r1 mz
  rw [← two_a, r0, ← two_a] at v1
  have v3 : V ≤ 2 ^ (35 + (4 * u + (d * (u + 3) + d * (u + 3)))) := by
    rw [hV2, two_a 35, r0]
    rw [r0] at v2
    have : (2 : Int) ^ 35 = 34359738368 := by decide
    rw [this]
    omega
  refine rm_h hn hst hd hd2 (hU ▸ t) hM hV ?_ ?_
  · rw [hQ, bB_p, show 6 * (1080 * Q * (36 * (1080 * Q * (1080 * Q)))) = 272097792000 * (Q * Q * Q) by grind, r2]
    have h := two_m (a := 38 + 6 * u) (b := 16744) (by omega)
    rw [two_a] at h
    have : (2 : Int) ^ 38 = 274877906944 := by decide
    rw [this] at h
    have := Int.pow_pos (n := 2) (m := 6 * u) (by decide)
    omega
  · have w0 : 0 ≤ V := by rw [hV2]; omega
    obtain ⟨k, hk⟩ : ∃ k, n - 1 = k := ⟨_, rfl⟩
    rw [hk] at hu ⊢
    have p1 := pw_le (a := 42 * V) (b := 64 * V) (by omega) (by omega) k
    have p2 := Int.mul_le_mul_of_nonneg_left p1.2 w0
    have p3 : 64 * (V * (64 * V) ^ k) = (64 * V) ^ (k + 1) := by rw [Int.pow_succ]; grind
    have p4 := pw_le (a := 64 * V) (b := 2 ^ 6 * 2 ^ (35 + (4 * u + (d * (u + 3) + d * (u + 3))))) (by omega) (by
      have : (2 : Int) ^ 6 = 64 := by decide
      rw [this]
      omega) (k + 1)
    rw [← two_a, two_pow] at p4
    have p5 := two_m (a := (6 + (35 + (4 * u + (d * (u + 3) + d * (u + 3))))) * (k + 1)) (b := 16744) (by
      rw [Nat.mul_comm]
      refine Nat.lt_of_le_of_lt (Nat.le_of_eq ?_) hu
      congr 1
      omega)
    rw [bB_p]
    have p6 : 0 ≤ V * (42 * V) ^ k := Int.mul_nonneg w0 p1.1
    omega
