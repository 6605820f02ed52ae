/-! The room of squares, from the sizes of the form alone. -/
theorem zAbs_dv (x : Int) {m : Int} (h : 1 ≤ m) : zAbs (x / m) ≤ zAbs x := by
  have h1 : m * (x / m) + x % m = x := Int.mul_ediv_add_emod x m
  have h2 := Int.emod_nonneg x (b := m) (by omega)
  have h3 := Int.emod_lt_of_pos x (b := m) (by omega)
  obtain ⟨q, hq⟩ : ∃ q, x / m = q := ⟨_, rfl⟩
  obtain ⟨r, hr⟩ : ∃ r, x % m = r := ⟨_, rfl⟩
  rw [hq, hr] at h1
  rw [hr] at h2 h3
  rw [hq]
  unfold zAbs
  rcases Int.lt_or_le q 0 with a | a
  · have : m * q ≤ 1 * q := Int.mul_le_mul_of_nonpos_right h (by omega)
    have h5 : m * q = m * (q + 1) - m := by grind
    have h6 : m * (q + 1) ≤ 1 * (q + 1) := Int.mul_le_mul_of_nonpos_right h (by omega)
    rw [if_pos a, if_pos (by omega)]
    omega
  · have : 1 * q ≤ m * q := Int.mul_le_mul_of_nonneg_right h a
    rw [if_neg (by omega), if_neg (by omega)]
    omega
theorem zAbs_ng (x : Int) : zAbs (-x) = zAbs x := by
  unfold zAbs
  split <;> split <;> omega
theorem zAbs_0 (x : Int) : 0 ≤ zAbs x := by
  unfold zAbs
  split <;> omega
theorem sq_b {n : Nat} {f : mT} {V : Int} (hn : n ≤ 6) (hV : 1 ≤ V) (h : mB n f V) : ∀ k : Nat, mB n (sqP n f (k + 1)).1 ((42 * V) ^ k) ∧ zAbs (sqP n f k).2 ≤ (42 * V) ^ k
  | 0 => by
    rw [Int.pow_zero]
    refine ⟨fun i j hi hj => ?_, show zAbs 1 ≤ 1 by decide⟩
    rw [sq_p1]
    split
    · exact (show zAbs 1 ≤ 1 by decide)
    · exact (show zAbs 0 ≤ 1 by decide)
  | k + 1 => by
    obtain ⟨h1, h2⟩ := sq_b hn hV h k
    have hp : 0 ≤ (42 * V) ^ k := by
      have := Int.pow_pos (n := 42 * V) (m := k) (by omega)
      omega
    obtain ⟨b, hb⟩ : ∃ b, (42 * V) ^ k = b := ⟨_, rfl⟩
    rw [hb] at h1 h2 hp
    have h3 := mM_b hn (by omega) hp h h1
    have h4 : zAbs (sqP n f (k + 1)).2 ≤ 36 * (V * b) := by
      rw [sqP_2]
      refine Int.le_trans (zAbs_dv _ (by omega)) ?_
      rw [zAbs_ng]
      refine Int.le_trans (dS_b (W := 6 * (V * b)) fun i hi => h3 i i hi hi) ?_
      have : 0 ≤ V * b := Int.mul_nonneg (by omega) hp
      have : (n : Int) * (6 * (V * b)) ≤ 6 * (6 * (V * b)) := Int.mul_le_mul_of_nonneg_right (by omega) (by omega)
      omega
    have h5 : (42 * V) ^ (k + 1) = 42 * (V * b) := by
      rw [Int.pow_succ, hb]
      grind
    have h6 : 0 ≤ V * b := Int.mul_nonneg (by omega) hp
    rw [h5]
    refine ⟨fun i j hi hj => ?_, by omega⟩
    rw [sqP_1]
    refine Int.le_trans (zAbs_tri _ _) ?_
    have h7 := h3 i j hi hj
    have h8 : zAbs (if i = j then (sqP n f (k + 1)).2 else 0) ≤ 36 * (V * b) := by
      split
      · exact h4
      · exact Int.le_trans (show zAbs 0 ≤ 0 by decide) (by omega)
    omega
theorem sq_1 {V : Int} (hV : 1 ≤ V) : ∀ m : Nat, 1 ≤ (42 * V) ^ m := fun m => by
  have := Int.pow_pos (n := 42 * V) (m := m) (by omega)
  omega
theorem sq_up {V : Int} (hV : 1 ≤ V) {k : Nat} : ∀ d : Nat, (42 * V) ^ k ≤ (42 * V) ^ (k + d)
  | 0 => Int.le_refl _
  | d + 1 => by
    refine Int.le_trans (sq_up hV d) ?_
    rw [show k + (d + 1) = (k + d) + 1 from rfl, Int.pow_succ]
    have h := sq_1 hV (k + d)
    have := Int.mul_le_mul_of_nonneg_left (a := 1) (b := 42 * V) (c := (42 * V) ^ (k + d)) (by omega) (by omega)
    omega
/-- squares has room -/
theorem sqM_h {n : Nat} {f : mT} {V : Int} (hn : n ≤ 4) (hV : 1 ≤ V) (h : mB n f V) (hB : 36 * (V * (42 * V) ^ (n - 1)) < bB ^ 598) : sqM n f V ((42 * V) ^ (n - 1)) := by
  refine ⟨hV, sq_1 hV _, h, fun k hk => ?_, fun k hk => ?_, sq_d f hn, hB⟩
  · match k, hk with
    | 0, _ =>
      intro i j _ _
      exact Int.le_trans (show zAbs 0 ≤ 0 by decide) (by have := sq_1 hV (n - 1); omega)
    | k + 1, hk =>
      intro i j hi hj
      refine Int.le_trans ((sq_b (by omega) hV h k).1 i j hi hj) ?_
      have := sq_up hV (k := k) (n - 1 - k)
      rw [show k + (n - 1 - k) = n - 1 by omega] at this
      exact this
  · refine Int.le_trans (sq_b (by omega) hV h k).2 ?_
    have := sq_up hV (k := k) (n - 1 - k)
    rw [show k + (n - 1 - k) = n - 1 by omega] at this
    exact this
theorem uPw_b {n : Nat} {H : mT} {H0 : Int} (hn : n ≤ 6) (h0 : 1 ≤ H0) (h : mB n H H0) : ∀ e, e < 3 → mB n (uPw n H e) (36 * (H0 * H0)) := by
  have hq : 1 * H0 ≤ H0 * H0 := Int.mul_le_mul_of_nonneg_right h0 (by omega)
  have h1 : mB n (uPw n H 1) (6 * (H0 * 1)) := mM_b hn (by omega) (by omega) h (mI_b n)
  have h2 : mB n (uPw n H 2) (6 * (H0 * (6 * (H0 * 1)))) := mM_b hn (by omega) (by omega) h h1
  have e2 : 6 * (H0 * (6 * (H0 * 1))) = 36 * (H0 * H0) := by grind
  intro e he i j hi hj
  match e, he with
  | 0, _ => exact Int.le_trans (mI_b n i j hi hj) (by omega)
  | 1, _ => exact Int.le_trans (h1 i j hi hj) (by omega)
  | 2, _ => exact Int.le_trans (h2 i j hi hj) (by omega)
theorem fT_b {n : Nat} {U : mT} {Mi : Nat → mT} {W0 M0 : Int} (hn : n ≤ 6) (h0 : 0 ≤ W0) (h1 : 0 ≤ M0) (h : mB n U W0) (hM : ∀ i, i < n → mB n (Mi i) M0) : mB n (fT n U Mi) (216 * (W0 * M0 * M0)) := by
  intro i j hi hj
  have a := mM_b hn h0 h1 h (hM i hi)
  have hp : 0 ≤ W0 * M0 := Int.mul_nonneg h0 h1
  have b := mM_b hn (by omega) h1 a (hM j hj)
  have hq : 0 ≤ W0 * M0 * M0 := Int.mul_nonneg hp h1
  have e : 6 * (6 * (W0 * M0) * M0) = 36 * (W0 * M0 * M0) := by grind
  rw [e] at b
  refine Int.le_trans (dS_b (W := 36 * (W0 * M0 * M0)) fun k hk => b k k hk hk) ?_
  have : (n : Int) * (36 * (W0 * M0 * M0)) ≤ 6 * (36 * (W0 * M0 * M0)) := Int.mul_le_mul_of_nonneg_right (by omega) (by omega)
  omega
/-- forms has room -/
theorem fRm_h {n : Nat} {H : mT} {Mi : Nat → mT} {H0 M0 V : Int} (hn : n ≤ 4) (h0 : 1 ≤ H0) (h1 : 1 ≤ M0) (h : mB n H H0) (hM : ∀ i, i < n → mB n (Mi i) M0) (hV : V = 216 * (36 * (H0 * H0) * M0 * M0)) (hH : 6 * (H0 * (36 * (H0 * H0))) < bB ^ 598) (hB : 36 * (V * (42 * V) ^ (n - 1)) < bB ^ 598) : fRm n H Mi H0 (36 * (H0 * H0)) M0 := by
  have hq : 1 * H0 ≤ H0 * H0 := Int.mul_le_mul_of_nonneg_right h0 (by omega)
  obtain ⟨W0, hW⟩ : ∃ W0, 36 * (H0 * H0) = W0 := ⟨_, rfl⟩
  have hu := uPw_b (by omega) h0 h
  rw [hW] at hV hH hu ⊢
  have hw : 1 ≤ W0 := by omega
  have g1 : 1 * M0 ≤ W0 * M0 := Int.mul_le_mul_of_nonneg_right hw (by omega)
  have g2 : (W0 * M0) * 1 ≤ (W0 * M0) * M0 := Int.mul_le_mul_of_nonneg_left h1 (by omega)
  have v1 : 1 ≤ V := by omega
  have g3 : V * 1 ≤ V * (42 * V) ^ (n - 1) := Int.mul_le_mul_of_nonneg_left (sq_1 v1 _) (by omega)
  have e : 36 * (6 * (W0 * M0) * M0) = V := by rw [hV]; grind
  refine ⟨by omega, by omega, by omega, h, hu, hM, hH, by omega, by rw [e]; omega, fun k hk => ⟨V, _, sqM_h hn v1 ?_ hB⟩⟩
  rw [hV]
  exact fT_b (by omega) (by omega) (by omega) (hu k hk) hM
