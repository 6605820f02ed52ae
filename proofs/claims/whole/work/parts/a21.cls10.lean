/-! The desk: divide. -/
theorem uA_c (A : Nat → Int → Int) {k j : Nat} (f g : Int → Int) (h : j ≠ k) : uA (uA A k f) j g = uA (uA A j g) k f := by
  funext t
  unfold uA
  by_cases e1 : t = j
  · by_cases e2 : t = k
    · exact absurd (e1.symm.trans e2) h
    · rw [if_pos e1, if_neg e2, if_pos e1]
  · by_cases e2 : t = k
    · rw [if_neg e1, if_pos e2, if_pos e2]
    · rw [if_neg e1, if_neg e2, if_neg e2, if_neg e1]
/-- the guess is right or one too much -/
theorem kn_1 {g U Y T P us ys W3 : Int} (hU : U = W3 * P + us) (hY : Y = T * P + ys) (u0 : 0 ≤ us) (y0 : 0 ≤ ys) (y1 : ys < P) (u1 : us < P) (hlt : U < 2147483648 * Y) (hT : 2147483648 ≤ T) (g0 : 0 ≤ g) (g1 : g < 2147483648) (h1 : g * T ≤ W3) (h2 : g = 2147483647 ∨ W3 < (g + 1) * T) (U0 : 0 ≤ U) : (g - 1) * Y ≤ U ∧ U < (g + 1) * Y := by
  have P0 : 0 < P := by omega
  have Y0 : 0 ≤ Y := by
    have := Int.mul_nonneg (show 0 ≤ T by omega) (show 0 ≤ P by omega)
    omega
  refine ⟨?_, ?_⟩
  · rcases Int.lt_or_le 0 g with q | q
    · have a1 := Int.mul_le_mul_of_nonneg_left (show ys ≤ P by omega) (show 0 ≤ g - 1 by omega)
      have a2 := Int.mul_le_mul_of_nonneg_right h1 (show 0 ≤ P by omega)
      have a3 := Int.mul_nonneg (show 0 ≤ T - (g - 1) by omega) (show 0 ≤ P by omega)
      have e : (g - 1) * Y = g * T * P - T * P + (g - 1) * ys := by rw [hY]; grind
      have e3 : (T - (g - 1)) * P = T * P - (g - 1) * P := by grind
      rw [e, hU]
      omega
    · have : g = 0 := by omega
      subst this
      have e : (0 - 1) * Y = -Y := by omega
      rw [e]
      omega
  · rcases h2 with q | q
    · rw [q]
      show U < 2147483648 * Y
      exact hlt
    · have a2 := Int.mul_le_mul_of_nonneg_right (show W3 + 1 ≤ (g + 1) * T by omega) (show 0 ≤ P by omega)
      have a4 := Int.mul_nonneg (show 0 ≤ g + 1 by omega) y0
      have e : (g + 1) * Y = (g + 1) * T * P + (g + 1) * ys := by rw [hY]; grind
      rw [Int.add_mul, Int.one_mul] at a2
      rw [e, hU]
      omega
/-- the digits at the top -/
theorem vL_3 (x : Int → Int) (l : Nat) : vL x (l + 2 + 1) = ((x ((l : Int) + 2) * 2147483648 + x ((l : Int) + 1)) * 2147483648 + x l) * cB ^ l + vL x l := by
  have e1 : vL x (l + 2 + 1) = vL x l + x l * cB ^ l + x ((l + 1 : Nat) : Int) * cB ^ (l + 1) + x ((l + 2 : Nat) : Int) * cB ^ (l + 2) := rfl
  have e2 : cB ^ (l + 1) = cB ^ l * 2147483648 := cB_succ l
  have e3 : cB ^ (l + 2) = cB ^ l * 2147483648 * 2147483648 := by rw [cB_succ, e2]
  rw [e1, e2, e3, show ((l + 1 : Nat) : Int) = (l : Int) + 1 by omega, show ((l + 2 : Nat) : Int) = (l : Int) + 2 by omega]
  grind
theorem vL_2 (x : Int → Int) (l : Nat) : vL x (l + 2) = (x ((l : Int) + 1) * 2147483648 + x l) * cB ^ l + vL x l := by
  have e1 : vL x (l + 2) = vL x l + x l * cB ^ l + x ((l + 1 : Nat) : Int) * cB ^ (l + 1) := rfl
  have e2 : cB ^ (l + 1) = cB ^ l * 2147483648 := cB_succ l
  rw [e1, e2, show ((l + 1 : Nat) : Int) = (l : Int) + 1 by omega]
  grind
theorem sf_r {f : Int → Int} {a n N : Nat} (h : ∀ t : Nat, t ≤ N → 0 ≤ f t ∧ f t < 2147483648) (hn : a + n ≤ N + 1) : lR (sf f a) n := fun k hk => by
  have := h (a + k) (by omega)
  rw [show ((a + k : Nat) : Int) = (a : Int) + k by omega] at this
  exact this
/-- one digit of the quotient: what stands before and behind -/
def kN (fs u q : Int → Int) (N L m i : Nat) (Z Y : Int) : Prop := u 80 = N ∧ u 81 = 1 ∧ q 80 = m ∧ q 81 = 1 ∧ (∀ t : Nat, t ≤ N → 0 ≤ u t ∧ u t < 2147483648) ∧ vL (sf u i) L < Y ∧ Z = vL u i + cB ^ i * (vL (sf u i) L + Y * vL (sf q i) (m - i)) ∧ ∀ t : Nat, i ≤ t → t < m → 0 ≤ q t ∧ q t < 2147483648
/-- what the guess needs, and what comes of it -/
theorem kn_g {fs u q : Int → Int} {N L m i : Nat} {Z Y : Int} (hN : N < 80) (hm : m + L = N + 1) (hi : i < m) (h2 : 2 ≤ L) (hs : lR fs L) (hY : vL fs L = Y) (ht : 1073741824 ≤ fs ((L : Int) - 1)) (h : kN fs u q N L m (i + 1) Z Y) : (0 ≤ u ((i : Int) + L) ∧ u ((i : Int) + L) ≤ fs ((L : Int) - 1)) ∧ vL (sf u i) (L + 1) < 2147483648 * Y ∧ 0 ≤ vL (sf u i) (L + 1) ∧
    ∀ g : Int, 0 ≤ g → g < 2147483648 → g * (fs ((L : Int) - 1) * 2147483648 + fs ((L : Int) - 2)) ≤ (u ((i : Int) + L) * 2147483648 + u ((i : Int) + L - 1)) * 2147483648 + u ((i : Int) + L - 2) → (g = 2147483647 ∨ (u ((i : Int) + L) * 2147483648 + u ((i : Int) + L - 1)) * 2147483648 + u ((i : Int) + L - 2) < (g + 1) * (fs ((L : Int) - 1) * 2147483648 + fs ((L : Int) - 2))) → (g - 1) * Y ≤ vL (sf u i) (L + 1) ∧ vL (sf u i) (L + 1) < (g + 1) * Y := by
  obtain ⟨u80, u81, q80, q81, ur, hR, hZ, qr⟩ := h
  obtain ⟨l, rfl⟩ : ∃ l, L = l + 2 := ⟨L - 2, by omega⟩
  have lu := sf_r (a := i) (n := l + 2 + 1) ur (by omega)
  have lu1 := sf_r (a := i + 1) (n := l + 2) ur (by omega)
  have eU := vL_3 (sf u i) l
  have eY := vL_2 fs l
  have n0 := vL_nn (lu.sub (show l ≤ l + 2 + 1 by omega))
  have n1 := vL_lt (lu.sub (show l ≤ l + 2 + 1 by omega))
  have s0 := vL_nn (hs.sub (show l ≤ l + 2 by omega))
  have s1 := vL_lt (hs.sub (show l ≤ l + 2 by omega))
  have U0 := vL_nn lu
  have r0 := ur i (by omega)
  have eS := vL_sf u i (l + 2)
  have U1 : vL (sf u i) (l + 2 + 1) < 2147483648 * Y := by
    rw [eS]
    show u i + vL (sf u (i + 1)) (l + 2) * 2147483648 < _
    omega
  have f1 := hs (l + 1) (by omega)
  have f0 := hs l (by omega)
  have ec1 : ((l + 1 : Nat) : Int) = (l : Int) + 1 := by omega
  rw [ec1] at f1
  have g1 : (((l + 2 : Nat) : Int)) - 1 = (l : Int) + 1 := by omega
  have g2 : (((l + 2 : Nat) : Int)) - 2 = (l : Int) := by omega
  have g3 : (i : Int) + ((l + 2 : Nat) : Int) = (i : Int) + ((l : Int) + 2) := by omega
  have g4 : (i : Int) + ((l + 2 : Nat) : Int) - 1 = (i : Int) + ((l : Int) + 1) := by omega
  have g5 : (i : Int) + ((l + 2 : Nat) : Int) - 2 = (i : Int) + (l : Int) := by omega
  rw [g1, g2, g4, g5, g3]
  rw [g1] at ht
  have eu : ∀ x : Int, sf u i x = u ((i : Int) + x) := fun x => rfl
  rw [eu, eu, eu] at eU
  have ut := ur (i + l + 2) (by omega)
  rw [show ((i + l + 2 : Nat) : Int) = (i : Int) + ((l : Int) + 2) by omega] at ut
  refine ⟨⟨ut.1, ?_⟩, U1, U0, fun g a b c d => ?_⟩
  · -- the top digit
    rcases Int.lt_or_le (fs ((l : Int) + 1)) (u ((i : Int) + ((l : Int) + 2))) with q | q
    · exfalso
      have e1 : vL (sf u (i + 1)) (l + 1 + 1) = vL (sf u (i + 1)) (l + 1) + u ((i : Int) + ((l : Int) + 2)) * cB ^ (l + 1) := by
        show vL (sf u (i + 1)) (l + 1) + sf u (i + 1) ((l + 1 : Nat) : Int) * cB ^ (l + 1) = _
        rw [sf_e, show ((i + 1 : Nat) : Int) + ((l + 1 : Nat) : Int) = (i : Int) + ((l : Int) + 2) by omega]
      have e2 := vL_nn (lu1.sub (show l + 1 ≤ l + 2 by omega))
      have e3 := vL_lt (hs.sub (show l + 1 ≤ l + 2 by omega))
      have e4 : vL fs (l + 1 + 1) = vL fs (l + 1) + fs ((l : Int) + 1) * cB ^ (l + 1) := by
        show vL fs (l + 1) + fs ((l + 1 : Nat) : Int) * cB ^ (l + 1) = _
        rw [ec1]
      have e5 := Int.mul_le_mul_of_nonneg_right (show fs ((l : Int) + 1) + 1 ≤ u ((i : Int) + ((l : Int) + 2)) by omega) (Int.le_of_lt (cB_pos (l + 1)))
      rw [Int.add_mul, Int.one_mul] at e5
      have e6 : vL (sf u (i + 1)) (l + 1 + 1) = vL (sf u (i + 1)) (l + 2) := rfl
      have e7 : vL fs (l + 1 + 1) = vL fs (l + 2) := rfl
      omega
    · exact q
  · exact kn_1 eU (hY ▸ eY) n0 s0 s1 n1 U1 (by have : 0 ≤ fs l ∧ fs l < 2147483648 := f0; omega) a b c d U0
/-- a digit of the quotient and what is left -/
theorem kn_s {fs u q : Int → Int} {N L m i : Nat} {Z Y : Int} (hm : m + L = N + 1) (hi : i < m) (hY0 : 0 < Y) (hYL : Y < cB ^ L) (h : kN fs u q N L m (i + 1) Z Y) {f : Int → Int} {g : Int} (g0 : 0 ≤ g) (g1 : g < 2147483648) (hf : ∀ t : Int, (t < i ∨ (i : Int) + L ≤ t) → f t = u t) (hr : ∀ t : Nat, i ≤ t → t < i + L → 0 ≤ f t ∧ f t < 2147483648) (hv : vL (sf f i) L = vL (sf u i) (L + 1) - g * Y) (hlt : vL (sf f i) L < Y) (hN : N < 80) : kN fs f (uI q i g) N L m i Z Y := by
  obtain ⟨u80, u81, q80, q81, ur, hR, hZ, qr⟩ := h
  refine ⟨by rw [hf 80 (by omega)]; exact u80, by rw [hf 81 (by omega)]; exact u81, by rw [uI_n _ _ (by omega)]; exact q80, by rw [uI_n _ _ (by omega)]; exact q81, fun t htn => ?_, hlt, ?_, fun t t0 t1 => ?_⟩
  · rcases Nat.lt_or_ge t i with a | a
    · rw [hf t (by omega)]; exact ur t htn
    · rcases Nat.lt_or_ge t (i + L) with b | b
      · exact hr t a b
      · rw [hf t (by omega)]; exact ur t htn
  · have e1 : vL f i = vL u i := vL_cong (fun t ht => hf t (by omega))
    have e2 : vL u (i + 1) = vL u i + u i * cB ^ i := rfl
    have e3 := vL_sf u i L
    have e4 : vL (sf (uI q i g) i) (m - i) = g + vL (sf q (i + 1)) (m - (i + 1)) * cB := by
      rw [show m - i = (m - (i + 1)) + 1 by omega, vL_sf, uI_s, sfU]
    rw [e1, e4, hv, e3, hZ, e2, cB_succ]
    generalize vL (sf u (i + 1)) L = R at *
    generalize vL (sf q (i + 1)) (m - (i + 1)) = Q at *
    generalize vL u i = V at *
    generalize u i = X at *
    generalize cB ^ i = P at *
    show V + X * P + P * 2147483648 * (R + Y * Q) = V + P * (X + R * 2147483648 - g * Y + Y * (g + Q * 2147483648))
    grind
  · rcases Nat.lt_or_ge i t with a | a
    · rw [uI_n _ _ (by omega)]; exact qr t (by omega) t1
    · rw [show t = i by omega, uI_s]; exact ⟨g0, g1⟩
