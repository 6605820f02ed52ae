/-! Fractions: table, form, remainder, coefficient keep the relation, with the same answers. -/
theorem pw_1 (x : Int) : x ^ 1 = x := by rw [Int.pow_succ, Int.pow_zero, Int.one_mul]
theorem pw_2 (x : Int) : x ^ 2 = x * x := by rw [Int.pow_succ, pw_1]
theorem pw_m {D : Int} (h : 1 ≤ D) (a : Nat) : ∀ d : Nat, D ^ a ≤ D ^ (a + d)
  | 0 => Int.le_refl _
  | d + 1 => by
    have ih := pw_m h a d
    have p : 0 ≤ D ^ (a + d) := Int.le_of_lt (Int.pow_pos (by omega))
    have := Int.mul_le_mul_of_nonneg_left h p
    rw [show a + (d + 1) = (a + d) + 1 by omega, Int.pow_succ]
    omega
theorem pw_g {D : Int} (h : 0 < D) (a : Nat) : 1 ≤ D ^ a := by
  have : 0 < D ^ a := Int.pow_pos h
  omega
theorem zle_x {x y : Int} (h : 1 ≤ x) : zAbs y ≤ zAbs (x * y) := by
  rw [zAbs_x, zAbs_nn (show 0 ≤ x by omega)]
  have := Int.mul_le_mul_of_nonneg_right h (zAbs_p y)
  omega
theorem cf_nt (k : Int) (h : 0 ≤ k) : ((k.toNat : Nat) : Int) = k := by omega
section
variable {M1 M2 : eM} {o x1 x2 x3 x4 : Int}
theorem yc_12 (h : Syn M1 M2) (w1 : w32 x1) (w2 : w32 x2) (w3 : w32 x3) (w4 : w32 x4) : SX9_table [eR (0, 0), eI x1, eI x2, eI x3, eI x4] M1 (fun r M1' => ∃ v, r = some (eL v) ∧ SX10_table [eR (0, 0), eI x1, eI x2, eI x3, eI x4] M2 (fun r2 M2' => r2 = some (eL v) ∧ Syn M1' M2')) := by
  obtain ⟨F, A, W, F', A', V, s, rfl, rfl, hV, hr, hN, hT⟩ := h
  obtain ⟨⟨-, -, s1, s2, -, -, -, -, -, -, -, -, -, h19, -, -, ⟨n, hn, n4⟩, -⟩, -, -, hA⟩ := id hT
  have w : w32 (F 1) := w32_s (by omega) (by omega)
  have w' : w32 (F' 10) := by rw [← s1]; exact w
  have fi : cFin F' → F 1 = 0 ∨ F 1 = 1 := fun g => by rw [s1]; exact g
  have if' : F 1 = 0 ∨ F 1 = 1 → cFin F' := fun g => by unfold cFin; rw [← s1]; exact g
  refine SX9_table_i hV w hn n4 w1 w2 w3 w4 (fun g q hq => ?_) ⟨fun g => ⟨-1, rfl, F', A', s, x1, x2, x3, x4, rfl, rfl, hr, w', w1, w2, w3, w4, h19, fun _ => ⟨rfl, SI_12 hV 0 hr hN hT⟩, fun g1 g2 g3 => absurd ?_ g⟩, fun g W' hV' => ⟨_, rfl, F', A', s, x1, x2, x3, x4, rfl, rfl, hr, w', w1, w2, w3, w4, h19, fun q => absurd ?_ q, fun q q0 q1 => ?_⟩⟩
  · obtain ⟨-, -, -, D0, -, t1, t2, -, z1, -⟩ := hA g
    refine ⟨?_, (z1 q hq).1, (z1 q hq).2⟩
    rcases (show q < 2 ∨ q = 2 by omega) with e | e
    · rw [(t1 q e).1]; exact D0
    · rw [e, t2.1]; exact Int.mul_pos D0 D0
  · obtain ⟨c0, c1, c2, c3, c4, c5, c6⟩ := g1
    have a1 := (hA (fi c0)).1
    exact ⟨fi c0, ⟨g2, by omega⟩, c1, by omega, c3, by omega, c5, c6⟩
  · obtain ⟨c0, c1, c2, c3, c4, c5, c6, c7⟩ := g
    have a1 := (hA c0).1
    exact ⟨⟨if' c0, c2, by omega, c4, by omega, c6, c7⟩, by omega, by omega⟩
  · obtain ⟨c0, ⟨c01, c02⟩, c2, c3, c4, c5, c6, c7⟩ := g
    obtain ⟨-, -, -, D0, D8, t1, t2, -, z1, -⟩ := hA c0
    have d2 : s 2076 ^ 2 ≤ 2 ^ 930 := Int.le_trans (pw_m (by omega) 2 6) D8
    obtain ⟨k, rfl⟩ : ∃ k : Nat, x1 = k := ⟨x1.toNat, by omega⟩
    obtain ⟨i, rfl⟩ : ∃ i : Nat, x2 = i := ⟨x2.toNat, by omega⟩
    obtain ⟨j, rfl⟩ : ∃ j : Nat, x3 = j := ⟨x3.toNat, by omega⟩
    rw [Int.toNat_natCast, Int.toNat_natCast, Int.toNat_natCast]
    have k3 : k < 3 := by omega
    have zz := (z1 k k3).2 (4 * i + j) (by omega)
    rcases (show k = 0 ∨ k = 1 ∨ k = 2 by omega) with e | e | e
    · subst e
      obtain ⟨u1, u2⟩ := t1 0 (by decide)
      have u := u2 i j (by omega) (by omega)
      have e0 : tOf ((0 : Nat) : Int) = 2080 := rfl
      have e : tOf ((0 : Nat) : Int) + 6 * (i : Int) + j = 2080 + 36 * ((0 : Nat) : Int) + 6 * i + j := by rw [e0]; omega
      rw [e, ← u, u1]
      exact ⟨by omega, bB_24 d2, bB_24 zz, fun A2 s2 hA2 hr2 hs2 => ⟨by rw [if_neg (by decide), pw_1]; rfl, SI_k hV' 0 hA2 hr2 hs2 hN hT⟩⟩
    · subst e
      obtain ⟨u1, u2⟩ := t1 1 (by decide)
      have u := u2 i j (by omega) (by omega)
      have e0 : tOf ((1 : Nat) : Int) = 2116 := rfl
      have e : tOf ((1 : Nat) : Int) + 6 * (i : Int) + j = 2080 + 36 * ((1 : Nat) : Int) + 6 * i + j := by rw [e0]; omega
      rw [e, ← u, u1]
      exact ⟨by omega, bB_24 d2, bB_24 zz, fun A2 s2 hA2 hr2 hs2 => ⟨by rw [if_neg (by decide), pw_1]; rfl, SI_k hV' 0 hA2 hr2 hs2 hN hT⟩⟩
    · subst e
      obtain ⟨u1, u2⟩ := t2
      have u := u2 i j (by omega) (by omega)
      have e0 : tOf ((2 : Nat) : Int) = 2152 := rfl
      have e : tOf ((2 : Nat) : Int) + 6 * (i : Int) + j = 2152 + 6 * (i : Int) + j := by rw [e0]
      rw [e, ← u, u1]
      exact ⟨by omega, bB_24 d2, bB_24 zz, fun A2 s2 hA2 hr2 hs2 => ⟨by rw [if_pos (by decide), pw_2]; rfl, SI_k hV' 0 hA2 hr2 hs2 hN hT⟩⟩
theorem yc_13 (h : Syn M1 M2) (w1 : w32 x1) (w2 : w32 x2) (w3 : w32 x3) (w4 : w32 x4) : SX9_form [eR (0, 0), eI x1, eI x2, eI x3, eI x4] M1 (fun r M1' => ∃ v, r = some (eL v) ∧ SX10_form [eR (0, 0), eI x1, eI x2, eI x3, eI x4] M2 (fun r2 M2' => r2 = some (eL v) ∧ Syn M1' M2')) := by
  obtain ⟨F, A, W, F', A', V, s, rfl, rfl, hV, hr, hN, hT⟩ := h
  obtain ⟨⟨-, -, s1, s2, -, -, -, -, -, -, -, -, -, h19, -, -, ⟨n, hn, n4⟩, -⟩, -, -, hA⟩ := id hT
  have w : w32 (F 1) := w32_s (by omega) (by omega)
  have w' : w32 (F' 10) := by rw [← s1]; exact w
  have fi : cFin F' → F 1 = 0 ∨ F 1 = 1 := fun g => by rw [s1]; exact g
  have if' : F 1 = 0 ∨ F 1 = 1 → cFin F' := fun g => by unfold cFin; rw [← s1]; exact g
  refine SX9_form_i hV w hn n4 w1 w2 w3 w4 (fun g q hq => ?_) ⟨fun g => ⟨-1, rfl, F', A', s, x1, x2, x3, x4, rfl, rfl, hr, w', w1, w2, w3, w4, h19, fun _ => ⟨rfl, SI_12 hV 0 hr hN hT⟩, fun g1 g2 g3 => absurd ?_ g⟩, fun g W' hV' => ⟨_, rfl, F', A', s, x1, x2, x3, x4, rfl, rfl, hr, w', w1, w2, w3, w4, h19, fun q => absurd ?_ q, fun q q0 q1 => ?_⟩⟩
  · obtain ⟨-, -, -, D0, -, -, -, t3, -, z2⟩ := hA g
    refine ⟨?_, (z2 q hq).1, (z2 q hq).2⟩
    rw [(t3 q hq).1]
    exact Int.pow_pos (Int.mul_pos D0 D0)
  · obtain ⟨c0, c1, c2, c3, c4, c5, c6⟩ := g1
    have a1 := (hA (fi c0)).1
    exact ⟨fi c0, ⟨g2, by omega⟩, c1, by omega, c3, by omega, c5, c6⟩
  · obtain ⟨c0, c1, c2, c3, c4, c5, c6, c7⟩ := g
    have a1 := (hA c0).1
    exact ⟨⟨if' c0, c2, by omega, c4, by omega, c6, c7⟩, by omega, by omega⟩
  · obtain ⟨c0, ⟨c01, c02⟩, c2, c3, c4, c5, c6, c7⟩ := g
    obtain ⟨-, a2, -, D0, D8, -, -, t3, -, z2⟩ := hA c0
    obtain ⟨k, rfl⟩ : ∃ k : Nat, x1 = k := ⟨x1.toNat, by omega⟩
    obtain ⟨i, rfl⟩ : ∃ i : Nat, x2 = i := ⟨x2.toNat, by omega⟩
    obtain ⟨j, rfl⟩ : ∃ j : Nat, x3 = j := ⟨x3.toNat, by omega⟩
    rw [Int.toNat_natCast, Int.toNat_natCast, Int.toNat_natCast]
    have k3 : k < 3 := by omega
    have zz := (z2 k k3).2 (4 * i + j) (by omega)
    obtain ⟨-, ai⟩ := a2 i (by omega)
    obtain ⟨-, aj⟩ := a2 j (by omega)
    obtain ⟨u1, u2⟩ := t3 k k3
    have u := u2 i j (by omega) (by omega)
    have mi := mD_6 ai
    have mj := mD_6 aj
    have mi0 := (mD_h (u := A' 18 i) (by omega)).1
    have mj0 := (mD_h (u := A' 18 j) (by omega)).1
    obtain ⟨a, ha⟩ : ∃ a : Nat, mD (A' 18 i) = a := ⟨(mD (A' 18 i)).toNat, by omega⟩
    obtain ⟨b, hb⟩ : ∃ b : Nat, mD (A' 18 j) = b := ⟨(mD (A' 18 j)).toNat, by omega⟩
    rw [ha, hb, Int.toNat_natCast, Int.toNat_natCast] at u
    rw [ha, hb]
    have zs : zAbs (s (2332 + 36 * (k : Int) + 6 * i + j)) ≤ 2 ^ 930 := by
      rw [u] at zz
      exact Int.le_trans (Int.le_trans (zle_x (pw_g D0 (2 - b))) (zle_x (pw_g D0 (2 - a)))) zz
    refine ⟨ai, aj, by omega, bB_24 D8, bB_24 zs, fun A2 s2 hA2 hr2 hs2 => ⟨?_, SI_k hV' 0 hA2 hr2 hs2 hN hT⟩⟩
    rw [u, u1, frm_s D0 (by omega) (by omega), show (2 * (k : Int) + a + b).toNat = 2 * k + a + b by omega]
theorem yc_16 (h : Syn M1 M2) (w1 : w32 x1) (w2 : w32 x2) : SX9_remainder [eR (0, 0), eI x1, eI x2] M1 (fun r M1' => ∃ v, r = some (eL v) ∧ SX10_remainder [eR (0, 0), eI x1, eI x2] M2 (fun r2 M2' => r2 = some (eL v) ∧ Syn M1' M2')) := by
  obtain ⟨F, A, W, F', A', V, s, rfl, rfl, hV, hr, hN, hT⟩ := h
  obtain ⟨⟨-, -, s1, s2, -, -, -, -, -, -, -, -, -, h19, -, -, ⟨n, hn, n4⟩, -⟩, -, -, hA⟩ := id hT
  have w : w32 (F 1) := w32_s (by omega) (by omega)
  have w' : w32 (F' 10) := by rw [← s1]; exact w
  have fi : cFin F' → F 1 = 0 ∨ F 1 = 1 := fun g => by rw [s1]; exact g
  have if' : F 1 = 0 ∨ F 1 = 1 → cFin F' := fun g => by unfold cFin; rw [← s1]; exact g
  refine SX9_remainder_i hV w hn n4 w1 w2 (fun g => ?_) ⟨fun g => ⟨-1, rfl, F', A', s, x1, x2, rfl, rfl, hr, w', w1, w2, h19, fun _ => ⟨rfl, SI_12 hV 0 hr hN hT⟩, fun g1 => absurd ?_ g⟩, fun g W' hV' => ⟨_, rfl, F', A', s, x1, x2, rfl, rfl, hr, w', w1, w2, h19, fun q => absurd ?_ q, fun q => ?_⟩⟩
  · obtain ⟨-, -, -, D0, -, t1, t2, -, z1, -⟩ := hA g
    exact ⟨by rw [t2.1]; exact Int.mul_pos D0 D0, (z1 2 (by decide)).1, (z1 2 (by decide)).2⟩
  · obtain ⟨c0, c1, c2, c3, c4⟩ := g1
    have a1 := (hA (fi c0)).1
    exact ⟨fi c0, c1, by omega, by decide, by omega, c3, c4⟩
  · obtain ⟨c0, c1, c2, c3, c4, c5, c6⟩ := g
    have a1 := (hA c0).1
    exact ⟨if' c0, c1, by omega, c5, c6⟩
  · obtain ⟨c0, c1, c2, c3, c4, c5, c6⟩ := g
    obtain ⟨-, -, -, D0, D8, -, t2, -, z1, -⟩ := hA c0
    have d2 : s 2076 ^ 2 ≤ 2 ^ 930 := Int.le_trans (pw_m (by omega) 2 6) D8
    obtain ⟨i, rfl⟩ : ∃ i : Nat, x1 = i := ⟨x1.toNat, by omega⟩
    rw [Int.toNat_natCast]
    have zz := (z1 2 (by decide)).2 (4 * i) (by omega)
    have u : V (gb 2 + (4 * i + 0)) = s (2152 + 6 * (i : Int) + ((0 : Nat) : Int)) := t2.2 i 0 (by omega) (by omega)
    rw [show 4 * i + 0 = 4 * i by omega, show 2152 + 6 * (i : Int) + ((0 : Nat) : Int) = 2152 + 6 * (i : Int) by omega] at u
    rw [← u, t2.1]
    exact ⟨by omega, bB_24 d2, bB_24 zz, fun A2 s2 hA2 hr2 hs2 => ⟨by rw [pw_2]; rfl, SI_k hV' 0 hA2 hr2 hs2 hN hT⟩⟩
theorem yc_9 (h : Syn M1 M2) (w1 : w32 x1) (w2 : w32 x2) (w3 : w32 x3) (w4 : w32 x4) : SX9_coefficient [eR (0, 0), eI x1, eI x2, eI x3, eI x4] M1 (fun r M1' => ∃ v, r = some (eL v) ∧ SX10_coefficient [eR (0, 0), eI x1, eI x2, eI x3, eI x4] M2 (fun r2 M2' => r2 = some (eL v) ∧ Syn M1' M2')) := by
  obtain ⟨F, A, W, F', A', V, s, rfl, rfl, hV, hr, hN, hT⟩ := h
  obtain ⟨⟨-, -, s1, s2, -, -, -, -, -, hL, -, h17, h16, -⟩, hl, hI, -⟩ := id hT
  have w : w32 (F 1) := w32_s (by omega) (by omega)
  have w' : w32 (F' 10) := by rw [← s1]; exact w
  have h13 : F' 10 ≠ -1 → F' 13 = 4 := fun g => (hI (by rw [s1]; exact g)).2.2.1
  refine SX9_coefficient_i (R := vR V) (vR_i hV) w w1 w2 w3 w4 hL (fun t ht h1 => ?_) ⟨fun g => ⟨-1, rfl, F', A', s, x1, x2, x3, x4, rfl, rfl, hr, w', w1, w2, w3, w4, h13, h17, h16, fun _ => ⟨rfl, SI_12 hV 0 hr hN hT⟩, fun q q0 q1 => absurd g (by omega), fun q q0 q1 => absurd g (by omega)⟩, fun g g2 => ?_, fun g g2 W' hW' f1 => ?_⟩
  · have f1 : F 1 ≠ -1 := fun q => by
      have := (hl.1 q).2 t (by omega) (by omega)
      omega
    obtain ⟨-, -, -, -, i5, -⟩ := hI f1
    obtain ⟨j0, j1⟩ := i5 t ht h1
    exact ⟨j0, fun q hq => (j1 q hq).2.1⟩
  · have f1 : F 1 ≠ -1 := by omega
    obtain ⟨-, i2, -, i4, -⟩ := hI f1
    have no : ¬ (0 ≤ x1 ∧ x1 < F' 17 ∧ 0 ≤ x2 ∧ 0 ≤ x3 ∧ x2 + x3 ≤ 4 ∧ mN x2 x3 ≤ A' 16 x1) := fun ⟨y0, y1, y2, y3, y4, y5⟩ => by
      have i := i4 x1.toNat (by omega)
      rw [cf_nt x1 y0] at i
      rw [i2, if_pos ⟨y0, y1⟩] at g2
      rcases g2 with q | q
      · omega
      · rw [oP_m] at q
        by_cases z : 0 ≤ x2 ∧ 0 ≤ x3 ∧ x2 + x3 ≤ 3
        · rw [if_pos z] at q
          have := mN_9 z
          omega
        · have := mN_4 (a := x2) (b := x3) ⟨y2, y3, by omega⟩
          omega
    have ev : (if x4 = 0 then (0 : Int) else 1) = x4 := by split <;> omega
    exact ⟨_, rfl, F', A', s, x1, x2, x3, x4, rfl, rfl, hr, w', w1, w2, w3, w4, h13, h17, h16, fun q => absurd q (by omega), fun q q0 q1 _ => ⟨by rw [ev], SI_12 hV 0 hr hN hT⟩, fun q q0 q1 y => absurd y no⟩
  · have f1' : F 1 ≠ -1 := by omega
    obtain ⟨-, i2, -, i4, i5, -⟩ := hI f1'
    have hV' : aR W' V := ⟨fun t h0 h1 => by rw [f1 t h0]; exact hV.1 t h0 h1, hW'.2⟩
    have k01 : 0 ≤ x1 ∧ x1 < F' 17 := Decidable.of_not_not (fun q => g2 (Or.inl (by rw [i2, if_neg q])))
    have t3 : 0 ≤ x2 ∧ 0 ≤ x3 ∧ x2 + x3 ≤ 3 := Decidable.of_not_not (fun q => g2 (Or.inr (by rw [oP_m, if_neg q])))
    have i := i4 x1.toNat (by omega)
    rw [cf_nt x1 k01.1] at i
    have m := mN_9 t3
    rw [i2, if_pos k01, oP_m, if_pos t3]
    obtain ⟨T, hTT⟩ : ∃ T : Nat, A' 16 x1 = T := ⟨(A' 16 x1).toNat, by omega⟩
    obtain ⟨q, hq⟩ : ∃ q : Nat, mN x2 x3 = q := ⟨(mN x2 x3).toNat, by omega⟩
    rw [hTT] at i ⊢
    rw [hq] at m ⊢
    rw [Int.toNat_natCast, Int.toNat_natCast]
    show ∃ v, some (eL (tel (V (rb T + q)) (V (rb T + T)) x4)) = some (eL v) ∧ _
    obtain ⟨j0, j1⟩ := i5 T (by omega) i.2.2
    obtain ⟨jq, zq, oq⟩ := j1 q (by omega)
    obtain ⟨jt, zt, -⟩ := j1 T (by omega)
    refine ⟨_, rfl, F', A', s, x1, x2, x3, x4, rfl, rfl, hr, w', w1, w2, w3, w4, h13, h17, h16, fun q => absurd q (by omega), fun q0 q1 q2 y => ⟨?_, SI_12 hV' 0 hr hN hT⟩, fun q0 q1 q2 y => ?_⟩
    · have : T < q := Decidable.of_not_not (fun z => y ⟨k01.1, k01.2, t3.1, t3.2.1, by omega, by omega⟩)
      rw [oq this, tel_0 j0 q1 q2]
    · rw [hTT, hq, ← jq, ← jt]
      exact ⟨by omega, ⟨bB_24 zq, bB_24 zt⟩, fun A2 s2 hA2 hr2 hs2 => ⟨rfl, SI_k hV' 0 hA2 hr2 hs2 hN hT⟩⟩
end
