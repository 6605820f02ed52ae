/-! lose: a row loses a lead. -/
theorem zAbs_x (x y : Int) : zAbs (x * y) = zAbs x * zAbs y := by
  rw [zAbs_n, zAbs_n, zAbs_n, Int.natAbs_mul, Int.natCast_mul]
theorem zAbs_p (x : Int) : 0 ≤ zAbs x := by rw [zAbs_n]; exact Int.natCast_nonneg _
def lG' (x y : Int) : Int := (Int.gcd x y : Int)
theorem lG_h {x y : Int} (hx : x ≠ 0) : 0 < lG' x y ∧ x = lG' x y * (x / lG' x y) ∧ y = lG' x y * (y / lG' x y) ∧ zAbs (x / lG' x y) ≤ zAbs x ∧ zAbs (y / lG' x y) ≤ zAbs y := by
  have p : 0 < Int.gcd x y := Int.gcd_pos_of_ne_zero_left y hx
  have p1 : 0 < lG' x y := Int.ofNat_lt.mpr p
  have d1 : lG' x y ∣ x := Int.gcd_dvd_left ..
  have d2 : lG' x y ∣ y := Int.gcd_dvd_right ..
  have e1 : x = lG' x y * (x / lG' x y) := (Int.mul_ediv_cancel' d1).symm
  have e2 : y = lG' x y * (y / lG' x y) := (Int.mul_ediv_cancel' d2).symm
  have b : ∀ u v : Int, u = lG' x y * v → zAbs v ≤ zAbs u := by
    intro u v e
    rw [e, zAbs_x]
    have g1 : zAbs (lG' x y) = lG' x y := by unfold zAbs; rw [if_neg (by omega)]
    rw [g1]
    have := Int.mul_le_mul_of_nonneg_right (show 1 ≤ lG' x y by omega) (zAbs_p v)
    omega
  exact ⟨p1, e1, e2, b _ _ e1, b _ _ e2⟩
def lo (s : Int → Int) (a r l C D n : Int) : Int → Int := fun p => if a ≤ p ∧ p < a + n then (if p - a ≤ l then s p * C - s (r + (p - a)) * D else s p * C) else s p
/-- the state after a row lost a lead -/
def lF (s : Int → Int) (a l t : Int) : Int → Int := fun p =>
  if p = 2070 then lG' (s (a + l)) (s (45 * l + l)) else
  if p = 2071 then s (45 * l + l) / lG' (s (a + l)) (s (45 * l + l)) else
  if p = 2072 then s (a + l) / lG' (s (a + l)) (s (45 * l + l)) else
  if p = 2073 then s (45 * l + l) * (s (a + l) / lG' (s (a + l)) (s (45 * l + l))) else
  lo s a (45 * l) l (s (45 * l + l) / lG' (s (a + l)) (s (45 * l + l))) (s (a + l) / lG' (s (a + l)) (s (45 * l + l))) (t + 1) p
def SX10_lose : eSp := fun as M rt => ∃ (F : Nat → Int) (A : Nat → Int → Int) (s : Int → Int) (a l t U V : Int), as = [eRR, eI a, eI l, eI t] ∧ M = cR F A ∧ rn (A 0) s ∧ (0 ≤ l ∧ l ≤ t ∧ t ≤ 44) ∧ (0 ≤ a ∧ a + t < 2070) ∧ (a + t < 45 * l ∨ 45 * l + l < a) ∧ s (45 * l + l) ≠ 0 ∧ (∀ k, 0 ≤ k → k ≤ t → zAbs (s (a + k)) ≤ U) ∧ (∀ k, 0 ≤ k → k ≤ l → zAbs (s (45 * l + k)) ≤ V) ∧ U * V < bB ^ 598 ∧ (s (a + l) = 0 → rt none (cR F A)) ∧ (s (a + l) ≠ 0 → ∀ A', sN A A' → rn (A' 0) (lF s a l t) → rt none (cR F A'))
theorem SX10_lose_i {F : Nat → Int} {A : Nat → Int → Int} {s : Int → Int} {a l t : Int} (U V : Int) {rt : Option eV → eM → Prop} (hr : rn (A 0) s) (h0 : 0 ≤ l ∧ l ≤ t ∧ t ≤ 44) (h1 : 0 ≤ a ∧ a + t < 2070) (h2 : a + t < 45 * l ∨ 45 * l + l < a) (h3 : s (45 * l + l) ≠ 0) (h4 : ∀ k, 0 ≤ k → k ≤ t → zAbs (s (a + k)) ≤ U) (h5 : ∀ k, 0 ≤ k → k ≤ l → zAbs (s (45 * l + k)) ≤ V) (h6 : U * V < bB ^ 598) (h7 : s (a + l) = 0 → rt none (cR F A)) (h8 : s (a + l) ≠ 0 → ∀ A', sN A A' → rn (A' 0) (lF s a l t) → rt none (cR F A')) : SX10_lose [eRR, eI a, eI l, eI t] (cR F A) rt := ⟨F, A, s, a, l, t, U, V, rfl, rfl, hr, h0, h1, h2, h3, h4, h5, h6, h7, h8⟩
theorem SX10_lose_r : ∀ as M rt, SX10_lose as M rt → ∃ a r fs, as = eR a :: r ∧ M a = some (.inl (9, fs)) := by
  rintro as M rt ⟨F, A, s, a, l, t, U, V, rfl, rfl, -⟩
  exact ⟨_, _, _, rfl, rfl⟩
def kX10_lose : List (Nat × Jvm.ClassFile.Instr × Nat) := [(0, .aload_n 0, 1), (1, .iload_n 1, 1), (2, .iload_n 2, 1), (3, .iadd, 1), (4, .invokevirtual 81, 3), (7, .ifCond .eq 4, 3), (10, .return_, 1), (11, .iload_n 2, 1), (12, .invokestatic 158, 3), (15, .istore 4, 2), (17, .aload_n 0, 1), (18, .sipush 2070, 3), (21, .iload_n 1, 1), (22, .iload_n 2, 1), (23, .iadd, 1), (24, .iload 4, 2), (26, .iload_n 2, 1), (27, .iadd, 1), (28, .invokevirtual 148, 3), (31, .aload_n 0, 1), (32, .sipush 2071, 3), (35, .iload 4, 2), (37, .iload_n 2, 1), (38, .iadd, 1), (39, .invokevirtual 85, 3), (42, .aload_n 0, 1), (43, .sipush 2071, 3), (46, .sipush 2070, 3), (49, .invokevirtual 155, 3), (52, .aload_n 0, 1), (53, .sipush 2072, 3), (56, .iload_n 1, 1), (57, .iload_n 2, 1), (58, .iadd, 1), (59, .invokevirtual 85, 3), (62, .aload_n 0, 1), (63, .sipush 2072, 3), (66, .sipush 2070, 3), (69, .invokevirtual 155, 3), (72, .iconst 0, 1), (73, .istore 5, 2), (75, .iload 5, 2), (77, .iload_n 3, 1), (78, .if_icmp .gt 57, 3), (81, .aload_n 0, 1), (82, .iload_n 1, 1), (83, .iload 5, 2), (85, .iadd, 1), (86, .iload_n 1, 1), (87, .iload 5, 2), (89, .iadd, 1), (90, .sipush 2071, 3), (93, .invokevirtual 161, 3), (96, .iload 5, 2), (98, .iload_n 2, 1), (99, .if_icmp .gt 30, 3), (102, .aload_n 0, 1), (103, .sipush 2073, 3), (106, .iload 4, 2), (108, .iload 5, 2), (110, .iadd, 1), (111, .sipush 2072, 3), (114, .invokevirtual 161, 3), (117, .aload_n 0, 1), (118, .iload_n 1, 1), (119, .iload 5, 2), (121, .iadd, 1), (122, .sipush 2073, 3), (125, .iconst (-1), 1), (126, .invokevirtual 164, 3), (129, .iinc 5 1, 3), (132, .goto (-57), 3), (135, .return_, 1)]
theorem kX10_lose_0 : cdOf kX10_lose 0 = some (.aload_n 0, 1) := by decide +kernel
theorem kX10_lose_1 : cdOf kX10_lose 1 = some (.iload_n 1, 1) := by decide +kernel
theorem kX10_lose_2 : cdOf kX10_lose 2 = some (.iload_n 2, 1) := by decide +kernel
theorem kX10_lose_3 : cdOf kX10_lose 3 = some (.iadd, 1) := by decide +kernel
theorem kX10_lose_4 : cdOf kX10_lose 4 = some (.invokevirtual 81, 3) := by decide +kernel
theorem kX10_lose_7 : cdOf kX10_lose 7 = some (.ifCond .eq 4, 3) := by decide +kernel
theorem kX10_lose_10 : cdOf kX10_lose 10 = some (.return_, 1) := by decide +kernel
theorem kX10_lose_11 : cdOf kX10_lose 11 = some (.iload_n 2, 1) := by decide +kernel
theorem kX10_lose_12 : cdOf kX10_lose 12 = some (.invokestatic 158, 3) := by decide +kernel
theorem kX10_lose_15 : cdOf kX10_lose 15 = some (.istore 4, 2) := by decide +kernel
theorem kX10_lose_17 : cdOf kX10_lose 17 = some (.aload_n 0, 1) := by decide +kernel
theorem kX10_lose_18 : cdOf kX10_lose 18 = some (.sipush 2070, 3) := by decide +kernel
theorem kX10_lose_21 : cdOf kX10_lose 21 = some (.iload_n 1, 1) := by decide +kernel
theorem kX10_lose_22 : cdOf kX10_lose 22 = some (.iload_n 2, 1) := by decide +kernel
theorem kX10_lose_23 : cdOf kX10_lose 23 = some (.iadd, 1) := by decide +kernel
theorem kX10_lose_24 : cdOf kX10_lose 24 = some (.iload 4, 2) := by decide +kernel
theorem kX10_lose_26 : cdOf kX10_lose 26 = some (.iload_n 2, 1) := by decide +kernel
theorem kX10_lose_27 : cdOf kX10_lose 27 = some (.iadd, 1) := by decide +kernel
theorem kX10_lose_28 : cdOf kX10_lose 28 = some (.invokevirtual 148, 3) := by decide +kernel
theorem kX10_lose_31 : cdOf kX10_lose 31 = some (.aload_n 0, 1) := by decide +kernel
theorem kX10_lose_32 : cdOf kX10_lose 32 = some (.sipush 2071, 3) := by decide +kernel
theorem kX10_lose_35 : cdOf kX10_lose 35 = some (.iload 4, 2) := by decide +kernel
theorem kX10_lose_37 : cdOf kX10_lose 37 = some (.iload_n 2, 1) := by decide +kernel
theorem kX10_lose_38 : cdOf kX10_lose 38 = some (.iadd, 1) := by decide +kernel
theorem kX10_lose_39 : cdOf kX10_lose 39 = some (.invokevirtual 85, 3) := by decide +kernel
theorem kX10_lose_42 : cdOf kX10_lose 42 = some (.aload_n 0, 1) := by decide +kernel
theorem kX10_lose_43 : cdOf kX10_lose 43 = some (.sipush 2071, 3) := by decide +kernel
theorem kX10_lose_46 : cdOf kX10_lose 46 = some (.sipush 2070, 3) := by decide +kernel
theorem kX10_lose_49 : cdOf kX10_lose 49 = some (.invokevirtual 155, 3) := by decide +kernel
theorem kX10_lose_52 : cdOf kX10_lose 52 = some (.aload_n 0, 1) := by decide +kernel
theorem kX10_lose_53 : cdOf kX10_lose 53 = some (.sipush 2072, 3) := by decide +kernel
theorem kX10_lose_56 : cdOf kX10_lose 56 = some (.iload_n 1, 1) := by decide +kernel
theorem kX10_lose_57 : cdOf kX10_lose 57 = some (.iload_n 2, 1) := by decide +kernel
theorem kX10_lose_58 : cdOf kX10_lose 58 = some (.iadd, 1) := by decide +kernel
theorem kX10_lose_59 : cdOf kX10_lose 59 = some (.invokevirtual 85, 3) := by decide +kernel
theorem kX10_lose_62 : cdOf kX10_lose 62 = some (.aload_n 0, 1) := by decide +kernel
theorem kX10_lose_63 : cdOf kX10_lose 63 = some (.sipush 2072, 3) := by decide +kernel
theorem kX10_lose_66 : cdOf kX10_lose 66 = some (.sipush 2070, 3) := by decide +kernel
theorem kX10_lose_69 : cdOf kX10_lose 69 = some (.invokevirtual 155, 3) := by decide +kernel
theorem kX10_lose_72 : cdOf kX10_lose 72 = some (.iconst 0, 1) := by decide +kernel
theorem kX10_lose_73 : cdOf kX10_lose 73 = some (.istore 5, 2) := by decide +kernel
theorem kX10_lose_75 : cdOf kX10_lose 75 = some (.iload 5, 2) := by decide +kernel
theorem kX10_lose_77 : cdOf kX10_lose 77 = some (.iload_n 3, 1) := by decide +kernel
theorem kX10_lose_78 : cdOf kX10_lose 78 = some (.if_icmp .gt 57, 3) := by decide +kernel
theorem kX10_lose_81 : cdOf kX10_lose 81 = some (.aload_n 0, 1) := by decide +kernel
theorem kX10_lose_82 : cdOf kX10_lose 82 = some (.iload_n 1, 1) := by decide +kernel
theorem kX10_lose_83 : cdOf kX10_lose 83 = some (.iload 5, 2) := by decide +kernel
theorem kX10_lose_85 : cdOf kX10_lose 85 = some (.iadd, 1) := by decide +kernel
theorem kX10_lose_86 : cdOf kX10_lose 86 = some (.iload_n 1, 1) := by decide +kernel
theorem kX10_lose_87 : cdOf kX10_lose 87 = some (.iload 5, 2) := by decide +kernel
theorem kX10_lose_89 : cdOf kX10_lose 89 = some (.iadd, 1) := by decide +kernel
theorem kX10_lose_90 : cdOf kX10_lose 90 = some (.sipush 2071, 3) := by decide +kernel
theorem kX10_lose_93 : cdOf kX10_lose 93 = some (.invokevirtual 161, 3) := by decide +kernel
theorem kX10_lose_96 : cdOf kX10_lose 96 = some (.iload 5, 2) := by decide +kernel
theorem kX10_lose_98 : cdOf kX10_lose 98 = some (.iload_n 2, 1) := by decide +kernel
theorem kX10_lose_99 : cdOf kX10_lose 99 = some (.if_icmp .gt 30, 3) := by decide +kernel
theorem kX10_lose_102 : cdOf kX10_lose 102 = some (.aload_n 0, 1) := by decide +kernel
theorem kX10_lose_103 : cdOf kX10_lose 103 = some (.sipush 2073, 3) := by decide +kernel
theorem kX10_lose_106 : cdOf kX10_lose 106 = some (.iload 4, 2) := by decide +kernel
theorem kX10_lose_108 : cdOf kX10_lose 108 = some (.iload 5, 2) := by decide +kernel
theorem kX10_lose_110 : cdOf kX10_lose 110 = some (.iadd, 1) := by decide +kernel
theorem kX10_lose_111 : cdOf kX10_lose 111 = some (.sipush 2072, 3) := by decide +kernel
theorem kX10_lose_114 : cdOf kX10_lose 114 = some (.invokevirtual 161, 3) := by decide +kernel
theorem kX10_lose_117 : cdOf kX10_lose 117 = some (.aload_n 0, 1) := by decide +kernel
theorem kX10_lose_118 : cdOf kX10_lose 118 = some (.iload_n 1, 1) := by decide +kernel
theorem kX10_lose_119 : cdOf kX10_lose 119 = some (.iload 5, 2) := by decide +kernel
theorem kX10_lose_121 : cdOf kX10_lose 121 = some (.iadd, 1) := by decide +kernel
theorem kX10_lose_122 : cdOf kX10_lose 122 = some (.sipush 2073, 3) := by decide +kernel
theorem kX10_lose_125 : cdOf kX10_lose 125 = some (.iconst (-1), 1) := by decide +kernel
theorem kX10_lose_126 : cdOf kX10_lose 126 = some (.invokevirtual 164, 3) := by decide +kernel
theorem kX10_lose_129 : cdOf kX10_lose 129 = some (.iinc 5 1, 3) := by decide +kernel
theorem kX10_lose_132 : cdOf kX10_lose 132 = some (.goto (-57), 3) := by decide +kernel
theorem kX10_lose_135 : cdOf kX10_lose 135 = some (.return_, 1) := by decide +kernel
set_option maxRecDepth 20000 in
theorem kX10_lose_ok : ∀ pc i len, cdOf kX10_lose pc = some (i, len) → decode cX10_lose pc = .ok (i, len) ∧ stOK 6 i = true ∧ jOK pc i = true ∧ eLen i len = true := cdOf_ok cX10_lose 6 kX10_lose (by decide +kernel)
def vtX10_lose : Nat → Option (Nat × eSp) := fun k => match k with
  | 81 => some (2, SX10_isZero)
  | 148 => some (4, SX10_divisor)
  | 85 => some (3, SX10_copy)
  | 155 => some (3, SX10_over)
  | 161 => some (4, SX10_times)
  | 164 => some (4, SX10_join)
  | _ => none
theorem vtX10_lose_81 : vtX10_lose 81 = some (2, SX10_isZero) := rfl
theorem vtX10_lose_148 : vtX10_lose 148 = some (4, SX10_divisor) := rfl
theorem vtX10_lose_85 : vtX10_lose 85 = some (3, SX10_copy) := rfl
theorem vtX10_lose_155 : vtX10_lose 155 = some (3, SX10_over) := rfl
theorem vtX10_lose_161 : vtX10_lose 161 = some (4, SX10_times) := rfl
theorem vtX10_lose_164 : vtX10_lose 164 = some (4, SX10_join) := rfl
def stX10_lose : Nat → Option (Nat × eSp) := fun k => match k with
  | 158 => some (1, SX10_row)
  | _ => none
theorem stX10_lose_158 : stX10_lose 158 = some (1, SX10_row) := rfl
abbrev TX10_lose : eT := (fl_RX10, cl_RX10, dl_RX10, vtX10_lose, stX10_lose)
set_option maxRecDepth 20000 in
theorem caX10_lose : eCalls RX10 { frames := 4, cells := 0, slots := 0, locals := 105 } TX10_lose := by
  refine ⟨fun k n sp h => ?_, fun k n sp h => ?_⟩
  · dsimp only [TX10_lose] at h
    unfold vtX10_lose at h
    split at h
    · cases h; exact eV_mk mX10_isZero wX10_isZero (by decide +kernel) (Or.inl (gW_at 1086 (by decide +kernel) rfl))
    · cases h; exact eV_mk mX10_divisor wX10_divisor (by decide +kernel) (Or.inl (gW_at 1093 (by decide +kernel) rfl))
    · cases h; exact eV_mk mX10_copy wX10_copy (by decide +kernel) (Or.inl (gW_at 1134 (by decide +kernel) rfl))
    · cases h; exact eV_mk mX10_over wX10_over (by decide +kernel) (Or.inl (gW_at 1138 (by decide +kernel) rfl))
    · cases h; exact eV_mk mX10_times wX10_times (by decide +kernel) (Or.inl (gW_at 1149 (by decide +kernel) rfl))
    · cases h; exact eV_mk mX10_join wX10_join (by decide +kernel) (Or.inl (gW_at 1153 (by decide +kernel) rfl))
    · cases h
  · dsimp only [TX10_lose] at h
    unfold stX10_lose at h
    split at h
    · cases h; exact eS_mk mX10_row wX10_row (by decide +kernel) (Or.inl (gW_at 1090 (by decide +kernel) rfl))
    · cases h
set_option maxRecDepth 100000 in
set_option maxHeartbeats 4000000 in
theorem sX10_lose : eSafe TX10_lose (cdOf kX10_lose) 6 none SX10_lose := by
  intro K rt hK as M h
  obtain ⟨F, A, s, a, l, t, U, V, rfl, rfl, hr, h0, h1, h2, h3, h4, h5, h6, h7, h8⟩ := h
  refine ⟨by simp [eE], ?_⟩
  obtain ⟨h00, h01, h02⟩ := h0
  obtain ⟨h10, h11⟩ := h1
  have q1 : 0 ≤ a + l ∧ a + l < 2666 := by omega
  have q2 : 0 ≤ 45 * l + l ∧ 45 * l + l < 2666 := by omega
  have main : s (a + l) ≠ 0 → K 11 [some eRR, some (eI a), some (eI l), some (eI t), none, none] [] (cR F A) := by
    intro hne
    have h9 := h8 hne
    unfold lF at h9
    obtain ⟨g0, g1, g2, g3, g4⟩ := lG_h (y := s (45 * l + l)) hne
    have b1 := h4 l h00 h01
    have b2 := h5 l h00 (Int.le_refl _)
    have n1 : 1 ≤ zAbs (s (a + l)) := by unfold zAbs; split <;> omega
    have n2 : 1 ≤ zAbs (s (45 * l + l)) := by unfold zAbs; split <;> omega
    have b3 : U ≤ U * V := by
      have := Int.mul_le_mul_of_nonneg_left (show 1 ≤ V by omega) (show 0 ≤ U by omega)
      omega
    have b4 : V ≤ U * V := by
      have := Int.mul_le_mul_of_nonneg_right (show 1 ≤ U by omega) (show 0 ≤ V by omega)
      omega
    clear h7 h8
    generalize eg : lG' (s (a + l)) (s (45 * l + l)) = g at *
    generalize eC : s (45 * l + l) / g = C at *
    generalize eD : s (a + l) / g = D at *
    have bC : zAbs C ≤ V := by omega
    have bD : zAbs D ≤ U := by omega
    have m98 : bB ^ 598 ≤ bB ^ 599 := bB_mono (by decide)
    have wl : w32 l := by constructor <;> omega
    have wt : w32 t := by constructor <;> omega
    have loop : ∀ (d : Nat) (n : Int) (A' : Nat → Int → Int) (s' : Int → Int), 0 ≤ n → n + d = t + 1 → sN A A' → rn (A' 0) s' → s' 2070 = g → s' 2071 = C → s' 2072 = D → (l < n → s' 2073 = s (45 * l + l) * D) → (∀ p, p < 2070 ∨ 2073 < p → s' p = lo s a (45 * l) l C D n p) → K 75 [some eRR, some (eI a), some (eI l), some (eI t), some (eI (45 * l)), some (eI n)] [] (cR F A') := by
      intro d
      induction d with
      | zero =>
        intro n A' s' hn hd hs hr' hG hC hD hE hp
        have e3 : n = t + 1 := by omega
        subst e3
        have w1 : w32 (t + 1) := by constructor <;> omega
        refine x_iload hK kX10_lose_75 (q := 77) rfl rfl ?_
        refine x_iload_n hK kX10_lose_77 (q := 78) rfl rfl ?_
        refine x_icmp_gt hK kX10_lose_78 (q := 81) rfl (tg := 135) rfl (by exact ⟨w1, wt⟩) (fun c78 => ?_) (fun c78 => ?_)
        · refine x_return_ hK kX10_lose_135 (by first | trivial | exact Or.inl rfl | exact Or.inr rfl) ?_
          refine h9 A' hs ?_
          have e4 : s' = fun p => if p = 2070 then g else if p = 2071 then C else if p = 2072 then D else if p = 2073 then s (45 * l + l) * D else lo s a (45 * l) l C D (t + 1) p := by
            funext p
            show s' p = if p = 2070 then g else if p = 2071 then C else if p = 2072 then D else if p = 2073 then s (45 * l + l) * D else lo s a (45 * l) l C D (t + 1) p
            rcases Decidable.em (p = 2070) with e | e
            · rw [if_pos e, e]; exact hG
            · rw [if_neg e]
              rcases Decidable.em (p = 2071) with e1 | e1
              · rw [if_pos e1, e1]; exact hC
              · rw [if_neg e1]
                rcases Decidable.em (p = 2072) with e2 | e2
                · rw [if_pos e2, e2]; exact hD
                · rw [if_neg e2]
                  rcases Decidable.em (p = 2073) with e3 | e3
                  · rw [if_pos e3, e3]; exact hE (by omega)
                  · rw [if_neg e3]; exact hp p (by omega)
          rw [e4] at hr'
          exact hr'
        · exfalso; omega
      | succ d ih =>
        intro n A' s' hn hd hs hr' hG hC hD hE hp
        have w1 : w32 n := by constructor <;> omega
        have hnt : n ≤ t := by omega
        have q3 : 0 ≤ a + n ∧ a + n < 2070 := by omega
        have v1 : s' (a + n) = s (a + n) := by
          rw [hp _ (Or.inl q3.2)]
          unfold lo
          rw [if_neg (by omega)]
        have c1 : zAbs (s (a + n)) * zAbs C < bB ^ 598 := by
          have := Int.mul_le_mul (h4 n hn hnt) bC (zAbs_p _) (show 0 ≤ U by omega)
          omega
        have fin : ∀ (A'' : Nat → Int → Int) (s'' : Int → Int), sN A' A'' → rn (A'' 0) s'' → s'' 2070 = g → s'' 2071 = C → s'' 2072 = D → (l < n + 1 → s'' 2073 = s (45 * l + l) * D) → (∀ p, p < 2070 ∨ 2073 < p → p ≠ a + n → s'' p = s' p) → s'' (a + n) = (if n ≤ l then s (a + n) * C - s (45 * l + n) * D else s (a + n) * C) → K 129 [some eRR, some (eI a), some (eI l), some (eI t), some (eI (45 * l)), some (eI n)] [] (cR F A'') := by
          intro A'' s'' k1 k2 k0 k3 k4 k7 k5 k6
          refine x_iinc hK kX10_lose_129 (q := 132) rfl rfl ?_
          simp only [lS, lS2, clr_0, clr_I, clr_L, clr_R]
          refine x_goto hK kX10_lose_132 (tg := 75) rfl ?_
          refine ih (n + 1) A'' s'' (by omega) (by omega) (sN_tr hs k1) k2 k0 k3 k4 k7 (fun p hp' => ?_)
          rcases Decidable.em (p = a + n) with e | e
          · subst e
            rw [k6]
            unfold lo
            rw [if_pos (show a ≤ a + n ∧ a + n < a + (n + 1) by omega), show a + n - a = n by omega]
          · rw [k5 p hp' e, hp p hp']
            unfold lo
            rcases Decidable.em (a ≤ p ∧ p < a + n) with e2 | e2
            · rw [if_pos e2, if_pos (show a ≤ p ∧ p < a + (n + 1) by omega)]
            · rw [if_neg e2, if_neg (show ¬ (a ≤ p ∧ p < a + (n + 1)) by omega)]
        refine x_iload hK kX10_lose_75 (q := 77) rfl rfl ?_
        refine x_iload_n hK kX10_lose_77 (q := 78) rfl rfl ?_
        refine x_icmp_gt hK kX10_lose_78 (q := 81) rfl (tg := 135) rfl (by exact ⟨w1, wt⟩) (fun c78 => ?_) (fun c78 => ?_)
        · exfalso; omega
        · refine x_aload_n hK kX10_lose_81 (q := 82) rfl rfl ?_
          refine x_iload_n hK kX10_lose_82 (q := 83) rfl rfl ?_
          refine x_iload hK kX10_lose_83 (q := 85) rfl rfl ?_
          refine x_iadd hK kX10_lose_85 (q := 86) rfl ?_
          refine x_iload_n hK kX10_lose_86 (q := 87) rfl rfl ?_
          refine x_iload hK kX10_lose_87 (q := 89) rfl rfl ?_
          refine x_iadd hK kX10_lose_89 (q := 90) rfl ?_
          refine x_sipush hK kX10_lose_90 (q := 93) rfl (by decide) ?_
          refine x_cv4 hK kX10_lose_93 (q := 96) rfl (vtX10_lose_161) (Nat.le_of_ble_eq_true rfl) ?_
          refine SX10_times_n hr' (by omega) (by omega) (by omega) (by rw [v1, hC]; exact c1) (fun A1 s1 hr1 => ?_)
          rw [v1, hC] at hr1
          have x0 : uI s' (a + n) (s (a + n) * C) 2070 = g := by rw [uI_n _ _ (by omega)]; exact hG
          have x1 : uI s' (a + n) (s (a + n) * C) 2071 = C := by rw [uI_n _ _ (by omega)]; exact hC
          have x2 : uI s' (a + n) (s (a + n) * C) 2072 = D := by rw [uI_n _ _ (by omega)]; exact hD
          have x3 : uI s' (a + n) (s (a + n) * C) (a + n) = s (a + n) * C := uI_s _ _ _
          refine x_iload hK kX10_lose_96 (q := 98) rfl rfl ?_
          refine x_iload_n hK kX10_lose_98 (q := 99) rfl rfl ?_
          refine x_icmp_gt hK kX10_lose_99 (q := 102) rfl (tg := 129) rfl (by exact ⟨w1, wl⟩) (fun c99 => ?_) (fun c99 => ?_)
          · refine fin A1 _ s1 hr1 x0 x1 x2 (fun _ => by rw [uI_n _ _ (by omega)]; exact hE (by omega)) (fun p _ hp2 => uI_n _ _ hp2) ?_
            rw [x3, if_neg (by omega)]
          · have c100 : n ≤ l := by omega
            have q4 : 0 ≤ 45 * l + n ∧ 45 * l + n < 2070 ∧ 45 * l + n ≠ a + n := by omega
            have x4 : uI s' (a + n) (s (a + n) * C) (45 * l + n) = s (45 * l + n) := by
              rw [uI_n _ _ q4.2.2, hp _ (Or.inl q4.2.1)]
              unfold lo
              rw [if_neg (by omega)]
            have c2 : zAbs (s (45 * l + n)) * zAbs D < bB ^ 598 := by
              have := Int.mul_le_mul (h5 n hn c100) bD (zAbs_p _) (show 0 ≤ V by omega)
              rw [Int.mul_comm V U] at this
              omega
            refine x_aload_n hK kX10_lose_102 (q := 103) rfl rfl ?_
            refine x_sipush hK kX10_lose_103 (q := 106) rfl (by decide) ?_
            refine x_iload hK kX10_lose_106 (q := 108) rfl rfl ?_
            refine x_iload hK kX10_lose_108 (q := 110) rfl rfl ?_
            refine x_iadd hK kX10_lose_110 (q := 111) rfl ?_
            refine x_sipush hK kX10_lose_111 (q := 114) rfl (by decide) ?_
            refine x_cv4 hK kX10_lose_114 (q := 117) rfl (vtX10_lose_161) (Nat.le_of_ble_eq_true rfl) ?_
            refine SX10_times_n hr1 (by omega) (by omega) (by omega) (by rw [x4, x2]; exact c2) (fun A2 s2 hr2 => ?_)
            rw [x4, x2] at hr2
            have y1 : uI (uI s' (a + n) (s (a + n) * C)) 2073 (s (45 * l + n) * D) (a + n) = s (a + n) * C := by rw [uI_n _ _ (by omega)]; exact x3
            have y2 : uI (uI s' (a + n) (s (a + n) * C)) 2073 (s (45 * l + n) * D) 2073 = s (45 * l + n) * D := uI_s _ _ _
            have y3 : zAbs (s (a + n) * C) < bB ^ 599 := by rw [zAbs_x]; omega
            have y4 : zAbs (s (45 * l + n) * D) < bB ^ 599 := by rw [zAbs_x]; omega
            refine x_aload_n hK kX10_lose_117 (q := 118) rfl rfl ?_
            refine x_iload_n hK kX10_lose_118 (q := 119) rfl rfl ?_
            refine x_iload hK kX10_lose_119 (q := 121) rfl rfl ?_
            refine x_iadd hK kX10_lose_121 (q := 122) rfl ?_
            refine x_sipush hK kX10_lose_122 (q := 125) rfl (by decide) ?_
            refine x_iconst hK kX10_lose_125 (q := 126) rfl ?_
            refine x_cv4 hK kX10_lose_126 (q := 129) rfl (vtX10_lose_164) (Nat.le_of_ble_eq_true rfl) ?_
            refine SX10_join_n hr2 (by omega) (by omega) (by omega) (Or.inr rfl) (by rw [y1, y2]; exact ⟨y3, y4⟩) (fun A3 s3 hr3 => ?_)
            rw [y1, y2] at hr3
            refine fin A3 _ (sN_tr s1 (sN_tr s2 s3)) hr3 ?_ ?_ ?_ (fun g5 => ?_) (fun p hp1 hp2 => ?_) ?_
            · rw [uI_n _ _ (by omega), uI_n _ _ (by omega)]; exact x0
            · rw [uI_n _ _ (by omega), uI_n _ _ (by omega)]; exact x1
            · rw [uI_n _ _ (by omega), uI_n _ _ (by omega)]; exact x2
            · rw [uI_n _ _ (by omega), y2, show n = l by omega]
            · rw [uI_n _ _ hp2, uI_n _ _ (by omega), uI_n _ _ hp2]
            · rw [uI_s, if_pos c100]; omega
    refine x_iload_n hK kX10_lose_11 (q := 12) rfl rfl ?_
    refine x_cs1 hK kX10_lose_12 (q := 15) rfl (stX10_lose_158) (Nat.le_of_ble_eq_true rfl) ?_
    refine SX10_row_i ?_
    refine x_istore hK kX10_lose_15 (q := 17) rfl ?_
    refine x_aload_n hK kX10_lose_17 (q := 18) rfl rfl ?_
    refine x_sipush hK kX10_lose_18 (q := 21) rfl (by decide) ?_
    refine x_iload_n hK kX10_lose_21 (q := 22) rfl rfl ?_
    refine x_iload_n hK kX10_lose_22 (q := 23) rfl rfl ?_
    refine x_iadd hK kX10_lose_23 (q := 24) rfl ?_
    refine x_iload hK kX10_lose_24 (q := 26) rfl rfl ?_
    refine x_iload_n hK kX10_lose_26 (q := 27) rfl rfl ?_
    refine x_iadd hK kX10_lose_27 (q := 28) rfl ?_
    simp only [lS, lS2, clr_0, clr_I, clr_L, clr_R]
    refine x_cv4 hK kX10_lose_28 (q := 31) rfl (vtX10_lose_148) (Nat.le_of_ble_eq_true rfl) ?_
    refine SX10_divisor_n hr (by omega) q1 q2 ⟨by omega, by omega⟩ (fun A1 s1 hr1 => ?_)
    rw [show (Int.gcd (s (a + l)) (s (45 * l + l)) : Int) = g from eg] at hr1
    have x1 : uI s 2070 g (45 * l + l) = s (45 * l + l) := uI_n _ _ (by omega)
    refine x_aload_n hK kX10_lose_31 (q := 32) rfl rfl ?_
    refine x_sipush hK kX10_lose_32 (q := 35) rfl (by decide) ?_
    refine x_iload hK kX10_lose_35 (q := 37) rfl rfl ?_
    refine x_iload_n hK kX10_lose_37 (q := 38) rfl rfl ?_
    refine x_iadd hK kX10_lose_38 (q := 39) rfl ?_
    refine x_cv3 hK kX10_lose_39 (q := 42) rfl (vtX10_lose_85) (Nat.le_of_ble_eq_true rfl) ?_
    refine SX10_copy_n hr1 (by omega) q2 (fun A2 s2 hr2 => ?_)
    rw [x1] at hr2
    have y1 : uI (uI s 2070 g) 2071 (s (45 * l + l)) 2071 = s (45 * l + l) := uI_s _ _ _
    have y2 : uI (uI s 2070 g) 2071 (s (45 * l + l)) 2070 = g := by rw [uI_n _ _ (by decide)]; exact uI_s _ _ _
    refine x_aload_n hK kX10_lose_42 (q := 43) rfl rfl ?_
    refine x_sipush hK kX10_lose_43 (q := 46) rfl (by decide) ?_
    refine x_sipush hK kX10_lose_46 (q := 49) rfl (by decide) ?_
    refine x_cv3 hK kX10_lose_49 (q := 52) rfl (vtX10_lose_155) (Nat.le_of_ble_eq_true rfl) ?_
    refine SX10_over_n C hr2 (by omega) (by omega) (by rw [y1, y2]; exact g2) (by rw [y2]; omega) (fun A3 s3 hr3 => ?_)
    rw [uI_uI] at hr3
    have z1 : uI (uI s 2070 g) 2071 C (a + l) = s (a + l) := by rw [uI_n _ _ (by omega), uI_n _ _ (by omega)]
    refine x_aload_n hK kX10_lose_52 (q := 53) rfl rfl ?_
    refine x_sipush hK kX10_lose_53 (q := 56) rfl (by decide) ?_
    refine x_iload_n hK kX10_lose_56 (q := 57) rfl rfl ?_
    refine x_iload_n hK kX10_lose_57 (q := 58) rfl rfl ?_
    refine x_iadd hK kX10_lose_58 (q := 59) rfl ?_
    refine x_cv3 hK kX10_lose_59 (q := 62) rfl (vtX10_lose_85) (Nat.le_of_ble_eq_true rfl) ?_
    refine SX10_copy_n hr3 (by omega) q1 (fun A4 s4 hr4 => ?_)
    rw [z1] at hr4
    have u1 : uI (uI (uI s 2070 g) 2071 C) 2072 (s (a + l)) 2072 = s (a + l) := uI_s _ _ _
    have u2 : uI (uI (uI s 2070 g) 2071 C) 2072 (s (a + l)) 2070 = g := by rw [uI_n _ _ (by decide), uI_n _ _ (by decide)]; exact uI_s _ _ _
    refine x_aload_n hK kX10_lose_62 (q := 63) rfl rfl ?_
    refine x_sipush hK kX10_lose_63 (q := 66) rfl (by decide) ?_
    refine x_sipush hK kX10_lose_66 (q := 69) rfl (by decide) ?_
    refine x_cv3 hK kX10_lose_69 (q := 72) rfl (vtX10_lose_155) (Nat.le_of_ble_eq_true rfl) ?_
    refine SX10_over_n D hr4 (by omega) (by omega) (by rw [u1, u2]; exact g1) (by rw [u2]; omega) (fun A5 s5 hr5 => ?_)
    rw [uI_uI] at hr5
    refine x_iconst hK kX10_lose_72 (q := 73) rfl ?_
    refine x_istore hK kX10_lose_73 (q := 75) rfl ?_
    simp only [lS, lS2, clr_0, clr_I, clr_L, clr_R]
    refine loop (t + 1).toNat 0 A5 _ (by omega) (by omega) (sN_tr s1 (sN_tr s2 (sN_tr s3 (sN_tr s4 s5)))) hr5 ?_ ?_ ?_ (fun g5 => ?_) (fun p hp1 => ?_)
    · rw [uI_n _ _ (by decide), uI_n _ _ (by decide)]; exact uI_s _ _ _
    · rw [uI_n _ _ (by decide)]; exact uI_s _ _ _
    · exact uI_s _ _ _
    · exfalso; omega
    · rw [uI_n _ _ (by omega), uI_n _ _ (by omega), uI_n _ _ (by omega)]
      unfold lo
      rw [if_neg (by omega)]
  simp only [eLoc, eE, List.length_cons, List.length_nil, List.replicate, List.cons_append, List.nil_append, Nat.reduceAdd, Nat.reduceSub]
  refine x_aload_n hK kX10_lose_0 (q := 1) rfl rfl ?_
  refine x_iload_n hK kX10_lose_1 (q := 2) rfl rfl ?_
  refine x_iload_n hK kX10_lose_2 (q := 3) rfl rfl ?_
  refine x_iadd hK kX10_lose_3 (q := 4) rfl ?_
  refine x_cv2 hK kX10_lose_4 (q := 7) rfl (vtX10_lose_81) (Nat.le_of_ble_eq_true rfl) ?_
  refine SX10_isZero_n hr q1 ?_
  refine x_if_eq hK kX10_lose_7 (q := 10) rfl (tg := 11) rfl (by exact zZ_w _) (fun c7 => ?_) (fun c7 => ?_)
  · exact main (zZ_0.mp c7)
  · refine x_return_ hK kX10_lose_10 (by first | trivial | exact Or.inl rfl | exact Or.inr rfl) ?_
    exact h7 (Decidable.not_not.mp (fun g => c7 (zZ_0.mpr g)))
set_option maxRecDepth 20000 in
theorem mX10_lose : eMet yX10_lose cX10_lose 6 none 4 105 SX10_lose := eMet_of (by decide +kernel) sX10_lose kX10_lose_ok caX10_lose tb_RX10
theorem wX10_lose : eWV yX10_lose cX10_lose 6 none 4 9 SX10_lose := ⟨(gW_at 1085 (by decide +kernel) rfl), (gW_at 89 (by decide +kernel) rfl), (gW_at 1084 (by decide +kernel) rfl), ⟨_, rfl, (gW_at 41 (by decide +kernel) rfl)⟩, by decide +kernel, SX10_lose_r⟩
