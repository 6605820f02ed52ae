/-! The reference's face: fractions. -/
theorem SX10_fraction_f {F : Nat → Int} {A : Nat → Int → Int} {s : Int → Int} {a b what : Int} {rt : Option eV → eM → Prop} (x y : Int) (hr : rn (A 0) s) (h0 : 0 ≤ a ∧ a < 2666 ∧ (a < 2070 ∨ 2073 ≤ a)) (h1 : 0 ≤ b ∧ b < 2666 ∧ (b < 2070 ∨ 2073 ≤ b)) (ex : s a = x) (ey : s b = y) (h2 : y ≠ 0) (h3 : zAbs x < bB ^ 598 ∧ zAbs y < bB ^ 598) (h4 : w32 what) (h : ∀ (A' : Nat → Int → Int) (s' : Int → Int), sN A A' → rn (A' 0) s' → (∀ p, p < 2070 ∨ 2073 ≤ p → s' p = s p) → rt (some (eL (frac x y what))) (cR F A')) : SX10_fraction [eRR, eI a, eI b, eI what] (cR F A) rt :=
  SX10_fraction_i hr h0 h1 (by rw [ey]; exact h2) (by rw [ex, ey]; exact h3) h4 (by rw [ex, ey]; exact h)
/-- what is kept over a telling -/
def sK (s s' : Int → Int) : Prop := ∀ p, p < 2070 ∨ 2075 ≤ p → s' p = s p
def SX10_coefficient : eSp := fun as M rt => ∃ (F : Nat → Int) (A : Nat → Int → Int) (s : Int → Int) (k a b what : Int), as = [eRR, eI k, eI a, eI b, eI what] ∧ M = cR F A ∧ rn (A 0) s ∧ w32 (F 10) ∧ w32 k ∧ w32 a ∧ w32 b ∧ w32 what ∧ (F 10 ≠ -1 → F 13 = 4) ∧ (0 ≤ F 17 ∧ F 17 ≤ 45) ∧ (∀ i : Nat, (i : Int) < F 17 → 0 ≤ A 16 i ∧ A 16 i < 45) ∧
  (F 10 = -1 ∨ what < 0 ∨ 1 < what → rt (some (eL (-1))) (cR (uF F 12 0) A)) ∧
  (F 10 ≠ -1 → 0 ≤ what → what ≤ 1 → ¬ (0 ≤ k ∧ k < F 17 ∧ 0 ≤ a ∧ 0 ≤ b ∧ a + b ≤ 4 ∧ mN a b ≤ A 16 k) → rt (some (eL what)) (cR (uF F 12 0) A)) ∧
  (F 10 ≠ -1 → 0 ≤ what → what ≤ 1 → (0 ≤ k ∧ k < F 17 ∧ 0 ≤ a ∧ 0 ≤ b ∧ a + b ≤ 4 ∧ mN a b ≤ A 16 k) → s (45 * A 16 k + A 16 k) ≠ 0 ∧ (zAbs (s (45 * A 16 k + mN a b)) < bB ^ 598 ∧ zAbs (s (45 * A 16 k + A 16 k)) < bB ^ 598) ∧ ∀ (A' : Nat → Int → Int) (s' : Int → Int), sN A A' → rn (A' 0) s' → sK s s' → rt (some (eL (frac (s (45 * A 16 k + mN a b)) (s (45 * A 16 k + A 16 k)) what))) (cR (uF F 12 0) A'))
theorem SX10_coefficient_r : ∀ as M rt, SX10_coefficient as M rt → ∃ a r fs, as = eR a :: r ∧ M a = some (.inl (9, fs)) := by
  rintro as M rt ⟨F, A, s, k, a, b, what, rfl, rfl, -⟩
  exact ⟨_, _, _, rfl, rfl⟩
theorem mN_15 {a b : Int} (h : 0 ≤ a ∧ 0 ≤ b ∧ a + b ≤ 4) : 0 ≤ mN a b ∧ mN a b < 15 := by
  have hs : a + b = 0 ∨ a + b = 1 ∨ a + b = 2 ∨ a + b = 3 ∨ a + b = 4 := by omega
  unfold mN
  rcases hs with e | e | e | e | e <;> rw [e] <;> omega
def kX10_coefficient : List (Nat × Jvm.ClassFile.Instr × Nat) := [(0, .aload_n 0, 1), (1, .iconst 0, 1), (2, .putfield 61, 3), (5, .aload_n 0, 1), (6, .getfield 42, 3), (9, .iconst (-1), 1), (10, .if_icmp .eq 14, 3), (13, .iload 4, 2), (15, .ifCond .lt 9, 3), (18, .iload 4, 2), (20, .iconst 1, 1), (21, .if_icmp .le 7, 3), (24, .ldc2_w 289, 3), (27, .lreturn, 1), (28, .iload_n 1, 1), (29, .ifCond .lt 37, 3), (32, .iload_n 1, 1), (33, .aload_n 0, 1), (34, .getfield 196, 3), (37, .if_icmp .ge 29, 3), (40, .iload_n 2, 1), (41, .ifCond .lt 25, 3), (44, .iload_n 3, 1), (45, .ifCond .lt 21, 3), (48, .iload_n 2, 1), (49, .i2l, 1), (50, .iload_n 3, 1), (51, .i2l, 1), (52, .ladd, 1), (53, .aload_n 0, 1), (54, .getfield 179, 3), (57, .i2l, 1), (58, .lcmp, 1), (59, .ifCond .gt 7, 3), (62, .iconst 1, 1), (63, .goto 4, 3), (66, .iconst 0, 1), (67, .istore 5, 2), (69, .iload 5, 2), (71, .ifCond .eq 17, 3), (74, .iload_n 2, 1), (75, .iload_n 3, 1), (76, .invokestatic 185, 3), (79, .aload_n 0, 1), (80, .getfield 49, 3), (83, .iload_n 1, 1), (84, .iaload, 1), (85, .if_icmp .le 7, 3), (88, .iload 4, 2), (90, .i2l, 1), (91, .lreturn, 1), (92, .aload_n 0, 1), (93, .getfield 49, 3), (96, .iload_n 1, 1), (97, .iaload, 1), (98, .invokestatic 158, 3), (101, .istore 6, 2), (103, .aload_n 0, 1), (104, .iload 6, 2), (106, .iload_n 2, 1), (107, .iload_n 3, 1), (108, .invokestatic 185, 3), (111, .iadd, 1), (112, .iload 6, 2), (114, .aload_n 0, 1), (115, .getfield 49, 3), (118, .iload_n 1, 1), (119, .iaload, 1), (120, .iadd, 1), (121, .iload 4, 2), (123, .invokevirtual 291, 3), (126, .lreturn, 1)]
theorem kX10_coefficient_0 : cdOf kX10_coefficient 0 = some (.aload_n 0, 1) := by decide +kernel
theorem kX10_coefficient_1 : cdOf kX10_coefficient 1 = some (.iconst 0, 1) := by decide +kernel
theorem kX10_coefficient_2 : cdOf kX10_coefficient 2 = some (.putfield 61, 3) := by decide +kernel
theorem kX10_coefficient_5 : cdOf kX10_coefficient 5 = some (.aload_n 0, 1) := by decide +kernel
theorem kX10_coefficient_6 : cdOf kX10_coefficient 6 = some (.getfield 42, 3) := by decide +kernel
theorem kX10_coefficient_9 : cdOf kX10_coefficient 9 = some (.iconst (-1), 1) := by decide +kernel
theorem kX10_coefficient_10 : cdOf kX10_coefficient 10 = some (.if_icmp .eq 14, 3) := by decide +kernel
theorem kX10_coefficient_13 : cdOf kX10_coefficient 13 = some (.iload 4, 2) := by decide +kernel
theorem kX10_coefficient_15 : cdOf kX10_coefficient 15 = some (.ifCond .lt 9, 3) := by decide +kernel
theorem kX10_coefficient_18 : cdOf kX10_coefficient 18 = some (.iload 4, 2) := by decide +kernel
theorem kX10_coefficient_20 : cdOf kX10_coefficient 20 = some (.iconst 1, 1) := by decide +kernel
theorem kX10_coefficient_21 : cdOf kX10_coefficient 21 = some (.if_icmp .le 7, 3) := by decide +kernel
theorem kX10_coefficient_24 : cdOf kX10_coefficient 24 = some (.ldc2_w 289, 3) := by decide +kernel
theorem kX10_coefficient_27 : cdOf kX10_coefficient 27 = some (.lreturn, 1) := by decide +kernel
theorem kX10_coefficient_28 : cdOf kX10_coefficient 28 = some (.iload_n 1, 1) := by decide +kernel
theorem kX10_coefficient_29 : cdOf kX10_coefficient 29 = some (.ifCond .lt 37, 3) := by decide +kernel
theorem kX10_coefficient_32 : cdOf kX10_coefficient 32 = some (.iload_n 1, 1) := by decide +kernel
theorem kX10_coefficient_33 : cdOf kX10_coefficient 33 = some (.aload_n 0, 1) := by decide +kernel
theorem kX10_coefficient_34 : cdOf kX10_coefficient 34 = some (.getfield 196, 3) := by decide +kernel
theorem kX10_coefficient_37 : cdOf kX10_coefficient 37 = some (.if_icmp .ge 29, 3) := by decide +kernel
theorem kX10_coefficient_40 : cdOf kX10_coefficient 40 = some (.iload_n 2, 1) := by decide +kernel
theorem kX10_coefficient_41 : cdOf kX10_coefficient 41 = some (.ifCond .lt 25, 3) := by decide +kernel
theorem kX10_coefficient_44 : cdOf kX10_coefficient 44 = some (.iload_n 3, 1) := by decide +kernel
theorem kX10_coefficient_45 : cdOf kX10_coefficient 45 = some (.ifCond .lt 21, 3) := by decide +kernel
theorem kX10_coefficient_48 : cdOf kX10_coefficient 48 = some (.iload_n 2, 1) := by decide +kernel
theorem kX10_coefficient_49 : cdOf kX10_coefficient 49 = some (.i2l, 1) := by decide +kernel
theorem kX10_coefficient_50 : cdOf kX10_coefficient 50 = some (.iload_n 3, 1) := by decide +kernel
theorem kX10_coefficient_51 : cdOf kX10_coefficient 51 = some (.i2l, 1) := by decide +kernel
theorem kX10_coefficient_52 : cdOf kX10_coefficient 52 = some (.ladd, 1) := by decide +kernel
theorem kX10_coefficient_53 : cdOf kX10_coefficient 53 = some (.aload_n 0, 1) := by decide +kernel
theorem kX10_coefficient_54 : cdOf kX10_coefficient 54 = some (.getfield 179, 3) := by decide +kernel
theorem kX10_coefficient_57 : cdOf kX10_coefficient 57 = some (.i2l, 1) := by decide +kernel
theorem kX10_coefficient_58 : cdOf kX10_coefficient 58 = some (.lcmp, 1) := by decide +kernel
theorem kX10_coefficient_59 : cdOf kX10_coefficient 59 = some (.ifCond .gt 7, 3) := by decide +kernel
theorem kX10_coefficient_62 : cdOf kX10_coefficient 62 = some (.iconst 1, 1) := by decide +kernel
theorem kX10_coefficient_63 : cdOf kX10_coefficient 63 = some (.goto 4, 3) := by decide +kernel
theorem kX10_coefficient_66 : cdOf kX10_coefficient 66 = some (.iconst 0, 1) := by decide +kernel
theorem kX10_coefficient_67 : cdOf kX10_coefficient 67 = some (.istore 5, 2) := by decide +kernel
theorem kX10_coefficient_69 : cdOf kX10_coefficient 69 = some (.iload 5, 2) := by decide +kernel
theorem kX10_coefficient_71 : cdOf kX10_coefficient 71 = some (.ifCond .eq 17, 3) := by decide +kernel
theorem kX10_coefficient_74 : cdOf kX10_coefficient 74 = some (.iload_n 2, 1) := by decide +kernel
theorem kX10_coefficient_75 : cdOf kX10_coefficient 75 = some (.iload_n 3, 1) := by decide +kernel
theorem kX10_coefficient_76 : cdOf kX10_coefficient 76 = some (.invokestatic 185, 3) := by decide +kernel
theorem kX10_coefficient_79 : cdOf kX10_coefficient 79 = some (.aload_n 0, 1) := by decide +kernel
theorem kX10_coefficient_80 : cdOf kX10_coefficient 80 = some (.getfield 49, 3) := by decide +kernel
theorem kX10_coefficient_83 : cdOf kX10_coefficient 83 = some (.iload_n 1, 1) := by decide +kernel
theorem kX10_coefficient_84 : cdOf kX10_coefficient 84 = some (.iaload, 1) := by decide +kernel
theorem kX10_coefficient_85 : cdOf kX10_coefficient 85 = some (.if_icmp .le 7, 3) := by decide +kernel
theorem kX10_coefficient_88 : cdOf kX10_coefficient 88 = some (.iload 4, 2) := by decide +kernel
theorem kX10_coefficient_90 : cdOf kX10_coefficient 90 = some (.i2l, 1) := by decide +kernel
theorem kX10_coefficient_91 : cdOf kX10_coefficient 91 = some (.lreturn, 1) := by decide +kernel
theorem kX10_coefficient_92 : cdOf kX10_coefficient 92 = some (.aload_n 0, 1) := by decide +kernel
theorem kX10_coefficient_93 : cdOf kX10_coefficient 93 = some (.getfield 49, 3) := by decide +kernel
theorem kX10_coefficient_96 : cdOf kX10_coefficient 96 = some (.iload_n 1, 1) := by decide +kernel
theorem kX10_coefficient_97 : cdOf kX10_coefficient 97 = some (.iaload, 1) := by decide +kernel
theorem kX10_coefficient_98 : cdOf kX10_coefficient 98 = some (.invokestatic 158, 3) := by decide +kernel
theorem kX10_coefficient_101 : cdOf kX10_coefficient 101 = some (.istore 6, 2) := by decide +kernel
theorem kX10_coefficient_103 : cdOf kX10_coefficient 103 = some (.aload_n 0, 1) := by decide +kernel
theorem kX10_coefficient_104 : cdOf kX10_coefficient 104 = some (.iload 6, 2) := by decide +kernel
theorem kX10_coefficient_106 : cdOf kX10_coefficient 106 = some (.iload_n 2, 1) := by decide +kernel
theorem kX10_coefficient_107 : cdOf kX10_coefficient 107 = some (.iload_n 3, 1) := by decide +kernel
theorem kX10_coefficient_108 : cdOf kX10_coefficient 108 = some (.invokestatic 185, 3) := by decide +kernel
theorem kX10_coefficient_111 : cdOf kX10_coefficient 111 = some (.iadd, 1) := by decide +kernel
theorem kX10_coefficient_112 : cdOf kX10_coefficient 112 = some (.iload 6, 2) := by decide +kernel
theorem kX10_coefficient_114 : cdOf kX10_coefficient 114 = some (.aload_n 0, 1) := by decide +kernel
theorem kX10_coefficient_115 : cdOf kX10_coefficient 115 = some (.getfield 49, 3) := by decide +kernel
theorem kX10_coefficient_118 : cdOf kX10_coefficient 118 = some (.iload_n 1, 1) := by decide +kernel
theorem kX10_coefficient_119 : cdOf kX10_coefficient 119 = some (.iaload, 1) := by decide +kernel
theorem kX10_coefficient_120 : cdOf kX10_coefficient 120 = some (.iadd, 1) := by decide +kernel
theorem kX10_coefficient_121 : cdOf kX10_coefficient 121 = some (.iload 4, 2) := by decide +kernel
theorem kX10_coefficient_123 : cdOf kX10_coefficient 123 = some (.invokevirtual 291, 3) := by decide +kernel
theorem kX10_coefficient_126 : cdOf kX10_coefficient 126 = some (.lreturn, 1) := by decide +kernel
set_option maxRecDepth 20000 in
theorem kX10_coefficient_ok : ∀ pc i len, cdOf kX10_coefficient pc = some (i, len) → decode cX10_coefficient pc = .ok (i, len) ∧ stOK 7 i = true ∧ jOK pc i = true ∧ eLen i len = true := cdOf_ok cX10_coefficient 7 kX10_coefficient (by decide +kernel)
def vtX10_coefficient : Nat → Option (Nat × eSp) := fun k => match k with
  | 291 => some (4, SX10_fraction)
  | _ => none
theorem vtX10_coefficient_291 : vtX10_coefficient 291 = some (4, SX10_fraction) := rfl
def stX10_coefficient : Nat → Option (Nat × eSp) := fun k => match k with
  | 185 => some (2, SX10_monomial)
  | 158 => some (1, SX10_row)
  | _ => none
theorem stX10_coefficient_185 : stX10_coefficient 185 = some (2, SX10_monomial) := rfl
theorem stX10_coefficient_158 : stX10_coefficient 158 = some (1, SX10_row) := rfl
abbrev TX10_coefficient : eT := (fl_RX10, cl_RX10, dl_RX10, vtX10_coefficient, stX10_coefficient)
set_option maxRecDepth 20000 in
theorem caX10_coefficient : eCalls RX10 { frames := 5, cells := 0, slots := 0, locals := 126 } TX10_coefficient := by
  refine ⟨fun k n sp h => ?_, fun k n sp h => ?_⟩
  · dsimp only [TX10_coefficient] at h
    unfold vtX10_coefficient at h
    split at h
    · cases h; exact eV_mk mX10_fraction wX10_fraction (by decide +kernel) (Or.inl (gW_at 1299 (by decide +kernel) rfl))
    · cases h
  · dsimp only [TX10_coefficient] at h
    unfold stX10_coefficient at h
    split at h
    · cases h; exact eS_mk mX10_monomial wX10_monomial (by decide +kernel) (Or.inl (gW_at 1187 (by decide +kernel) rfl))
    · cases h; exact eS_mk mX10_row wX10_row (by decide +kernel) (Or.inl (gW_at 1090 (by decide +kernel) rfl))
    · cases h
set_option maxRecDepth 100000 in
set_option maxHeartbeats 4000000 in
theorem sX10_coefficient : eSafe TX10_coefficient (cdOf kX10_coefficient) 7 (some .long) SX10_coefficient := by
  intro K rt hK as M h
  obtain ⟨F, A, s, k, a, b, what, rfl, rfl, hr, h0, hk, ha, hb, hw, h13, hN, he, h1, h2, h3⟩ := h
  refine ⟨by simp [eE], ?_⟩
  have wN : w32 (F 17) := by constructor <;> omega
  have go : ∀ c : Int, F 10 ≠ -1 → 0 ≤ what → what ≤ 1 → (c = 0 ∨ c = 1) → (c = 1 ↔ (0 ≤ k ∧ k < F 17 ∧ 0 ≤ a ∧ 0 ≤ b ∧ a + b ≤ 4)) → K 67 [some eRR, some (eI k), some (eI a), some (eI b), some (eI what), none, none] [eI c] (cR (uF F 12 0) A) := by
    intro c n0 w0 w1 c0 c1
    have hc1 : c ≠ 0 → 0 ≤ k ∧ k < F 17 ∧ 0 ≤ a ∧ 0 ≤ b ∧ a + b ≤ 4 := fun q => c1.mp (c0.resolve_left q)
    have hc0 : ¬ (0 ≤ k ∧ k < F 17 ∧ 0 ≤ a ∧ 0 ≤ b ∧ a + b ≤ 4) → c = 0 := fun q => by rcases c0 with e | e; exact e; exact absurd (c1.mp e) q
    refine x_istore hK kX10_coefficient_67 (q := 69) rfl ?_
    refine x_iload hK kX10_coefficient_69 (q := 71) rfl rfl ?_
    simp only [lS, lS2, clr_0, clr_I, clr_L, clr_R]
    refine x_if_eq hK kX10_coefficient_71 (q := 74) rfl (tg := 88) rfl (by rcases c0 with e | e <;> rw [e] <;> decide) (fun c71 => ?_) (fun c71 => ?_)
    · have hno : ¬ (0 ≤ k ∧ k < F 17 ∧ 0 ≤ a ∧ 0 ≤ b ∧ a + b ≤ 4 ∧ mN a b ≤ A 16 k) := fun q => by have := c1.mpr ⟨q.1, q.2.1, q.2.2.1, q.2.2.2.1, q.2.2.2.2.1⟩; omega
      refine x_iload hK kX10_coefficient_88 (q := 90) rfl rfl ?_
      refine x_i2l hK kX10_coefficient_90 (q := 91) rfl (by exact hw) ?_
      refine x_lreturn hK kX10_coefficient_91 (by first | trivial | exact Or.inl rfl | exact Or.inr rfl) ?_
      first
      | exact h2 n0 w0 w1 ‹_›
      | exact h2 n0 w0 w1 (by omega)
    · obtain ⟨k0, k1, a0, b0, ab⟩ := hc1 c71
      have m := mN_15 ⟨a0, b0, ab⟩
      have hek := he k.toNat (by omega)
      rw [show ((k.toNat : Nat) : Int) = k by omega] at hek
      obtain ⟨e, hee⟩ : ∃ e, A 16 k = e := ⟨_, rfl⟩
      rw [hee] at hek h2 h3
      refine x_iload_n hK kX10_coefficient_74 (q := 75) rfl rfl ?_
      refine x_iload_n hK kX10_coefficient_75 (q := 76) rfl rfl ?_
      refine x_cs2 hK kX10_coefficient_76 (q := 79) rfl (stX10_coefficient_185) (Nat.le_of_ble_eq_true rfl) ?_
      refine SX10_monomial_i (by omega) ?_
      refine x_aload_n hK kX10_coefficient_79 (q := 80) rfl rfl ?_
      refine x_getfield hK kX10_coefficient_80 (q := 83) rfl (gX10_49 ?_)
      refine x_iload_n hK kX10_coefficient_83 (q := 84) rfl rfl ?_
      refine x_iaload hK kX10_coefficient_84 (q := 85) rfl (aX10_A16 (by refine ⟨?_, ?_⟩ <;> omega) ?_)
      rw [hee]
      refine x_icmp_le hK kX10_coefficient_85 (q := 88) rfl (tg := 92) rfl (by exact ⟨⟨by omega, by omega⟩, by omega, by omega⟩) (fun c85 => ?_) (fun c85 => ?_)
      · refine x_aload_n hK kX10_coefficient_92 (q := 93) rfl rfl ?_
        refine x_getfield hK kX10_coefficient_93 (q := 96) rfl (gX10_49 ?_)
        refine x_iload_n hK kX10_coefficient_96 (q := 97) rfl rfl ?_
        refine x_iaload hK kX10_coefficient_97 (q := 98) rfl (aX10_A16 (by refine ⟨?_, ?_⟩ <;> omega) ?_)
        rw [hee]
        refine x_cs1 hK kX10_coefficient_98 (q := 101) rfl (stX10_coefficient_158) (Nat.le_of_ble_eq_true rfl) ?_
        refine SX10_row_i ?_
        refine x_istore hK kX10_coefficient_101 (q := 103) rfl ?_
        refine x_aload_n hK kX10_coefficient_103 (q := 104) rfl rfl ?_
        refine x_iload hK kX10_coefficient_104 (q := 106) rfl rfl ?_
        refine x_iload_n hK kX10_coefficient_106 (q := 107) rfl rfl ?_
        refine x_iload_n hK kX10_coefficient_107 (q := 108) rfl rfl ?_
        simp only [lS, lS2, clr_0, clr_I, clr_L, clr_R]
        refine x_cs2 hK kX10_coefficient_108 (q := 111) rfl (stX10_coefficient_185) (Nat.le_of_ble_eq_true rfl) ?_
        refine SX10_monomial_i (by omega) ?_
        refine x_iadd hK kX10_coefficient_111 (q := 112) rfl ?_
        refine x_iload hK kX10_coefficient_112 (q := 114) rfl rfl ?_
        refine x_aload_n hK kX10_coefficient_114 (q := 115) rfl rfl ?_
        refine x_getfield hK kX10_coefficient_115 (q := 118) rfl (gX10_49 ?_)
        refine x_iload_n hK kX10_coefficient_118 (q := 119) rfl rfl ?_
        refine x_iaload hK kX10_coefficient_119 (q := 120) rfl (aX10_A16 (by refine ⟨?_, ?_⟩ <;> omega) ?_)
        rw [hee]
        refine x_iadd hK kX10_coefficient_120 (q := 121) rfl ?_
        refine x_iload hK kX10_coefficient_121 (q := 123) rfl rfl ?_
        refine x_cv4 hK kX10_coefficient_123 (q := 126) rfl (vtX10_coefficient_291) (Nat.le_of_ble_eq_true rfl) ?_
        obtain ⟨g1, g2, g3⟩ := h3 n0 w0 w1 ⟨k0, k1, a0, b0, ab, by omega⟩
        refine SX10_fraction_f _ _ hr (by omega) (by omega) rfl rfl g1 g2 hw (fun A1 s1 k1 r1 o1 => ?_)
        refine x_lreturn hK kX10_coefficient_126 (by first | trivial | exact Or.inl rfl | exact Or.inr rfl) ?_
        exact g3 A1 s1 k1 r1 (fun p hp => o1 p (by omega))
      · refine x_iload hK kX10_coefficient_88 (q := 90) rfl rfl ?_
        refine x_i2l hK kX10_coefficient_90 (q := 91) rfl (by exact hw) ?_
        refine x_lreturn hK kX10_coefficient_91 (by first | trivial | exact Or.inl rfl | exact Or.inr rfl) ?_
        first
        | exact h2 n0 w0 w1 ‹_›
        | exact h2 n0 w0 w1 (by omega)
  simp only [eLoc, eE, List.length_cons, List.length_nil, List.replicate, List.cons_append, List.nil_append, Nat.reduceAdd, Nat.reduceSub]
  refine x_aload_n hK kX10_coefficient_0 (q := 1) rfl rfl ?_
  refine x_iconst hK kX10_coefficient_1 (q := 2) rfl ?_
  refine x_putfield hK kX10_coefficient_2 (q := 5) rfl (pX10_61 ?_)
  refine x_aload_n hK kX10_coefficient_5 (q := 6) rfl rfl ?_
  refine x_getfield hK kX10_coefficient_6 (q := 9) rfl (gX10_42 ?_)
  rw [uF_n _ _ (by decide)]
  refine x_iconst hK kX10_coefficient_9 (q := 10) rfl ?_
  refine x_icmp_eq hK kX10_coefficient_10 (q := 13) rfl (tg := 24) rfl (by exact ⟨h0, by decide⟩) (fun c10 => ?_) (fun c10 => ?_)
  · refine x_ldc2_w hK kX10_coefficient_24 (q := 27) rfl lc2_RX10_289 ?_
    refine x_lreturn hK kX10_coefficient_27 (by first | trivial | exact Or.inl rfl | exact Or.inr rfl) ?_
    exact h1 (by omega)
  · refine x_iload hK kX10_coefficient_13 (q := 15) rfl rfl ?_
    refine x_if_lt hK kX10_coefficient_15 (q := 18) rfl (tg := 24) rfl (by exact hw) (fun c15 => ?_) (fun c15 => ?_)
    · refine x_ldc2_w hK kX10_coefficient_24 (q := 27) rfl lc2_RX10_289 ?_
      refine x_lreturn hK kX10_coefficient_27 (by first | trivial | exact Or.inl rfl | exact Or.inr rfl) ?_
      exact h1 (by omega)
    · refine x_iload hK kX10_coefficient_18 (q := 20) rfl rfl ?_
      refine x_iconst hK kX10_coefficient_20 (q := 21) rfl ?_
      refine x_icmp_le hK kX10_coefficient_21 (q := 24) rfl (tg := 28) rfl (by exact ⟨hw, by decide⟩) (fun c21 => ?_) (fun c21 => ?_)
      · refine x_iload_n hK kX10_coefficient_28 (q := 29) rfl rfl ?_
        refine x_if_lt hK kX10_coefficient_29 (q := 32) rfl (tg := 66) rfl (by exact hk) (fun c29 => ?_) (fun c29 => ?_)
        · refine x_iconst hK kX10_coefficient_66 (q := 67) rfl ?_
          first
          | exact go 1 (by omega) (by omega) (by omega) (Or.inr rfl) ⟨fun _ => by omega, fun _ => rfl⟩
          | exact go 0 (by omega) (by omega) (by omega) (Or.inl rfl) ⟨fun q => absurd q (by decide), fun q => by omega⟩
        · refine x_iload_n hK kX10_coefficient_32 (q := 33) rfl rfl ?_
          refine x_aload_n hK kX10_coefficient_33 (q := 34) rfl rfl ?_
          refine x_getfield hK kX10_coefficient_34 (q := 37) rfl (gX10_196 ?_)
          rw [uF_n _ _ (by decide)]
          refine x_icmp_ge hK kX10_coefficient_37 (q := 40) rfl (tg := 66) rfl (by exact ⟨hk, wN⟩) (fun c37 => ?_) (fun c37 => ?_)
          · refine x_iconst hK kX10_coefficient_66 (q := 67) rfl ?_
            first
            | exact go 1 (by omega) (by omega) (by omega) (Or.inr rfl) ⟨fun _ => by omega, fun _ => rfl⟩
            | exact go 0 (by omega) (by omega) (by omega) (Or.inl rfl) ⟨fun q => absurd q (by decide), fun q => by omega⟩
          · refine x_iload_n hK kX10_coefficient_40 (q := 41) rfl rfl ?_
            refine x_if_lt hK kX10_coefficient_41 (q := 44) rfl (tg := 66) rfl (by exact ha) (fun c41 => ?_) (fun c41 => ?_)
            · refine x_iconst hK kX10_coefficient_66 (q := 67) rfl ?_
              first
              | exact go 1 (by omega) (by omega) (by omega) (Or.inr rfl) ⟨fun _ => by omega, fun _ => rfl⟩
              | exact go 0 (by omega) (by omega) (by omega) (Or.inl rfl) ⟨fun q => absurd q (by decide), fun q => by omega⟩
            · refine x_iload_n hK kX10_coefficient_44 (q := 45) rfl rfl ?_
              refine x_if_lt hK kX10_coefficient_45 (q := 48) rfl (tg := 66) rfl (by exact hb) (fun c45 => ?_) (fun c45 => ?_)
              · refine x_iconst hK kX10_coefficient_66 (q := 67) rfl ?_
                first
                | exact go 1 (by omega) (by omega) (by omega) (Or.inr rfl) ⟨fun _ => by omega, fun _ => rfl⟩
                | exact go 0 (by omega) (by omega) (by omega) (Or.inl rfl) ⟨fun q => absurd q (by decide), fun q => by omega⟩
              · refine x_iload_n hK kX10_coefficient_48 (q := 49) rfl rfl ?_
                refine x_i2l hK kX10_coefficient_49 (q := 50) rfl (by omega) ?_
                refine x_iload_n hK kX10_coefficient_50 (q := 51) rfl rfl ?_
                refine x_i2l hK kX10_coefficient_51 (q := 52) rfl (by omega) ?_
                refine x_ladd hK kX10_coefficient_52 (q := 53) rfl ?_
                refine x_aload_n hK kX10_coefficient_53 (q := 54) rfl rfl ?_
                refine x_getfield hK kX10_coefficient_54 (q := 57) rfl (gX10_179 ?_)
                rw [uF_n _ _ (by decide), h13 (by omega)]
                refine x_i2l hK kX10_coefficient_57 (q := 58) rfl (by decide) ?_
                refine x_lcmp hK kX10_coefficient_58 (q := 59) rfl (by 
                      refine ⟨?_, by decide⟩
                      obtain ⟨x0, x1⟩ := ha
                      obtain ⟨x2, x3⟩ := hb
                      constructor <;> omega) ?_
                refine x_ifc_gt hK kX10_coefficient_59 (q := 62) rfl (tg := 66) rfl (fun c59 => ?_) (fun c59 => ?_)
                · refine x_iconst hK kX10_coefficient_66 (q := 67) rfl ?_
                  first
                  | exact go 1 (by omega) (by omega) (by omega) (Or.inr rfl) ⟨fun _ => by omega, fun _ => rfl⟩
                  | exact go 0 (by omega) (by omega) (by omega) (Or.inl rfl) ⟨fun q => absurd q (by decide), fun q => by omega⟩
                · refine x_iconst hK kX10_coefficient_62 (q := 63) rfl ?_
                  refine x_goto hK kX10_coefficient_63 (tg := 67) rfl ?_
                  first
                  | exact go 1 (by omega) (by omega) (by omega) (Or.inr rfl) ⟨fun _ => by omega, fun _ => rfl⟩
                  | exact go 0 (by omega) (by omega) (by omega) (Or.inl rfl) ⟨fun q => absurd q (by decide), fun q => by omega⟩
      · refine x_ldc2_w hK kX10_coefficient_24 (q := 27) rfl lc2_RX10_289 ?_
        refine x_lreturn hK kX10_coefficient_27 (by first | trivial | exact Or.inl rfl | exact Or.inr rfl) ?_
        exact h1 (by omega)
set_option maxRecDepth 20000 in
theorem mX10_coefficient : eMet yX10_coefficient cX10_coefficient 7 (some .long) 5 126 SX10_coefficient := eMet_of (by decide +kernel) sX10_coefficient kX10_coefficient_ok caX10_coefficient tb_RX10
theorem wX10_coefficient : eWV yX10_coefficient cX10_coefficient 7 (some .long) 5 9 SX10_coefficient := ⟨(gW_at 1297 (by decide +kernel) rfl), (gW_at 89 (by decide +kernel) rfl), (gW_at 1295 (by decide +kernel) rfl), ⟨_, rfl, (gW_at 1296 (by decide +kernel) rfl)⟩, by decide +kernel, SX10_coefficient_r⟩
-- entries
def cEn (F : Nat → Int) (i j what : Int) : Prop := cFin F ∧ 0 ≤ i ∧ i < F 19 ∧ 0 ≤ j ∧ j < F 19 ∧ 0 ≤ what ∧ what ≤ 1
def SX10_isEntry : eSp := fun as M rt => ∃ (F : Nat → Int) (A : Nat → Int → Int) (i j what : Int), as = [eRR, eI i, eI j, eI what] ∧ M = cR F A ∧ w32 (F 10) ∧ w32 i ∧ w32 j ∧ w32 what ∧ (0 ≤ F 19 ∧ F 19 ≤ 6) ∧ ∀ b : Int, (b = 0 ∨ b = 1) → (b = 1 ↔ cEn F i j what) → rt (some (eI b)) (cR (uF F 12 0) A)
theorem SX10_isEntry_i {F : Nat → Int} {A : Nat → Int → Int} {i j what : Int} {rt : Option eV → eM → Prop} (h0 : w32 (F 10)) (h1 : w32 i) (h2 : w32 j) (h3 : w32 what) (h4 : 0 ≤ F 19 ∧ F 19 ≤ 6) (h : ∀ b : Int, (b = 0 ∨ b = 1) → (b = 1 ↔ cEn F i j what) → rt (some (eI b)) (cR (uF F 12 0) A)) : SX10_isEntry [eRR, eI i, eI j, eI what] (cR F A) rt := ⟨F, A, i, j, what, rfl, rfl, h0, h1, h2, h3, h4, h⟩
theorem SX10_isEntry_r : ∀ as M rt, SX10_isEntry as M rt → ∃ a r fs, as = eR a :: r ∧ M a = some (.inl (9, fs)) := by
  rintro as M rt ⟨F, A, i, j, what, rfl, rfl, -⟩
  exact ⟨_, _, _, rfl, rfl⟩
def kX10_isEntry : List (Nat × Jvm.ClassFile.Instr × Nat) := [(0, .aload_n 0, 1), (1, .invokevirtual 274, 3), (4, .ifCond .eq 40, 3), (7, .iload_n 1, 1), (8, .ifCond .lt 36, 3), (11, .iload_n 1, 1), (12, .aload_n 0, 1), (13, .getfield 223, 3), (16, .if_icmp .ge 28, 3), (19, .iload_n 2, 1), (20, .ifCond .lt 24, 3), (23, .iload_n 2, 1), (24, .aload_n 0, 1), (25, .getfield 223, 3), (28, .if_icmp .ge 16, 3), (31, .iload_n 3, 1), (32, .ifCond .lt 12, 3), (35, .iload_n 3, 1), (36, .iconst 1, 1), (37, .if_icmp .gt 7, 3), (40, .iconst 1, 1), (41, .goto 4, 3), (44, .iconst 0, 1), (45, .ireturn, 1)]
theorem kX10_isEntry_0 : cdOf kX10_isEntry 0 = some (.aload_n 0, 1) := by decide +kernel
theorem kX10_isEntry_1 : cdOf kX10_isEntry 1 = some (.invokevirtual 274, 3) := by decide +kernel
theorem kX10_isEntry_4 : cdOf kX10_isEntry 4 = some (.ifCond .eq 40, 3) := by decide +kernel
theorem kX10_isEntry_7 : cdOf kX10_isEntry 7 = some (.iload_n 1, 1) := by decide +kernel
theorem kX10_isEntry_8 : cdOf kX10_isEntry 8 = some (.ifCond .lt 36, 3) := by decide +kernel
theorem kX10_isEntry_11 : cdOf kX10_isEntry 11 = some (.iload_n 1, 1) := by decide +kernel
theorem kX10_isEntry_12 : cdOf kX10_isEntry 12 = some (.aload_n 0, 1) := by decide +kernel
theorem kX10_isEntry_13 : cdOf kX10_isEntry 13 = some (.getfield 223, 3) := by decide +kernel
theorem kX10_isEntry_16 : cdOf kX10_isEntry 16 = some (.if_icmp .ge 28, 3) := by decide +kernel
theorem kX10_isEntry_19 : cdOf kX10_isEntry 19 = some (.iload_n 2, 1) := by decide +kernel
theorem kX10_isEntry_20 : cdOf kX10_isEntry 20 = some (.ifCond .lt 24, 3) := by decide +kernel
theorem kX10_isEntry_23 : cdOf kX10_isEntry 23 = some (.iload_n 2, 1) := by decide +kernel
theorem kX10_isEntry_24 : cdOf kX10_isEntry 24 = some (.aload_n 0, 1) := by decide +kernel
theorem kX10_isEntry_25 : cdOf kX10_isEntry 25 = some (.getfield 223, 3) := by decide +kernel
theorem kX10_isEntry_28 : cdOf kX10_isEntry 28 = some (.if_icmp .ge 16, 3) := by decide +kernel
theorem kX10_isEntry_31 : cdOf kX10_isEntry 31 = some (.iload_n 3, 1) := by decide +kernel
theorem kX10_isEntry_32 : cdOf kX10_isEntry 32 = some (.ifCond .lt 12, 3) := by decide +kernel
theorem kX10_isEntry_35 : cdOf kX10_isEntry 35 = some (.iload_n 3, 1) := by decide +kernel
theorem kX10_isEntry_36 : cdOf kX10_isEntry 36 = some (.iconst 1, 1) := by decide +kernel
theorem kX10_isEntry_37 : cdOf kX10_isEntry 37 = some (.if_icmp .gt 7, 3) := by decide +kernel
theorem kX10_isEntry_40 : cdOf kX10_isEntry 40 = some (.iconst 1, 1) := by decide +kernel
theorem kX10_isEntry_41 : cdOf kX10_isEntry 41 = some (.goto 4, 3) := by decide +kernel
theorem kX10_isEntry_44 : cdOf kX10_isEntry 44 = some (.iconst 0, 1) := by decide +kernel
theorem kX10_isEntry_45 : cdOf kX10_isEntry 45 = some (.ireturn, 1) := by decide +kernel
set_option maxRecDepth 20000 in
theorem kX10_isEntry_ok : ∀ pc i len, cdOf kX10_isEntry pc = some (i, len) → decode cX10_isEntry pc = .ok (i, len) ∧ stOK 4 i = true ∧ jOK pc i = true ∧ eLen i len = true := cdOf_ok cX10_isEntry 4 kX10_isEntry (by decide +kernel)
def vtX10_isEntry : Nat → Option (Nat × eSp) := fun k => match k with
  | 274 => some (1, SX10_isFinite)
  | _ => none
theorem vtX10_isEntry_274 : vtX10_isEntry 274 = some (1, SX10_isFinite) := rfl
def stX10_isEntry : Nat → Option (Nat × eSp) := fun _ => none
abbrev TX10_isEntry : eT := (fl_RX10, cl_RX10, dl_RX10, vtX10_isEntry, stX10_isEntry)
set_option maxRecDepth 20000 in
theorem caX10_isEntry : eCalls RX10 { frames := 1, cells := 0, slots := 0, locals := 20 } TX10_isEntry := by
  refine ⟨fun k n sp h => ?_, fun k n sp h => ?_⟩
  · dsimp only [TX10_isEntry] at h
    unfold vtX10_isEntry at h
    split at h
    · cases h; exact eV_mk mX10_isFinite wX10_isFinite (by decide +kernel) (Or.inl (gW_at 1275 (by decide +kernel) rfl))
    · cases h
  · cases h
set_option maxRecDepth 100000 in
set_option maxHeartbeats 4000000 in
theorem sX10_isEntry : eSafe TX10_isEntry (cdOf kX10_isEntry) 4 (some .boolean) SX10_isEntry := by
  intro K rt hK as M h
  obtain ⟨F, A, i, j, what, rfl, rfl, h0, hi, hj, hw, hN, h⟩ := h
  refine ⟨by simp [eE], ?_⟩
  have wN : w32 (F 19) := by constructor <;> omega
  simp only [eLoc, eE, List.length_cons, List.length_nil, List.replicate, List.cons_append, List.nil_append, Nat.reduceAdd, Nat.reduceSub]
  refine x_aload_n hK kX10_isEntry_0 (q := 1) rfl rfl ?_
  refine x_cv1 hK kX10_isEntry_1 (q := 4) rfl (vtX10_isEntry_274) (Nat.le_of_ble_eq_true rfl) ?_
  refine SX10_isFinite_i h0 (fun b b0 b1 => ?_)
  refine x_if_eq hK kX10_isEntry_4 (q := 7) rfl (tg := 44) rfl (by rcases b0 with e | e <;> rw [e] <;> decide) (fun c4 => ?_) (fun c4 => ?_)
  · refine x_iconst hK kX10_isEntry_44 (q := 45) rfl ?_
    refine x_ireturn hK kX10_isEntry_45 (by first | exact Or.inl rfl | exact Or.inr rfl) ?_
    first
    | exact h 1 (Or.inr rfl) ⟨fun _ => ⟨b1.mp (by omega), by omega, by omega, by omega, by omega, by omega, by omega⟩, fun _ => rfl⟩
    | exact h 0 (Or.inl rfl) ⟨fun q => absurd q (by decide), fun q => by have := b1.mpr q.1; omega⟩
    | exact h 0 (Or.inl rfl) ⟨fun q => absurd q (by decide), fun q => by have := q.2; omega⟩
  · refine x_iload_n hK kX10_isEntry_7 (q := 8) rfl rfl ?_
    refine x_if_lt hK kX10_isEntry_8 (q := 11) rfl (tg := 44) rfl (by exact hi) (fun c8 => ?_) (fun c8 => ?_)
    · refine x_iconst hK kX10_isEntry_44 (q := 45) rfl ?_
      refine x_ireturn hK kX10_isEntry_45 (by first | exact Or.inl rfl | exact Or.inr rfl) ?_
      first
      | exact h 1 (Or.inr rfl) ⟨fun _ => ⟨b1.mp (by omega), by omega, by omega, by omega, by omega, by omega, by omega⟩, fun _ => rfl⟩
      | exact h 0 (Or.inl rfl) ⟨fun q => absurd q (by decide), fun q => by have := b1.mpr q.1; omega⟩
      | exact h 0 (Or.inl rfl) ⟨fun q => absurd q (by decide), fun q => by have := q.2; omega⟩
    · refine x_iload_n hK kX10_isEntry_11 (q := 12) rfl rfl ?_
      refine x_aload_n hK kX10_isEntry_12 (q := 13) rfl rfl ?_
      refine x_getfield hK kX10_isEntry_13 (q := 16) rfl (gX10_223 ?_)
      rw [uF_n _ _ (by decide)]
      refine x_icmp_ge hK kX10_isEntry_16 (q := 19) rfl (tg := 44) rfl (by exact ⟨hi, wN⟩) (fun c16 => ?_) (fun c16 => ?_)
      · refine x_iconst hK kX10_isEntry_44 (q := 45) rfl ?_
        refine x_ireturn hK kX10_isEntry_45 (by first | exact Or.inl rfl | exact Or.inr rfl) ?_
        first
        | exact h 1 (Or.inr rfl) ⟨fun _ => ⟨b1.mp (by omega), by omega, by omega, by omega, by omega, by omega, by omega⟩, fun _ => rfl⟩
        | exact h 0 (Or.inl rfl) ⟨fun q => absurd q (by decide), fun q => by have := b1.mpr q.1; omega⟩
        | exact h 0 (Or.inl rfl) ⟨fun q => absurd q (by decide), fun q => by have := q.2; omega⟩
      · refine x_iload_n hK kX10_isEntry_19 (q := 20) rfl rfl ?_
        refine x_if_lt hK kX10_isEntry_20 (q := 23) rfl (tg := 44) rfl (by exact hj) (fun c20 => ?_) (fun c20 => ?_)
        · refine x_iconst hK kX10_isEntry_44 (q := 45) rfl ?_
          refine x_ireturn hK kX10_isEntry_45 (by first | exact Or.inl rfl | exact Or.inr rfl) ?_
          first
          | exact h 1 (Or.inr rfl) ⟨fun _ => ⟨b1.mp (by omega), by omega, by omega, by omega, by omega, by omega, by omega⟩, fun _ => rfl⟩
          | exact h 0 (Or.inl rfl) ⟨fun q => absurd q (by decide), fun q => by have := b1.mpr q.1; omega⟩
          | exact h 0 (Or.inl rfl) ⟨fun q => absurd q (by decide), fun q => by have := q.2; omega⟩
        · refine x_iload_n hK kX10_isEntry_23 (q := 24) rfl rfl ?_
          refine x_aload_n hK kX10_isEntry_24 (q := 25) rfl rfl ?_
          refine x_getfield hK kX10_isEntry_25 (q := 28) rfl (gX10_223 ?_)
          rw [uF_n _ _ (by decide)]
          refine x_icmp_ge hK kX10_isEntry_28 (q := 31) rfl (tg := 44) rfl (by exact ⟨hj, wN⟩) (fun c28 => ?_) (fun c28 => ?_)
          · refine x_iconst hK kX10_isEntry_44 (q := 45) rfl ?_
            refine x_ireturn hK kX10_isEntry_45 (by first | exact Or.inl rfl | exact Or.inr rfl) ?_
            first
            | exact h 1 (Or.inr rfl) ⟨fun _ => ⟨b1.mp (by omega), by omega, by omega, by omega, by omega, by omega, by omega⟩, fun _ => rfl⟩
            | exact h 0 (Or.inl rfl) ⟨fun q => absurd q (by decide), fun q => by have := b1.mpr q.1; omega⟩
            | exact h 0 (Or.inl rfl) ⟨fun q => absurd q (by decide), fun q => by have := q.2; omega⟩
          · refine x_iload_n hK kX10_isEntry_31 (q := 32) rfl rfl ?_
            refine x_if_lt hK kX10_isEntry_32 (q := 35) rfl (tg := 44) rfl (by exact hw) (fun c32 => ?_) (fun c32 => ?_)
            · refine x_iconst hK kX10_isEntry_44 (q := 45) rfl ?_
              refine x_ireturn hK kX10_isEntry_45 (by first | exact Or.inl rfl | exact Or.inr rfl) ?_
              first
              | exact h 1 (Or.inr rfl) ⟨fun _ => ⟨b1.mp (by omega), by omega, by omega, by omega, by omega, by omega, by omega⟩, fun _ => rfl⟩
              | exact h 0 (Or.inl rfl) ⟨fun q => absurd q (by decide), fun q => by have := b1.mpr q.1; omega⟩
              | exact h 0 (Or.inl rfl) ⟨fun q => absurd q (by decide), fun q => by have := q.2; omega⟩
            · refine x_iload_n hK kX10_isEntry_35 (q := 36) rfl rfl ?_
              refine x_iconst hK kX10_isEntry_36 (q := 37) rfl ?_
              refine x_icmp_gt hK kX10_isEntry_37 (q := 40) rfl (tg := 44) rfl (by exact ⟨hw, by decide⟩) (fun c37 => ?_) (fun c37 => ?_)
              · refine x_iconst hK kX10_isEntry_44 (q := 45) rfl ?_
                refine x_ireturn hK kX10_isEntry_45 (by first | exact Or.inl rfl | exact Or.inr rfl) ?_
                first
                | exact h 1 (Or.inr rfl) ⟨fun _ => ⟨b1.mp (by omega), by omega, by omega, by omega, by omega, by omega, by omega⟩, fun _ => rfl⟩
                | exact h 0 (Or.inl rfl) ⟨fun q => absurd q (by decide), fun q => by have := b1.mpr q.1; omega⟩
                | exact h 0 (Or.inl rfl) ⟨fun q => absurd q (by decide), fun q => by have := q.2; omega⟩
              · refine x_iconst hK kX10_isEntry_40 (q := 41) rfl ?_
                refine x_goto hK kX10_isEntry_41 (tg := 45) rfl ?_
                refine x_ireturn hK kX10_isEntry_45 (by first | exact Or.inl rfl | exact Or.inr rfl) ?_
                first
                | exact h 1 (Or.inr rfl) ⟨fun _ => ⟨b1.mp (by omega), by omega, by omega, by omega, by omega, by omega, by omega⟩, fun _ => rfl⟩
                | exact h 0 (Or.inl rfl) ⟨fun q => absurd q (by decide), fun q => by have := b1.mpr q.1; omega⟩
                | exact h 0 (Or.inl rfl) ⟨fun q => absurd q (by decide), fun q => by have := q.2; omega⟩
set_option maxRecDepth 20000 in
theorem mX10_isEntry : eMet yX10_isEntry cX10_isEntry 4 (some .boolean) 1 20 SX10_isEntry := eMet_of (by decide +kernel) sX10_isEntry kX10_isEntry_ok caX10_isEntry tb_RX10
theorem wX10_isEntry : eWV yX10_isEntry cX10_isEntry 4 (some .boolean) 4 9 SX10_isEntry := ⟨(gW_at 1327 (by decide +kernel) rfl), (gW_at 89 (by decide +kernel) rfl), (gW_at 1326 (by decide +kernel) rfl), ⟨_, rfl, (gW_at 76 (by decide +kernel) rfl)⟩, by decide +kernel, SX10_isEntry_r⟩
def tOf (w : Int) : Int := if w = 0 then 2080 else if w = 1 then 2116 else 2152
def SX10_table : eSp := fun as M rt => ∃ (F : Nat → Int) (A : Nat → Int → Int) (s : Int → Int) (w i j what : Int), as = [eRR, eI w, eI i, eI j, eI what] ∧ M = cR F A ∧ rn (A 0) s ∧ w32 (F 10) ∧ w32 w ∧ w32 i ∧ w32 j ∧ w32 what ∧ (0 ≤ F 19 ∧ F 19 ≤ 6) ∧
  (¬ (cEn F i j what ∧ 0 ≤ w ∧ w ≤ 2) → rt (some (eL (-1))) (cR (uF F 12 0) A)) ∧
  (cEn F i j what → 0 ≤ w → w ≤ 2 → 1 ≤ s 2076 ∧ s 2076 ^ 2 < bB ^ 598 ∧ zAbs (s (tOf w + 6 * i + j)) < bB ^ 598 ∧ ∀ (A' : Nat → Int → Int) (s' : Int → Int), sN A A' → rn (A' 0) s' → sK s s' → rt (some (eL (frac (s (tOf w + 6 * i + j)) (s 2076 ^ (if w = 2 then 2 else 1)) what))) (cR (uF F 12 0) A'))
theorem SX10_table_r : ∀ as M rt, SX10_table as M rt → ∃ a r fs, as = eR a :: r ∧ M a = some (.inl (9, fs)) := by
  rintro as M rt ⟨F, A, s, w, i, j, what, rfl, rfl, -⟩
  exact ⟨_, _, _, rfl, rfl⟩
def kX10_table : List (Nat × Jvm.ClassFile.Instr × Nat) := [(0, .aload_n 0, 1), (1, .iload_n 2, 1), (2, .iload_n 3, 1), (3, .iload 4, 2), (5, .invokevirtual 295, 3), (8, .ifCond .eq 12, 3), (11, .iload_n 1, 1), (12, .ifCond .lt 8, 3), (15, .iload_n 1, 1), (16, .iconst 2, 1), (17, .if_icmp .le 7, 3), (20, .ldc2_w 289, 3), (23, .lreturn, 1), (24, .aload_n 0, 1), (25, .iload_n 1, 1), (26, .iconst 2, 1), (27, .if_icmp .ne 7, 3), (30, .iconst 2, 1), (31, .goto 4, 3), (34, .iconst 1, 1), (35, .invokevirtual 299, 3), (38, .aload_n 0, 1), (39, .aload_n 0, 1), (40, .iload_n 1, 1), (41, .ifCond .ne 9, 3), (44, .sipush 2080, 3), (47, .goto 17, 3), (50, .iload_n 1, 1), (51, .iconst 1, 1), (52, .if_icmp .ne 9, 3), (55, .sipush 2116, 3), (58, .goto 6, 3), (61, .sipush 2152, 3), (64, .iload_n 2, 1), (65, .iload_n 3, 1), (66, .invokevirtual 245, 3), (69, .sipush 2074, 3), (72, .iload 4, 2), (74, .invokevirtual 291, 3), (77, .lreturn, 1)]
theorem kX10_table_0 : cdOf kX10_table 0 = some (.aload_n 0, 1) := by decide +kernel
theorem kX10_table_1 : cdOf kX10_table 1 = some (.iload_n 2, 1) := by decide +kernel
theorem kX10_table_2 : cdOf kX10_table 2 = some (.iload_n 3, 1) := by decide +kernel
theorem kX10_table_3 : cdOf kX10_table 3 = some (.iload 4, 2) := by decide +kernel
theorem kX10_table_5 : cdOf kX10_table 5 = some (.invokevirtual 295, 3) := by decide +kernel
theorem kX10_table_8 : cdOf kX10_table 8 = some (.ifCond .eq 12, 3) := by decide +kernel
theorem kX10_table_11 : cdOf kX10_table 11 = some (.iload_n 1, 1) := by decide +kernel
theorem kX10_table_12 : cdOf kX10_table 12 = some (.ifCond .lt 8, 3) := by decide +kernel
theorem kX10_table_15 : cdOf kX10_table 15 = some (.iload_n 1, 1) := by decide +kernel
theorem kX10_table_16 : cdOf kX10_table 16 = some (.iconst 2, 1) := by decide +kernel
theorem kX10_table_17 : cdOf kX10_table 17 = some (.if_icmp .le 7, 3) := by decide +kernel
theorem kX10_table_20 : cdOf kX10_table 20 = some (.ldc2_w 289, 3) := by decide +kernel
theorem kX10_table_23 : cdOf kX10_table 23 = some (.lreturn, 1) := by decide +kernel
theorem kX10_table_24 : cdOf kX10_table 24 = some (.aload_n 0, 1) := by decide +kernel
theorem kX10_table_25 : cdOf kX10_table 25 = some (.iload_n 1, 1) := by decide +kernel
theorem kX10_table_26 : cdOf kX10_table 26 = some (.iconst 2, 1) := by decide +kernel
theorem kX10_table_27 : cdOf kX10_table 27 = some (.if_icmp .ne 7, 3) := by decide +kernel
theorem kX10_table_30 : cdOf kX10_table 30 = some (.iconst 2, 1) := by decide +kernel
theorem kX10_table_31 : cdOf kX10_table 31 = some (.goto 4, 3) := by decide +kernel
theorem kX10_table_34 : cdOf kX10_table 34 = some (.iconst 1, 1) := by decide +kernel
theorem kX10_table_35 : cdOf kX10_table 35 = some (.invokevirtual 299, 3) := by decide +kernel
theorem kX10_table_38 : cdOf kX10_table 38 = some (.aload_n 0, 1) := by decide +kernel
theorem kX10_table_39 : cdOf kX10_table 39 = some (.aload_n 0, 1) := by decide +kernel
theorem kX10_table_40 : cdOf kX10_table 40 = some (.iload_n 1, 1) := by decide +kernel
theorem kX10_table_41 : cdOf kX10_table 41 = some (.ifCond .ne 9, 3) := by decide +kernel
theorem kX10_table_44 : cdOf kX10_table 44 = some (.sipush 2080, 3) := by decide +kernel
theorem kX10_table_47 : cdOf kX10_table 47 = some (.goto 17, 3) := by decide +kernel
theorem kX10_table_50 : cdOf kX10_table 50 = some (.iload_n 1, 1) := by decide +kernel
theorem kX10_table_51 : cdOf kX10_table 51 = some (.iconst 1, 1) := by decide +kernel
theorem kX10_table_52 : cdOf kX10_table 52 = some (.if_icmp .ne 9, 3) := by decide +kernel
theorem kX10_table_55 : cdOf kX10_table 55 = some (.sipush 2116, 3) := by decide +kernel
theorem kX10_table_58 : cdOf kX10_table 58 = some (.goto 6, 3) := by decide +kernel
theorem kX10_table_61 : cdOf kX10_table 61 = some (.sipush 2152, 3) := by decide +kernel
theorem kX10_table_64 : cdOf kX10_table 64 = some (.iload_n 2, 1) := by decide +kernel
theorem kX10_table_65 : cdOf kX10_table 65 = some (.iload_n 3, 1) := by decide +kernel
theorem kX10_table_66 : cdOf kX10_table 66 = some (.invokevirtual 245, 3) := by decide +kernel
theorem kX10_table_69 : cdOf kX10_table 69 = some (.sipush 2074, 3) := by decide +kernel
theorem kX10_table_72 : cdOf kX10_table 72 = some (.iload 4, 2) := by decide +kernel
theorem kX10_table_74 : cdOf kX10_table 74 = some (.invokevirtual 291, 3) := by decide +kernel
theorem kX10_table_77 : cdOf kX10_table 77 = some (.lreturn, 1) := by decide +kernel
set_option maxRecDepth 20000 in
theorem kX10_table_ok : ∀ pc i len, cdOf kX10_table pc = some (i, len) → decode cX10_table pc = .ok (i, len) ∧ stOK 5 i = true ∧ jOK pc i = true ∧ eLen i len = true := cdOf_ok cX10_table 5 kX10_table (by decide +kernel)
def vtX10_table : Nat → Option (Nat × eSp) := fun k => match k with
  | 295 => some (4, SX10_isEntry)
  | 299 => some (2, SX10_denominator)
  | 245 => some (4, SX10_entry)
  | 291 => some (4, SX10_fraction)
  | _ => none
theorem vtX10_table_295 : vtX10_table 295 = some (4, SX10_isEntry) := rfl
theorem vtX10_table_299 : vtX10_table 299 = some (2, SX10_denominator) := rfl
theorem vtX10_table_245 : vtX10_table 245 = some (4, SX10_entry) := rfl
theorem vtX10_table_291 : vtX10_table 291 = some (4, SX10_fraction) := rfl
def stX10_table : Nat → Option (Nat × eSp) := fun _ => none
abbrev TX10_table : eT := (fl_RX10, cl_RX10, dl_RX10, vtX10_table, stX10_table)
set_option maxRecDepth 20000 in
theorem caX10_table : eCalls RX10 { frames := 5, cells := 0, slots := 0, locals := 126 } TX10_table := by
  refine ⟨fun k n sp h => ?_, fun k n sp h => ?_⟩
  · dsimp only [TX10_table] at h
    unfold vtX10_table at h
    split at h
    · cases h; exact eV_mk mX10_isEntry wX10_isEntry (by decide +kernel) (Or.inl (gW_at 1324 (by decide +kernel) rfl))
    · cases h; exact eV_mk mX10_denominator wX10_denominator (by decide +kernel) (Or.inl (gW_at 1328 (by decide +kernel) rfl))
    · cases h; exact eV_mk mX10_entry wX10_entry (by decide +kernel) (Or.inl (gW_at 1217 (by decide +kernel) rfl))
    · cases h; exact eV_mk mX10_fraction wX10_fraction (by decide +kernel) (Or.inl (gW_at 1299 (by decide +kernel) rfl))
    · cases h
  · cases h
set_option maxRecDepth 100000 in
set_option maxHeartbeats 4000000 in
theorem sX10_table : eSafe TX10_table (cdOf kX10_table) 5 (some .long) SX10_table := by
  intro K rt hK as M h
  obtain ⟨F, A, s, w, i, j, what, rfl, rfl, hr, h0, hww, hi, hj, hw, hN, h1, h2⟩ := h
  refine ⟨by simp [eE], ?_⟩
  have main : ∀ n : Nat, n = (if w = 2 then 2 else 1) → cEn F i j what → 0 ≤ w → w ≤ 2 → K 35 [some eRR, some (eI w), some (eI i), some (eI j), some (eI what)] [eI n, eRR] (cR (uF F 12 0) A) := by
    intro n hn hc w0 w1
    obtain ⟨g1, g2, g3, g4⟩ := h2 hc w0 w1
    obtain ⟨-, i0, i1, j0, j1, x0, x1⟩ := hc
    have p1 : 0 < s 2076 ^ 1 ∧ s 2076 ^ 1 ≤ s 2076 ^ 2 := pow_mo g1 1 1
    have p2 : 0 < s 2076 ^ 2 ∧ s 2076 ^ 2 ≤ s 2076 ^ 2 := pow_mo g1 2 0
    have hn2 : n = 1 ∨ n = 2 := by rw [hn]; split <;> omega
    have pn : 0 < s 2076 ^ n ∧ s 2076 ^ n < bB ^ 598 := by rcases hn2 with e | e <;> rw [e] <;> omega
    rw [← hn] at g4
    have ht : 2080 ≤ tOf w ∧ tOf w ≤ 2152 := by unfold tOf; split; decide; split <;> decide
    have fin : ∀ (t : Int) (A1 : Nat → Int → Int), t = tOf w → sN A A1 → rn (A1 0) (uI s 2074 (s 2076 ^ n)) → K 64 [some eRR, some (eI w), some (eI i), some (eI j), some (eI what)] [eI t, eRR, eRR] (cR (uF F 12 0) A1) := by
      intro t A1 e hA r1
      rw [e]
      refine x_iload_n hK kX10_table_64 (q := 65) rfl rfl ?_
      refine x_iload_n hK kX10_table_65 (q := 66) rfl rfl ?_
      refine x_cv4 hK kX10_table_66 (q := 69) rfl (vtX10_table_245) (Nat.le_of_ble_eq_true rfl) ?_
      refine SX10_entry_i ?_
      refine x_sipush hK kX10_table_69 (q := 72) rfl (by decide) ?_
      refine x_iload hK kX10_table_72 (q := 74) rfl rfl ?_
      refine x_cv4 hK kX10_table_74 (q := 77) rfl (vtX10_table_291) (Nat.le_of_ble_eq_true rfl) ?_
      refine SX10_fraction_f (s (tOf w + 6 * i + j)) (s 2076 ^ n) r1 (by omega) (by decide) (uI_n _ _ (by omega)) (uI_s _ _ _) (by omega) ⟨g3, by rw [zAbs_nn (by omega)]; exact pn.2⟩ hw (fun A2 s2 k2 r2 o2 => ?_)
      refine x_lreturn hK kX10_table_77 (by first | trivial | exact Or.inl rfl | exact Or.inr rfl) ?_
      exact g4 A2 s2 (sN_tr hA k2) r2 (fun p hp => by rw [o2 p (by omega), uI_n _ _ (by omega)])
    refine x_cv2 hK kX10_table_35 (q := 38) rfl (vtX10_table_299) (Nat.le_of_ble_eq_true rfl) ?_
    refine SX10_denominator_i n hr (by omega) g1 pn.2 (fun A1 k1 r1 => ?_)
    refine x_aload_n hK kX10_table_38 (q := 39) rfl rfl ?_
    refine x_aload_n hK kX10_table_39 (q := 40) rfl rfl ?_
    refine x_iload_n hK kX10_table_40 (q := 41) rfl rfl ?_
    refine x_if_ne hK kX10_table_41 (q := 44) rfl (tg := 50) rfl (by exact hww) (fun c41 => ?_) (fun c41 => ?_)
    · refine x_iload_n hK kX10_table_50 (q := 51) rfl rfl ?_
      refine x_iconst hK kX10_table_51 (q := 52) rfl ?_
      refine x_icmp_ne hK kX10_table_52 (q := 55) rfl (tg := 61) rfl (by exact ⟨hww, by decide⟩) (fun c52 => ?_) (fun c52 => ?_)
      · refine x_sipush hK kX10_table_61 (q := 64) rfl (by decide) ?_
        refine fin _ A1 ?_ k1 r1
        unfold tOf
        first
        | (rw [if_pos (by omega)])
        | (rw [if_neg (by omega), if_pos (by omega)])
        | (rw [if_neg (by omega), if_neg (by omega)])
      · refine x_sipush hK kX10_table_55 (q := 58) rfl (by decide) ?_
        refine x_goto hK kX10_table_58 (tg := 64) rfl ?_
        refine fin _ A1 ?_ k1 r1
        unfold tOf
        first
        | (rw [if_pos (by omega)])
        | (rw [if_neg (by omega), if_pos (by omega)])
        | (rw [if_neg (by omega), if_neg (by omega)])
    · refine x_sipush hK kX10_table_44 (q := 47) rfl (by decide) ?_
      refine x_goto hK kX10_table_47 (tg := 64) rfl ?_
      refine fin _ A1 ?_ k1 r1
      unfold tOf
      first
      | (rw [if_pos (by omega)])
      | (rw [if_neg (by omega), if_pos (by omega)])
      | (rw [if_neg (by omega), if_neg (by omega)])
  simp only [eLoc, eE, List.length_cons, List.length_nil, List.replicate, List.cons_append, List.nil_append, Nat.reduceAdd, Nat.reduceSub]
  refine x_aload_n hK kX10_table_0 (q := 1) rfl rfl ?_
  refine x_iload_n hK kX10_table_1 (q := 2) rfl rfl ?_
  refine x_iload_n hK kX10_table_2 (q := 3) rfl rfl ?_
  refine x_iload hK kX10_table_3 (q := 5) rfl rfl ?_
  refine x_cv4 hK kX10_table_5 (q := 8) rfl (vtX10_table_295) (Nat.le_of_ble_eq_true rfl) ?_
  refine SX10_isEntry_i h0 hi hj hw hN (fun b b0 b1 => ?_)
  refine x_if_eq hK kX10_table_8 (q := 11) rfl (tg := 20) rfl (by rcases b0 with e | e <;> rw [e] <;> decide) (fun c8 => ?_) (fun c8 => ?_)
  · refine x_ldc2_w hK kX10_table_20 (q := 23) rfl lc2_RX10_289 ?_
    refine x_lreturn hK kX10_table_23 (by first | trivial | exact Or.inl rfl | exact Or.inr rfl) ?_
    first
    | exact h1 (fun q => by have := b1.mpr q.1; omega)
    | exact h1 (fun q => by have := q.2; omega)
  · refine x_iload_n hK kX10_table_11 (q := 12) rfl rfl ?_
    refine x_if_lt hK kX10_table_12 (q := 15) rfl (tg := 20) rfl (by exact hww) (fun c12 => ?_) (fun c12 => ?_)
    · refine x_ldc2_w hK kX10_table_20 (q := 23) rfl lc2_RX10_289 ?_
      refine x_lreturn hK kX10_table_23 (by first | trivial | exact Or.inl rfl | exact Or.inr rfl) ?_
      first
      | exact h1 (fun q => by have := b1.mpr q.1; omega)
      | exact h1 (fun q => by have := q.2; omega)
    · refine x_iload_n hK kX10_table_15 (q := 16) rfl rfl ?_
      refine x_iconst hK kX10_table_16 (q := 17) rfl ?_
      refine x_icmp_le hK kX10_table_17 (q := 20) rfl (tg := 24) rfl (by exact ⟨hww, by decide⟩) (fun c17 => ?_) (fun c17 => ?_)
      · refine x_aload_n hK kX10_table_24 (q := 25) rfl rfl ?_
        refine x_iload_n hK kX10_table_25 (q := 26) rfl rfl ?_
        refine x_iconst hK kX10_table_26 (q := 27) rfl ?_
        refine x_icmp_ne hK kX10_table_27 (q := 30) rfl (tg := 34) rfl (by exact ⟨hww, by decide⟩) (fun c27 => ?_) (fun c27 => ?_)
        · refine x_iconst hK kX10_table_34 (q := 35) rfl ?_
          first
          | exact main 1 (if_neg (by omega)).symm (b1.mp (by omega)) (by omega) (by omega)
          | exact main 2 (if_pos (by omega)).symm (b1.mp (by omega)) (by omega) (by omega)
        · refine x_iconst hK kX10_table_30 (q := 31) rfl ?_
          refine x_goto hK kX10_table_31 (tg := 35) rfl ?_
          first
          | exact main 1 (if_neg (by omega)).symm (b1.mp (by omega)) (by omega) (by omega)
          | exact main 2 (if_pos (by omega)).symm (b1.mp (by omega)) (by omega) (by omega)
      · refine x_ldc2_w hK kX10_table_20 (q := 23) rfl lc2_RX10_289 ?_
        refine x_lreturn hK kX10_table_23 (by first | trivial | exact Or.inl rfl | exact Or.inr rfl) ?_
        first
        | exact h1 (fun q => by have := b1.mpr q.1; omega)
        | exact h1 (fun q => by have := q.2; omega)
set_option maxRecDepth 20000 in
theorem mX10_table : eMet yX10_table cX10_table 5 (some .long) 5 126 SX10_table := eMet_of (by decide +kernel) sX10_table kX10_table_ok caX10_table tb_RX10
theorem wX10_table : eWV yX10_table cX10_table 5 (some .long) 5 9 SX10_table := ⟨(gW_at 1323 (by decide +kernel) rfl), (gW_at 89 (by decide +kernel) rfl), (gW_at 1321 (by decide +kernel) rfl), ⟨_, rfl, (gW_at 1322 (by decide +kernel) rfl)⟩, by decide +kernel, SX10_table_r⟩
def SX10_form : eSp := fun as M rt => ∃ (F : Nat → Int) (A : Nat → Int → Int) (s : Int → Int) (e i j what : Int), as = [eRR, eI e, eI i, eI j, eI what] ∧ M = cR F A ∧ rn (A 0) s ∧ w32 (F 10) ∧ w32 e ∧ w32 i ∧ w32 j ∧ w32 what ∧ (0 ≤ F 19 ∧ F 19 ≤ 6) ∧
  (¬ (cEn F i j what ∧ 0 ≤ e ∧ e ≤ 2) → rt (some (eL (-1))) (cR (uF F 12 0) A)) ∧
  (cEn F i j what → 0 ≤ e → e ≤ 2 → (0 ≤ A 18 i ∧ A 18 i < 6) ∧ (0 ≤ A 18 j ∧ A 18 j < 6) ∧ 1 ≤ s 2076 ∧ s 2076 ^ 8 < bB ^ 598 ∧ zAbs (s (2332 + 36 * e + 6 * i + j)) < bB ^ 598 ∧ ∀ (A' : Nat → Int → Int) (s' : Int → Int), sN A A' → rn (A' 0) s' → sK s s' → rt (some (eL (frac (s (2332 + 36 * e + 6 * i + j)) (s 2076 ^ (2 * e + mD (A 18 i) + mD (A 18 j)).toNat) what))) (cR (uF F 12 0) A'))
theorem SX10_form_r : ∀ as M rt, SX10_form as M rt → ∃ a r fs, as = eR a :: r ∧ M a = some (.inl (9, fs)) := by
  rintro as M rt ⟨F, A, s, e, i, j, what, rfl, rfl, -⟩
  exact ⟨_, _, _, rfl, rfl⟩
def kX10_form : List (Nat × Jvm.ClassFile.Instr × Nat) := [(0, .aload_n 0, 1), (1, .iload_n 2, 1), (2, .iload_n 3, 1), (3, .iload 4, 2), (5, .invokevirtual 295, 3), (8, .ifCond .eq 12, 3), (11, .iload_n 1, 1), (12, .ifCond .lt 8, 3), (15, .iload_n 1, 1), (16, .iconst 2, 1), (17, .if_icmp .le 7, 3), (20, .ldc2_w 289, 3), (23, .lreturn, 1), (24, .aload_n 0, 1), (25, .iconst 2, 1), (26, .iload_n 1, 1), (27, .imul, 1), (28, .aload_n 0, 1), (29, .getfield 52, 3), (32, .iload_n 2, 1), (33, .iaload, 1), (34, .invokestatic 139, 3), (37, .iadd, 1), (38, .aload_n 0, 1), (39, .getfield 52, 3), (42, .iload_n 3, 1), (43, .iaload, 1), (44, .invokestatic 139, 3), (47, .iadd, 1), (48, .invokevirtual 299, 3), (51, .aload_n 0, 1), (52, .aload_n 0, 1), (53, .sipush 2332, 3), (56, .bipush 36, 2), (58, .iload_n 1, 1), (59, .imul, 1), (60, .iadd, 1), (61, .iload_n 2, 1), (62, .iload_n 3, 1), (63, .invokevirtual 245, 3), (66, .sipush 2074, 3), (69, .iload 4, 2), (71, .invokevirtual 291, 3), (74, .lreturn, 1)]
theorem kX10_form_0 : cdOf kX10_form 0 = some (.aload_n 0, 1) := by decide +kernel
theorem kX10_form_1 : cdOf kX10_form 1 = some (.iload_n 2, 1) := by decide +kernel
theorem kX10_form_2 : cdOf kX10_form 2 = some (.iload_n 3, 1) := by decide +kernel
theorem kX10_form_3 : cdOf kX10_form 3 = some (.iload 4, 2) := by decide +kernel
theorem kX10_form_5 : cdOf kX10_form 5 = some (.invokevirtual 295, 3) := by decide +kernel
theorem kX10_form_8 : cdOf kX10_form 8 = some (.ifCond .eq 12, 3) := by decide +kernel
theorem kX10_form_11 : cdOf kX10_form 11 = some (.iload_n 1, 1) := by decide +kernel
theorem kX10_form_12 : cdOf kX10_form 12 = some (.ifCond .lt 8, 3) := by decide +kernel
theorem kX10_form_15 : cdOf kX10_form 15 = some (.iload_n 1, 1) := by decide +kernel
theorem kX10_form_16 : cdOf kX10_form 16 = some (.iconst 2, 1) := by decide +kernel
theorem kX10_form_17 : cdOf kX10_form 17 = some (.if_icmp .le 7, 3) := by decide +kernel
theorem kX10_form_20 : cdOf kX10_form 20 = some (.ldc2_w 289, 3) := by decide +kernel
theorem kX10_form_23 : cdOf kX10_form 23 = some (.lreturn, 1) := by decide +kernel
theorem kX10_form_24 : cdOf kX10_form 24 = some (.aload_n 0, 1) := by decide +kernel
theorem kX10_form_25 : cdOf kX10_form 25 = some (.iconst 2, 1) := by decide +kernel
theorem kX10_form_26 : cdOf kX10_form 26 = some (.iload_n 1, 1) := by decide +kernel
theorem kX10_form_27 : cdOf kX10_form 27 = some (.imul, 1) := by decide +kernel
theorem kX10_form_28 : cdOf kX10_form 28 = some (.aload_n 0, 1) := by decide +kernel
theorem kX10_form_29 : cdOf kX10_form 29 = some (.getfield 52, 3) := by decide +kernel
theorem kX10_form_32 : cdOf kX10_form 32 = some (.iload_n 2, 1) := by decide +kernel
theorem kX10_form_33 : cdOf kX10_form 33 = some (.iaload, 1) := by decide +kernel
theorem kX10_form_34 : cdOf kX10_form 34 = some (.invokestatic 139, 3) := by decide +kernel
theorem kX10_form_37 : cdOf kX10_form 37 = some (.iadd, 1) := by decide +kernel
theorem kX10_form_38 : cdOf kX10_form 38 = some (.aload_n 0, 1) := by decide +kernel
theorem kX10_form_39 : cdOf kX10_form 39 = some (.getfield 52, 3) := by decide +kernel
theorem kX10_form_42 : cdOf kX10_form 42 = some (.iload_n 3, 1) := by decide +kernel
theorem kX10_form_43 : cdOf kX10_form 43 = some (.iaload, 1) := by decide +kernel
theorem kX10_form_44 : cdOf kX10_form 44 = some (.invokestatic 139, 3) := by decide +kernel
theorem kX10_form_47 : cdOf kX10_form 47 = some (.iadd, 1) := by decide +kernel
theorem kX10_form_48 : cdOf kX10_form 48 = some (.invokevirtual 299, 3) := by decide +kernel
theorem kX10_form_51 : cdOf kX10_form 51 = some (.aload_n 0, 1) := by decide +kernel
theorem kX10_form_52 : cdOf kX10_form 52 = some (.aload_n 0, 1) := by decide +kernel
theorem kX10_form_53 : cdOf kX10_form 53 = some (.sipush 2332, 3) := by decide +kernel
theorem kX10_form_56 : cdOf kX10_form 56 = some (.bipush 36, 2) := by decide +kernel
theorem kX10_form_58 : cdOf kX10_form 58 = some (.iload_n 1, 1) := by decide +kernel
theorem kX10_form_59 : cdOf kX10_form 59 = some (.imul, 1) := by decide +kernel
theorem kX10_form_60 : cdOf kX10_form 60 = some (.iadd, 1) := by decide +kernel
theorem kX10_form_61 : cdOf kX10_form 61 = some (.iload_n 2, 1) := by decide +kernel
theorem kX10_form_62 : cdOf kX10_form 62 = some (.iload_n 3, 1) := by decide +kernel
theorem kX10_form_63 : cdOf kX10_form 63 = some (.invokevirtual 245, 3) := by decide +kernel
theorem kX10_form_66 : cdOf kX10_form 66 = some (.sipush 2074, 3) := by decide +kernel
theorem kX10_form_69 : cdOf kX10_form 69 = some (.iload 4, 2) := by decide +kernel
theorem kX10_form_71 : cdOf kX10_form 71 = some (.invokevirtual 291, 3) := by decide +kernel
theorem kX10_form_74 : cdOf kX10_form 74 = some (.lreturn, 1) := by decide +kernel
set_option maxRecDepth 20000 in
theorem kX10_form_ok : ∀ pc i len, cdOf kX10_form pc = some (i, len) → decode cX10_form pc = .ok (i, len) ∧ stOK 5 i = true ∧ jOK pc i = true ∧ eLen i len = true := cdOf_ok cX10_form 5 kX10_form (by decide +kernel)
def vtX10_form : Nat → Option (Nat × eSp) := fun k => match k with
  | 295 => some (4, SX10_isEntry)
  | 299 => some (2, SX10_denominator)
  | 245 => some (4, SX10_entry)
  | 291 => some (4, SX10_fraction)
  | _ => none
theorem vtX10_form_295 : vtX10_form 295 = some (4, SX10_isEntry) := rfl
theorem vtX10_form_299 : vtX10_form 299 = some (2, SX10_denominator) := rfl
theorem vtX10_form_245 : vtX10_form 245 = some (4, SX10_entry) := rfl
theorem vtX10_form_291 : vtX10_form 291 = some (4, SX10_fraction) := rfl
def stX10_form : Nat → Option (Nat × eSp) := fun k => match k with
  | 139 => some (1, SX10_degreeOf)
  | _ => none
theorem stX10_form_139 : stX10_form 139 = some (1, SX10_degreeOf) := rfl
abbrev TX10_form : eT := (fl_RX10, cl_RX10, dl_RX10, vtX10_form, stX10_form)
set_option maxRecDepth 20000 in
theorem caX10_form : eCalls RX10 { frames := 5, cells := 0, slots := 0, locals := 126 } TX10_form := by
  refine ⟨fun k n sp h => ?_, fun k n sp h => ?_⟩
  · dsimp only [TX10_form] at h
    unfold vtX10_form at h
    split at h
    · cases h; exact eV_mk mX10_isEntry wX10_isEntry (by decide +kernel) (Or.inl (gW_at 1324 (by decide +kernel) rfl))
    · cases h; exact eV_mk mX10_denominator wX10_denominator (by decide +kernel) (Or.inl (gW_at 1328 (by decide +kernel) rfl))
    · cases h; exact eV_mk mX10_entry wX10_entry (by decide +kernel) (Or.inl (gW_at 1217 (by decide +kernel) rfl))
    · cases h; exact eV_mk mX10_fraction wX10_fraction (by decide +kernel) (Or.inl (gW_at 1299 (by decide +kernel) rfl))
    · cases h
  · dsimp only [TX10_form] at h
    unfold stX10_form at h
    split at h
    · cases h; exact eS_mk mX10_degreeOf wX10_degreeOf (by decide +kernel) (Or.inl (gW_at 1178 (by decide +kernel) rfl))
    · cases h
set_option maxRecDepth 100000 in
set_option maxHeartbeats 4000000 in
theorem sX10_form : eSafe TX10_form (cdOf kX10_form) 5 (some .long) SX10_form := by
  intro K rt hK as M h
  obtain ⟨F, A, s, e, i, j, what, rfl, rfl, hr, h0, hww, hi, hj, hw, hN, h1, h2⟩ := h
  refine ⟨by simp [eE], ?_⟩
  have main : cEn F i j what → 0 ≤ e → e ≤ 2 → K 24 [some eRR, some (eI e), some (eI i), some (eI j), some (eI what)] [] (cR (uF F 12 0) A) := by
    intro hc w0 w1
    obtain ⟨t1, t2, g1, g2, g3, g4⟩ := h2 hc w0 w1
    obtain ⟨-, i0, i1, j0, j1, x0, x1⟩ := hc
    have d1 := mD_6 t1
    have d2 := mD_6 t2
    have d3 := (mD_h (u := A 18 i) (by omega)).1
    have d4 := (mD_h (u := A 18 j) (by omega)).1
    obtain ⟨n, hn⟩ : ∃ n : Nat, 2 * e + mD (A 18 i) + mD (A 18 j) = n := ⟨(2 * e + mD (A 18 i) + mD (A 18 j)).toNat, by omega⟩
    have hn8 : n ≤ 8 := by omega
    have pn := pow_mo g1 n (8 - n)
    rw [show n + (8 - n) = 8 by omega] at pn
    rw [show (2 * e + mD (A 18 i) + mD (A 18 j)).toNat = n by omega] at g4
    refine x_aload_n hK kX10_form_24 (q := 25) rfl rfl ?_
    refine x_iconst hK kX10_form_25 (q := 26) rfl ?_
    refine x_iload_n hK kX10_form_26 (q := 27) rfl rfl ?_
    refine x_imul hK kX10_form_27 (q := 28) rfl ?_
    refine x_aload_n hK kX10_form_28 (q := 29) rfl rfl ?_
    refine x_getfield hK kX10_form_29 (q := 32) rfl (gX10_52 ?_)
    refine x_iload_n hK kX10_form_32 (q := 33) rfl rfl ?_
    refine x_iaload hK kX10_form_33 (q := 34) rfl (aX10_A18 (by refine ⟨?_, ?_⟩ <;> omega) ?_)
    refine x_cs1 hK kX10_form_34 (q := 37) rfl (stX10_form_139) (Nat.le_of_ble_eq_true rfl) ?_
    refine SX10_degreeOf_i (by omega) ?_
    refine x_iadd hK kX10_form_37 (q := 38) rfl ?_
    refine x_aload_n hK kX10_form_38 (q := 39) rfl rfl ?_
    refine x_getfield hK kX10_form_39 (q := 42) rfl (gX10_52 ?_)
    refine x_iload_n hK kX10_form_42 (q := 43) rfl rfl ?_
    refine x_iaload hK kX10_form_43 (q := 44) rfl (aX10_A18 (by refine ⟨?_, ?_⟩ <;> omega) ?_)
    refine x_cs1 hK kX10_form_44 (q := 47) rfl (stX10_form_139) (Nat.le_of_ble_eq_true rfl) ?_
    refine SX10_degreeOf_i (by omega) ?_
    refine x_iadd hK kX10_form_47 (q := 48) rfl ?_
    rw [hn]
    refine x_cv2 hK kX10_form_48 (q := 51) rfl (vtX10_form_299) (Nat.le_of_ble_eq_true rfl) ?_
    refine SX10_denominator_i n hr (by omega) g1 (by omega) (fun A1 k1 r1 => ?_)
    refine x_aload_n hK kX10_form_51 (q := 52) rfl rfl ?_
    refine x_aload_n hK kX10_form_52 (q := 53) rfl rfl ?_
    refine x_sipush hK kX10_form_53 (q := 56) rfl (by decide) ?_
    refine x_bipush hK kX10_form_56 (q := 58) rfl (by decide) ?_
    refine x_iload_n hK kX10_form_58 (q := 59) rfl rfl ?_
    refine x_imul hK kX10_form_59 (q := 60) rfl ?_
    refine x_iadd hK kX10_form_60 (q := 61) rfl ?_
    refine x_iload_n hK kX10_form_61 (q := 62) rfl rfl ?_
    refine x_iload_n hK kX10_form_62 (q := 63) rfl rfl ?_
    refine x_cv4 hK kX10_form_63 (q := 66) rfl (vtX10_form_245) (Nat.le_of_ble_eq_true rfl) ?_
    refine SX10_entry_i ?_
    refine x_sipush hK kX10_form_66 (q := 69) rfl (by decide) ?_
    refine x_iload hK kX10_form_69 (q := 71) rfl rfl ?_
    refine x_cv4 hK kX10_form_71 (q := 74) rfl (vtX10_form_291) (Nat.le_of_ble_eq_true rfl) ?_
    refine SX10_fraction_f (s (2332 + 36 * e + 6 * i + j)) (s 2076 ^ n) r1 (by omega) (by decide) (uI_n _ _ (by omega)) (uI_s _ _ _) (by omega) ⟨g3, by rw [zAbs_nn (by omega)]; omega⟩ hw (fun A2 s2 k2 r2 o2 => ?_)
    refine x_lreturn hK kX10_form_74 (by first | trivial | exact Or.inl rfl | exact Or.inr rfl) ?_
    exact g4 A2 s2 (sN_tr k1 k2) r2 (fun p hp => by rw [o2 p (by omega), uI_n _ _ (by omega)])
  simp only [eLoc, eE, List.length_cons, List.length_nil, List.replicate, List.cons_append, List.nil_append, Nat.reduceAdd, Nat.reduceSub]
  refine x_aload_n hK kX10_form_0 (q := 1) rfl rfl ?_
  refine x_iload_n hK kX10_form_1 (q := 2) rfl rfl ?_
  refine x_iload_n hK kX10_form_2 (q := 3) rfl rfl ?_
  refine x_iload hK kX10_form_3 (q := 5) rfl rfl ?_
  refine x_cv4 hK kX10_form_5 (q := 8) rfl (vtX10_form_295) (Nat.le_of_ble_eq_true rfl) ?_
  refine SX10_isEntry_i h0 hi hj hw hN (fun b b0 b1 => ?_)
  refine x_if_eq hK kX10_form_8 (q := 11) rfl (tg := 20) rfl (by rcases b0 with e | e <;> rw [e] <;> decide) (fun c8 => ?_) (fun c8 => ?_)
  · refine x_ldc2_w hK kX10_form_20 (q := 23) rfl lc2_RX10_289 ?_
    refine x_lreturn hK kX10_form_23 (by first | trivial | exact Or.inl rfl | exact Or.inr rfl) ?_
    first
    | exact h1 (fun q => by have := b1.mpr q.1; omega)
    | exact h1 (fun q => by have := q.2; omega)
  · refine x_iload_n hK kX10_form_11 (q := 12) rfl rfl ?_
    refine x_if_lt hK kX10_form_12 (q := 15) rfl (tg := 20) rfl (by exact hww) (fun c12 => ?_) (fun c12 => ?_)
    · refine x_ldc2_w hK kX10_form_20 (q := 23) rfl lc2_RX10_289 ?_
      refine x_lreturn hK kX10_form_23 (by first | trivial | exact Or.inl rfl | exact Or.inr rfl) ?_
      first
      | exact h1 (fun q => by have := b1.mpr q.1; omega)
      | exact h1 (fun q => by have := q.2; omega)
    · refine x_iload_n hK kX10_form_15 (q := 16) rfl rfl ?_
      refine x_iconst hK kX10_form_16 (q := 17) rfl ?_
      refine x_icmp_le hK kX10_form_17 (q := 20) rfl (tg := 24) rfl (by exact ⟨hww, by decide⟩) (fun c17 => ?_) (fun c17 => ?_)
      · exact main (b1.mp (by omega)) (by omega) (by omega)
      · refine x_ldc2_w hK kX10_form_20 (q := 23) rfl lc2_RX10_289 ?_
        refine x_lreturn hK kX10_form_23 (by first | trivial | exact Or.inl rfl | exact Or.inr rfl) ?_
        first
        | exact h1 (fun q => by have := b1.mpr q.1; omega)
        | exact h1 (fun q => by have := q.2; omega)
set_option maxRecDepth 20000 in
theorem mX10_form : eMet yX10_form cX10_form 5 (some .long) 5 126 SX10_form := eMet_of (by decide +kernel) sX10_form kX10_form_ok caX10_form tb_RX10
theorem wX10_form : eWV yX10_form cX10_form 5 (some .long) 5 9 SX10_form := ⟨(gW_at 1335 (by decide +kernel) rfl), (gW_at 89 (by decide +kernel) rfl), (gW_at 1333 (by decide +kernel) rfl), ⟨_, rfl, (gW_at 1334 (by decide +kernel) rfl)⟩, by decide +kernel, SX10_form_r⟩
def SX10_remainder : eSp := fun as M rt => ∃ (F : Nat → Int) (A : Nat → Int → Int) (s : Int → Int) (i what : Int), as = [eRR, eI i, eI what] ∧ M = cR F A ∧ rn (A 0) s ∧ w32 (F 10) ∧ w32 i ∧ w32 what ∧ (0 ≤ F 19 ∧ F 19 ≤ 6) ∧
  (¬ (cFin F ∧ 0 ≤ i ∧ i < F 19 ∧ 0 ≤ what ∧ what ≤ 1) → rt (some (eL (-1))) (cR (uF F 12 0) A)) ∧
  ((cFin F ∧ 0 ≤ i ∧ i < F 19 ∧ 0 ≤ what ∧ what ≤ 1) → 1 ≤ s 2076 ∧ s 2076 ^ 2 < bB ^ 598 ∧ zAbs (s (2152 + 6 * i)) < bB ^ 598 ∧ ∀ (A' : Nat → Int → Int) (s' : Int → Int), sN A A' → rn (A' 0) s' → sK s s' → rt (some (eL (frac (s (2152 + 6 * i)) (s 2076 ^ 2) what))) (cR (uF F 12 0) A'))
theorem SX10_remainder_r : ∀ as M rt, SX10_remainder as M rt → ∃ a r fs, as = eR a :: r ∧ M a = some (.inl (9, fs)) := by
  rintro as M rt ⟨F, A, s, i, what, rfl, rfl, -⟩
  exact ⟨_, _, _, rfl, rfl⟩
def kX10_remainder : List (Nat × Jvm.ClassFile.Instr × Nat) := [(0, .aload_n 0, 1), (1, .invokevirtual 274, 3), (4, .ifCond .eq 24, 3), (7, .iload_n 1, 1), (8, .ifCond .lt 20, 3), (11, .iload_n 1, 1), (12, .aload_n 0, 1), (13, .getfield 223, 3), (16, .if_icmp .ge 12, 3), (19, .iload_n 2, 1), (20, .ifCond .lt 8, 3), (23, .iload_n 2, 1), (24, .iconst 1, 1), (25, .if_icmp .le 7, 3), (28, .ldc2_w 289, 3), (31, .lreturn, 1), (32, .aload_n 0, 1), (33, .iconst 2, 1), (34, .invokevirtual 299, 3), (37, .aload_n 0, 1), (38, .aload_n 0, 1), (39, .sipush 2152, 3), (42, .iload_n 1, 1), (43, .iconst 0, 1), (44, .invokevirtual 245, 3), (47, .sipush 2074, 3), (50, .iload_n 2, 1), (51, .invokevirtual 291, 3), (54, .lreturn, 1)]
theorem kX10_remainder_0 : cdOf kX10_remainder 0 = some (.aload_n 0, 1) := by decide +kernel
theorem kX10_remainder_1 : cdOf kX10_remainder 1 = some (.invokevirtual 274, 3) := by decide +kernel
theorem kX10_remainder_4 : cdOf kX10_remainder 4 = some (.ifCond .eq 24, 3) := by decide +kernel
theorem kX10_remainder_7 : cdOf kX10_remainder 7 = some (.iload_n 1, 1) := by decide +kernel
theorem kX10_remainder_8 : cdOf kX10_remainder 8 = some (.ifCond .lt 20, 3) := by decide +kernel
theorem kX10_remainder_11 : cdOf kX10_remainder 11 = some (.iload_n 1, 1) := by decide +kernel
theorem kX10_remainder_12 : cdOf kX10_remainder 12 = some (.aload_n 0, 1) := by decide +kernel
theorem kX10_remainder_13 : cdOf kX10_remainder 13 = some (.getfield 223, 3) := by decide +kernel
theorem kX10_remainder_16 : cdOf kX10_remainder 16 = some (.if_icmp .ge 12, 3) := by decide +kernel
theorem kX10_remainder_19 : cdOf kX10_remainder 19 = some (.iload_n 2, 1) := by decide +kernel
theorem kX10_remainder_20 : cdOf kX10_remainder 20 = some (.ifCond .lt 8, 3) := by decide +kernel
theorem kX10_remainder_23 : cdOf kX10_remainder 23 = some (.iload_n 2, 1) := by decide +kernel
theorem kX10_remainder_24 : cdOf kX10_remainder 24 = some (.iconst 1, 1) := by decide +kernel
theorem kX10_remainder_25 : cdOf kX10_remainder 25 = some (.if_icmp .le 7, 3) := by decide +kernel
theorem kX10_remainder_28 : cdOf kX10_remainder 28 = some (.ldc2_w 289, 3) := by decide +kernel
theorem kX10_remainder_31 : cdOf kX10_remainder 31 = some (.lreturn, 1) := by decide +kernel
theorem kX10_remainder_32 : cdOf kX10_remainder 32 = some (.aload_n 0, 1) := by decide +kernel
theorem kX10_remainder_33 : cdOf kX10_remainder 33 = some (.iconst 2, 1) := by decide +kernel
theorem kX10_remainder_34 : cdOf kX10_remainder 34 = some (.invokevirtual 299, 3) := by decide +kernel
theorem kX10_remainder_37 : cdOf kX10_remainder 37 = some (.aload_n 0, 1) := by decide +kernel
theorem kX10_remainder_38 : cdOf kX10_remainder 38 = some (.aload_n 0, 1) := by decide +kernel
theorem kX10_remainder_39 : cdOf kX10_remainder 39 = some (.sipush 2152, 3) := by decide +kernel
theorem kX10_remainder_42 : cdOf kX10_remainder 42 = some (.iload_n 1, 1) := by decide +kernel
theorem kX10_remainder_43 : cdOf kX10_remainder 43 = some (.iconst 0, 1) := by decide +kernel
theorem kX10_remainder_44 : cdOf kX10_remainder 44 = some (.invokevirtual 245, 3) := by decide +kernel
theorem kX10_remainder_47 : cdOf kX10_remainder 47 = some (.sipush 2074, 3) := by decide +kernel
theorem kX10_remainder_50 : cdOf kX10_remainder 50 = some (.iload_n 2, 1) := by decide +kernel
theorem kX10_remainder_51 : cdOf kX10_remainder 51 = some (.invokevirtual 291, 3) := by decide +kernel
theorem kX10_remainder_54 : cdOf kX10_remainder 54 = some (.lreturn, 1) := by decide +kernel
set_option maxRecDepth 20000 in
theorem kX10_remainder_ok : ∀ pc i len, cdOf kX10_remainder pc = some (i, len) → decode cX10_remainder pc = .ok (i, len) ∧ stOK 3 i = true ∧ jOK pc i = true ∧ eLen i len = true := cdOf_ok cX10_remainder 3 kX10_remainder (by decide +kernel)
def vtX10_remainder : Nat → Option (Nat × eSp) := fun k => match k with
  | 274 => some (1, SX10_isFinite)
  | 299 => some (2, SX10_denominator)
  | 245 => some (4, SX10_entry)
  | 291 => some (4, SX10_fraction)
  | _ => none
theorem vtX10_remainder_274 : vtX10_remainder 274 = some (1, SX10_isFinite) := rfl
theorem vtX10_remainder_299 : vtX10_remainder 299 = some (2, SX10_denominator) := rfl
theorem vtX10_remainder_245 : vtX10_remainder 245 = some (4, SX10_entry) := rfl
theorem vtX10_remainder_291 : vtX10_remainder 291 = some (4, SX10_fraction) := rfl
def stX10_remainder : Nat → Option (Nat × eSp) := fun _ => none
abbrev TX10_remainder : eT := (fl_RX10, cl_RX10, dl_RX10, vtX10_remainder, stX10_remainder)
set_option maxRecDepth 20000 in
theorem caX10_remainder : eCalls RX10 { frames := 5, cells := 0, slots := 0, locals := 126 } TX10_remainder := by
  refine ⟨fun k n sp h => ?_, fun k n sp h => ?_⟩
  · dsimp only [TX10_remainder] at h
    unfold vtX10_remainder at h
    split at h
    · cases h; exact eV_mk mX10_isFinite wX10_isFinite (by decide +kernel) (Or.inl (gW_at 1275 (by decide +kernel) rfl))
    · cases h; exact eV_mk mX10_denominator wX10_denominator (by decide +kernel) (Or.inl (gW_at 1328 (by decide +kernel) rfl))
    · cases h; exact eV_mk mX10_entry wX10_entry (by decide +kernel) (Or.inl (gW_at 1217 (by decide +kernel) rfl))
    · cases h; exact eV_mk mX10_fraction wX10_fraction (by decide +kernel) (Or.inl (gW_at 1299 (by decide +kernel) rfl))
    · cases h
  · cases h
set_option maxRecDepth 100000 in
set_option maxHeartbeats 4000000 in
theorem sX10_remainder : eSafe TX10_remainder (cdOf kX10_remainder) 3 (some .long) SX10_remainder := by
  intro K rt hK as M h
  obtain ⟨F, A, s, i, what, rfl, rfl, hr, h0, hi, hw, hN, h1, h2⟩ := h
  refine ⟨by simp [eE], ?_⟩
  have wN : w32 (F 19) := by constructor <;> omega
  have main : (cFin F ∧ 0 ≤ i ∧ i < F 19 ∧ 0 ≤ what ∧ what ≤ 1) → K 32 [some eRR, some (eI i), some (eI what)] [] (cR (uF F 12 0) A) := by
    intro hc
    obtain ⟨g1, g2, g3, g4⟩ := h2 hc
    obtain ⟨-, i0, i1, x0, x1⟩ := hc
    have pn := pow_mo g1 2 0
    refine x_aload_n hK kX10_remainder_32 (q := 33) rfl rfl ?_
    refine x_iconst hK kX10_remainder_33 (q := 34) rfl ?_
    refine x_cv2 hK kX10_remainder_34 (q := 37) rfl (vtX10_remainder_299) (Nat.le_of_ble_eq_true rfl) ?_
    refine SX10_denominator_i 2 hr (by decide) g1 g2 (fun A1 k1 r1 => ?_)
    refine x_aload_n hK kX10_remainder_37 (q := 38) rfl rfl ?_
    refine x_aload_n hK kX10_remainder_38 (q := 39) rfl rfl ?_
    refine x_sipush hK kX10_remainder_39 (q := 42) rfl (by decide) ?_
    refine x_iload_n hK kX10_remainder_42 (q := 43) rfl rfl ?_
    refine x_iconst hK kX10_remainder_43 (q := 44) rfl ?_
    skip
    refine x_cv4 hK kX10_remainder_44 (q := 47) rfl (vtX10_remainder_245) (Nat.le_of_ble_eq_true rfl) ?_
    refine SX10_entry_i ?_
    refine x_sipush hK kX10_remainder_47 (q := 50) rfl (by decide) ?_
    refine x_iload_n hK kX10_remainder_50 (q := 51) rfl rfl ?_
    refine x_cv4 hK kX10_remainder_51 (q := 54) rfl (vtX10_remainder_291) (Nat.le_of_ble_eq_true rfl) ?_
    refine SX10_fraction_f (s (2152 + 6 * i)) (s 2076 ^ 2) r1 (by omega) (by decide) (by rw [uI_n _ _ (by omega), Int.add_zero]) (uI_s _ _ _) (by omega) ⟨g3, by rw [zAbs_nn (by omega)]; exact g2⟩ hw (fun A2 s2 k2 r2 o2 => ?_)
    refine x_lreturn hK kX10_remainder_54 (by first | trivial | exact Or.inl rfl | exact Or.inr rfl) ?_
    exact g4 A2 s2 (sN_tr k1 k2) r2 (fun p hp => by rw [o2 p (by omega), uI_n _ _ (by omega)])
  simp only [eLoc, eE, List.length_cons, List.length_nil, List.replicate, List.cons_append, List.nil_append, Nat.reduceAdd, Nat.reduceSub]
  refine x_aload_n hK kX10_remainder_0 (q := 1) rfl rfl ?_
  refine x_cv1 hK kX10_remainder_1 (q := 4) rfl (vtX10_remainder_274) (Nat.le_of_ble_eq_true rfl) ?_
  refine SX10_isFinite_i h0 (fun b b0 b1 => ?_)
  refine x_if_eq hK kX10_remainder_4 (q := 7) rfl (tg := 28) rfl (by rcases b0 with e | e <;> rw [e] <;> decide) (fun c4 => ?_) (fun c4 => ?_)
  · refine x_ldc2_w hK kX10_remainder_28 (q := 31) rfl lc2_RX10_289 ?_
    refine x_lreturn hK kX10_remainder_31 (by first | trivial | exact Or.inl rfl | exact Or.inr rfl) ?_
    first
    | exact h1 (fun q => by have := b1.mpr q.1; omega)
    | exact h1 (fun q => by have := q.2; omega)
  · refine x_iload_n hK kX10_remainder_7 (q := 8) rfl rfl ?_
    refine x_if_lt hK kX10_remainder_8 (q := 11) rfl (tg := 28) rfl (by exact hi) (fun c8 => ?_) (fun c8 => ?_)
    · refine x_ldc2_w hK kX10_remainder_28 (q := 31) rfl lc2_RX10_289 ?_
      refine x_lreturn hK kX10_remainder_31 (by first | trivial | exact Or.inl rfl | exact Or.inr rfl) ?_
      first
      | exact h1 (fun q => by have := b1.mpr q.1; omega)
      | exact h1 (fun q => by have := q.2; omega)
    · refine x_iload_n hK kX10_remainder_11 (q := 12) rfl rfl ?_
      refine x_aload_n hK kX10_remainder_12 (q := 13) rfl rfl ?_
      refine x_getfield hK kX10_remainder_13 (q := 16) rfl (gX10_223 ?_)
      rw [uF_n _ _ (by decide)]
      refine x_icmp_ge hK kX10_remainder_16 (q := 19) rfl (tg := 28) rfl (by exact ⟨hi, wN⟩) (fun c16 => ?_) (fun c16 => ?_)
      · refine x_ldc2_w hK kX10_remainder_28 (q := 31) rfl lc2_RX10_289 ?_
        refine x_lreturn hK kX10_remainder_31 (by first | trivial | exact Or.inl rfl | exact Or.inr rfl) ?_
        first
        | exact h1 (fun q => by have := b1.mpr q.1; omega)
        | exact h1 (fun q => by have := q.2; omega)
      · refine x_iload_n hK kX10_remainder_19 (q := 20) rfl rfl ?_
        refine x_if_lt hK kX10_remainder_20 (q := 23) rfl (tg := 28) rfl (by exact hw) (fun c20 => ?_) (fun c20 => ?_)
        · refine x_ldc2_w hK kX10_remainder_28 (q := 31) rfl lc2_RX10_289 ?_
          refine x_lreturn hK kX10_remainder_31 (by first | trivial | exact Or.inl rfl | exact Or.inr rfl) ?_
          first
          | exact h1 (fun q => by have := b1.mpr q.1; omega)
          | exact h1 (fun q => by have := q.2; omega)
        · refine x_iload_n hK kX10_remainder_23 (q := 24) rfl rfl ?_
          refine x_iconst hK kX10_remainder_24 (q := 25) rfl ?_
          refine x_icmp_le hK kX10_remainder_25 (q := 28) rfl (tg := 32) rfl (by exact ⟨hw, by decide⟩) (fun c25 => ?_) (fun c25 => ?_)
          · exact main ⟨b1.mp (by omega), by omega, by omega, by omega, by omega⟩
          · refine x_ldc2_w hK kX10_remainder_28 (q := 31) rfl lc2_RX10_289 ?_
            refine x_lreturn hK kX10_remainder_31 (by first | trivial | exact Or.inl rfl | exact Or.inr rfl) ?_
            first
            | exact h1 (fun q => by have := b1.mpr q.1; omega)
            | exact h1 (fun q => by have := q.2; omega)
set_option maxRecDepth 20000 in
theorem mX10_remainder : eMet yX10_remainder cX10_remainder 3 (some .long) 5 126 SX10_remainder := eMet_of (by decide +kernel) sX10_remainder kX10_remainder_ok caX10_remainder tb_RX10
theorem wX10_remainder : eWV yX10_remainder cX10_remainder 3 (some .long) 3 9 SX10_remainder := ⟨(gW_at 1347 (by decide +kernel) rfl), (gW_at 89 (by decide +kernel) rfl), (gW_at 1345 (by decide +kernel) rfl), ⟨_, rfl, (gW_at 1346 (by decide +kernel) rfl)⟩, by decide +kernel, SX10_remainder_r⟩
