/-! The desk: guess. -/
theorem ge_1 {g t1 t2 l u0 wide : Int} (hw : wide = g * t1 + l) : g * (t1 * 2147483648 + t2) ≤ wide * 2147483648 + u0 ↔ g * t2 ≤ l * 2147483648 + u0 := by
  have e1 : g * (t1 * 2147483648 + t2) = g * t1 * 2147483648 + g * t2 := by grind
  rw [e1, hw, Int.add_mul]
  omega
theorem ge_2 {g t1 t2 u0 wide : Int} (h2 : 0 ≤ t2) (h0 : u0 < 2147483648) (hg : 0 ≤ g) (h : wide < (g + 1) * t1) : wide * 2147483648 + u0 < (g + 1) * (t1 * 2147483648 + t2) := by
  have e1 : (g + 1) * (t1 * 2147483648 + t2) = (g + 1) * t1 * 2147483648 + (g + 1) * t2 := by grind
  have e2 := Int.mul_nonneg (show 0 ≤ g + 1 by omega) h2
  rw [e1]
  omega
theorem ge_3 {g t1 l u1 u2 : Int} (h1 : 0 < t1) (hw : u2 * 2147483648 + u1 = g * t1 + l) (h2 : u2 ≤ t1) (h3 : u1 < 2147483648) (hl : 2147483648 ≤ l) : g < 2147483648 := by
  rcases Int.lt_or_le g 2147483648 with q | q
  · exact q
  · have e := Int.mul_le_mul_of_nonneg_right q (show 0 ≤ t1 by omega)
    omega
def SX1_guess : eSp := fun as M rt => ∃ (F : Nat → Int) (A W : Nat → Int → Int) (j at_ L : Nat), as = [eR (1, 2), eR (2, j), eI at_] ∧ M = cC F A W ∧ (j < 332) ∧ (W 2 80 = L) ∧ (2 ≤ L) ∧ (at_ + L < 80) ∧ (1073741824 ≤ W 2 ((L : Int) - 1) ∧ W 2 ((L : Int) - 1) < 2147483648) ∧ (0 ≤ W 2 ((L : Int) - 2) ∧ W 2 ((L : Int) - 2) < 2147483648) ∧ (0 ≤ W j ((at_ : Int) + L) ∧ W j ((at_ : Int) + L) ≤ W 2 ((L : Int) - 1)) ∧ (0 ≤ W j ((at_ : Int) + L - 1) ∧ W j ((at_ : Int) + L - 1) < 2147483648) ∧ (0 ≤ W j ((at_ : Int) + L - 2) ∧ W j ((at_ : Int) + L - 2) < 2147483648) ∧ (∀ g : Int, 0 ≤ g → g < 2147483648 → g * (W 2 ((L : Int) - 1) * 2147483648 + W 2 ((L : Int) - 2)) ≤ (W j ((at_ : Int) + L) * 2147483648 + W j ((at_ : Int) + L - 1)) * 2147483648 + W j ((at_ : Int) + L - 2) → (g = 2147483647 ∨ (W j ((at_ : Int) + L) * 2147483648 + W j ((at_ : Int) + L - 1)) * 2147483648 + W j ((at_ : Int) + L - 2) < (g + 1) * (W 2 ((L : Int) - 1) * 2147483648 + W 2 ((L : Int) - 2))) → rt (some (eL g)) (cC F A W))
theorem SX1_guess_i {F : Nat → Int} {A W : Nat → Int → Int} {j at_ L : Nat} {rt : Option eV → eM → Prop} (hj : j < 332) (hL : W 2 80 = L) (h2 : 2 ≤ L) (hat : at_ + L < 80) (ht1 : 1073741824 ≤ W 2 ((L : Int) - 1) ∧ W 2 ((L : Int) - 1) < 2147483648) (ht2 : 0 ≤ W 2 ((L : Int) - 2) ∧ W 2 ((L : Int) - 2) < 2147483648) (hu2 : 0 ≤ W j ((at_ : Int) + L) ∧ W j ((at_ : Int) + L) ≤ W 2 ((L : Int) - 1)) (hu1 : 0 ≤ W j ((at_ : Int) + L - 1) ∧ W j ((at_ : Int) + L - 1) < 2147483648) (hu0 : 0 ≤ W j ((at_ : Int) + L - 2) ∧ W j ((at_ : Int) + L - 2) < 2147483648) (h : ∀ g : Int, 0 ≤ g → g < 2147483648 → g * (W 2 ((L : Int) - 1) * 2147483648 + W 2 ((L : Int) - 2)) ≤ (W j ((at_ : Int) + L) * 2147483648 + W j ((at_ : Int) + L - 1)) * 2147483648 + W j ((at_ : Int) + L - 2) → (g = 2147483647 ∨ (W j ((at_ : Int) + L) * 2147483648 + W j ((at_ : Int) + L - 1)) * 2147483648 + W j ((at_ : Int) + L - 2) < (g + 1) * (W 2 ((L : Int) - 1) * 2147483648 + W 2 ((L : Int) - 2))) → rt (some (eL g)) (cC F A W)) : SX1_guess [eR (1, 2), eR (2, j), eI at_] (cC F A W) rt := ⟨F, A, W, j, at_, L, rfl, rfl, hj, hL, h2, hat, ht1, ht2, hu2, hu1, hu0, h⟩
theorem SX1_guess_r : ∀ as M rt, SX1_guess as M rt → ∃ a r fs, as = eR a :: r ∧ M a = some (.inl (1, fs)) := by
  rintro as M rt ⟨F, A, W, j, at_, L, rfl, rfl, -⟩
  exact ⟨_, _, _, rfl, rfl⟩
def kX1_guess : List (Nat × Jvm.ClassFile.Instr × Nat) := [(0, .aload_n 0, 1), (1, .getfield 21, 3), (4, .getfield 69, 3), (7, .istore_n 3, 1), (8, .iload_n 2, 1), (9, .iload_n 3, 1), (10, .iadd, 1), (11, .istore 4, 2), (13, .iload_n 3, 1), (14, .iconst 2, 1), (15, .if_icmp .lt 14, 3), (18, .iload_n 2, 1), (19, .ifCond .lt 10, 3), (22, .iload 4, 2), (24, .bipush 80, 2), (26, .if_icmp .lt 5, 3), (29, .lconst 0, 1), (30, .lreturn, 1), (31, .aload_n 0, 1), (32, .getfield 21, 3), (35, .getfield 72, 3), (38, .iload_n 3, 1), (39, .iconst 1, 1), (40, .isub, 1), (41, .iaload, 1), (42, .i2l, 1), (43, .lstore 5, 2), (45, .aload_n 0, 1), (46, .getfield 21, 3), (49, .getfield 72, 3), (52, .iload_n 3, 1), (53, .iconst 2, 1), (54, .isub, 1), (55, .iaload, 1), (56, .i2l, 1), (57, .lstore 7, 2), (59, .lload 5, 2), (61, .lconst 0, 1), (62, .lcmp, 1), (63, .ifCond .ne 5, 3), (66, .lconst 0, 1), (67, .lreturn, 1), (68, .aload_n 1, 1), (69, .getfield 72, 3), (72, .iload 4, 2), (74, .iaload, 1), (75, .i2l, 1), (76, .bipush 31, 2), (78, .lshl, 1), (79, .aload_n 1, 1), (80, .getfield 72, 3), (83, .iload 4, 2), (85, .iconst 1, 1), (86, .isub, 1), (87, .iaload, 1), (88, .i2l, 1), (89, .lor, 1), (90, .lstore 9, 2), (92, .lload 9, 2), (94, .lload 5, 2), (96, .ldiv, 1), (97, .lstore 11, 2), (99, .lload 9, 2), (101, .lload 5, 2), (103, .lrem, 1), (104, .lstore 13, 2), (106, .iconst 0, 1), (107, .istore 15, 2), (109, .iload 15, 2), (111, .iconst 3, 1), (112, .if_icmp .ge 72, 3), (115, .lload 13, 2), (117, .ldc2_w 109, 3), (120, .lcmp, 1), (121, .ifCond .ge 63, 3), (124, .lload 13, 2), (126, .bipush 31, 2), (128, .lshl, 1), (129, .aload_n 1, 1), (130, .getfield 72, 3), (133, .iload 4, 2), (135, .iconst 2, 1), (136, .isub, 1), (137, .iaload, 1), (138, .i2l, 1), (139, .lor, 1), (140, .lstore 16, 2), (142, .lload 11, 2), (144, .ldc2_w 109, 3), (147, .lcmp, 1), (148, .ifCond .ge 17, 3), (151, .lload 11, 2), (153, .lload 7, 2), (155, .lmul, 1), (156, .lload 16, 2), (158, .lcmp, 1), (159, .ifCond .gt 6, 3), (162, .goto 22, 3), (165, .lload 11, 2), (167, .lconst 1, 1), (168, .lsub, 1), (169, .lstore 11, 2), (171, .lload 13, 2), (173, .lload 5, 2), (175, .ladd, 1), (176, .lstore 13, 2), (178, .iinc 15 1, 3), (181, .goto (-72), 3), (184, .lload 11, 2), (186, .lreturn, 1)]
theorem kX1_guess_0 : cdOf kX1_guess 0 = some (.aload_n 0, 1) := by decide +kernel
theorem kX1_guess_1 : cdOf kX1_guess 1 = some (.getfield 21, 3) := by decide +kernel
theorem kX1_guess_4 : cdOf kX1_guess 4 = some (.getfield 69, 3) := by decide +kernel
theorem kX1_guess_7 : cdOf kX1_guess 7 = some (.istore_n 3, 1) := by decide +kernel
theorem kX1_guess_8 : cdOf kX1_guess 8 = some (.iload_n 2, 1) := by decide +kernel
theorem kX1_guess_9 : cdOf kX1_guess 9 = some (.iload_n 3, 1) := by decide +kernel
theorem kX1_guess_10 : cdOf kX1_guess 10 = some (.iadd, 1) := by decide +kernel
theorem kX1_guess_11 : cdOf kX1_guess 11 = some (.istore 4, 2) := by decide +kernel
theorem kX1_guess_13 : cdOf kX1_guess 13 = some (.iload_n 3, 1) := by decide +kernel
theorem kX1_guess_14 : cdOf kX1_guess 14 = some (.iconst 2, 1) := by decide +kernel
theorem kX1_guess_15 : cdOf kX1_guess 15 = some (.if_icmp .lt 14, 3) := by decide +kernel
theorem kX1_guess_18 : cdOf kX1_guess 18 = some (.iload_n 2, 1) := by decide +kernel
theorem kX1_guess_19 : cdOf kX1_guess 19 = some (.ifCond .lt 10, 3) := by decide +kernel
theorem kX1_guess_22 : cdOf kX1_guess 22 = some (.iload 4, 2) := by decide +kernel
theorem kX1_guess_24 : cdOf kX1_guess 24 = some (.bipush 80, 2) := by decide +kernel
theorem kX1_guess_26 : cdOf kX1_guess 26 = some (.if_icmp .lt 5, 3) := by decide +kernel
theorem kX1_guess_29 : cdOf kX1_guess 29 = some (.lconst 0, 1) := by decide +kernel
theorem kX1_guess_30 : cdOf kX1_guess 30 = some (.lreturn, 1) := by decide +kernel
theorem kX1_guess_31 : cdOf kX1_guess 31 = some (.aload_n 0, 1) := by decide +kernel
theorem kX1_guess_32 : cdOf kX1_guess 32 = some (.getfield 21, 3) := by decide +kernel
theorem kX1_guess_35 : cdOf kX1_guess 35 = some (.getfield 72, 3) := by decide +kernel
theorem kX1_guess_38 : cdOf kX1_guess 38 = some (.iload_n 3, 1) := by decide +kernel
theorem kX1_guess_39 : cdOf kX1_guess 39 = some (.iconst 1, 1) := by decide +kernel
theorem kX1_guess_40 : cdOf kX1_guess 40 = some (.isub, 1) := by decide +kernel
theorem kX1_guess_41 : cdOf kX1_guess 41 = some (.iaload, 1) := by decide +kernel
theorem kX1_guess_42 : cdOf kX1_guess 42 = some (.i2l, 1) := by decide +kernel
theorem kX1_guess_43 : cdOf kX1_guess 43 = some (.lstore 5, 2) := by decide +kernel
theorem kX1_guess_45 : cdOf kX1_guess 45 = some (.aload_n 0, 1) := by decide +kernel
theorem kX1_guess_46 : cdOf kX1_guess 46 = some (.getfield 21, 3) := by decide +kernel
theorem kX1_guess_49 : cdOf kX1_guess 49 = some (.getfield 72, 3) := by decide +kernel
theorem kX1_guess_52 : cdOf kX1_guess 52 = some (.iload_n 3, 1) := by decide +kernel
theorem kX1_guess_53 : cdOf kX1_guess 53 = some (.iconst 2, 1) := by decide +kernel
theorem kX1_guess_54 : cdOf kX1_guess 54 = some (.isub, 1) := by decide +kernel
theorem kX1_guess_55 : cdOf kX1_guess 55 = some (.iaload, 1) := by decide +kernel
theorem kX1_guess_56 : cdOf kX1_guess 56 = some (.i2l, 1) := by decide +kernel
theorem kX1_guess_57 : cdOf kX1_guess 57 = some (.lstore 7, 2) := by decide +kernel
theorem kX1_guess_59 : cdOf kX1_guess 59 = some (.lload 5, 2) := by decide +kernel
theorem kX1_guess_61 : cdOf kX1_guess 61 = some (.lconst 0, 1) := by decide +kernel
theorem kX1_guess_62 : cdOf kX1_guess 62 = some (.lcmp, 1) := by decide +kernel
theorem kX1_guess_63 : cdOf kX1_guess 63 = some (.ifCond .ne 5, 3) := by decide +kernel
theorem kX1_guess_66 : cdOf kX1_guess 66 = some (.lconst 0, 1) := by decide +kernel
theorem kX1_guess_67 : cdOf kX1_guess 67 = some (.lreturn, 1) := by decide +kernel
theorem kX1_guess_68 : cdOf kX1_guess 68 = some (.aload_n 1, 1) := by decide +kernel
theorem kX1_guess_69 : cdOf kX1_guess 69 = some (.getfield 72, 3) := by decide +kernel
theorem kX1_guess_72 : cdOf kX1_guess 72 = some (.iload 4, 2) := by decide +kernel
theorem kX1_guess_74 : cdOf kX1_guess 74 = some (.iaload, 1) := by decide +kernel
theorem kX1_guess_75 : cdOf kX1_guess 75 = some (.i2l, 1) := by decide +kernel
theorem kX1_guess_76 : cdOf kX1_guess 76 = some (.bipush 31, 2) := by decide +kernel
theorem kX1_guess_78 : cdOf kX1_guess 78 = some (.lshl, 1) := by decide +kernel
theorem kX1_guess_79 : cdOf kX1_guess 79 = some (.aload_n 1, 1) := by decide +kernel
theorem kX1_guess_80 : cdOf kX1_guess 80 = some (.getfield 72, 3) := by decide +kernel
theorem kX1_guess_83 : cdOf kX1_guess 83 = some (.iload 4, 2) := by decide +kernel
theorem kX1_guess_85 : cdOf kX1_guess 85 = some (.iconst 1, 1) := by decide +kernel
theorem kX1_guess_86 : cdOf kX1_guess 86 = some (.isub, 1) := by decide +kernel
theorem kX1_guess_87 : cdOf kX1_guess 87 = some (.iaload, 1) := by decide +kernel
theorem kX1_guess_88 : cdOf kX1_guess 88 = some (.i2l, 1) := by decide +kernel
theorem kX1_guess_89 : cdOf kX1_guess 89 = some (.lor, 1) := by decide +kernel
theorem kX1_guess_90 : cdOf kX1_guess 90 = some (.lstore 9, 2) := by decide +kernel
theorem kX1_guess_92 : cdOf kX1_guess 92 = some (.lload 9, 2) := by decide +kernel
theorem kX1_guess_94 : cdOf kX1_guess 94 = some (.lload 5, 2) := by decide +kernel
theorem kX1_guess_96 : cdOf kX1_guess 96 = some (.ldiv, 1) := by decide +kernel
theorem kX1_guess_97 : cdOf kX1_guess 97 = some (.lstore 11, 2) := by decide +kernel
theorem kX1_guess_99 : cdOf kX1_guess 99 = some (.lload 9, 2) := by decide +kernel
theorem kX1_guess_101 : cdOf kX1_guess 101 = some (.lload 5, 2) := by decide +kernel
theorem kX1_guess_103 : cdOf kX1_guess 103 = some (.lrem, 1) := by decide +kernel
theorem kX1_guess_104 : cdOf kX1_guess 104 = some (.lstore 13, 2) := by decide +kernel
theorem kX1_guess_106 : cdOf kX1_guess 106 = some (.iconst 0, 1) := by decide +kernel
theorem kX1_guess_107 : cdOf kX1_guess 107 = some (.istore 15, 2) := by decide +kernel
theorem kX1_guess_109 : cdOf kX1_guess 109 = some (.iload 15, 2) := by decide +kernel
theorem kX1_guess_111 : cdOf kX1_guess 111 = some (.iconst 3, 1) := by decide +kernel
theorem kX1_guess_112 : cdOf kX1_guess 112 = some (.if_icmp .ge 72, 3) := by decide +kernel
theorem kX1_guess_115 : cdOf kX1_guess 115 = some (.lload 13, 2) := by decide +kernel
theorem kX1_guess_117 : cdOf kX1_guess 117 = some (.ldc2_w 109, 3) := by decide +kernel
theorem kX1_guess_120 : cdOf kX1_guess 120 = some (.lcmp, 1) := by decide +kernel
theorem kX1_guess_121 : cdOf kX1_guess 121 = some (.ifCond .ge 63, 3) := by decide +kernel
theorem kX1_guess_124 : cdOf kX1_guess 124 = some (.lload 13, 2) := by decide +kernel
theorem kX1_guess_126 : cdOf kX1_guess 126 = some (.bipush 31, 2) := by decide +kernel
theorem kX1_guess_128 : cdOf kX1_guess 128 = some (.lshl, 1) := by decide +kernel
theorem kX1_guess_129 : cdOf kX1_guess 129 = some (.aload_n 1, 1) := by decide +kernel
theorem kX1_guess_130 : cdOf kX1_guess 130 = some (.getfield 72, 3) := by decide +kernel
theorem kX1_guess_133 : cdOf kX1_guess 133 = some (.iload 4, 2) := by decide +kernel
theorem kX1_guess_135 : cdOf kX1_guess 135 = some (.iconst 2, 1) := by decide +kernel
theorem kX1_guess_136 : cdOf kX1_guess 136 = some (.isub, 1) := by decide +kernel
theorem kX1_guess_137 : cdOf kX1_guess 137 = some (.iaload, 1) := by decide +kernel
theorem kX1_guess_138 : cdOf kX1_guess 138 = some (.i2l, 1) := by decide +kernel
theorem kX1_guess_139 : cdOf kX1_guess 139 = some (.lor, 1) := by decide +kernel
theorem kX1_guess_140 : cdOf kX1_guess 140 = some (.lstore 16, 2) := by decide +kernel
theorem kX1_guess_142 : cdOf kX1_guess 142 = some (.lload 11, 2) := by decide +kernel
theorem kX1_guess_144 : cdOf kX1_guess 144 = some (.ldc2_w 109, 3) := by decide +kernel
theorem kX1_guess_147 : cdOf kX1_guess 147 = some (.lcmp, 1) := by decide +kernel
theorem kX1_guess_148 : cdOf kX1_guess 148 = some (.ifCond .ge 17, 3) := by decide +kernel
theorem kX1_guess_151 : cdOf kX1_guess 151 = some (.lload 11, 2) := by decide +kernel
theorem kX1_guess_153 : cdOf kX1_guess 153 = some (.lload 7, 2) := by decide +kernel
theorem kX1_guess_155 : cdOf kX1_guess 155 = some (.lmul, 1) := by decide +kernel
theorem kX1_guess_156 : cdOf kX1_guess 156 = some (.lload 16, 2) := by decide +kernel
theorem kX1_guess_158 : cdOf kX1_guess 158 = some (.lcmp, 1) := by decide +kernel
theorem kX1_guess_159 : cdOf kX1_guess 159 = some (.ifCond .gt 6, 3) := by decide +kernel
theorem kX1_guess_162 : cdOf kX1_guess 162 = some (.goto 22, 3) := by decide +kernel
theorem kX1_guess_165 : cdOf kX1_guess 165 = some (.lload 11, 2) := by decide +kernel
theorem kX1_guess_167 : cdOf kX1_guess 167 = some (.lconst 1, 1) := by decide +kernel
theorem kX1_guess_168 : cdOf kX1_guess 168 = some (.lsub, 1) := by decide +kernel
theorem kX1_guess_169 : cdOf kX1_guess 169 = some (.lstore 11, 2) := by decide +kernel
theorem kX1_guess_171 : cdOf kX1_guess 171 = some (.lload 13, 2) := by decide +kernel
theorem kX1_guess_173 : cdOf kX1_guess 173 = some (.lload 5, 2) := by decide +kernel
theorem kX1_guess_175 : cdOf kX1_guess 175 = some (.ladd, 1) := by decide +kernel
theorem kX1_guess_176 : cdOf kX1_guess 176 = some (.lstore 13, 2) := by decide +kernel
theorem kX1_guess_178 : cdOf kX1_guess 178 = some (.iinc 15 1, 3) := by decide +kernel
theorem kX1_guess_181 : cdOf kX1_guess 181 = some (.goto (-72), 3) := by decide +kernel
theorem kX1_guess_184 : cdOf kX1_guess 184 = some (.lload 11, 2) := by decide +kernel
theorem kX1_guess_186 : cdOf kX1_guess 186 = some (.lreturn, 1) := by decide +kernel
set_option maxRecDepth 20000 in
theorem kX1_guess_ok : ∀ pc i len, cdOf kX1_guess pc = some (i, len) → decode cX1_guess pc = .ok (i, len) ∧ stOK 18 i = true ∧ jOK pc i = true ∧ eLen i len = true := cdOf_ok cX1_guess 18 kX1_guess (by decide +kernel)
def vtX1_guess : Nat → Option (Nat × eSp) := fun _ => none
def stX1_guess : Nat → Option (Nat × eSp) := fun _ => none
abbrev TX1_guess : eT := (fl_RX1, cl_RX1, dl_RX1, vtX1_guess, stX1_guess)
set_option maxRecDepth 20000 in
theorem caX1_guess : eCalls RX1 { frames := 0, cells := 0, slots := 0, locals := 0 } TX1_guess := by
  refine ⟨fun k n sp h => ?_, fun k n sp h => ?_⟩
  · cases h
  · cases h
set_option maxRecDepth 100000 in
set_option maxHeartbeats 4000000 in
theorem sX1_guess : eSafe TX1_guess (cdOf kX1_guess) 18 (some .long) SX1_guess := by
  intro K rt hK as M h
  obtain ⟨F, A, W, j, at_, L, rfl, rfl, hj, hL, h2, hat, ht1, ht2, hu2, hu1, hu0, h⟩ := h
  refine ⟨by simp [eE], ?_⟩
  obtain ⟨t1, et1⟩ : ∃ t1, W 2 ((L : Int) - 1) = t1 := ⟨_, rfl⟩
  obtain ⟨t2, et2⟩ : ∃ t2, W 2 ((L : Int) - 2) = t2 := ⟨_, rfl⟩
  obtain ⟨u2, eu2⟩ : ∃ u2, W j ((at_ : Int) + L) = u2 := ⟨_, rfl⟩
  obtain ⟨u1, eu1⟩ : ∃ u1, W j ((at_ : Int) + L - 1) = u1 := ⟨_, rfl⟩
  obtain ⟨u0, eu0⟩ : ∃ u0, W j ((at_ : Int) + L - 2) = u0 := ⟨_, rfl⟩
  rw [et1] at ht1 hu2
  rw [et2] at ht2
  rw [eu2] at hu2
  rw [eu1] at hu1
  rw [eu0] at hu0
  rw [et1, et2, eu2, eu1, eu0] at h
  obtain ⟨wd, ewd⟩ : ∃ wd, u2 * 2147483648 + u1 = wd := ⟨_, rfl⟩
  rw [ewd] at h
  have p31 : (2 : Int) ^ 31 = 2147483648 := by decide
  have big : ∀ g l : Int, 0 ≤ g → 2147483648 ≤ l → wd = g * t1 + l → (2147483648 ≤ g ∨ g = 2147483647 ∨ wd * 2147483648 + u0 < (g + 1) * (t1 * 2147483648 + t2)) → rt (some (eL g)) (cC F A W) := by
    intro g l g0 hl hw hm
    have g1 := ge_3 (by omega) (ewd.trans hw) hu2.2 hu1.2 hl
    have m := (mul_lt ⟨g0, g1⟩ ht2).2
    refine h g g0 g1 ((ge_1 hw).mpr (by omega)) ?_
    rcases hm with q | q | q
    · omega
    · exact Or.inl q
    · exact Or.inr q
  have loop : ∀ (d k : Nat) (g l : Int) (u16 : Option eV), k + d = 3 → 0 ≤ g → (k : Int) * t1 ≤ l → l < (k : Int) * t1 + t1 → wd = g * t1 + l → (2147483648 ≤ g ∨ g = 2147483647 ∨ wd * 2147483648 + u0 < (g + 1) * (t1 * 2147483648 + t2)) → g ≤ 2147483649 →
      K 109 [some (eR (1, 2)), some (eR (2, j)), some (eI at_), some (eI L), some (eI ((at_ : Int) + L)), some (eL t1), none, some (eL t2), none, some (eL wd), none, some (eL g), none, some (eL l), none, some (eI k), u16, none] [] (cC F A W) := by
    intro d
    induction d with
    | zero =>
      intro k g l u16 hd g0 l0 l1 hw hm hg
      have : k = 3 := by omega
      subst this
      refine x_iload hK kX1_guess_109 (q := 111) rfl rfl ?_
      refine x_iconst hK kX1_guess_111 (q := 112) rfl ?_
      refine x_icmp_ge hK kX1_guess_112 (q := 115) rfl (tg := 184) rfl (by refine ⟨?_, ?_⟩ <;> omega) (fun c112 => ?_) (fun c112 => ?_)
      · refine x_lload hK kX1_guess_184 (q := 186) rfl rfl ?_
        refine x_lreturn hK kX1_guess_186 (by first | trivial | exact Or.inl rfl | exact Or.inr rfl) ?_
        exact big g l g0 (by omega) hw hm
      · exfalso; omega
    | succ d ih =>
      intro k g l u16 hd g0 l0 l1 hw hm hg
      have hk : k = 0 ∨ k = 1 ∨ k = 2 := by omega
      have lw : 0 ≤ l ∧ l < 8589934592 := by rcases hk with rfl | rfl | rfl <;> omega
      have e3 : l < 2147483648 → zShlL l 31 = l * 2147483648 := fun q => by
        have := zShlL_n l 31 (by decide) ⟨by omega, by omega⟩
        rw [p31] at this
        exact this
      have e4 : l < 2147483648 → zOrL (l * 2147483648) u0 = l * 2147483648 + u0 := fun q => by
        have := zOrL_s l u0 31 (by decide) lw.1 hu0.1 (by omega) (by omega)
        rw [p31] at this
        exact this
      have next : (2147483648 ≤ g ∨ wd * 2147483648 + u0 < g * (t1 * 2147483648 + t2)) → ∀ u16, K 109 [some (eR (1, 2)), some (eR (2, j)), some (eI at_), some (eI L), some (eI ((at_ : Int) + L)), some (eL t1), none, some (eL t2), none, some (eL wd), none, some (eL (g - 1)), none, some (eL (l + t1)), none, some (eI ((k : Int) + 1)), u16, none] [] (cC F A W) := fun q u16 => by
        have g1 : 0 < g := by
          rcases q with q | q
          · omega
          · rcases Int.lt_or_le 0 g with r | r
            · exact r
            · have : g = 0 := by omega
              rw [this, Int.zero_mul] at q
              omega
        have hk1 : (((k + 1 : Nat) : Int)) * t1 = (k : Int) * t1 + t1 := by rcases hk with rfl | rfl | rfl <;> omega
        rw [show (k : Int) + 1 = ((k + 1 : Nat) : Int) by omega]
        refine ih (k + 1) (g - 1) (l + t1) u16 (by omega) (by omega) (by omega) (by omega) (by rw [hw]; grind) ?_ (by omega)
        rcases q with q | q
        · rcases Int.lt_or_le 2147483648 g with r | r
          · exact Or.inl (by omega)
          · exact Or.inr (Or.inl (by omega))
        · exact Or.inr (Or.inr (by rw [show g - 1 + 1 = g by omega]; exact q))
      refine x_iload hK kX1_guess_109 (q := 111) rfl rfl ?_
      refine x_iconst hK kX1_guess_111 (q := 112) rfl ?_
      refine x_icmp_ge hK kX1_guess_112 (q := 115) rfl (tg := 184) rfl (by refine ⟨?_, ?_⟩ <;> omega) (fun c112 => ?_) (fun c112 => ?_)
      · exfalso; omega
      · refine x_lload hK kX1_guess_115 (q := 117) rfl rfl ?_
        refine x_ldc2_w hK kX1_guess_117 (q := 120) rfl lc2_RX1_109 ?_
        refine x_lcmp hK kX1_guess_120 (q := 121) rfl (by refine ⟨⟨by omega, by omega⟩, by decide⟩) ?_
        refine x_ifc_ge hK kX1_guess_121 (q := 124) rfl (tg := 184) rfl (fun c121 => ?_) (fun c121 => ?_)
        · have hfin := big g l g0 c121 hw hm
          refine x_lload hK kX1_guess_184 (q := 186) rfl rfl ?_
          refine x_lreturn hK kX1_guess_186 (by first | trivial | exact Or.inl rfl | exact Or.inr rfl) ?_
          first | exact hfin | exact h g g0 (by omega) q0 (by rcases hm with q | q | q; omega; exact Or.inl q; exact Or.inr q)
        · refine x_lload hK kX1_guess_124 (q := 126) rfl rfl ?_
          refine x_bipush hK kX1_guess_126 (q := 128) rfl (by decide) ?_
          refine x_lshl hK kX1_guess_128 (q := 129) rfl ?_
          rw [e3 (by omega)]
          refine x_aload_n hK kX1_guess_129 (q := 130) rfl rfl ?_
          refine x_getfield hK kX1_guess_130 (q := 133) rfl (gX1_72 ?_)
          refine x_iload hK kX1_guess_133 (q := 135) rfl rfl ?_
          refine x_iconst hK kX1_guess_135 (q := 136) rfl ?_
          refine x_isub hK kX1_guess_136 (q := 137) rfl ?_
          refine x_iaload hK kX1_guess_137 (q := 138) rfl (aC7_0 (by refine ⟨?_, ?_⟩ <;> omega) ?_)
          rw [eu0]
          refine x_i2l hK kX1_guess_138 (q := 139) rfl (by omega) ?_
          refine x_lor hK kX1_guess_139 (q := 140) rfl ?_
          rw [e4 (by omega)]
          refine x_lstore hK kX1_guess_140 (q := 142) rfl ?_
          refine x_lload hK kX1_guess_142 (q := 144) rfl rfl ?_
          refine x_ldc2_w hK kX1_guess_144 (q := 147) rfl lc2_RX1_109 ?_
          refine x_lcmp hK kX1_guess_147 (q := 148) rfl (by refine ⟨⟨by omega, by omega⟩, by decide⟩) ?_
          simp only [lS, lS2, clr_0, clr_I, clr_L, clr_R]
          refine x_ifc_ge hK kX1_guess_148 (q := 151) rfl (tg := 165) rfl (fun c148 => ?_) (fun c148 => ?_)
          · refine x_lload hK kX1_guess_165 (q := 167) rfl rfl ?_
            refine x_lconst1 hK kX1_guess_167 (q := 168) rfl ?_
            refine x_lsub hK kX1_guess_168 (q := 169) rfl ?_
            refine x_lstore hK kX1_guess_169 (q := 171) rfl ?_
            refine x_lload hK kX1_guess_171 (q := 173) rfl rfl ?_
            refine x_lload hK kX1_guess_173 (q := 175) rfl rfl ?_
            refine x_ladd hK kX1_guess_175 (q := 176) rfl ?_
            refine x_lstore hK kX1_guess_176 (q := 178) rfl ?_
            refine x_iinc hK kX1_guess_178 (q := 181) rfl rfl ?_
            simp only [lS, lS2, clr_0, clr_I, clr_L, clr_R]
            refine x_goto hK kX1_guess_181 (tg := 109) rfl ?_
            first | exact next (Or.inl (by omega)) _ | exact next (Or.inr (by omega)) _
          · have m := mul_lt ⟨g0, show g < 2147483648 by omega⟩ ht2
            refine x_lload hK kX1_guess_151 (q := 153) rfl rfl ?_
            refine x_lload hK kX1_guess_153 (q := 155) rfl rfl ?_
            refine x_lmul hK kX1_guess_155 (q := 156) rfl ?_
            refine x_lload hK kX1_guess_156 (q := 158) rfl rfl ?_
            refine x_lcmp hK kX1_guess_158 (q := 159) rfl (by refine ⟨⟨by omega, by omega⟩, ⟨by omega, by omega⟩⟩) ?_
            refine x_ifc_gt hK kX1_guess_159 (q := 162) rfl (tg := 165) rfl (fun c159 => ?_) (fun c159 => ?_)
            · have q0 := (not_congr (ge_1 (u0 := u0) (t2 := t2) hw)).mpr (by omega)
              refine x_lload hK kX1_guess_165 (q := 167) rfl rfl ?_
              refine x_lconst1 hK kX1_guess_167 (q := 168) rfl ?_
              refine x_lsub hK kX1_guess_168 (q := 169) rfl ?_
              refine x_lstore hK kX1_guess_169 (q := 171) rfl ?_
              refine x_lload hK kX1_guess_171 (q := 173) rfl rfl ?_
              refine x_lload hK kX1_guess_173 (q := 175) rfl rfl ?_
              refine x_ladd hK kX1_guess_175 (q := 176) rfl ?_
              refine x_lstore hK kX1_guess_176 (q := 178) rfl ?_
              refine x_iinc hK kX1_guess_178 (q := 181) rfl rfl ?_
              simp only [lS, lS2, clr_0, clr_I, clr_L, clr_R]
              refine x_goto hK kX1_guess_181 (tg := 109) rfl ?_
              first | exact next (Or.inl (by omega)) _ | exact next (Or.inr (by omega)) _
            · have q0 := (ge_1 (u0 := u0) (t2 := t2) hw).mpr (by omega)
              refine x_goto hK kX1_guess_162 (tg := 184) rfl ?_
              refine x_lload hK kX1_guess_184 (q := 186) rfl rfl ?_
              refine x_lreturn hK kX1_guess_186 (by first | trivial | exact Or.inl rfl | exact Or.inr rfl) ?_
              first | exact hfin | exact h g g0 (by omega) q0 (by rcases hm with q | q | q; omega; exact Or.inl q; exact Or.inr q)
  have wd0 : 0 ≤ wd ∧ wd < 4611686018427387904 := by omega
  have d0 : wd.tdiv t1 = wd / t1 := Int.tdiv_eq_ediv_of_nonneg wd0.1
  have d1 : wd.tmod t1 = wd % t1 := Int.tmod_eq_emod_of_nonneg wd0.1
  have d2 := Int.emod_nonneg wd (show t1 ≠ 0 by omega)
  have d3 := Int.emod_lt_of_pos wd (show 0 < t1 by omega)
  have d4 := Int.emod_add_mul_ediv wd t1
  have d5 : 0 ≤ wd / t1 := Int.ediv_nonneg wd0.1 (by omega)
  have d6 : wd / t1 < 2147483650 := Int.ediv_lt_of_lt_mul (by omega) (by omega)
  have s1 : zShlL u2 31 = u2 * 2147483648 := by
    have := zShlL_n u2 31 (by decide) ⟨by omega, by omega⟩
    rw [p31] at this
    exact this
  have s2 : zOrL (u2 * 2147483648) u1 = wd := by
    have := zOrL_s u2 u1 31 (by decide) hu2.1 hu1.1 (by omega) (by omega)
    rw [p31] at this
    rw [← ewd]
    exact this
  simp only [eLoc, eE, List.length_cons, List.length_nil, List.replicate, List.cons_append, List.nil_append, Nat.reduceAdd, Nat.reduceSub]
  refine x_aload_n hK kX1_guess_0 (q := 1) rfl rfl ?_
  refine x_getfield hK kX1_guess_1 (q := 4) rfl (gX1_21 ?_)
  refine x_getfield hK kX1_guess_4 (q := 7) rfl (gX1_69 ?_)
  rw [hL]
  refine x_istore_n hK kX1_guess_7 (q := 8) (jn := 3) rfl rfl ?_
  refine x_iload_n hK kX1_guess_8 (q := 9) rfl rfl ?_
  refine x_iload_n hK kX1_guess_9 (q := 10) rfl rfl ?_
  refine x_iadd hK kX1_guess_10 (q := 11) rfl ?_
  refine x_istore hK kX1_guess_11 (q := 13) rfl ?_
  refine x_iload_n hK kX1_guess_13 (q := 14) rfl rfl ?_
  refine x_iconst hK kX1_guess_14 (q := 15) rfl ?_
  simp only [lS, lS2, clr_0, clr_I, clr_L, clr_R]
  refine x_icmp_lt hK kX1_guess_15 (q := 18) rfl (tg := 29) rfl (by refine ⟨?_, ?_⟩ <;> omega) (fun c15 => ?_) (fun c15 => ?_)
  · exfalso; omega
  · refine x_iload_n hK kX1_guess_18 (q := 19) rfl rfl ?_
    refine x_if_lt hK kX1_guess_19 (q := 22) rfl (tg := 29) rfl (by omega) (fun c19 => ?_) (fun c19 => ?_)
    · exfalso; omega
    · refine x_iload hK kX1_guess_22 (q := 24) rfl rfl ?_
      refine x_bipush hK kX1_guess_24 (q := 26) rfl (by decide) ?_
      refine x_icmp_lt hK kX1_guess_26 (q := 29) rfl (tg := 31) rfl (by refine ⟨?_, ?_⟩ <;> omega) (fun c26 => ?_) (fun c26 => ?_)
      · refine x_aload_n hK kX1_guess_31 (q := 32) rfl rfl ?_
        refine x_getfield hK kX1_guess_32 (q := 35) rfl (gX1_21 ?_)
        refine x_getfield hK kX1_guess_35 (q := 38) rfl (gX1_72 ?_)
        refine x_iload_n hK kX1_guess_38 (q := 39) rfl rfl ?_
        refine x_iconst hK kX1_guess_39 (q := 40) rfl ?_
        refine x_isub hK kX1_guess_40 (q := 41) rfl ?_
        refine x_iaload hK kX1_guess_41 (q := 42) rfl (aC7_0 (by refine ⟨?_, ?_⟩ <;> omega) ?_)
        rw [et1]
        refine x_i2l hK kX1_guess_42 (q := 43) rfl (by omega) ?_
        refine x_lstore hK kX1_guess_43 (q := 45) rfl ?_
        refine x_aload_n hK kX1_guess_45 (q := 46) rfl rfl ?_
        refine x_getfield hK kX1_guess_46 (q := 49) rfl (gX1_21 ?_)
        refine x_getfield hK kX1_guess_49 (q := 52) rfl (gX1_72 ?_)
        refine x_iload_n hK kX1_guess_52 (q := 53) rfl rfl ?_
        refine x_iconst hK kX1_guess_53 (q := 54) rfl ?_
        refine x_isub hK kX1_guess_54 (q := 55) rfl ?_
        refine x_iaload hK kX1_guess_55 (q := 56) rfl (aC7_0 (by refine ⟨?_, ?_⟩ <;> omega) ?_)
        simp only [lS, lS2, clr_0, clr_I, clr_L, clr_R]
        rw [et2]
        refine x_i2l hK kX1_guess_56 (q := 57) rfl (by omega) ?_
        refine x_lstore hK kX1_guess_57 (q := 59) rfl ?_
        refine x_lload hK kX1_guess_59 (q := 61) rfl rfl ?_
        refine x_lconst0 hK kX1_guess_61 (q := 62) rfl ?_
        refine x_lcmp hK kX1_guess_62 (q := 63) rfl (by refine ⟨⟨by omega, by omega⟩, by decide⟩) ?_
        simp only [lS, lS2, clr_0, clr_I, clr_L, clr_R]
        refine x_ifc_ne hK kX1_guess_63 (q := 66) rfl (tg := 68) rfl (fun c63 => ?_) (fun c63 => ?_)
        · refine x_aload_n hK kX1_guess_68 (q := 69) rfl rfl ?_
          refine x_getfield hK kX1_guess_69 (q := 72) rfl (gX1_72 ?_)
          refine x_iload hK kX1_guess_72 (q := 74) rfl rfl ?_
          refine x_iaload hK kX1_guess_74 (q := 75) rfl (aC7_0 (by refine ⟨?_, ?_⟩ <;> omega) ?_)
          rw [eu2]
          refine x_i2l hK kX1_guess_75 (q := 76) rfl (by omega) ?_
          refine x_bipush hK kX1_guess_76 (q := 78) rfl (by decide) ?_
          refine x_lshl hK kX1_guess_78 (q := 79) rfl ?_
          rw [s1]
          refine x_aload_n hK kX1_guess_79 (q := 80) rfl rfl ?_
          refine x_getfield hK kX1_guess_80 (q := 83) rfl (gX1_72 ?_)
          refine x_iload hK kX1_guess_83 (q := 85) rfl rfl ?_
          refine x_iconst hK kX1_guess_85 (q := 86) rfl ?_
          refine x_isub hK kX1_guess_86 (q := 87) rfl ?_
          refine x_iaload hK kX1_guess_87 (q := 88) rfl (aC7_0 (by refine ⟨?_, ?_⟩ <;> omega) ?_)
          rw [eu1]
          refine x_i2l hK kX1_guess_88 (q := 89) rfl (by omega) ?_
          refine x_lor hK kX1_guess_89 (q := 90) rfl ?_
          rw [s2]
          refine x_lstore hK kX1_guess_90 (q := 92) rfl ?_
          refine x_lload hK kX1_guess_92 (q := 94) rfl rfl ?_
          refine x_lload hK kX1_guess_94 (q := 96) rfl rfl ?_
          refine x_ldiv hK kX1_guess_96 (q := 97) rfl (by refine ⟨⟨by omega, by omega⟩, ⟨by omega, by omega⟩, by omega⟩) ?_
          simp only [lS, lS2, clr_0, clr_I, clr_L, clr_R]
          rw [d0]
          refine x_lstore hK kX1_guess_97 (q := 99) rfl ?_
          refine x_lload hK kX1_guess_99 (q := 101) rfl rfl ?_
          refine x_lload hK kX1_guess_101 (q := 103) rfl rfl ?_
          refine x_lrem hK kX1_guess_103 (q := 104) rfl (by refine ⟨⟨by omega, by omega⟩, ⟨by omega, by omega⟩, by omega⟩) ?_
          simp only [lS, lS2, clr_0, clr_I, clr_L, clr_R]
          rw [d1]
          refine x_lstore hK kX1_guess_104 (q := 106) rfl ?_
          refine x_iconst hK kX1_guess_106 (q := 107) rfl ?_
          refine x_istore hK kX1_guess_107 (q := 109) rfl ?_
          simp only [lS, lS2, clr_0, clr_I, clr_L, clr_R]
          refine x_to (loop 3 0 (wd / t1) (wd % t1) none rfl d5 (by omega) (by omega) ?_ (Or.inr (Or.inr (ge_2 ht2.1 hu0.2 d5 ?_))) (by omega)) rfl rfl rfl
          · rw [Int.mul_comm (wd / t1) t1]; omega
          · have : (wd / t1 + 1) * t1 = t1 * (wd / t1) + t1 := by grind
            omega
        · exfalso; omega
      · exfalso; omega
set_option maxRecDepth 20000 in
theorem mX1_guess : eMet yX1_guess cX1_guess 18 (some .long) 0 0 SX1_guess := eMet_of (by decide +kernel) sX1_guess kX1_guess_ok caX1_guess tb_RX1
theorem wX1_guess : eWV yX1_guess cX1_guess 18 (some .long) 3 1 SX1_guess := ⟨(gW_at 498 (by decide +kernel) rfl), (gW_at 81 (by decide +kernel) rfl), (gW_at 497 (by decide +kernel) rfl), ⟨_, rfl, (gW_at 9 (by decide +kernel) rfl)⟩, by decide +kernel, SX1_guess_r⟩
