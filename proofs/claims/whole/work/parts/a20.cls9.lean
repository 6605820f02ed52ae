/-! The desk: guess. -/
theorem ge_1 {g t1 t2 l u0 wide : Int} (hw : wide = g * t1 + l) : g * (t1 * 2147483648 + t2) ≤ wide * 2147483648 + u0 ↔ g * t2 ≤ l * 2147483648 + u0 := by
  have e1 : g * (t1 * 2147483648 + t2) = g * t1 * 2147483648 + g * t2 := by grind
  rw [e1, hw, Int.add_mul]
  omega
theorem ge_2 {g t1 t2 u0 wide : Int} (h2 : 0 ≤ t2) (h0 : u0 < 2147483648) (hg : 0 ≤ g) (h : wide < (g + 1) * t1) : wide * 2147483648 + u0 < (g + 1) * (t1 * 2147483648 + t2) := by
  have e1 : (g + 1) * (t1 * 2147483648 + t2) = (g + 1) * t1 * 2147483648 + (g + 1) * t2 := by grind
  have e2 := Int.mul_nonneg (show 0 ≤ g + 1 by omega) h2
  rw [e1]
  omega
theorem ge_3 {g t1 l u1 u2 : Int} (h1 : 0 < t1) (hw : u2 * 2147483648 + u1 = g * t1 + l) (h2 : u2 ≤ t1) (h3 : u1 < 2147483648) (hl : 2147483648 ≤ l) : g < 2147483648 := by
  rcases Int.lt_or_le g 2147483648 with q | q
  · exact q
  · have e := Int.mul_le_mul_of_nonneg_right q (show 0 ≤ t1 by omega)
    omega
def SX1_guess : eSp := fun as M rt => ∃ (F : Nat → Int) (A W : Nat → Int → Int) (j at_ L : Nat), as = [eR (1, 2), eR (2, j), eI at_] ∧ M = cC F A W ∧ (j < 332) ∧ (W 2 80 = L) ∧ (2 ≤ L) ∧ (L ≤ 64) ∧ (at_ + L < lw j) ∧ (1073741824 ≤ W 2 ((L : Int) - 1) ∧ W 2 ((L : Int) - 1) < 2147483648) ∧ (0 ≤ W 2 ((L : Int) - 2) ∧ W 2 ((L : Int) - 2) < 2147483648) ∧ (0 ≤ W j ((at_ : Int) + L) ∧ W j ((at_ : Int) + L) ≤ W 2 ((L : Int) - 1)) ∧ (0 ≤ W j ((at_ : Int) + L - 1) ∧ W j ((at_ : Int) + L - 1) < 2147483648) ∧ (0 ≤ W j ((at_ : Int) + L - 2) ∧ W j ((at_ : Int) + L - 2) < 2147483648) ∧ (∀ g : Int, 0 ≤ g → g < 2147483648 → g * (W 2 ((L : Int) - 1) * 2147483648 + W 2 ((L : Int) - 2)) ≤ (W j ((at_ : Int) + L) * 2147483648 + W j ((at_ : Int) + L - 1)) * 2147483648 + W j ((at_ : Int) + L - 2) → (g = 2147483647 ∨ (W j ((at_ : Int) + L) * 2147483648 + W j ((at_ : Int) + L - 1)) * 2147483648 + W j ((at_ : Int) + L - 2) < (g + 1) * (W 2 ((L : Int) - 1) * 2147483648 + W 2 ((L : Int) - 2))) → rt (some (eL g)) (cC F A W))
theorem SX1_guess_i {F : Nat → Int} {A W : Nat → Int → Int} {j at_ L : Nat} {rt : Option eV → eM → Prop} (hj : j < 332) (hL : W 2 80 = L) (h2 : 2 ≤ L) (hL8 : L ≤ 64) (hat : at_ + L < lw j) (ht1 : 1073741824 ≤ W 2 ((L : Int) - 1) ∧ W 2 ((L : Int) - 1) < 2147483648) (ht2 : 0 ≤ W 2 ((L : Int) - 2) ∧ W 2 ((L : Int) - 2) < 2147483648) (hu2 : 0 ≤ W j ((at_ : Int) + L) ∧ W j ((at_ : Int) + L) ≤ W 2 ((L : Int) - 1)) (hu1 : 0 ≤ W j ((at_ : Int) + L - 1) ∧ W j ((at_ : Int) + L - 1) < 2147483648) (hu0 : 0 ≤ W j ((at_ : Int) + L - 2) ∧ W j ((at_ : Int) + L - 2) < 2147483648) (h : ∀ g : Int, 0 ≤ g → g < 2147483648 → g * (W 2 ((L : Int) - 1) * 2147483648 + W 2 ((L : Int) - 2)) ≤ (W j ((at_ : Int) + L) * 2147483648 + W j ((at_ : Int) + L - 1)) * 2147483648 + W j ((at_ : Int) + L - 2) → (g = 2147483647 ∨ (W j ((at_ : Int) + L) * 2147483648 + W j ((at_ : Int) + L - 1)) * 2147483648 + W j ((at_ : Int) + L - 2) < (g + 1) * (W 2 ((L : Int) - 1) * 2147483648 + W 2 ((L : Int) - 2))) → rt (some (eL g)) (cC F A W)) : SX1_guess [eR (1, 2), eR (2, j), eI at_] (cC F A W) rt := ⟨F, A, W, j, at_, L, rfl, rfl, hj, hL, h2, hL8, hat, ht1, ht2, hu2, hu1, hu0, h⟩
theorem SX1_guess_r : ∀ as M rt, SX1_guess as M rt → ∃ a r fs, as = eR a :: r ∧ M a = some (.inl (1, fs)) := by
  rintro as M rt ⟨F, A, W, j, at_, L, rfl, rfl, -⟩
  exact ⟨_, _, _, rfl, rfl⟩
def kX1_guess : List (Nat × Jvm.ClassFile.Instr × Nat) := [(0, .aload_n 0, 1), (1, .getfield 23, 3), (4, .getfield 71, 3), (7, .istore_n 3, 1), (8, .iload_n 2, 1), (9, .iload_n 3, 1), (10, .iadd, 1), (11, .istore 4, 2), (13, .iload_n 3, 1), (14, .iconst 2, 1), (15, .if_icmp .lt 29, 3), (18, .iload_n 3, 1), (19, .aload_n 0, 1), (20, .getfield 23, 3), (23, .getfield 74, 3), (26, .arraylength, 1), (27, .if_icmp .gt 17, 3), (30, .iload_n 2, 1), (31, .ifCond .lt 13, 3), (34, .iload 4, 2), (36, .aload_n 1, 1), (37, .getfield 74, 3), (40, .arraylength, 1), (41, .if_icmp .lt 5, 3), (44, .lconst 0, 1), (45, .lreturn, 1), (46, .aload_n 0, 1), (47, .getfield 23, 3), (50, .getfield 74, 3), (53, .iload_n 3, 1), (54, .iconst 1, 1), (55, .isub, 1), (56, .iaload, 1), (57, .i2l, 1), (58, .lstore 5, 2), (60, .aload_n 0, 1), (61, .getfield 23, 3), (64, .getfield 74, 3), (67, .iload_n 3, 1), (68, .iconst 2, 1), (69, .isub, 1), (70, .iaload, 1), (71, .i2l, 1), (72, .lstore 7, 2), (74, .lload 5, 2), (76, .lconst 0, 1), (77, .lcmp, 1), (78, .ifCond .ne 5, 3), (81, .lconst 0, 1), (82, .lreturn, 1), (83, .aload_n 1, 1), (84, .getfield 74, 3), (87, .iload 4, 2), (89, .iaload, 1), (90, .i2l, 1), (91, .bipush 31, 2), (93, .lshl, 1), (94, .aload_n 1, 1), (95, .getfield 74, 3), (98, .iload 4, 2), (100, .iconst 1, 1), (101, .isub, 1), (102, .iaload, 1), (103, .i2l, 1), (104, .lor, 1), (105, .lstore 9, 2), (107, .lload 9, 2), (109, .lload 5, 2), (111, .ldiv, 1), (112, .lstore 11, 2), (114, .lload 9, 2), (116, .lload 5, 2), (118, .lrem, 1), (119, .lstore 13, 2), (121, .iconst 0, 1), (122, .istore 15, 2), (124, .iload 15, 2), (126, .iconst 3, 1), (127, .if_icmp .ge 72, 3), (130, .lload 13, 2), (132, .ldc2_w 110, 3), (135, .lcmp, 1), (136, .ifCond .ge 63, 3), (139, .lload 13, 2), (141, .bipush 31, 2), (143, .lshl, 1), (144, .aload_n 1, 1), (145, .getfield 74, 3), (148, .iload 4, 2), (150, .iconst 2, 1), (151, .isub, 1), (152, .iaload, 1), (153, .i2l, 1), (154, .lor, 1), (155, .lstore 16, 2), (157, .lload 11, 2), (159, .ldc2_w 110, 3), (162, .lcmp, 1), (163, .ifCond .ge 17, 3), (166, .lload 11, 2), (168, .lload 7, 2), (170, .lmul, 1), (171, .lload 16, 2), (173, .lcmp, 1), (174, .ifCond .gt 6, 3), (177, .goto 22, 3), (180, .lload 11, 2), (182, .lconst 1, 1), (183, .lsub, 1), (184, .lstore 11, 2), (186, .lload 13, 2), (188, .lload 5, 2), (190, .ladd, 1), (191, .lstore 13, 2), (193, .iinc 15 1, 3), (196, .goto (-72), 3), (199, .lload 11, 2), (201, .lreturn, 1)]
theorem kX1_guess_0 : cdOf kX1_guess 0 = some (.aload_n 0, 1) := by decide +kernel
theorem kX1_guess_1 : cdOf kX1_guess 1 = some (.getfield 23, 3) := by decide +kernel
theorem kX1_guess_4 : cdOf kX1_guess 4 = some (.getfield 71, 3) := by decide +kernel
theorem kX1_guess_7 : cdOf kX1_guess 7 = some (.istore_n 3, 1) := by decide +kernel
theorem kX1_guess_8 : cdOf kX1_guess 8 = some (.iload_n 2, 1) := by decide +kernel
theorem kX1_guess_9 : cdOf kX1_guess 9 = some (.iload_n 3, 1) := by decide +kernel
theorem kX1_guess_10 : cdOf kX1_guess 10 = some (.iadd, 1) := by decide +kernel
theorem kX1_guess_11 : cdOf kX1_guess 11 = some (.istore 4, 2) := by decide +kernel
theorem kX1_guess_13 : cdOf kX1_guess 13 = some (.iload_n 3, 1) := by decide +kernel
theorem kX1_guess_14 : cdOf kX1_guess 14 = some (.iconst 2, 1) := by decide +kernel
theorem kX1_guess_15 : cdOf kX1_guess 15 = some (.if_icmp .lt 29, 3) := by decide +kernel
theorem kX1_guess_18 : cdOf kX1_guess 18 = some (.iload_n 3, 1) := by decide +kernel
theorem kX1_guess_19 : cdOf kX1_guess 19 = some (.aload_n 0, 1) := by decide +kernel
theorem kX1_guess_20 : cdOf kX1_guess 20 = some (.getfield 23, 3) := by decide +kernel
theorem kX1_guess_23 : cdOf kX1_guess 23 = some (.getfield 74, 3) := by decide +kernel
theorem kX1_guess_26 : cdOf kX1_guess 26 = some (.arraylength, 1) := by decide +kernel
theorem kX1_guess_27 : cdOf kX1_guess 27 = some (.if_icmp .gt 17, 3) := by decide +kernel
theorem kX1_guess_30 : cdOf kX1_guess 30 = some (.iload_n 2, 1) := by decide +kernel
theorem kX1_guess_31 : cdOf kX1_guess 31 = some (.ifCond .lt 13, 3) := by decide +kernel
theorem kX1_guess_34 : cdOf kX1_guess 34 = some (.iload 4, 2) := by decide +kernel
theorem kX1_guess_36 : cdOf kX1_guess 36 = some (.aload_n 1, 1) := by decide +kernel
theorem kX1_guess_37 : cdOf kX1_guess 37 = some (.getfield 74, 3) := by decide +kernel
theorem kX1_guess_40 : cdOf kX1_guess 40 = some (.arraylength, 1) := by decide +kernel
theorem kX1_guess_41 : cdOf kX1_guess 41 = some (.if_icmp .lt 5, 3) := by decide +kernel
theorem kX1_guess_44 : cdOf kX1_guess 44 = some (.lconst 0, 1) := by decide +kernel
theorem kX1_guess_45 : cdOf kX1_guess 45 = some (.lreturn, 1) := by decide +kernel
theorem kX1_guess_46 : cdOf kX1_guess 46 = some (.aload_n 0, 1) := by decide +kernel
theorem kX1_guess_47 : cdOf kX1_guess 47 = some (.getfield 23, 3) := by decide +kernel
theorem kX1_guess_50 : cdOf kX1_guess 50 = some (.getfield 74, 3) := by decide +kernel
theorem kX1_guess_53 : cdOf kX1_guess 53 = some (.iload_n 3, 1) := by decide +kernel
theorem kX1_guess_54 : cdOf kX1_guess 54 = some (.iconst 1, 1) := by decide +kernel
theorem kX1_guess_55 : cdOf kX1_guess 55 = some (.isub, 1) := by decide +kernel
theorem kX1_guess_56 : cdOf kX1_guess 56 = some (.iaload, 1) := by decide +kernel
theorem kX1_guess_57 : cdOf kX1_guess 57 = some (.i2l, 1) := by decide +kernel
theorem kX1_guess_58 : cdOf kX1_guess 58 = some (.lstore 5, 2) := by decide +kernel
theorem kX1_guess_60 : cdOf kX1_guess 60 = some (.aload_n 0, 1) := by decide +kernel
theorem kX1_guess_61 : cdOf kX1_guess 61 = some (.getfield 23, 3) := by decide +kernel
theorem kX1_guess_64 : cdOf kX1_guess 64 = some (.getfield 74, 3) := by decide +kernel
theorem kX1_guess_67 : cdOf kX1_guess 67 = some (.iload_n 3, 1) := by decide +kernel
theorem kX1_guess_68 : cdOf kX1_guess 68 = some (.iconst 2, 1) := by decide +kernel
theorem kX1_guess_69 : cdOf kX1_guess 69 = some (.isub, 1) := by decide +kernel
theorem kX1_guess_70 : cdOf kX1_guess 70 = some (.iaload, 1) := by decide +kernel
theorem kX1_guess_71 : cdOf kX1_guess 71 = some (.i2l, 1) := by decide +kernel
theorem kX1_guess_72 : cdOf kX1_guess 72 = some (.lstore 7, 2) := by decide +kernel
theorem kX1_guess_74 : cdOf kX1_guess 74 = some (.lload 5, 2) := by decide +kernel
theorem kX1_guess_76 : cdOf kX1_guess 76 = some (.lconst 0, 1) := by decide +kernel
theorem kX1_guess_77 : cdOf kX1_guess 77 = some (.lcmp, 1) := by decide +kernel
theorem kX1_guess_78 : cdOf kX1_guess 78 = some (.ifCond .ne 5, 3) := by decide +kernel
theorem kX1_guess_81 : cdOf kX1_guess 81 = some (.lconst 0, 1) := by decide +kernel
theorem kX1_guess_82 : cdOf kX1_guess 82 = some (.lreturn, 1) := by decide +kernel
theorem kX1_guess_83 : cdOf kX1_guess 83 = some (.aload_n 1, 1) := by decide +kernel
theorem kX1_guess_84 : cdOf kX1_guess 84 = some (.getfield 74, 3) := by decide +kernel
theorem kX1_guess_87 : cdOf kX1_guess 87 = some (.iload 4, 2) := by decide +kernel
theorem kX1_guess_89 : cdOf kX1_guess 89 = some (.iaload, 1) := by decide +kernel
theorem kX1_guess_90 : cdOf kX1_guess 90 = some (.i2l, 1) := by decide +kernel
theorem kX1_guess_91 : cdOf kX1_guess 91 = some (.bipush 31, 2) := by decide +kernel
theorem kX1_guess_93 : cdOf kX1_guess 93 = some (.lshl, 1) := by decide +kernel
theorem kX1_guess_94 : cdOf kX1_guess 94 = some (.aload_n 1, 1) := by decide +kernel
theorem kX1_guess_95 : cdOf kX1_guess 95 = some (.getfield 74, 3) := by decide +kernel
theorem kX1_guess_98 : cdOf kX1_guess 98 = some (.iload 4, 2) := by decide +kernel
theorem kX1_guess_100 : cdOf kX1_guess 100 = some (.iconst 1, 1) := by decide +kernel
theorem kX1_guess_101 : cdOf kX1_guess 101 = some (.isub, 1) := by decide +kernel
theorem kX1_guess_102 : cdOf kX1_guess 102 = some (.iaload, 1) := by decide +kernel
theorem kX1_guess_103 : cdOf kX1_guess 103 = some (.i2l, 1) := by decide +kernel
theorem kX1_guess_104 : cdOf kX1_guess 104 = some (.lor, 1) := by decide +kernel
theorem kX1_guess_105 : cdOf kX1_guess 105 = some (.lstore 9, 2) := by decide +kernel
theorem kX1_guess_107 : cdOf kX1_guess 107 = some (.lload 9, 2) := by decide +kernel
theorem kX1_guess_109 : cdOf kX1_guess 109 = some (.lload 5, 2) := by decide +kernel
theorem kX1_guess_111 : cdOf kX1_guess 111 = some (.ldiv, 1) := by decide +kernel
theorem kX1_guess_112 : cdOf kX1_guess 112 = some (.lstore 11, 2) := by decide +kernel
theorem kX1_guess_114 : cdOf kX1_guess 114 = some (.lload 9, 2) := by decide +kernel
theorem kX1_guess_116 : cdOf kX1_guess 116 = some (.lload 5, 2) := by decide +kernel
theorem kX1_guess_118 : cdOf kX1_guess 118 = some (.lrem, 1) := by decide +kernel
theorem kX1_guess_119 : cdOf kX1_guess 119 = some (.lstore 13, 2) := by decide +kernel
theorem kX1_guess_121 : cdOf kX1_guess 121 = some (.iconst 0, 1) := by decide +kernel
theorem kX1_guess_122 : cdOf kX1_guess 122 = some (.istore 15, 2) := by decide +kernel
theorem kX1_guess_124 : cdOf kX1_guess 124 = some (.iload 15, 2) := by decide +kernel
theorem kX1_guess_126 : cdOf kX1_guess 126 = some (.iconst 3, 1) := by decide +kernel
theorem kX1_guess_127 : cdOf kX1_guess 127 = some (.if_icmp .ge 72, 3) := by decide +kernel
theorem kX1_guess_130 : cdOf kX1_guess 130 = some (.lload 13, 2) := by decide +kernel
theorem kX1_guess_132 : cdOf kX1_guess 132 = some (.ldc2_w 110, 3) := by decide +kernel
theorem kX1_guess_135 : cdOf kX1_guess 135 = some (.lcmp, 1) := by decide +kernel
theorem kX1_guess_136 : cdOf kX1_guess 136 = some (.ifCond .ge 63, 3) := by decide +kernel
theorem kX1_guess_139 : cdOf kX1_guess 139 = some (.lload 13, 2) := by decide +kernel
theorem kX1_guess_141 : cdOf kX1_guess 141 = some (.bipush 31, 2) := by decide +kernel
theorem kX1_guess_143 : cdOf kX1_guess 143 = some (.lshl, 1) := by decide +kernel
theorem kX1_guess_144 : cdOf kX1_guess 144 = some (.aload_n 1, 1) := by decide +kernel
theorem kX1_guess_145 : cdOf kX1_guess 145 = some (.getfield 74, 3) := by decide +kernel
theorem kX1_guess_148 : cdOf kX1_guess 148 = some (.iload 4, 2) := by decide +kernel
theorem kX1_guess_150 : cdOf kX1_guess 150 = some (.iconst 2, 1) := by decide +kernel
theorem kX1_guess_151 : cdOf kX1_guess 151 = some (.isub, 1) := by decide +kernel
theorem kX1_guess_152 : cdOf kX1_guess 152 = some (.iaload, 1) := by decide +kernel
theorem kX1_guess_153 : cdOf kX1_guess 153 = some (.i2l, 1) := by decide +kernel
theorem kX1_guess_154 : cdOf kX1_guess 154 = some (.lor, 1) := by decide +kernel
theorem kX1_guess_155 : cdOf kX1_guess 155 = some (.lstore 16, 2) := by decide +kernel
theorem kX1_guess_157 : cdOf kX1_guess 157 = some (.lload 11, 2) := by decide +kernel
theorem kX1_guess_159 : cdOf kX1_guess 159 = some (.ldc2_w 110, 3) := by decide +kernel
theorem kX1_guess_162 : cdOf kX1_guess 162 = some (.lcmp, 1) := by decide +kernel
theorem kX1_guess_163 : cdOf kX1_guess 163 = some (.ifCond .ge 17, 3) := by decide +kernel
theorem kX1_guess_166 : cdOf kX1_guess 166 = some (.lload 11, 2) := by decide +kernel
theorem kX1_guess_168 : cdOf kX1_guess 168 = some (.lload 7, 2) := by decide +kernel
theorem kX1_guess_170 : cdOf kX1_guess 170 = some (.lmul, 1) := by decide +kernel
theorem kX1_guess_171 : cdOf kX1_guess 171 = some (.lload 16, 2) := by decide +kernel
theorem kX1_guess_173 : cdOf kX1_guess 173 = some (.lcmp, 1) := by decide +kernel
theorem kX1_guess_174 : cdOf kX1_guess 174 = some (.ifCond .gt 6, 3) := by decide +kernel
theorem kX1_guess_177 : cdOf kX1_guess 177 = some (.goto 22, 3) := by decide +kernel
theorem kX1_guess_180 : cdOf kX1_guess 180 = some (.lload 11, 2) := by decide +kernel
theorem kX1_guess_182 : cdOf kX1_guess 182 = some (.lconst 1, 1) := by decide +kernel
theorem kX1_guess_183 : cdOf kX1_guess 183 = some (.lsub, 1) := by decide +kernel
theorem kX1_guess_184 : cdOf kX1_guess 184 = some (.lstore 11, 2) := by decide +kernel
theorem kX1_guess_186 : cdOf kX1_guess 186 = some (.lload 13, 2) := by decide +kernel
theorem kX1_guess_188 : cdOf kX1_guess 188 = some (.lload 5, 2) := by decide +kernel
theorem kX1_guess_190 : cdOf kX1_guess 190 = some (.ladd, 1) := by decide +kernel
theorem kX1_guess_191 : cdOf kX1_guess 191 = some (.lstore 13, 2) := by decide +kernel
theorem kX1_guess_193 : cdOf kX1_guess 193 = some (.iinc 15 1, 3) := by decide +kernel
theorem kX1_guess_196 : cdOf kX1_guess 196 = some (.goto (-72), 3) := by decide +kernel
theorem kX1_guess_199 : cdOf kX1_guess 199 = some (.lload 11, 2) := by decide +kernel
theorem kX1_guess_201 : cdOf kX1_guess 201 = some (.lreturn, 1) := by decide +kernel
set_option maxRecDepth 20000 in
theorem kX1_guess_ok : ∀ pc i len, cdOf kX1_guess pc = some (i, len) → decode cX1_guess pc = .ok (i, len) ∧ stOK 18 i = true ∧ jOK pc i = true ∧ eLen i len = true := cdOf_ok cX1_guess 18 kX1_guess (by decide +kernel)
def vtX1_guess : Nat → Option (Nat × eSp) := fun _ => none
def stX1_guess : Nat → Option (Nat × eSp) := fun _ => none
abbrev TX1_guess : eT := (fl_RX1, cl_RX1, dl_RX1, vtX1_guess, stX1_guess)
set_option maxRecDepth 20000 in
theorem caX1_guess : eCalls RX1 { frames := 0, cells := 0, slots := 0, locals := 0 } TX1_guess := by
  refine ⟨fun k n sp h => ?_, fun k n sp h => ?_⟩
  · cases h
  · cases h
set_option maxRecDepth 100000 in
set_option maxHeartbeats 4000000 in
theorem sX1_guess : eSafe TX1_guess (cdOf kX1_guess) 18 (some .long) SX1_guess := by
  intro K rt hK as M h
  obtain ⟨F, A, W, j, at_, L, rfl, rfl, hj, hL, h2, hL8, hat, ht1, ht2, hu2, hu1, hu0, h⟩ := h
  refine ⟨by simp [eE], ?_⟩
  have lj := lw_b j
  have l2 := lw_d (k := 2) (by decide)
  obtain ⟨t1, et1⟩ : ∃ t1, W 2 ((L : Int) - 1) = t1 := ⟨_, rfl⟩
  obtain ⟨t2, et2⟩ : ∃ t2, W 2 ((L : Int) - 2) = t2 := ⟨_, rfl⟩
  obtain ⟨u2, eu2⟩ : ∃ u2, W j ((at_ : Int) + L) = u2 := ⟨_, rfl⟩
  obtain ⟨u1, eu1⟩ : ∃ u1, W j ((at_ : Int) + L - 1) = u1 := ⟨_, rfl⟩
  obtain ⟨u0, eu0⟩ : ∃ u0, W j ((at_ : Int) + L - 2) = u0 := ⟨_, rfl⟩
  rw [et1] at ht1 hu2
  rw [et2] at ht2
  rw [eu2] at hu2
  rw [eu1] at hu1
  rw [eu0] at hu0
  rw [et1, et2, eu2, eu1, eu0] at h
  obtain ⟨wd, ewd⟩ : ∃ wd, u2 * 2147483648 + u1 = wd := ⟨_, rfl⟩
  rw [ewd] at h
  have p31 : (2 : Int) ^ 31 = 2147483648 := by decide
  have big : ∀ g l : Int, 0 ≤ g → 2147483648 ≤ l → wd = g * t1 + l → (2147483648 ≤ g ∨ g = 2147483647 ∨ wd * 2147483648 + u0 < (g + 1) * (t1 * 2147483648 + t2)) → rt (some (eL g)) (cC F A W) := by
    intro g l g0 hl hw hm
    have g1 := ge_3 (by omega) (ewd.trans hw) hu2.2 hu1.2 hl
    have m := (mul_lt ⟨g0, g1⟩ ht2).2
    refine h g g0 g1 ((ge_1 hw).mpr (by omega)) ?_
    rcases hm with q | q | q
    · omega
    · exact Or.inl q
    · exact Or.inr q
  have loop : ∀ (d k : Nat) (g l : Int) (u16 : Option eV), k + d = 3 → 0 ≤ g → (k : Int) * t1 ≤ l → l < (k : Int) * t1 + t1 → wd = g * t1 + l → (2147483648 ≤ g ∨ g = 2147483647 ∨ wd * 2147483648 + u0 < (g + 1) * (t1 * 2147483648 + t2)) → g ≤ 2147483649 →
      K 124 [some (eR (1, 2)), some (eR (2, j)), some (eI at_), some (eI L), some (eI ((at_ : Int) + L)), some (eL t1), none, some (eL t2), none, some (eL wd), none, some (eL g), none, some (eL l), none, some (eI k), u16, none] [] (cC F A W) := by
    intro d
    induction d with
    | zero =>
      intro k g l u16 hd g0 l0 l1 hw hm hg
      have : k = 3 := by omega
      subst this
      refine x_iload hK kX1_guess_124 (q := 126) rfl rfl ?_
      refine x_iconst hK kX1_guess_126 (q := 127) rfl ?_
      refine x_icmp_ge hK kX1_guess_127 (q := 130) rfl (tg := 199) rfl (by refine ⟨?_, ?_⟩ <;> omega) (fun c127 => ?_) (fun c127 => ?_)
      · refine x_lload hK kX1_guess_199 (q := 201) rfl rfl ?_
        refine x_lreturn hK kX1_guess_201 (by first | trivial | exact Or.inl rfl | exact Or.inr rfl) ?_
        exact big g l g0 (by omega) hw hm
      · exfalso; omega
    | succ d ih =>
      intro k g l u16 hd g0 l0 l1 hw hm hg
      have hk : k = 0 ∨ k = 1 ∨ k = 2 := by omega
      have lw : 0 ≤ l ∧ l < 8589934592 := by rcases hk with rfl | rfl | rfl <;> omega
      have e3 : l < 2147483648 → zShlL l 31 = l * 2147483648 := fun q => by
        have := zShlL_n l 31 (by decide) ⟨by omega, by omega⟩
        rw [p31] at this
        exact this
      have e4 : l < 2147483648 → zOrL (l * 2147483648) u0 = l * 2147483648 + u0 := fun q => by
        have := zOrL_s l u0 31 (by decide) lw.1 hu0.1 (by omega) (by omega)
        rw [p31] at this
        exact this
      have next : (2147483648 ≤ g ∨ wd * 2147483648 + u0 < g * (t1 * 2147483648 + t2)) → ∀ u16, K 124 [some (eR (1, 2)), some (eR (2, j)), some (eI at_), some (eI L), some (eI ((at_ : Int) + L)), some (eL t1), none, some (eL t2), none, some (eL wd), none, some (eL (g - 1)), none, some (eL (l + t1)), none, some (eI ((k : Int) + 1)), u16, none] [] (cC F A W) := fun q u16 => by
        have g1 : 0 < g := by
          rcases q with q | q
          · omega
          · rcases Int.lt_or_le 0 g with r | r
            · exact r
            · have : g = 0 := by omega
              rw [this, Int.zero_mul] at q
              omega
        have hk1 : (((k + 1 : Nat) : Int)) * t1 = (k : Int) * t1 + t1 := by rcases hk with rfl | rfl | rfl <;> omega
        rw [show (k : Int) + 1 = ((k + 1 : Nat) : Int) by omega]
        refine ih (k + 1) (g - 1) (l + t1) u16 (by omega) (by omega) (by omega) (by omega) (by rw [hw]; grind) ?_ (by omega)
        rcases q with q | q
        · rcases Int.lt_or_le 2147483648 g with r | r
          · exact Or.inl (by omega)
          · exact Or.inr (Or.inl (by omega))
        · exact Or.inr (Or.inr (by rw [show g - 1 + 1 = g by omega]; exact q))
      refine x_iload hK kX1_guess_124 (q := 126) rfl rfl ?_
      refine x_iconst hK kX1_guess_126 (q := 127) rfl ?_
      refine x_icmp_ge hK kX1_guess_127 (q := 130) rfl (tg := 199) rfl (by refine ⟨?_, ?_⟩ <;> omega) (fun c127 => ?_) (fun c127 => ?_)
      · exfalso; omega
      · refine x_lload hK kX1_guess_130 (q := 132) rfl rfl ?_
        refine x_ldc2_w hK kX1_guess_132 (q := 135) rfl lc2_RX1_110 ?_
        refine x_lcmp hK kX1_guess_135 (q := 136) rfl (by refine ⟨⟨by omega, by omega⟩, by decide⟩) ?_
        refine x_ifc_ge hK kX1_guess_136 (q := 139) rfl (tg := 199) rfl (fun c136 => ?_) (fun c136 => ?_)
        · have hfin := big g l g0 c136 hw hm
          refine x_lload hK kX1_guess_199 (q := 201) rfl rfl ?_
          refine x_lreturn hK kX1_guess_201 (by first | trivial | exact Or.inl rfl | exact Or.inr rfl) ?_
          first | exact hfin | exact h g g0 (by omega) q0 (by rcases hm with q | q | q; omega; exact Or.inl q; exact Or.inr q)
        · refine x_lload hK kX1_guess_139 (q := 141) rfl rfl ?_
          refine x_bipush hK kX1_guess_141 (q := 143) rfl (by decide) ?_
          refine x_lshl hK kX1_guess_143 (q := 144) rfl ?_
          rw [e3 (by omega)]
          refine x_aload_n hK kX1_guess_144 (q := 145) rfl rfl ?_
          refine x_getfield hK kX1_guess_145 (q := 148) rfl (gX1_74 ?_)
          refine x_iload hK kX1_guess_148 (q := 150) rfl rfl ?_
          refine x_iconst hK kX1_guess_150 (q := 151) rfl ?_
          refine x_isub hK kX1_guess_151 (q := 152) rfl ?_
          refine x_iaload hK kX1_guess_152 (q := 153) rfl (aC7_0 (by refine ⟨?_, ?_⟩ <;> omega) ?_)
          rw [eu0]
          refine x_i2l hK kX1_guess_153 (q := 154) rfl (by omega) ?_
          refine x_lor hK kX1_guess_154 (q := 155) rfl ?_
          rw [e4 (by omega)]
          refine x_lstore hK kX1_guess_155 (q := 157) rfl ?_
          refine x_lload hK kX1_guess_157 (q := 159) rfl rfl ?_
          refine x_ldc2_w hK kX1_guess_159 (q := 162) rfl lc2_RX1_110 ?_
          refine x_lcmp hK kX1_guess_162 (q := 163) rfl (by refine ⟨⟨by omega, by omega⟩, by decide⟩) ?_
          simp only [lS, lS2, clr_0, clr_I, clr_L, clr_R]
          refine x_ifc_ge hK kX1_guess_163 (q := 166) rfl (tg := 180) rfl (fun c163 => ?_) (fun c163 => ?_)
          · refine x_lload hK kX1_guess_180 (q := 182) rfl rfl ?_
            refine x_lconst1 hK kX1_guess_182 (q := 183) rfl ?_
            refine x_lsub hK kX1_guess_183 (q := 184) rfl ?_
            refine x_lstore hK kX1_guess_184 (q := 186) rfl ?_
            refine x_lload hK kX1_guess_186 (q := 188) rfl rfl ?_
            refine x_lload hK kX1_guess_188 (q := 190) rfl rfl ?_
            refine x_ladd hK kX1_guess_190 (q := 191) rfl ?_
            refine x_lstore hK kX1_guess_191 (q := 193) rfl ?_
            refine x_iinc hK kX1_guess_193 (q := 196) rfl rfl ?_
            simp only [lS, lS2, clr_0, clr_I, clr_L, clr_R]
            refine x_goto hK kX1_guess_196 (tg := 124) rfl ?_
            first | exact next (Or.inl (by omega)) _ | exact next (Or.inr (by omega)) _
          · have m := mul_lt ⟨g0, show g < 2147483648 by omega⟩ ht2
            refine x_lload hK kX1_guess_166 (q := 168) rfl rfl ?_
            refine x_lload hK kX1_guess_168 (q := 170) rfl rfl ?_
            refine x_lmul hK kX1_guess_170 (q := 171) rfl ?_
            refine x_lload hK kX1_guess_171 (q := 173) rfl rfl ?_
            refine x_lcmp hK kX1_guess_173 (q := 174) rfl (by refine ⟨⟨by omega, by omega⟩, ⟨by omega, by omega⟩⟩) ?_
            refine x_ifc_gt hK kX1_guess_174 (q := 177) rfl (tg := 180) rfl (fun c174 => ?_) (fun c174 => ?_)
            · have q0 := (not_congr (ge_1 (u0 := u0) (t2 := t2) hw)).mpr (by omega)
              refine x_lload hK kX1_guess_180 (q := 182) rfl rfl ?_
              refine x_lconst1 hK kX1_guess_182 (q := 183) rfl ?_
              refine x_lsub hK kX1_guess_183 (q := 184) rfl ?_
              refine x_lstore hK kX1_guess_184 (q := 186) rfl ?_
              refine x_lload hK kX1_guess_186 (q := 188) rfl rfl ?_
              refine x_lload hK kX1_guess_188 (q := 190) rfl rfl ?_
              refine x_ladd hK kX1_guess_190 (q := 191) rfl ?_
              refine x_lstore hK kX1_guess_191 (q := 193) rfl ?_
              refine x_iinc hK kX1_guess_193 (q := 196) rfl rfl ?_
              simp only [lS, lS2, clr_0, clr_I, clr_L, clr_R]
              refine x_goto hK kX1_guess_196 (tg := 124) rfl ?_
              first | exact next (Or.inl (by omega)) _ | exact next (Or.inr (by omega)) _
            · have q0 := (ge_1 (u0 := u0) (t2 := t2) hw).mpr (by omega)
              refine x_goto hK kX1_guess_177 (tg := 199) rfl ?_
              refine x_lload hK kX1_guess_199 (q := 201) rfl rfl ?_
              refine x_lreturn hK kX1_guess_201 (by first | trivial | exact Or.inl rfl | exact Or.inr rfl) ?_
              first | exact hfin | exact h g g0 (by omega) q0 (by rcases hm with q | q | q; omega; exact Or.inl q; exact Or.inr q)
  have wd0 : 0 ≤ wd ∧ wd < 4611686018427387904 := by omega
  have d0 : wd.tdiv t1 = wd / t1 := Int.tdiv_eq_ediv_of_nonneg wd0.1
  have d1 : wd.tmod t1 = wd % t1 := Int.tmod_eq_emod_of_nonneg wd0.1
  have d2 := Int.emod_nonneg wd (show t1 ≠ 0 by omega)
  have d3 := Int.emod_lt_of_pos wd (show 0 < t1 by omega)
  have d4 := Int.emod_add_mul_ediv wd t1
  have d5 : 0 ≤ wd / t1 := Int.ediv_nonneg wd0.1 (by omega)
  have d6 : wd / t1 < 2147483650 := Int.ediv_lt_of_lt_mul (by omega) (by omega)
  have s1 : zShlL u2 31 = u2 * 2147483648 := by
    have := zShlL_n u2 31 (by decide) ⟨by omega, by omega⟩
    rw [p31] at this
    exact this
  have s2 : zOrL (u2 * 2147483648) u1 = wd := by
    have := zOrL_s u2 u1 31 (by decide) hu2.1 hu1.1 (by omega) (by omega)
    rw [p31] at this
    rw [← ewd]
    exact this
  simp only [eLoc, eE, List.length_cons, List.length_nil, List.replicate, List.cons_append, List.nil_append, Nat.reduceAdd, Nat.reduceSub]
  refine x_aload_n hK kX1_guess_0 (q := 1) rfl rfl ?_
  refine x_getfield hK kX1_guess_1 (q := 4) rfl (gX1_23 ?_)
  refine x_getfield hK kX1_guess_4 (q := 7) rfl (gX1_71 ?_)
  rw [hL]
  refine x_istore_n hK kX1_guess_7 (q := 8) (jn := 3) rfl rfl ?_
  refine x_iload_n hK kX1_guess_8 (q := 9) rfl rfl ?_
  refine x_iload_n hK kX1_guess_9 (q := 10) rfl rfl ?_
  refine x_iadd hK kX1_guess_10 (q := 11) rfl ?_
  refine x_istore hK kX1_guess_11 (q := 13) rfl ?_
  refine x_iload_n hK kX1_guess_13 (q := 14) rfl rfl ?_
  refine x_iconst hK kX1_guess_14 (q := 15) rfl ?_
  simp only [lS, lS2, clr_0, clr_I, clr_L, clr_R]
  refine x_icmp_lt hK kX1_guess_15 (q := 18) rfl (tg := 44) rfl (by refine ⟨?_, ?_⟩ <;> omega) (fun c15 => ?_) (fun c15 => ?_)
  · exfalso; omega
  · refine x_iload_n hK kX1_guess_18 (q := 19) rfl rfl ?_
    refine x_aload_n hK kX1_guess_19 (q := 20) rfl rfl ?_
    refine x_getfield hK kX1_guess_20 (q := 23) rfl (gX1_23 ?_)
    refine x_getfield hK kX1_guess_23 (q := 26) rfl (gX1_74 ?_)
    refine x_arraylength hK kX1_guess_26 (q := 27) rfl (nC7_0 ?_)
    refine x_icmp_gt hK kX1_guess_27 (q := 30) rfl (tg := 44) rfl (by refine ⟨?_, ?_⟩ <;> omega) (fun c27 => ?_) (fun c27 => ?_)
    · exfalso; omega
    · refine x_iload_n hK kX1_guess_30 (q := 31) rfl rfl ?_
      refine x_if_lt hK kX1_guess_31 (q := 34) rfl (tg := 44) rfl (by omega) (fun c31 => ?_) (fun c31 => ?_)
      · exfalso; omega
      · refine x_iload hK kX1_guess_34 (q := 36) rfl rfl ?_
        refine x_aload_n hK kX1_guess_36 (q := 37) rfl rfl ?_
        refine x_getfield hK kX1_guess_37 (q := 40) rfl (gX1_74 ?_)
        refine x_arraylength hK kX1_guess_40 (q := 41) rfl (nC7_0 ?_)
        refine x_icmp_lt hK kX1_guess_41 (q := 44) rfl (tg := 46) rfl (by refine ⟨?_, ?_⟩ <;> omega) (fun c41 => ?_) (fun c41 => ?_)
        · refine x_aload_n hK kX1_guess_46 (q := 47) rfl rfl ?_
          refine x_getfield hK kX1_guess_47 (q := 50) rfl (gX1_23 ?_)
          refine x_getfield hK kX1_guess_50 (q := 53) rfl (gX1_74 ?_)
          refine x_iload_n hK kX1_guess_53 (q := 54) rfl rfl ?_
          refine x_iconst hK kX1_guess_54 (q := 55) rfl ?_
          refine x_isub hK kX1_guess_55 (q := 56) rfl ?_
          refine x_iaload hK kX1_guess_56 (q := 57) rfl (aC7_0 (by refine ⟨?_, ?_⟩ <;> omega) ?_)
          rw [et1]
          refine x_i2l hK kX1_guess_57 (q := 58) rfl (by omega) ?_
          refine x_lstore hK kX1_guess_58 (q := 60) rfl ?_
          refine x_aload_n hK kX1_guess_60 (q := 61) rfl rfl ?_
          refine x_getfield hK kX1_guess_61 (q := 64) rfl (gX1_23 ?_)
          refine x_getfield hK kX1_guess_64 (q := 67) rfl (gX1_74 ?_)
          refine x_iload_n hK kX1_guess_67 (q := 68) rfl rfl ?_
          refine x_iconst hK kX1_guess_68 (q := 69) rfl ?_
          refine x_isub hK kX1_guess_69 (q := 70) rfl ?_
          refine x_iaload hK kX1_guess_70 (q := 71) rfl (aC7_0 (by refine ⟨?_, ?_⟩ <;> omega) ?_)
          simp only [lS, lS2, clr_0, clr_I, clr_L, clr_R]
          rw [et2]
          refine x_i2l hK kX1_guess_71 (q := 72) rfl (by omega) ?_
          refine x_lstore hK kX1_guess_72 (q := 74) rfl ?_
          refine x_lload hK kX1_guess_74 (q := 76) rfl rfl ?_
          refine x_lconst0 hK kX1_guess_76 (q := 77) rfl ?_
          refine x_lcmp hK kX1_guess_77 (q := 78) rfl (by refine ⟨⟨by omega, by omega⟩, by decide⟩) ?_
          simp only [lS, lS2, clr_0, clr_I, clr_L, clr_R]
          refine x_ifc_ne hK kX1_guess_78 (q := 81) rfl (tg := 83) rfl (fun c78 => ?_) (fun c78 => ?_)
          · refine x_aload_n hK kX1_guess_83 (q := 84) rfl rfl ?_
            refine x_getfield hK kX1_guess_84 (q := 87) rfl (gX1_74 ?_)
            refine x_iload hK kX1_guess_87 (q := 89) rfl rfl ?_
            refine x_iaload hK kX1_guess_89 (q := 90) rfl (aC7_0 (by refine ⟨?_, ?_⟩ <;> omega) ?_)
            rw [eu2]
            refine x_i2l hK kX1_guess_90 (q := 91) rfl (by omega) ?_
            refine x_bipush hK kX1_guess_91 (q := 93) rfl (by decide) ?_
            refine x_lshl hK kX1_guess_93 (q := 94) rfl ?_
            rw [s1]
            refine x_aload_n hK kX1_guess_94 (q := 95) rfl rfl ?_
            refine x_getfield hK kX1_guess_95 (q := 98) rfl (gX1_74 ?_)
            refine x_iload hK kX1_guess_98 (q := 100) rfl rfl ?_
            refine x_iconst hK kX1_guess_100 (q := 101) rfl ?_
            refine x_isub hK kX1_guess_101 (q := 102) rfl ?_
            refine x_iaload hK kX1_guess_102 (q := 103) rfl (aC7_0 (by refine ⟨?_, ?_⟩ <;> omega) ?_)
            rw [eu1]
            refine x_i2l hK kX1_guess_103 (q := 104) rfl (by omega) ?_
            refine x_lor hK kX1_guess_104 (q := 105) rfl ?_
            rw [s2]
            refine x_lstore hK kX1_guess_105 (q := 107) rfl ?_
            refine x_lload hK kX1_guess_107 (q := 109) rfl rfl ?_
            refine x_lload hK kX1_guess_109 (q := 111) rfl rfl ?_
            refine x_ldiv hK kX1_guess_111 (q := 112) rfl (by refine ⟨⟨by omega, by omega⟩, ⟨by omega, by omega⟩, by omega⟩) ?_
            simp only [lS, lS2, clr_0, clr_I, clr_L, clr_R]
            rw [d0]
            refine x_lstore hK kX1_guess_112 (q := 114) rfl ?_
            refine x_lload hK kX1_guess_114 (q := 116) rfl rfl ?_
            refine x_lload hK kX1_guess_116 (q := 118) rfl rfl ?_
            refine x_lrem hK kX1_guess_118 (q := 119) rfl (by refine ⟨⟨by omega, by omega⟩, ⟨by omega, by omega⟩, by omega⟩) ?_
            simp only [lS, lS2, clr_0, clr_I, clr_L, clr_R]
            rw [d1]
            refine x_lstore hK kX1_guess_119 (q := 121) rfl ?_
            refine x_iconst hK kX1_guess_121 (q := 122) rfl ?_
            refine x_istore hK kX1_guess_122 (q := 124) rfl ?_
            simp only [lS, lS2, clr_0, clr_I, clr_L, clr_R]
            refine x_to (loop 3 0 (wd / t1) (wd % t1) none rfl d5 (by omega) (by omega) ?_ (Or.inr (Or.inr (ge_2 ht2.1 hu0.2 d5 ?_))) (by omega)) rfl rfl rfl
            · rw [Int.mul_comm (wd / t1) t1]; omega
            · have : (wd / t1 + 1) * t1 = t1 * (wd / t1) + t1 := by grind
              omega
          · exfalso; omega
        · exfalso; omega
set_option maxRecDepth 20000 in
theorem mX1_guess : eMet yX1_guess cX1_guess 18 (some .long) 0 0 SX1_guess := eMet_of (by decide +kernel) sX1_guess kX1_guess_ok caX1_guess tb_RX1
theorem wX1_guess : eWV yX1_guess cX1_guess 18 (some .long) 3 1 SX1_guess := ⟨(gW_at 495 (by decide +kernel) rfl), (gW_at 80 (by decide +kernel) rfl), (gW_at 494 (by decide +kernel) rfl), ⟨_, rfl, (gW_at 9 (by decide +kernel) rfl)⟩, by decide +kernel, SX1_guess_r⟩
