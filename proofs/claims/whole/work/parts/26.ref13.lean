/-! over(p, q): exact division. -/
theorem zSgn_h {f : Int → Int} {p z : Int} (h : nm f p z) : zSgn (f (p * 601)) = zSgn z := by
  obtain ⟨n, -, -, -, -, -, -, h1, h2, -, -, -⟩ := nm_h h
  unfold zSgn
  split <;> split <;> (try split) <;> (try split) <;> omega
theorem zSgn_mul {z c : Int} (hz : z ≠ 0) (hc : c ≠ 0) : zSgn (z * c) * zSgn z = zSgn c ∧ (zSgn c = 1 ∨ zSgn c = -1) := by
  rcases Int.lt_trichotomy z 0 with h1 | h1 | h1 <;> rcases Int.lt_trichotomy c 0 with h2 | h2 | h2
  · have := Int.mul_pos_of_neg_of_neg h1 h2
    rw [zSgn_gt this, zSgn_lt h1, zSgn_lt h2]; omega
  · exact absurd h2 hc
  · have := Int.mul_neg_of_neg_of_pos h1 h2
    rw [zSgn_lt this, zSgn_lt h1, zSgn_gt h2]; omega
  · exact absurd h1 hz
  · exact absurd h1 hz
  · exact absurd h1 hz
  · have := Int.mul_neg_of_pos_of_neg h1 h2
    rw [zSgn_lt this, zSgn_gt h1, zSgn_lt h2]; omega
  · exact absurd h2 hc
  · have := Int.mul_pos h1 h2
    rw [zSgn_gt this, zSgn_gt h1, zSgn_gt h2]; omega
theorem zSgn_abs (c : Int) : zSgn c * (c.natAbs : Int) = c := by
  unfold zSgn
  split
  · omega
  · split <;> omega
/-- Newton's steps for the inverse of an odd number -/
theorem inv_step {b v : Int} {k : Nat} (h : 1 - b * v = (1 - b * b) ^ (2 ^ k)) : 1 - b * (v * (2 - b * v)) = (1 - b * b) ^ (2 ^ (k + 1)) := by
  rw [Nat.pow_succ, Int.pow_mul, ← h]
  grind
theorem inv_end {b v : Int} (hb : b % 2 = 1) (h : 1 - b * v = (1 - b * b) ^ (2 ^ 4)) : b * v % bB = 1 := by
  obtain ⟨c, hc⟩ : ∃ c, 1 - b * b = 8 * c := by
    refine ⟨(1 - b * b) / 8, ?_⟩
    have h1 : ∃ k, b = 2 * k + 1 := ⟨b / 2, by omega⟩
    obtain ⟨k, rfl⟩ := h1
    have h2 : k * k % 2 = k % 2 := by
      have := Int.mul_emod k k 2
      rcases (show k % 2 = 0 ∨ k % 2 = 1 by omega) with q | q <;> rw [q] at this <;> simp at this <;> omega
    have h3 : 1 - (2 * k + 1) * (2 * k + 1) = -4 * (k * k + k) := by grind
    rw [h3]
    omega
  rw [hc] at h
  have e : (8 * c) ^ (2 ^ 4) = bB * (1048576 * c ^ 16) := by
    have : (8 : Int) ^ 16 = 268435456 * 1048576 := by decide
    rw [show (2 : Nat) ^ 4 = 16 from rfl, Int.mul_pow, this, Int.mul_assoc]
  rw [e] at h
  have e2 : b * v = 1 + bB * (-(1048576 * c ^ 16)) := by rw [Int.mul_neg]; omega
  rw [e2, Int.add_mul_emod_self_left]
  decide
def SX10_over : eSp := fun as M rt => ∃ (F : Nat → Int) (A : Nat → Int → Int) (p q z c : Int), as = [eRR, eI p, eI q] ∧ M = cR F A ∧ (0 ≤ p ∧ p < 2666) ∧ (0 ≤ q ∧ q < 2666) ∧ nm (A 0) p (z * c) ∧ nm (A 0) q z ∧ z ≠ 0 ∧ ∀ A', sN A A' → oB (A 0) (A' 0) p → nm (A' 0) p c → rt none (cR F A')
theorem SX10_over_i {F : Nat → Int} {A : Nat → Int → Int} {p q : Int} {rt : Option eV → eM → Prop} (z c : Int) (h0 : 0 ≤ p ∧ p < 2666) (h1 : 0 ≤ q ∧ q < 2666) (h2 : nm (A 0) p (z * c)) (h3 : nm (A 0) q z) (h4 : z ≠ 0) (h : ∀ A', sN A A' → oB (A 0) (A' 0) p → nm (A' 0) p c → rt none (cR F A')) : SX10_over [eRR, eI p, eI q] (cR F A) rt := ⟨F, A, p, q, z, c, rfl, rfl, h0, h1, h2, h3, h4, h⟩
theorem SX10_over_r : ∀ as M rt, SX10_over as M rt → ∃ a r fs, as = eR a :: r ∧ M a = some (.inl (9, fs)) := by
  rintro as M rt ⟨F, A, p, q, z, c, rfl, rfl, -⟩
  exact ⟨_, _, _, rfl, rfl⟩
def kX10_over : List (Nat × Jvm.ClassFile.Instr × Nat) := [(0, .aload_n 0, 1), (1, .iload_n 1, 1), (2, .invokevirtual 78, 3), (5, .aload_n 0, 1), (6, .iload_n 2, 1), (7, .invokevirtual 78, 3), (10, .imul, 1), (11, .istore_n 3, 1), (12, .iload_n 3, 1), (13, .ifCond .ne 4, 3), (16, .return_, 1), (17, .aload_n 0, 1), (18, .aload_n 0, 1), (19, .getfield 20, 3), (22, .iload_n 1, 1), (23, .invokevirtual 106, 3), (26, .aload_n 0, 1), (27, .aload_n 0, 1), (28, .getfield 23, 3), (31, .iload_n 2, 1), (32, .invokevirtual 106, 3), (35, .aload_n 0, 1), (36, .getfield 23, 3), (39, .invokestatic 110, 3), (42, .istore 4, 2), (44, .aload_n 0, 1), (45, .getfield 20, 3), (48, .iload 4, 2), (50, .invokestatic 117, 3), (53, .aload_n 0, 1), (54, .getfield 23, 3), (57, .iload 4, 2), (59, .invokestatic 117, 3), (62, .aload_n 0, 1), (63, .getfield 23, 3), (66, .iconst 1, 1), (67, .iaload, 1), (68, .istore 5, 2), (70, .iconst 0, 1), (71, .istore 6, 2), (73, .iload 6, 2), (75, .iconst 4, 1), (76, .if_icmp .ge 25, 3), (79, .iload 5, 2), (81, .iconst 2, 1), (82, .aload_n 0, 1), (83, .getfield 23, 3), (86, .iconst 1, 1), (87, .iaload, 1), (88, .iload 5, 2), (90, .imul, 1), (91, .isub, 1), (92, .imul, 1), (93, .istore 5, 2), (95, .iinc 6 1, 3), (98, .goto (-25), 3), (101, .iload_n 1, 1), (102, .invokestatic 64, 3), (105, .istore 6, 2), (107, .aload_n 0, 1), (108, .getfield 20, 3), (111, .iconst 0, 1), (112, .iaload, 1), (113, .istore 7, 2), (115, .iload 7, 2), (117, .aload_n 0, 1), (118, .getfield 23, 3), (121, .iconst 0, 1), (122, .iaload, 1), (123, .isub, 1), (124, .iconst 1, 1), (125, .iadd, 1), (126, .istore 8, 2), (128, .iconst 1, 1), (129, .istore 9, 2), (131, .iload 9, 2), (133, .iload 8, 2), (135, .if_icmp .gt 127, 3), (138, .aload_n 0, 1), (139, .getfield 20, 3), (142, .iload 9, 2), (144, .iaload, 1), (145, .iload 5, 2), (147, .imul, 1), (148, .ldc 98, 2), (150, .iand, 1), (151, .istore 10, 2), (153, .aload_n 0, 1), (154, .getfield 12, 3), (157, .iload 6, 2), (159, .iload 9, 2), (161, .iadd, 1), (162, .iload 10, 2), (164, .iastore, 1), (165, .lconst 0, 1), (166, .lstore 11, 2), (168, .iload 9, 2), (170, .istore 13, 2), (172, .iload 13, 2), (174, .iload 7, 2), (176, .if_icmp .gt 80, 3), (179, .iload 13, 2), (181, .iload 9, 2), (183, .isub, 1), (184, .iconst 1, 1), (185, .iadd, 1), (186, .istore 14, 2), (188, .aload_n 0, 1), (189, .getfield 20, 3), (192, .iload 13, 2), (194, .iaload, 1), (195, .i2l, 1), (196, .iload 14, 2), (198, .aload_n 0, 1), (199, .getfield 23, 3), (202, .iconst 0, 1), (203, .iaload, 1), (204, .if_icmp .gt 18, 3), (207, .iload 10, 2), (209, .i2l, 1), (210, .aload_n 0, 1), (211, .getfield 23, 3), (214, .iload 14, 2), (216, .iaload, 1), (217, .i2l, 1), (218, .lmul, 1), (219, .goto 4, 3), (222, .lconst 0, 1), (223, .lsub, 1), (224, .lload 11, 2), (226, .ladd, 1), (227, .lstore 15, 2), (229, .aload_n 0, 1), (230, .getfield 20, 3), (233, .iload 13, 2), (235, .lload 15, 2), (237, .ldc2_w 73, 3), (240, .land, 1), (241, .l2i, 1), (242, .iastore, 1), (243, .lload 15, 2), (245, .bipush 28, 2), (247, .lshr, 1), (248, .lstore 11, 2), (250, .iinc 13 1, 3), (253, .goto (-81), 3), (256, .iinc 9 1, 3), (259, .goto (-128), 3), (262, .aload_n 0, 1), (263, .iload 6, 2), (265, .iload 8, 2), (267, .iload_n 3, 1), (268, .invokevirtual 99, 3), (271, .return_, 1)]
theorem kX10_over_0 : cdOf kX10_over 0 = some (.aload_n 0, 1) := by decide +kernel
theorem kX10_over_1 : cdOf kX10_over 1 = some (.iload_n 1, 1) := by decide +kernel
theorem kX10_over_2 : cdOf kX10_over 2 = some (.invokevirtual 78, 3) := by decide +kernel
theorem kX10_over_5 : cdOf kX10_over 5 = some (.aload_n 0, 1) := by decide +kernel
theorem kX10_over_6 : cdOf kX10_over 6 = some (.iload_n 2, 1) := by decide +kernel
theorem kX10_over_7 : cdOf kX10_over 7 = some (.invokevirtual 78, 3) := by decide +kernel
theorem kX10_over_10 : cdOf kX10_over 10 = some (.imul, 1) := by decide +kernel
theorem kX10_over_11 : cdOf kX10_over 11 = some (.istore_n 3, 1) := by decide +kernel
theorem kX10_over_12 : cdOf kX10_over 12 = some (.iload_n 3, 1) := by decide +kernel
theorem kX10_over_13 : cdOf kX10_over 13 = some (.ifCond .ne 4, 3) := by decide +kernel
theorem kX10_over_16 : cdOf kX10_over 16 = some (.return_, 1) := by decide +kernel
theorem kX10_over_17 : cdOf kX10_over 17 = some (.aload_n 0, 1) := by decide +kernel
theorem kX10_over_18 : cdOf kX10_over 18 = some (.aload_n 0, 1) := by decide +kernel
theorem kX10_over_19 : cdOf kX10_over 19 = some (.getfield 20, 3) := by decide +kernel
theorem kX10_over_22 : cdOf kX10_over 22 = some (.iload_n 1, 1) := by decide +kernel
theorem kX10_over_23 : cdOf kX10_over 23 = some (.invokevirtual 106, 3) := by decide +kernel
theorem kX10_over_26 : cdOf kX10_over 26 = some (.aload_n 0, 1) := by decide +kernel
theorem kX10_over_27 : cdOf kX10_over 27 = some (.aload_n 0, 1) := by decide +kernel
theorem kX10_over_28 : cdOf kX10_over 28 = some (.getfield 23, 3) := by decide +kernel
theorem kX10_over_31 : cdOf kX10_over 31 = some (.iload_n 2, 1) := by decide +kernel
theorem kX10_over_32 : cdOf kX10_over 32 = some (.invokevirtual 106, 3) := by decide +kernel
theorem kX10_over_35 : cdOf kX10_over 35 = some (.aload_n 0, 1) := by decide +kernel
theorem kX10_over_36 : cdOf kX10_over 36 = some (.getfield 23, 3) := by decide +kernel
theorem kX10_over_39 : cdOf kX10_over 39 = some (.invokestatic 110, 3) := by decide +kernel
theorem kX10_over_42 : cdOf kX10_over 42 = some (.istore 4, 2) := by decide +kernel
theorem kX10_over_44 : cdOf kX10_over 44 = some (.aload_n 0, 1) := by decide +kernel
theorem kX10_over_45 : cdOf kX10_over 45 = some (.getfield 20, 3) := by decide +kernel
theorem kX10_over_48 : cdOf kX10_over 48 = some (.iload 4, 2) := by decide +kernel
theorem kX10_over_50 : cdOf kX10_over 50 = some (.invokestatic 117, 3) := by decide +kernel
theorem kX10_over_53 : cdOf kX10_over 53 = some (.aload_n 0, 1) := by decide +kernel
theorem kX10_over_54 : cdOf kX10_over 54 = some (.getfield 23, 3) := by decide +kernel
theorem kX10_over_57 : cdOf kX10_over 57 = some (.iload 4, 2) := by decide +kernel
theorem kX10_over_59 : cdOf kX10_over 59 = some (.invokestatic 117, 3) := by decide +kernel
theorem kX10_over_62 : cdOf kX10_over 62 = some (.aload_n 0, 1) := by decide +kernel
theorem kX10_over_63 : cdOf kX10_over 63 = some (.getfield 23, 3) := by decide +kernel
theorem kX10_over_66 : cdOf kX10_over 66 = some (.iconst 1, 1) := by decide +kernel
theorem kX10_over_67 : cdOf kX10_over 67 = some (.iaload, 1) := by decide +kernel
theorem kX10_over_68 : cdOf kX10_over 68 = some (.istore 5, 2) := by decide +kernel
theorem kX10_over_70 : cdOf kX10_over 70 = some (.iconst 0, 1) := by decide +kernel
theorem kX10_over_71 : cdOf kX10_over 71 = some (.istore 6, 2) := by decide +kernel
theorem kX10_over_73 : cdOf kX10_over 73 = some (.iload 6, 2) := by decide +kernel
theorem kX10_over_75 : cdOf kX10_over 75 = some (.iconst 4, 1) := by decide +kernel
theorem kX10_over_76 : cdOf kX10_over 76 = some (.if_icmp .ge 25, 3) := by decide +kernel
theorem kX10_over_79 : cdOf kX10_over 79 = some (.iload 5, 2) := by decide +kernel
theorem kX10_over_81 : cdOf kX10_over 81 = some (.iconst 2, 1) := by decide +kernel
theorem kX10_over_82 : cdOf kX10_over 82 = some (.aload_n 0, 1) := by decide +kernel
theorem kX10_over_83 : cdOf kX10_over 83 = some (.getfield 23, 3) := by decide +kernel
theorem kX10_over_86 : cdOf kX10_over 86 = some (.iconst 1, 1) := by decide +kernel
theorem kX10_over_87 : cdOf kX10_over 87 = some (.iaload, 1) := by decide +kernel
theorem kX10_over_88 : cdOf kX10_over 88 = some (.iload 5, 2) := by decide +kernel
theorem kX10_over_90 : cdOf kX10_over 90 = some (.imul, 1) := by decide +kernel
theorem kX10_over_91 : cdOf kX10_over 91 = some (.isub, 1) := by decide +kernel
theorem kX10_over_92 : cdOf kX10_over 92 = some (.imul, 1) := by decide +kernel
theorem kX10_over_93 : cdOf kX10_over 93 = some (.istore 5, 2) := by decide +kernel
theorem kX10_over_95 : cdOf kX10_over 95 = some (.iinc 6 1, 3) := by decide +kernel
theorem kX10_over_98 : cdOf kX10_over 98 = some (.goto (-25), 3) := by decide +kernel
theorem kX10_over_101 : cdOf kX10_over 101 = some (.iload_n 1, 1) := by decide +kernel
theorem kX10_over_102 : cdOf kX10_over 102 = some (.invokestatic 64, 3) := by decide +kernel
theorem kX10_over_105 : cdOf kX10_over 105 = some (.istore 6, 2) := by decide +kernel
theorem kX10_over_107 : cdOf kX10_over 107 = some (.aload_n 0, 1) := by decide +kernel
theorem kX10_over_108 : cdOf kX10_over 108 = some (.getfield 20, 3) := by decide +kernel
theorem kX10_over_111 : cdOf kX10_over 111 = some (.iconst 0, 1) := by decide +kernel
theorem kX10_over_112 : cdOf kX10_over 112 = some (.iaload, 1) := by decide +kernel
theorem kX10_over_113 : cdOf kX10_over 113 = some (.istore 7, 2) := by decide +kernel
theorem kX10_over_115 : cdOf kX10_over 115 = some (.iload 7, 2) := by decide +kernel
theorem kX10_over_117 : cdOf kX10_over 117 = some (.aload_n 0, 1) := by decide +kernel
theorem kX10_over_118 : cdOf kX10_over 118 = some (.getfield 23, 3) := by decide +kernel
theorem kX10_over_121 : cdOf kX10_over 121 = some (.iconst 0, 1) := by decide +kernel
theorem kX10_over_122 : cdOf kX10_over 122 = some (.iaload, 1) := by decide +kernel
theorem kX10_over_123 : cdOf kX10_over 123 = some (.isub, 1) := by decide +kernel
theorem kX10_over_124 : cdOf kX10_over 124 = some (.iconst 1, 1) := by decide +kernel
theorem kX10_over_125 : cdOf kX10_over 125 = some (.iadd, 1) := by decide +kernel
theorem kX10_over_126 : cdOf kX10_over 126 = some (.istore 8, 2) := by decide +kernel
theorem kX10_over_128 : cdOf kX10_over 128 = some (.iconst 1, 1) := by decide +kernel
theorem kX10_over_129 : cdOf kX10_over 129 = some (.istore 9, 2) := by decide +kernel
theorem kX10_over_131 : cdOf kX10_over 131 = some (.iload 9, 2) := by decide +kernel
theorem kX10_over_133 : cdOf kX10_over 133 = some (.iload 8, 2) := by decide +kernel
theorem kX10_over_135 : cdOf kX10_over 135 = some (.if_icmp .gt 127, 3) := by decide +kernel
theorem kX10_over_138 : cdOf kX10_over 138 = some (.aload_n 0, 1) := by decide +kernel
theorem kX10_over_139 : cdOf kX10_over 139 = some (.getfield 20, 3) := by decide +kernel
theorem kX10_over_142 : cdOf kX10_over 142 = some (.iload 9, 2) := by decide +kernel
theorem kX10_over_144 : cdOf kX10_over 144 = some (.iaload, 1) := by decide +kernel
theorem kX10_over_145 : cdOf kX10_over 145 = some (.iload 5, 2) := by decide +kernel
theorem kX10_over_147 : cdOf kX10_over 147 = some (.imul, 1) := by decide +kernel
theorem kX10_over_148 : cdOf kX10_over 148 = some (.ldc 98, 2) := by decide +kernel
theorem kX10_over_150 : cdOf kX10_over 150 = some (.iand, 1) := by decide +kernel
theorem kX10_over_151 : cdOf kX10_over 151 = some (.istore 10, 2) := by decide +kernel
theorem kX10_over_153 : cdOf kX10_over 153 = some (.aload_n 0, 1) := by decide +kernel
theorem kX10_over_154 : cdOf kX10_over 154 = some (.getfield 12, 3) := by decide +kernel
theorem kX10_over_157 : cdOf kX10_over 157 = some (.iload 6, 2) := by decide +kernel
theorem kX10_over_159 : cdOf kX10_over 159 = some (.iload 9, 2) := by decide +kernel
theorem kX10_over_161 : cdOf kX10_over 161 = some (.iadd, 1) := by decide +kernel
theorem kX10_over_162 : cdOf kX10_over 162 = some (.iload 10, 2) := by decide +kernel
theorem kX10_over_164 : cdOf kX10_over 164 = some (.iastore, 1) := by decide +kernel
theorem kX10_over_165 : cdOf kX10_over 165 = some (.lconst 0, 1) := by decide +kernel
theorem kX10_over_166 : cdOf kX10_over 166 = some (.lstore 11, 2) := by decide +kernel
theorem kX10_over_168 : cdOf kX10_over 168 = some (.iload 9, 2) := by decide +kernel
theorem kX10_over_170 : cdOf kX10_over 170 = some (.istore 13, 2) := by decide +kernel
theorem kX10_over_172 : cdOf kX10_over 172 = some (.iload 13, 2) := by decide +kernel
theorem kX10_over_174 : cdOf kX10_over 174 = some (.iload 7, 2) := by decide +kernel
theorem kX10_over_176 : cdOf kX10_over 176 = some (.if_icmp .gt 80, 3) := by decide +kernel
theorem kX10_over_179 : cdOf kX10_over 179 = some (.iload 13, 2) := by decide +kernel
theorem kX10_over_181 : cdOf kX10_over 181 = some (.iload 9, 2) := by decide +kernel
theorem kX10_over_183 : cdOf kX10_over 183 = some (.isub, 1) := by decide +kernel
theorem kX10_over_184 : cdOf kX10_over 184 = some (.iconst 1, 1) := by decide +kernel
theorem kX10_over_185 : cdOf kX10_over 185 = some (.iadd, 1) := by decide +kernel
theorem kX10_over_186 : cdOf kX10_over 186 = some (.istore 14, 2) := by decide +kernel
theorem kX10_over_188 : cdOf kX10_over 188 = some (.aload_n 0, 1) := by decide +kernel
theorem kX10_over_189 : cdOf kX10_over 189 = some (.getfield 20, 3) := by decide +kernel
theorem kX10_over_192 : cdOf kX10_over 192 = some (.iload 13, 2) := by decide +kernel
theorem kX10_over_194 : cdOf kX10_over 194 = some (.iaload, 1) := by decide +kernel
theorem kX10_over_195 : cdOf kX10_over 195 = some (.i2l, 1) := by decide +kernel
theorem kX10_over_196 : cdOf kX10_over 196 = some (.iload 14, 2) := by decide +kernel
theorem kX10_over_198 : cdOf kX10_over 198 = some (.aload_n 0, 1) := by decide +kernel
theorem kX10_over_199 : cdOf kX10_over 199 = some (.getfield 23, 3) := by decide +kernel
theorem kX10_over_202 : cdOf kX10_over 202 = some (.iconst 0, 1) := by decide +kernel
theorem kX10_over_203 : cdOf kX10_over 203 = some (.iaload, 1) := by decide +kernel
theorem kX10_over_204 : cdOf kX10_over 204 = some (.if_icmp .gt 18, 3) := by decide +kernel
theorem kX10_over_207 : cdOf kX10_over 207 = some (.iload 10, 2) := by decide +kernel
theorem kX10_over_209 : cdOf kX10_over 209 = some (.i2l, 1) := by decide +kernel
theorem kX10_over_210 : cdOf kX10_over 210 = some (.aload_n 0, 1) := by decide +kernel
theorem kX10_over_211 : cdOf kX10_over 211 = some (.getfield 23, 3) := by decide +kernel
theorem kX10_over_214 : cdOf kX10_over 214 = some (.iload 14, 2) := by decide +kernel
theorem kX10_over_216 : cdOf kX10_over 216 = some (.iaload, 1) := by decide +kernel
theorem kX10_over_217 : cdOf kX10_over 217 = some (.i2l, 1) := by decide +kernel
theorem kX10_over_218 : cdOf kX10_over 218 = some (.lmul, 1) := by decide +kernel
theorem kX10_over_219 : cdOf kX10_over 219 = some (.goto 4, 3) := by decide +kernel
theorem kX10_over_222 : cdOf kX10_over 222 = some (.lconst 0, 1) := by decide +kernel
theorem kX10_over_223 : cdOf kX10_over 223 = some (.lsub, 1) := by decide +kernel
theorem kX10_over_224 : cdOf kX10_over 224 = some (.lload 11, 2) := by decide +kernel
theorem kX10_over_226 : cdOf kX10_over 226 = some (.ladd, 1) := by decide +kernel
theorem kX10_over_227 : cdOf kX10_over 227 = some (.lstore 15, 2) := by decide +kernel
theorem kX10_over_229 : cdOf kX10_over 229 = some (.aload_n 0, 1) := by decide +kernel
theorem kX10_over_230 : cdOf kX10_over 230 = some (.getfield 20, 3) := by decide +kernel
theorem kX10_over_233 : cdOf kX10_over 233 = some (.iload 13, 2) := by decide +kernel
theorem kX10_over_235 : cdOf kX10_over 235 = some (.lload 15, 2) := by decide +kernel
theorem kX10_over_237 : cdOf kX10_over 237 = some (.ldc2_w 73, 3) := by decide +kernel
theorem kX10_over_240 : cdOf kX10_over 240 = some (.land, 1) := by decide +kernel
theorem kX10_over_241 : cdOf kX10_over 241 = some (.l2i, 1) := by decide +kernel
theorem kX10_over_242 : cdOf kX10_over 242 = some (.iastore, 1) := by decide +kernel
theorem kX10_over_243 : cdOf kX10_over 243 = some (.lload 15, 2) := by decide +kernel
theorem kX10_over_245 : cdOf kX10_over 245 = some (.bipush 28, 2) := by decide +kernel
theorem kX10_over_247 : cdOf kX10_over 247 = some (.lshr, 1) := by decide +kernel
theorem kX10_over_248 : cdOf kX10_over 248 = some (.lstore 11, 2) := by decide +kernel
theorem kX10_over_250 : cdOf kX10_over 250 = some (.iinc 13 1, 3) := by decide +kernel
theorem kX10_over_253 : cdOf kX10_over 253 = some (.goto (-81), 3) := by decide +kernel
theorem kX10_over_256 : cdOf kX10_over 256 = some (.iinc 9 1, 3) := by decide +kernel
theorem kX10_over_259 : cdOf kX10_over 259 = some (.goto (-128), 3) := by decide +kernel
theorem kX10_over_262 : cdOf kX10_over 262 = some (.aload_n 0, 1) := by decide +kernel
theorem kX10_over_263 : cdOf kX10_over 263 = some (.iload 6, 2) := by decide +kernel
theorem kX10_over_265 : cdOf kX10_over 265 = some (.iload 8, 2) := by decide +kernel
theorem kX10_over_267 : cdOf kX10_over 267 = some (.iload_n 3, 1) := by decide +kernel
theorem kX10_over_268 : cdOf kX10_over 268 = some (.invokevirtual 99, 3) := by decide +kernel
theorem kX10_over_271 : cdOf kX10_over 271 = some (.return_, 1) := by decide +kernel
set_option maxRecDepth 20000 in
theorem kX10_over_ok : ∀ pc i len, cdOf kX10_over pc = some (i, len) → decode cX10_over pc = .ok (i, len) ∧ stOK 17 i = true ∧ jOK pc i = true ∧ eLen i len = true := cdOf_ok cX10_over 17 kX10_over (by decide +kernel)
def vtX10_over : Nat → Option (Nat × eSp) := fun k => match k with
  | 78 => some (2, SX10_sign)
  | 106 => some (3, SX10_lift)
  | 99 => some (4, SX10_trim)
  | _ => none
theorem vtX10_over_78 : vtX10_over 78 = some (2, SX10_sign) := rfl
theorem vtX10_over_106 : vtX10_over 106 = some (3, SX10_lift) := rfl
theorem vtX10_over_99 : vtX10_over 99 = some (4, SX10_trim) := rfl
def stX10_over : Nat → Option (Nat × eSp) := fun k => match k with
  | 110 => some (1, SX10_zeros)
  | 117 => some (2, SX10_shift)
  | 64 => some (1, SX10_at)
  | _ => none
theorem stX10_over_110 : stX10_over 110 = some (1, SX10_zeros) := rfl
theorem stX10_over_117 : stX10_over 117 = some (2, SX10_shift) := rfl
theorem stX10_over_64 : stX10_over 64 = some (1, SX10_at) := rfl
abbrev TX10_over : eT := (fl_RX10, cl_RX10, dl_RX10, vtX10_over, stX10_over)
set_option maxRecDepth 20000 in
theorem caX10_over : eCalls RX10 { frames := 3, cells := 0, slots := 0, locals := 66 } TX10_over := by
  refine ⟨fun k n sp h => ?_, fun k n sp h => ?_⟩
  · dsimp only [TX10_over] at h
    unfold vtX10_over at h
    split at h
    · cases h; exact eV_mk mX10_sign wX10_sign (by decide +kernel) (Or.inl (gW_at 1142 (by decide +kernel) rfl))
    · cases h; exact eV_mk mX10_lift wX10_lift (by decide +kernel) (Or.inl (gW_at 1097 (by decide +kernel) rfl))
    · cases h; exact eV_mk mX10_trim wX10_trim (by decide +kernel) (Or.inl (gW_at 1130 (by decide +kernel) rfl))
    · cases h
  · dsimp only [TX10_over] at h
    unfold stX10_over at h
    split at h
    · cases h; exact eS_mk mX10_zeros wX10_zeros (by decide +kernel) (Or.inl (gW_at 1105 (by decide +kernel) rfl))
    · cases h; exact eS_mk mX10_shift wX10_shift (by decide +kernel) (Or.inl (gW_at 1113 (by decide +kernel) rfl))
    · cases h; exact eS_mk mX10_at wX10_at (by decide +kernel) (Or.inl (gW_at 1070 (by decide +kernel) rfl))
    · cases h
set_option maxRecDepth 100000 in
set_option maxHeartbeats 4000000 in
theorem sX10_over : eSafe TX10_over (cdOf kX10_over) 17 none SX10_over := by
  intro K rt hK as M h
  obtain ⟨F, A, p, q, z, c, rfl, rfl, hp, hq, hy, hz, hz0, h⟩ := h
  have hwy := nm_w hy
  have hwz := nm_w hz
  refine ⟨by simp [eE], ?_⟩
  have b0 : bB = 268435456 := rfl
  -- from the digits on
  have digits : ∀ (Y Q n m : Nat) (inv : Int) (hh : Int → Int) (u4 : Option eV), 0 < Y → c ≠ 0 → c.natAbs = Q → n ≤ 600 → m ≤ n → 0 < m → lr hh 1 m → vl hh 1 m = Y → bB ^ (m - 1) ≤ (Y : Int) → hh 1 * inv % bB = 1 → hh 0 = m →
      ∀ (d i : Nat) (A' : Nat → Int → Int) (g : Int → Int) (f : Int → Int) (Q' : Nat) (u10 u11 u12 u13 u14 u15 u16 : Option eV), i + d = n - m + 2 → 1 ≤ i → sN A A' → A' 2 = g → A' 3 = hh → A' 0 = f → oB (A 0) f p → lr g i (n + 1 - i) → vl g i (n + 1 - i) = Y * Q' → (Q : Int) = vl f (p * 601 + 1) (i - 1) + Q' * bB ^ (i - 1) → lr f (p * 601 + 1) (i - 1) →
      K 131 [some eRR, some (eI p), some (eI q), some (eI (zSgn c)), u4, some (eI inv), some (eI (p * 601)), some (eI n), some (eI (n - m + 1 : Nat)), some (eI i), u10, u11, u12, u13, u14, u15, u16] [] (cR F A') := by
    intro Y Q n m inv hh u4 hY hc0 hcQ hn hmn hm hhr hhv hYge hinv hh0 d
    induction d with
    | zero =>
      intro i A' g f Q' u10 u11 u12 u13 u14 u15 u16 hi i1 hs hg2 hg3 hg0 hof hgr hgv hQ hfr
      have hQ0 : Q' = 0 := by
        rcases Nat.eq_zero_or_pos Q' with e | e
        · exact e
        · have h1 := vl_lt hgr
          have h2 := bB_mono (show n + 1 - i ≤ m - 1 by omega)
          have h3 := Int.mul_le_mul_of_nonneg_left (show (1 : Int) ≤ (Q' : Int) by omega) (show (0 : Int) ≤ (Y : Int) by omega)
          rw [Int.mul_one] at h3
          omega
      subst hQ0
      have hQ2 : (Q : Int) = vl f (p * 601 + 1) (n - m + 1) := by
        rw [show n - m + 1 = i - 1 by omega, hQ]; simp
      rw [show i - 1 = n - m + 1 by omega] at hfr
      have hm2 := nm_mk (f := f) (p := p) (s := zSgn c) (n := n - m + 1) (by omega) hfr (Nat.le_trans (tk_le _ _ _) (by omega)) (zSgn_mul hz0 hc0).2
      rw [← hQ2, ← hcQ, zSgn_abs] at hm2
      refine x_iload hK kX10_over_131 (q := 133) rfl rfl ?_
      refine x_iload hK kX10_over_133 (q := 135) rfl rfl ?_
      refine x_icmp_gt hK kX10_over_135 (q := 138) rfl (tg := 262) rfl (by refine ⟨?_, ?_⟩ <;> omega) (fun c135 => ?_) (fun c135 => ?_)
      · refine x_aload_n hK kX10_over_262 (q := 263) rfl rfl ?_
        refine x_iload hK kX10_over_263 (q := 265) rfl rfl ?_
        refine x_iload hK kX10_over_265 (q := 267) rfl rfl ?_
        refine x_iload_n hK kX10_over_267 (q := 268) rfl rfl ?_
        refine x_cv4 hK kX10_over_268 (q := 271) rfl (vtX10_over_99) (Nat.le_of_ble_eq_true rfl) ?_
        refine SX10_trim_i (n - m + 1) rfl (by omega) (by omega) (fun k hk => by rw [hg0]; have := hfr k hk; constructor <;> omega) ?_
        rw [hg0]
        refine x_return_ hK kX10_over_271 (by first | trivial | exact Or.inl rfl | exact Or.inr rfl) ?_
        refine h _ (sN_tr hs (sN_u (by decide) _)) (by rw [uA_g]; intro j hj; rw [uI_n _ _ (by omega)]; exact hof j hj) ?_
        rw [uA_g]
        exact hm2
      · exact absurd c135 (by omega)
    | succ d ih =>
      intro i A' g f Q' u10 u11 u12 u13 u14 u15 u16 hi i1 hs hg2 hg3 hg0 hof hgr hgv hQ hfr
      obtain ⟨T, hT⟩ : ∃ T, n + 1 - i = T + 1 := ⟨n - i, by omega⟩
      have e28 : (2 : Int) ^ 28 = 268435456 := by decide
      rw [hT] at hgr hgv
      have w0 := hgr 0 (by omega)
      simp only [Int.natCast_zero, Int.add_zero] at w0
      -- the digit
      have hdig : g i * inv % bB = (Q' : Int) % bB := by
        obtain ⟨m2, rfl⟩ : ∃ m2, m = m2 + 1 := ⟨m - 1, by omega⟩
        rw [vl_low] at hgv hhv
        have e1 : g i = Y * Q' - vl g ((i : Int) + 1) T * bB := by omega
        have e2 : hh 1 = Y - vl hh (1 + 1) m2 * bB := by omega
        have e3 : hh 1 * inv = 1 + bB * (hh 1 * inv / bB) := by have := Int.emod_add_mul_ediv (hh 1 * inv) bB; omega
        have e4 : g i * inv = (Q' : Int) + bB * (hh 1 * inv / bB * Q' + vl hh (1 + 1) m2 * Q' * inv - vl g ((i : Int) + 1) T * inv) := by
          have e5 : g i * inv = hh 1 * inv * Q' + (vl hh (1 + 1) m2 * bB) * Q' * inv - vl g ((i : Int) + 1) T * bB * inv := by
            rw [e1]
            have : (Y : Int) = hh 1 + vl hh (1 + 1) m2 * bB := by omega
            rw [this]
            grind
          rw [e5, e3]
          grind
        rw [e4, Int.add_mul_emod_self_left]
      have hdQ : (Q' : Int) % bB = ((Q' % 268435456 : Nat) : Int) := by rw [b0]; omega
      -- the inner loop
      have inner : ∀ (r t : Nat) (A2 : Nat → Int → Int) (g2 : Int → Int) (cy : Int) (u14 u15 u16 : Option eV), t + r = T + 1 → sN A A2 → A2 2 = g2 → A2 3 = hh → A2 0 = uI f (p * 601 + i) ((Q' % 268435456 : Nat) : Int) → (-268435456 ≤ cy ∧ cy ≤ 0) → lr g2 i t → (∀ j : Nat, i + t ≤ j → g2 j = g j) → vl g2 i t + cy * bB ^ t = vl g i t - ((Q' % 268435456 : Nat) : Int) * vl (fun j => if j ≤ m then hh j else 0) 1 t →
          K 172 [some eRR, some (eI p), some (eI q), some (eI (zSgn c)), u4, some (eI inv), some (eI (p * 601)), some (eI n), some (eI (n - m + 1 : Nat)), some (eI i), some (eI ((Q' % 268435456 : Nat) : Int)), some (eL cy), none, some (eI (i + t : Nat)), u14, u15, u16] [] (cR F A2) := by
        intro r
        induction r with
        | zero =>
          intro t A2 g2 cy u14 u15 u16 ht hs2 h22 h23 h20 hcy hr2 hhi hv
          have htT : t = T + 1 := by omega
          subst htT
          -- the padded divisor is the divisor
          have hpad : vl (fun j => if j ≤ m then hh j else 0) 1 (T + 1) = Y := by
            have h5 := vl_split (f := fun j => if j ≤ m then hh j else 0) (o := 1) m (T + 1 - m)
            rw [show m + (T + 1 - m) = T + 1 by omega, vl_0 (o := 1 + (m : Int)) (fun k hk => by rw [if_neg (by omega)])] at h5
            have h6 : vl (fun j => if j ≤ m then hh j else 0) 1 m = vl hh 1 m := vl_cong (fun k hk => by rw [if_pos (by omega)])
            rw [h5, h6, hhv]; omega
          rw [hpad, hgv] at hv
          obtain ⟨Q2, hQ2⟩ : ∃ Q2, Q2 = Q' / 268435456 := ⟨_, rfl⟩
          have hQQ : (Q' : Int) = 268435456 * Q2 + ((Q' % 268435456 : Nat) : Int) := by omega
          have hv2 : vl g2 i (T + 1) + cy * bB ^ (T + 1) = Y * Q2 * 268435456 := by
            rw [hv]
            have : (Y : Int) * Q' = Y * (268435456 * Q2 + ((Q' % 268435456 : Nat) : Int)) := by rw [← hQQ]
            rw [this]
            grind
          have hpos : (0 : Int) ≤ Y * Q2 * 268435456 := Int.mul_nonneg (Int.mul_nonneg (Int.natCast_nonneg _) (Int.natCast_nonneg _)) (by decide)
          have hlt := vl_lt hr2
          have hnn := vl_nn hr2
          have hcy0 : cy = 0 := by
            rcases (show cy = 0 ∨ cy ≤ -1 by omega) with e | e
            · exact e
            · have := Int.mul_le_mul_of_nonneg_right e (Int.le_of_lt (bB_pos (T + 1)))
              omega
          subst hcy0
          rw [Int.zero_mul, Int.add_zero, vl_low] at hv2
          have w1 := hr2 0 (by omega)
          simp only [Int.natCast_zero, Int.add_zero] at w1
          have hgi0 : g2 i = 0 := by
            have e9 : g2 i = 268435456 * (Y * Q2 - vl g2 ((i : Int) + 1) T) := by rw [b0] at hv2; grind
            generalize (Y : Int) * Q2 - vl g2 ((i : Int) + 1) T = W at e9
            omega
          have hv3 : vl g2 ((i : Int) + 1) T = Y * Q2 := by
            rw [hgi0, b0] at hv2
            omega
          have ei : ((i + 1 : Nat) : Int) = (i : Int) + 1 := by omega
          refine x_iload hK kX10_over_172 (q := 174) rfl rfl ?_
          refine x_iload hK kX10_over_174 (q := 176) rfl rfl ?_
          refine x_icmp_gt hK kX10_over_176 (q := 179) rfl (tg := 256) rfl (by refine ⟨?_, ?_⟩ <;> omega) (fun c176 => ?_) (fun c176 => ?_)
          · refine x_iinc hK kX10_over_256 (q := 259) rfl rfl ?_
            simp only [lS, lS2, clr_0, clr_I, clr_L, clr_R]
            refine x_goto hK kX10_over_259 (tg := 131) rfl ?_
            rw [← ei]
            refine ih (i + 1) A2 g2 _ Q2 _ _ _ _ _ _ _ (by omega) (by omega) hs2 h22 h23 h20 ?_ ?_ ?_ ?_ ?_
            · intro j hj
              rw [uI_n _ _ (by omega)]; exact hof j hj
            · rw [show n + 1 - (i + 1) = T by omega, ei]
              intro j hj
              have := hr2 (j + 1) (by omega)
              rw [show (i : Int) + ((j + 1 : Nat) : Int) = (i : Int) + 1 + j by omega] at this
              exact this
            · rw [show n + 1 - (i + 1) = T by omega, ei]
              exact hv3
            · obtain ⟨i2, rfl⟩ : ∃ i2, i = i2 + 1 := ⟨i - 1, by omega⟩
              rw [show i2 + 1 + 1 - 1 = i2 + 1 by omega, vl_one, show p * 601 + 1 + (i2 : Int) = p * 601 + ((i2 + 1 : Nat) : Int) by omega, uI_s, vl_cong (f := f) (fun j hj => uI_n _ _ (by omega)), bB_succ]
              rw [show i2 + 1 - 1 = i2 by omega] at hQ
              rw [hQ, hQQ, b0]
              grind
            · obtain ⟨i2, rfl⟩ : ∃ i2, i = i2 + 1 := ⟨i - 1, by omega⟩
              intro j hj
              rcases Nat.lt_or_ge j i2 with e | e
              · rw [uI_n _ _ (by omega)]; exact hfr j (by omega)
              · rw [show p * 601 + 1 + (j : Int) = p * 601 + ((i2 + 1 : Nat) : Int) by omega, uI_s]
                omega
          · exact absurd c176 (by omega)
        | succ r ih2 =>
          intro t A2 g2 cy u14 u15 u16 ht hs2 h22 h23 h20 hcy hr2 hhi hv
          have wg := hgr t (by omega)
          have eg : (i : Int) + t = ((i + t : Nat) : Int) := by omega
          rw [eg] at wg
          have hgk := hhi (i + t) (Nat.le_refl _)
          have hlim : (((Q' % 268435456 : Nat) : Int)) ≤ 268435455 ∧ 0 ≤ (((Q' % 268435456 : Nat) : Int)) := by omega
          have next : ∀ (v b : Int) (u14 u15 u16 : Option eV), b = (if ((t + 1 : Nat) : Int) ≤ m then hh ((t + 1 : Nat) : Int) else 0) → 0 ≤ b → b < 268435456 → v = g ((i + t : Nat) : Int) - ((Q' % 268435456 : Nat) : Int) * b + cy → K 172 [some eRR, some (eI p), some (eI q), some (eI (zSgn c)), u4, some (eI inv), some (eI (p * 601)), some (eI n), some (eI (n - m + 1 : Nat)), some (eI i), some (eI ((Q' % 268435456 : Nat) : Int)), some (eL (v / 2 ^ 28)), none, some (eI (((i + t : Nat) : Int) + 1)), u14, u15, u16] [] (cR F (uA A2 2 (uI g2 ((i + t : Nat) : Int) (v % 2 ^ 28)))) := by
            intro v b u14 u15 u16 hb hb0 hb1 hv2
            rw [e28, show ((i + t : Nat) : Int) + 1 = ((i + (t + 1) : Nat) : Int) by omega]
            have hdb0 := Int.mul_nonneg hlim.2 hb0
            have hdb1 := Int.mul_le_mul hlim.1 (show b ≤ 268435455 by omega) hb0 (by decide)
            refine ih2 (t + 1) _ _ (v / 268435456) u14 u15 u16 (by omega) (sN_tr hs2 (sN_u (by decide) _)) (uA_g _ _ _) (by rw [uA_n _ _ (by decide)]; exact h23) (by rw [uA_n _ _ (by decide)]; exact h20) (by omega) ?_ ?_ ?_
            · intro j hj
              rcases Nat.lt_or_ge j t with e | e
              · rw [uI_n _ _ (by omega)]; exact hr2 j e
              · rw [show (i : Int) + (j : Int) = ((i + t : Nat) : Int) by omega, uI_s]
                show 0 ≤ v % 268435456 ∧ v % 268435456 < 268435456
                omega
            · intro j hj
              rw [uI_n _ _ (by omega)]; exact hhi j (by omega)
            · rw [vl_one, vl_one, vl_one, eg, uI_s, vl_cong (f := g2) (fun j hj => uI_n _ _ (by omega)), bB_succ]
              have e9 : (1 : Int) + (t : Int) = ((t + 1 : Nat) : Int) := by omega
              rw [e9, ← hb]
              have e6 : v = v / 268435456 * 268435456 + v % 268435456 := by omega
              have e7 : v * bB ^ t = v / 268435456 * (bB ^ t * bB) + v % 268435456 * bB ^ t := by
                rw [Int.mul_comm (bB ^ t) bB, ← Int.mul_assoc, ← Int.add_mul]
                congr 1
              have e8 : v * bB ^ t = g ((i + t : Nat) : Int) * bB ^ t - ((Q' % 268435456 : Nat) : Int) * (b * bB ^ t) + cy * bB ^ t := by rw [hv2, Int.add_mul, Int.sub_mul, Int.mul_assoc]
              rw [Int.mul_add]
              omega
          refine x_iload hK kX10_over_172 (q := 174) rfl rfl ?_
          refine x_iload hK kX10_over_174 (q := 176) rfl rfl ?_
          refine x_icmp_gt hK kX10_over_176 (q := 179) rfl (tg := 256) rfl (by refine ⟨?_, ?_⟩ <;> omega) (fun c176 => ?_) (fun c176 => ?_)
          · exact absurd c176 (by omega)
          · refine x_iload hK kX10_over_179 (q := 181) rfl rfl ?_
            refine x_iload hK kX10_over_181 (q := 183) rfl rfl ?_
            refine x_isub hK kX10_over_183 (q := 184) rfl ?_
            refine x_iconst hK kX10_over_184 (q := 185) rfl ?_
            refine x_iadd hK kX10_over_185 (q := 186) rfl ?_
            refine x_istore hK kX10_over_186 (q := 188) rfl ?_
            refine x_aload_n hK kX10_over_188 (q := 189) rfl rfl ?_
            refine x_getfield hK kX10_over_189 (q := 192) rfl (gX10_20 ?_)
            refine x_iload hK kX10_over_192 (q := 194) rfl rfl ?_
            refine x_iaload hK kX10_over_194 (q := 195) rfl (aX10_A2 (by refine ⟨?_, ?_⟩ <;> omega) ?_)
            simp only [lS, lS2, clr_0, clr_I, clr_L, clr_R]
            rw [h22, hgk]
            refine x_i2l hK kX10_over_195 (q := 196) rfl (by constructor <;> omega) ?_
            refine x_iload hK kX10_over_196 (q := 198) rfl rfl ?_
            refine x_aload_n hK kX10_over_198 (q := 199) rfl rfl ?_
            refine x_getfield hK kX10_over_199 (q := 202) rfl (gX10_23 ?_)
            refine x_iconst hK kX10_over_202 (q := 203) rfl ?_
            refine x_iaload hK kX10_over_203 (q := 204) rfl (aX10_A3 (by refine ⟨?_, ?_⟩ <;> omega) ?_)
            rw [h23, hh0, show ((i + t : Nat) : Int) - (i : Int) + 1 = ((t + 1 : Nat) : Int) by omega]
            refine x_icmp_gt hK kX10_over_204 (q := 207) rfl (tg := 222) rfl (by refine ⟨?_, ?_⟩ <;> omega) (fun c204 => ?_) (fun c204 => ?_)
            · have hb : (0 : Int) = (if ((t + 1 : Nat) : Int) ≤ m then hh ((t + 1 : Nat) : Int) else 0) := by rw [if_neg (by omega)]
              refine x_lconst0 hK kX10_over_222 (q := 223) rfl ?_
              refine x_lsub hK kX10_over_223 (q := 224) rfl ?_
              refine x_lload hK kX10_over_224 (q := 226) rfl rfl ?_
              refine x_ladd hK kX10_over_226 (q := 227) rfl ?_
              refine x_lstore hK kX10_over_227 (q := 229) rfl ?_
              refine x_aload_n hK kX10_over_229 (q := 230) rfl rfl ?_
              refine x_getfield hK kX10_over_230 (q := 233) rfl (gX10_20 ?_)
              refine x_iload hK kX10_over_233 (q := 235) rfl rfl ?_
              refine x_lload hK kX10_over_235 (q := 237) rfl rfl ?_
              refine x_ldc2_w hK kX10_over_237 (q := 240) rfl lc2_RX10_73 ?_
              refine x_land hK kX10_over_240 (q := 241) rfl ?_
              simp only [lS, lS2, clr_0, clr_I, clr_L, clr_R]
              rw [zAndL_m _ _ 28 (by decide) (by decide)]
              refine x_l2i hK kX10_over_241 (q := 242) rfl ?_
              refine x_iastore hK kX10_over_242 (q := 243) rfl (yX10_A2 (by refine ⟨?_, ?_⟩ <;> omega) ?_)
              refine x_lload hK kX10_over_243 (q := 245) rfl rfl ?_
              refine x_bipush hK kX10_over_245 (q := 247) rfl (by decide) ?_
              refine x_lshr hK kX10_over_247 (q := 248) rfl ?_
              first
                | (rw [show zShrL (g ((i + t : Nat) : Int) - 0 + cy) 28 = (g ((i + t : Nat) : Int) - 0 + cy) / 2 ^ 28 from zShrL_n _ (by constructor <;> omega) 28 (by decide)])
                | (have hdb0 := Int.mul_nonneg hlim.2 wh.1
                   have hdb1 := Int.mul_le_mul hlim.1 (show hh ((t + 1 : Nat) : Int) ≤ 268435455 by omega) wh.1 (by decide)
                   rw [show zShrL (g ((i + t : Nat) : Int) - ((Q' % 268435456 : Nat) : Int) * hh ((t + 1 : Nat) : Int) + cy) 28 = (g ((i + t : Nat) : Int) - ((Q' % 268435456 : Nat) : Int) * hh ((t + 1 : Nat) : Int) + cy) / 2 ^ 28 from zShrL_n _ (by constructor <;> omega) 28 (by decide)])
              refine x_lstore hK kX10_over_248 (q := 250) rfl ?_
              refine x_iinc hK kX10_over_250 (q := 253) rfl rfl ?_
              simp only [lS, lS2, clr_0, clr_I, clr_L, clr_R]
              refine x_goto hK kX10_over_253 (tg := 172) rfl ?_
              rw [h22]
              first
                | exact next _ 0 _ _ _ hb (by decide) (by decide) (by omega)
                | exact next _ _ _ _ _ hb wh.1 (by omega) rfl
            · have hb : hh ((t + 1 : Nat) : Int) = (if ((t + 1 : Nat) : Int) ≤ m then hh ((t + 1 : Nat) : Int) else 0) := by rw [if_pos (by omega)]
              have wh := hhr t (by omega)
              rw [show (1 : Int) + (t : Int) = ((t + 1 : Nat) : Int) by omega] at wh
              refine x_iload hK kX10_over_207 (q := 209) rfl rfl ?_
              refine x_i2l hK kX10_over_209 (q := 210) rfl (by constructor <;> omega) ?_
              refine x_aload_n hK kX10_over_210 (q := 211) rfl rfl ?_
              refine x_getfield hK kX10_over_211 (q := 214) rfl (gX10_23 ?_)
              refine x_iload hK kX10_over_214 (q := 216) rfl rfl ?_
              refine x_iaload hK kX10_over_216 (q := 217) rfl (aX10_A3 (by refine ⟨?_, ?_⟩ <;> omega) ?_)
              rw [h23]
              refine x_i2l hK kX10_over_217 (q := 218) rfl (by constructor <;> omega) ?_
              refine x_lmul hK kX10_over_218 (q := 219) rfl ?_
              refine x_goto hK kX10_over_219 (tg := 223) rfl ?_
              refine x_lsub hK kX10_over_223 (q := 224) rfl ?_
              refine x_lload hK kX10_over_224 (q := 226) rfl rfl ?_
              refine x_ladd hK kX10_over_226 (q := 227) rfl ?_
              refine x_lstore hK kX10_over_227 (q := 229) rfl ?_
              refine x_aload_n hK kX10_over_229 (q := 230) rfl rfl ?_
              refine x_getfield hK kX10_over_230 (q := 233) rfl (gX10_20 ?_)
              refine x_iload hK kX10_over_233 (q := 235) rfl rfl ?_
              refine x_lload hK kX10_over_235 (q := 237) rfl rfl ?_
              refine x_ldc2_w hK kX10_over_237 (q := 240) rfl lc2_RX10_73 ?_
              refine x_land hK kX10_over_240 (q := 241) rfl ?_
              simp only [lS, lS2, clr_0, clr_I, clr_L, clr_R]
              rw [zAndL_m _ _ 28 (by decide) (by decide)]
              refine x_l2i hK kX10_over_241 (q := 242) rfl ?_
              refine x_iastore hK kX10_over_242 (q := 243) rfl (yX10_A2 (by refine ⟨?_, ?_⟩ <;> omega) ?_)
              refine x_lload hK kX10_over_243 (q := 245) rfl rfl ?_
              refine x_bipush hK kX10_over_245 (q := 247) rfl (by decide) ?_
              refine x_lshr hK kX10_over_247 (q := 248) rfl ?_
              first
                | (rw [show zShrL (g ((i + t : Nat) : Int) - 0 + cy) 28 = (g ((i + t : Nat) : Int) - 0 + cy) / 2 ^ 28 from zShrL_n _ (by constructor <;> omega) 28 (by decide)])
                | (have hdb0 := Int.mul_nonneg hlim.2 wh.1
                   have hdb1 := Int.mul_le_mul hlim.1 (show hh ((t + 1 : Nat) : Int) ≤ 268435455 by omega) wh.1 (by decide)
                   rw [show zShrL (g ((i + t : Nat) : Int) - ((Q' % 268435456 : Nat) : Int) * hh ((t + 1 : Nat) : Int) + cy) 28 = (g ((i + t : Nat) : Int) - ((Q' % 268435456 : Nat) : Int) * hh ((t + 1 : Nat) : Int) + cy) / 2 ^ 28 from zShrL_n _ (by constructor <;> omega) 28 (by decide)])
              refine x_lstore hK kX10_over_248 (q := 250) rfl ?_
              refine x_iinc hK kX10_over_250 (q := 253) rfl rfl ?_
              simp only [lS, lS2, clr_0, clr_I, clr_L, clr_R]
              refine x_goto hK kX10_over_253 (tg := 172) rfl ?_
              rw [h22]
              first
                | exact next _ 0 _ _ _ hb (by decide) (by decide) (by omega)
                | exact next _ _ _ _ _ hb wh.1 (by omega) rfl
      refine x_iload hK kX10_over_131 (q := 133) rfl rfl ?_
      refine x_iload hK kX10_over_133 (q := 135) rfl rfl ?_
      refine x_icmp_gt hK kX10_over_135 (q := 138) rfl (tg := 262) rfl (by refine ⟨?_, ?_⟩ <;> omega) (fun c135 => ?_) (fun c135 => ?_)
      · exact absurd c135 (by omega)
      · refine x_aload_n hK kX10_over_138 (q := 139) rfl rfl ?_
        refine x_getfield hK kX10_over_139 (q := 142) rfl (gX10_20 ?_)
        refine x_iload hK kX10_over_142 (q := 144) rfl rfl ?_
        refine x_iaload hK kX10_over_144 (q := 145) rfl (aX10_A2 (by refine ⟨?_, ?_⟩ <;> omega) ?_)
        rw [hg2]
        refine x_iload hK kX10_over_145 (q := 147) rfl rfl ?_
        refine x_imul hK kX10_over_147 (q := 148) rfl ?_
        refine x_ldc hK kX10_over_148 (q := 150) rfl lc_RX10_98 ?_
        refine x_iand hK kX10_over_150 (q := 151) rfl ?_
        rw [zAnd_m _ _ 28 (by decide) (by decide), show (2 : Int) ^ 28 = bB from rfl, hdig, hdQ]
        refine x_istore hK kX10_over_151 (q := 153) rfl ?_
        refine x_aload_n hK kX10_over_153 (q := 154) rfl rfl ?_
        refine x_getfield hK kX10_over_154 (q := 157) rfl (gX10_12 ?_)
        refine x_iload hK kX10_over_157 (q := 159) rfl rfl ?_
        refine x_iload hK kX10_over_159 (q := 161) rfl rfl ?_
        refine x_iadd hK kX10_over_161 (q := 162) rfl ?_
        refine x_iload hK kX10_over_162 (q := 164) rfl rfl ?_
        refine x_iastore hK kX10_over_164 (q := 165) rfl (yX10_A0 (by refine ⟨?_, ?_⟩ <;> omega) ?_)
        refine x_lconst0 hK kX10_over_165 (q := 166) rfl ?_
        refine x_lstore hK kX10_over_166 (q := 168) rfl ?_
        refine x_iload hK kX10_over_168 (q := 170) rfl rfl ?_
        refine x_istore hK kX10_over_170 (q := 172) rfl ?_
        simp only [lS, lS2, clr_0, clr_I, clr_L, clr_R]
        refine inner (T + 1) 0 _ g 0 _ _ _ (by omega) (sN_tr hs (sN_u (by decide) _)) (by rw [uA_n _ _ (by decide)]; exact hg2) (by rw [uA_n _ _ (by decide)]; exact hg3) (by rw [uA_g, hg0]) (by omega) (fun j hj => absurd hj (by omega)) (fun j hj => rfl) (by simp [vl])
  have main : c ≠ 0 → K 17 [some eRR, some (eI p), some (eI q), some (eI (zSgn c)), none, none, none, none, none, none, none, none, none, none, none, none, none] [] (cR F A) := by
    intro hc0
    have hzc : (z * c).natAbs = z.natAbs * c.natAbs := Int.natAbs_mul z c
    have hcp : 0 < c.natAbs := by omega
    have hzp : 0 < z.natAbs := by omega
    -- from the inverse on
    have newton : ∀ (X Y n m e : Nat) (A' : Nat → Int → Int), X = Y * c.natAbs → 0 < Y → Y % 2 = 1 → n ≤ 600 → m ≤ n → 0 < m → sN A A' → oB (A 0) (A' 0) p → A' 2 0 = n → lr (A' 2) 1 n → vl (A' 2) 1 n = X → A' 3 0 = m → lr (A' 3) 1 m → vl (A' 3) 1 m = Y → bB ^ (m - 1) ≤ (Y : Int) →
        ∀ (d k : Nat) (v : Int), k + d = 4 → 1 - A' 3 1 * v = (1 - A' 3 1 * A' 3 1) ^ (2 ^ k) → K 73 [some eRR, some (eI p), some (eI q), some (eI (zSgn c)), some (eI e), some (eI v), some (eI k), none, none, none, none, none, none, none, none, none, none] [] (cR F A') := by
      intro X Y n m e A' hX hY hodd hn hmn hm hs ho ga gar gav gb gbr gbv hYge d
      induction d with
      | zero =>
        intro k v hk hv
        have hk4 : k = 4 := by omega
        subst hk4
        have hb1 : A' 3 1 % 2 = 1 := by
          obtain ⟨m2, rfl⟩ : ∃ m2, m = m2 + 1 := ⟨m - 1, by omega⟩
          rw [vl_low] at gbv
          rw [b0] at gbv
          omega
        have hinv := inv_end hb1 hv
        refine x_iload hK kX10_over_73 (q := 75) rfl rfl ?_
        refine x_iconst hK kX10_over_75 (q := 76) rfl ?_
        refine x_icmp_ge hK kX10_over_76 (q := 79) rfl (tg := 101) rfl (by refine ⟨?_, ?_⟩ <;> omega) (fun c76 => ?_) (fun c76 => ?_)
        · refine x_iload_n hK kX10_over_101 (q := 102) rfl rfl ?_
          refine x_cs1 hK kX10_over_102 (q := 105) rfl (stX10_over_64) (Nat.le_of_ble_eq_true rfl) ?_
          refine SX10_at_i ?_
          refine x_istore hK kX10_over_105 (q := 107) rfl ?_
          refine x_aload_n hK kX10_over_107 (q := 108) rfl rfl ?_
          refine x_getfield hK kX10_over_108 (q := 111) rfl (gX10_20 ?_)
          refine x_iconst hK kX10_over_111 (q := 112) rfl ?_
          refine x_iaload hK kX10_over_112 (q := 113) rfl (aX10_A2 (by refine ⟨?_, ?_⟩ <;> omega) ?_)
          simp only [lS, lS2, clr_0, clr_I, clr_L, clr_R]
          rw [ga]
          refine x_istore hK kX10_over_113 (q := 115) rfl ?_
          refine x_iload hK kX10_over_115 (q := 117) rfl rfl ?_
          refine x_aload_n hK kX10_over_117 (q := 118) rfl rfl ?_
          refine x_getfield hK kX10_over_118 (q := 121) rfl (gX10_23 ?_)
          refine x_iconst hK kX10_over_121 (q := 122) rfl ?_
          refine x_iaload hK kX10_over_122 (q := 123) rfl (aX10_A3 (by refine ⟨?_, ?_⟩ <;> omega) ?_)
          simp only [lS, lS2, clr_0, clr_I, clr_L, clr_R]
          rw [gb]
          refine x_isub hK kX10_over_123 (q := 124) rfl ?_
          refine x_iconst hK kX10_over_124 (q := 125) rfl ?_
          refine x_iadd hK kX10_over_125 (q := 126) rfl ?_
          refine x_istore hK kX10_over_126 (q := 128) rfl ?_
          refine x_iconst hK kX10_over_128 (q := 129) rfl ?_
          refine x_istore hK kX10_over_129 (q := 131) rfl ?_
          simp only [lS, lS2, clr_0, clr_I, clr_L, clr_R]
          rw [show (n : Int) - m + 1 = ((n - m + 1 : Nat) : Int) by omega]
          refine digits Y c.natAbs n m v (A' 3) _ hY hc0 rfl hn hmn hm gbr gbv hYge hinv gb (n - m + 1) 1 A' (A' 2) (A' 0) c.natAbs _ _ _ _ _ _ _ (by omega) (by omega) hs rfl rfl rfl ho ?_ ?_ ?_ ?_
          · rw [show n + 1 - 1 = n by omega]; exact gar
          · rw [show n + 1 - 1 = n by omega]
            show vl (A' 2) 1 n = _
            rw [gav, hX]
            simp
          · simp [vl]
          · intro j hj; omega
        · exact absurd c76 (by omega)
      | succ d ih =>
        intro k v hk hv
        refine x_iload hK kX10_over_73 (q := 75) rfl rfl ?_
        refine x_iconst hK kX10_over_75 (q := 76) rfl ?_
        refine x_icmp_ge hK kX10_over_76 (q := 79) rfl (tg := 101) rfl (by refine ⟨?_, ?_⟩ <;> omega) (fun c76 => ?_) (fun c76 => ?_)
        · exact absurd c76 (by omega)
        · refine x_iload hK kX10_over_79 (q := 81) rfl rfl ?_
          refine x_iconst hK kX10_over_81 (q := 82) rfl ?_
          refine x_aload_n hK kX10_over_82 (q := 83) rfl rfl ?_
          refine x_getfield hK kX10_over_83 (q := 86) rfl (gX10_23 ?_)
          refine x_iconst hK kX10_over_86 (q := 87) rfl ?_
          refine x_iaload hK kX10_over_87 (q := 88) rfl (aX10_A3 (by refine ⟨?_, ?_⟩ <;> omega) ?_)
          refine x_iload hK kX10_over_88 (q := 90) rfl rfl ?_
          refine x_imul hK kX10_over_90 (q := 91) rfl ?_
          refine x_isub hK kX10_over_91 (q := 92) rfl ?_
          refine x_imul hK kX10_over_92 (q := 93) rfl ?_
          refine x_istore hK kX10_over_93 (q := 95) rfl ?_
          refine x_iinc hK kX10_over_95 (q := 98) rfl rfl ?_
          simp only [lS, lS2, clr_0, clr_I, clr_L, clr_R]
          refine x_goto hK kX10_over_98 (tg := 73) rfl ?_
          rw [show (k : Int) + 1 = ((k + 1 : Nat) : Int) by omega]
          exact ih (k + 1) _ (by omega) (inv_step hv)
    refine x_aload_n hK kX10_over_17 (q := 18) rfl rfl ?_
    refine x_aload_n hK kX10_over_18 (q := 19) rfl rfl ?_
    refine x_getfield hK kX10_over_19 (q := 22) rfl (gX10_20 ?_)
    refine x_iload_n hK kX10_over_22 (q := 23) rfl rfl ?_
    refine x_cv3 hK kX10_over_23 (q := 26) rfl (vtX10_over_106) (Nat.le_of_ble_eq_true rfl) ?_
    refine SX10_lift_i (z * c) (Or.inl rfl) hp hy (fun g2 h2 => ?_)
    rw [zAbs_n] at h2
    refine x_aload_n hK kX10_over_26 (q := 27) rfl rfl ?_
    refine x_aload_n hK kX10_over_27 (q := 28) rfl rfl ?_
    refine x_getfield hK kX10_over_28 (q := 31) rfl (gX10_23 ?_)
    refine x_iload_n hK kX10_over_31 (q := 32) rfl rfl ?_
    refine x_cv3 hK kX10_over_32 (q := 35) rfl (vtX10_over_106) (Nat.le_of_ble_eq_true rfl) ?_
    refine SX10_lift_i z (Or.inr rfl) hq (by rw [uA_n _ _ (by decide)]; exact hz) (fun g3 h3 => ?_)
    rw [zAbs_n] at h3
    refine x_aload_n hK kX10_over_35 (q := 36) rfl rfl ?_
    refine x_getfield hK kX10_over_36 (q := 39) rfl (gX10_23 ?_)
    refine x_cs1 hK kX10_over_39 (q := 42) rfl (stX10_over_110) (Nat.le_of_ble_eq_true rfl) ?_
    refine SX10_zeros_i (z.natAbs : Int) (Or.inr rfl) (by rw [uA_g]; exact h3) (by omega) (fun e he1 he2 => ?_)
    obtain ⟨Y, hY1, hY2, hY3, hY4⟩ := od_nat he1
    have hX : ((z * c).natAbs : Int) / 2 ^ e = ((Y * c.natAbs : Nat) : Int) := by
      have e1 : ((z * c).natAbs : Int) = 2 ^ e * ((Y * c.natAbs : Nat) : Int) := by
        rw [hzc, hY1, Int.natCast_mul, Int.natCast_mul, zb_p2, Int.natCast_mul, Int.mul_assoc]
      rw [e1, Int.mul_ediv_cancel_left _ (by have : (0 : Int) < 2 ^ e := Int.pow_pos (by decide); omega)]
    have hle : (2 : Int) ^ e ≤ ((z * c).natAbs : Int) := by
      have : z.natAbs ≤ (z * c).natAbs := by rw [hzc]; exact Nat.le_mul_of_pos_right _ hcp
      omega
    refine x_istore hK kX10_over_42 (q := 44) rfl ?_
    refine x_aload_n hK kX10_over_44 (q := 45) rfl rfl ?_
    refine x_getfield hK kX10_over_45 (q := 48) rfl (gX10_20 ?_)
    refine x_iload hK kX10_over_48 (q := 50) rfl rfl ?_
    simp only [lS, lS2, clr_0, clr_I, clr_L, clr_R]
    refine x_cs2 hK kX10_over_50 (q := 53) rfl (stX10_over_117) (Nat.le_of_ble_eq_true rfl) ?_
    refine SX10_shift_i ((z * c).natAbs : Int) (Or.inl rfl) (by rw [uA_n _ _ (by decide), uA_g]; exact h2) hle he2 (fun g4 h4 => ?_)
    rw [hX] at h4
    obtain ⟨n, hn, gn, gnr, gnt, gnv, -, gn0, -, gnl⟩ := rw_h h4
    refine x_aload_n hK kX10_over_53 (q := 54) rfl rfl ?_
    refine x_getfield hK kX10_over_54 (q := 57) rfl (gX10_23 ?_)
    refine x_iload hK kX10_over_57 (q := 59) rfl rfl ?_
    refine x_cs2 hK kX10_over_59 (q := 62) rfl (stX10_over_117) (Nat.le_of_ble_eq_true rfl) ?_
    refine SX10_shift_i (z.natAbs : Int) (Or.inr rfl) (by rw [uA_n _ _ (by decide), uA_g]; exact h3) hY4 he2 (fun g5 h5 => ?_)
    rw [hY3] at h5
    obtain ⟨m, hm, gm, gmr, gmt, gmv, -, gm0, gmg, -⟩ := rw_h h5
    have hYp : 0 < Y := by omega
    have hmp : 0 < m := by omega
    have hYX : Y ≤ Y * c.natAbs := Nat.le_mul_of_pos_right _ hcp
    have hmn : m ≤ n := by
      rcases Nat.lt_or_ge n m with q1 | q1
      · have := bB_mono (show n ≤ m - 1 by omega)
        have := gmg (by omega)
        omega
      · exact q1
    refine x_aload_n hK kX10_over_62 (q := 63) rfl rfl ?_
    refine x_getfield hK kX10_over_63 (q := 66) rfl (gX10_23 ?_)
    refine x_iconst hK kX10_over_66 (q := 67) rfl ?_
    refine x_iaload hK kX10_over_67 (q := 68) rfl (aX10_A3 (by refine ⟨?_, ?_⟩ <;> omega) ?_)
    refine x_istore hK kX10_over_68 (q := 70) rfl ?_
    refine x_iconst hK kX10_over_70 (q := 71) rfl ?_
    refine x_istore hK kX10_over_71 (q := 73) rfl ?_
    simp only [lS, lS2, clr_0, clr_I, clr_L, clr_R]
    rw [uA_g]
    refine newton (Y * c.natAbs) Y n m e _ rfl hYp hY2 hn hmn hmp (sN_tr (sN_tr (sN_tr (sN_u (by decide) _) (sN_u (by decide) _)) (sN_u (by decide) _)) (sN_u (by decide) _)) (by rw [uA_n _ _ (by decide), uA_n _ _ (by decide), uA_n _ _ (by decide), uA_n _ _ (by decide)]; exact oB_rf _ _) ?_ ?_ ?_ ?_ ?_ ?_ (gmg (by omega)) 4 0 _ rfl ?_
    · rw [uA_n _ _ (by decide), uA_g]; exact gn
    · rw [uA_n _ _ (by decide), uA_g]; exact gnr
    · rw [uA_n _ _ (by decide), uA_g]; exact gnv.symm
    · rw [uA_g]; exact gm
    · rw [uA_g]; exact gmr
    · rw [uA_g]; exact gmv.symm
    · rw [uA_g, Nat.pow_zero, Int.pow_succ, Int.pow_zero, Int.one_mul]
  simp only [eLoc, eE, List.length_cons, List.length_nil, List.replicate, List.cons_append, List.nil_append, Nat.reduceAdd, Nat.reduceSub]
  refine x_aload_n hK kX10_over_0 (q := 1) rfl rfl ?_
  refine x_iload_n hK kX10_over_1 (q := 2) rfl rfl ?_
  refine x_cv2 hK kX10_over_2 (q := 5) rfl (vtX10_over_78) (Nat.le_of_ble_eq_true rfl) ?_
  refine SX10_sign_i (by omega) hwy ?_
  rw [zSgn_h hy]
  refine x_aload_n hK kX10_over_5 (q := 6) rfl rfl ?_
  refine x_iload_n hK kX10_over_6 (q := 7) rfl rfl ?_
  refine x_cv2 hK kX10_over_7 (q := 10) rfl (vtX10_over_78) (Nat.le_of_ble_eq_true rfl) ?_
  refine SX10_sign_i (by omega) hwz ?_
  rw [zSgn_h hz]
  refine x_imul hK kX10_over_10 (q := 11) rfl ?_
  refine x_istore_n hK kX10_over_11 (q := 12) (jn := 3) rfl rfl ?_
  refine x_iload_n hK kX10_over_12 (q := 13) rfl rfl ?_
  simp only [lS, lS2, clr_0, clr_I, clr_L, clr_R]
  refine x_if_ne hK kX10_over_13 (q := 16) rfl (tg := 17) rfl (by unfold zSgn; constructor <;> (split <;> (try split) <;> (try split) <;> (try split) <;> omega)) (fun c13 => ?_) (fun c13 => ?_)
  · have hc0 : c ≠ 0 := by
      intro q1
      subst q1
      rw [Int.mul_zero, zSgn_0, Int.zero_mul] at c13
      exact c13 rfl
    rw [(zSgn_mul hz0 hc0).1]
    exact main hc0
  · refine x_return_ hK kX10_over_16 (by first | trivial | exact Or.inl rfl | exact Or.inr rfl) ?_
    have hc0 : c = 0 := by
      rcases Int.lt_trichotomy c 0 with q1 | q1 | q1
      · exact absurd (zSgn_mul hz0 (show c ≠ 0 by omega)) (by rw [zSgn_lt q1]; omega)
      · exact q1
      · exact absurd (zSgn_mul hz0 (show c ≠ 0 by omega)) (by rw [zSgn_gt q1]; omega)
    subst hc0
    rw [Int.mul_zero] at hy
    exact h A (sN_rf A) (oB_rf _ _) hy
set_option maxRecDepth 20000 in
theorem mX10_over : eMet yX10_over cX10_over 17 none 3 66 SX10_over := eMet_of (by decide +kernel) sX10_over kX10_over_ok caX10_over tb_RX10
theorem wX10_over : eWV yX10_over cX10_over 17 none 3 9 SX10_over := ⟨(gW_at 1141 (by decide +kernel) rfl), (gW_at 89 (by decide +kernel) rfl), (gW_at 1140 (by decide +kernel) rfl), ⟨_, rfl, (gW_at 49 (by decide +kernel) rfl)⟩, by decide +kernel, SX10_over_r⟩
