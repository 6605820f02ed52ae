/-! times(p, q, r): p becomes q times r. -/
def SX10_times : eSp := fun as M rt => ∃ (F : Nat → Int) (A : Nat → Int → Int) (p q r y z : Int), as = [eRR, eI p, eI q, eI r] ∧ M = cR F A ∧ (0 ≤ p ∧ p < 2666) ∧ (0 ≤ q ∧ q < 2666) ∧ (0 ≤ r ∧ r < 2666) ∧ nm (A 0) q y ∧ nm (A 0) r z ∧ zAbs y * zAbs z < bB ^ 598 ∧ ∀ A', sN A A' → oB (A 0) (A' 0) p → nm (A' 0) p (y * z) → rt none (cR F A')
theorem SX10_times_i {F : Nat → Int} {A : Nat → Int → Int} {p q r : Int} {rt : Option eV → eM → Prop} (y z : Int) (h0 : 0 ≤ p ∧ p < 2666) (h1 : 0 ≤ q ∧ q < 2666) (h2 : 0 ≤ r ∧ r < 2666) (h3 : nm (A 0) q y) (h4 : nm (A 0) r z) (h5 : zAbs y * zAbs z < bB ^ 598) (h : ∀ A', sN A A' → oB (A 0) (A' 0) p → nm (A' 0) p (y * z) → rt none (cR F A')) : SX10_times [eRR, eI p, eI q, eI r] (cR F A) rt := ⟨F, A, p, q, r, y, z, rfl, rfl, h0, h1, h2, h3, h4, h5, h⟩
theorem SX10_times_r : ∀ as M rt, SX10_times as M rt → ∃ a r fs, as = eR a :: r ∧ M a = some (.inl (9, fs)) := by
  rintro as M rt ⟨F, A, p, q, r, y, z, rfl, rfl, -⟩
  exact ⟨_, _, _, rfl, rfl⟩
theorem ti_alg (V c X a b T Bj : Int) (Y Z B : Int) (h : V + c * Bj = Y + a * Z) (hx : X = T + a * b + c) (d e : Int) (hd : X = e * B + d) : V + d * Bj + e * (Bj * B) = (Y + T * Bj) + a * (Z + b * Bj) := by
  have h1 : X * Bj = e * (Bj * B) + d * Bj := by rw [hd]; grind
  have h2 : X * Bj = T * Bj + a * (b * Bj) + c * Bj := by rw [hx]; grind
  grind
def kX10_times : List (Nat × Jvm.ClassFile.Instr × Nat) := [(0, .aload_n 0, 1), (1, .iload_n 2, 1), (2, .invokevirtual 75, 3), (5, .istore 4, 2), (7, .aload_n 0, 1), (8, .iload_n 3, 1), (9, .invokevirtual 75, 3), (12, .istore 5, 2), (14, .aload_n 0, 1), (15, .iload_n 2, 1), (16, .invokevirtual 78, 3), (19, .aload_n 0, 1), (20, .iload_n 3, 1), (21, .invokevirtual 78, 3), (24, .imul, 1), (25, .istore 6, 2), (27, .iload 6, 2), (29, .ifCond .ne 14, 3), (32, .aload_n 0, 1), (33, .getfield 12, 3), (36, .iload_n 1, 1), (37, .invokestatic 64, 3), (40, .iconst 0, 1), (41, .iastore, 1), (42, .return_, 1), (43, .iconst 0, 1), (44, .istore 7, 2), (46, .iload 7, 2), (48, .iload 4, 2), (50, .iload 5, 2), (52, .iadd, 1), (53, .iconst 1, 1), (54, .iadd, 1), (55, .if_icmp .ge 17, 3), (58, .aload_n 0, 1), (59, .getfield 16, 3), (62, .iload 7, 2), (64, .lconst 0, 1), (65, .lastore, 1), (66, .iinc 7 1, 3), (69, .goto (-23), 3), (72, .iload_n 2, 1), (73, .invokestatic 64, 3), (76, .iconst 1, 1), (77, .iadd, 1), (78, .istore 7, 2), (80, .iload_n 3, 1), (81, .invokestatic 64, 3), (84, .iconst 1, 1), (85, .iadd, 1), (86, .istore 8, 2), (88, .iconst 0, 1), (89, .istore 9, 2), (91, .iload 9, 2), (93, .iload 4, 2), (95, .if_icmp .ge 105, 3), (98, .lconst 0, 1), (99, .lstore 10, 2), (101, .iconst 0, 1), (102, .istore 12, 2), (104, .iload 12, 2), (106, .iload 5, 2), (108, .if_icmp .ge 71, 3), (111, .aload_n 0, 1), (112, .getfield 16, 3), (115, .iload 9, 2), (117, .iload 12, 2), (119, .iadd, 1), (120, .laload, 1), (121, .aload_n 0, 1), (122, .getfield 12, 3), (125, .iload 7, 2), (127, .iload 9, 2), (129, .iadd, 1), (130, .iaload, 1), (131, .i2l, 1), (132, .aload_n 0, 1), (133, .getfield 12, 3), (136, .iload 8, 2), (138, .iload 12, 2), (140, .iadd, 1), (141, .iaload, 1), (142, .i2l, 1), (143, .lmul, 1), (144, .ladd, 1), (145, .lload 10, 2), (147, .ladd, 1), (148, .lstore 13, 2), (150, .aload_n 0, 1), (151, .getfield 16, 3), (154, .iload 9, 2), (156, .iload 12, 2), (158, .iadd, 1), (159, .lload 13, 2), (161, .ldc2_w 73, 3), (164, .land, 1), (165, .lastore, 1), (166, .lload 13, 2), (168, .bipush 28, 2), (170, .lshr, 1), (171, .lstore 10, 2), (173, .iinc 12 1, 3), (176, .goto (-72), 3), (179, .aload_n 0, 1), (180, .getfield 16, 3), (183, .iload 9, 2), (185, .iload 5, 2), (187, .iadd, 1), (188, .dup2, 1), (189, .laload, 1), (190, .lload 10, 2), (192, .ladd, 1), (193, .lastore, 1), (194, .iinc 9 1, 3), (197, .goto (-106), 3), (200, .iload_n 1, 1), (201, .invokestatic 64, 3), (204, .istore 9, 2), (206, .iconst 0, 1), (207, .istore 10, 2), (209, .iload 10, 2), (211, .iload 4, 2), (213, .iload 5, 2), (215, .iadd, 1), (216, .if_icmp .ge 29, 3), (219, .aload_n 0, 1), (220, .getfield 12, 3), (223, .iload 9, 2), (225, .iconst 1, 1), (226, .iadd, 1), (227, .iload 10, 2), (229, .iadd, 1), (230, .aload_n 0, 1), (231, .getfield 16, 3), (234, .iload 10, 2), (236, .laload, 1), (237, .l2i, 1), (238, .iastore, 1), (239, .iinc 10 1, 3), (242, .goto (-33), 3), (245, .aload_n 0, 1), (246, .iload 9, 2), (248, .iload 4, 2), (250, .iload 5, 2), (252, .iadd, 1), (253, .iload 6, 2), (255, .invokevirtual 99, 3), (258, .return_, 1)]
theorem kX10_times_0 : cdOf kX10_times 0 = some (.aload_n 0, 1) := by decide +kernel
theorem kX10_times_1 : cdOf kX10_times 1 = some (.iload_n 2, 1) := by decide +kernel
theorem kX10_times_2 : cdOf kX10_times 2 = some (.invokevirtual 75, 3) := by decide +kernel
theorem kX10_times_5 : cdOf kX10_times 5 = some (.istore 4, 2) := by decide +kernel
theorem kX10_times_7 : cdOf kX10_times 7 = some (.aload_n 0, 1) := by decide +kernel
theorem kX10_times_8 : cdOf kX10_times 8 = some (.iload_n 3, 1) := by decide +kernel
theorem kX10_times_9 : cdOf kX10_times 9 = some (.invokevirtual 75, 3) := by decide +kernel
theorem kX10_times_12 : cdOf kX10_times 12 = some (.istore 5, 2) := by decide +kernel
theorem kX10_times_14 : cdOf kX10_times 14 = some (.aload_n 0, 1) := by decide +kernel
theorem kX10_times_15 : cdOf kX10_times 15 = some (.iload_n 2, 1) := by decide +kernel
theorem kX10_times_16 : cdOf kX10_times 16 = some (.invokevirtual 78, 3) := by decide +kernel
theorem kX10_times_19 : cdOf kX10_times 19 = some (.aload_n 0, 1) := by decide +kernel
theorem kX10_times_20 : cdOf kX10_times 20 = some (.iload_n 3, 1) := by decide +kernel
theorem kX10_times_21 : cdOf kX10_times 21 = some (.invokevirtual 78, 3) := by decide +kernel
theorem kX10_times_24 : cdOf kX10_times 24 = some (.imul, 1) := by decide +kernel
theorem kX10_times_25 : cdOf kX10_times 25 = some (.istore 6, 2) := by decide +kernel
theorem kX10_times_27 : cdOf kX10_times 27 = some (.iload 6, 2) := by decide +kernel
theorem kX10_times_29 : cdOf kX10_times 29 = some (.ifCond .ne 14, 3) := by decide +kernel
theorem kX10_times_32 : cdOf kX10_times 32 = some (.aload_n 0, 1) := by decide +kernel
theorem kX10_times_33 : cdOf kX10_times 33 = some (.getfield 12, 3) := by decide +kernel
theorem kX10_times_36 : cdOf kX10_times 36 = some (.iload_n 1, 1) := by decide +kernel
theorem kX10_times_37 : cdOf kX10_times 37 = some (.invokestatic 64, 3) := by decide +kernel
theorem kX10_times_40 : cdOf kX10_times 40 = some (.iconst 0, 1) := by decide +kernel
theorem kX10_times_41 : cdOf kX10_times 41 = some (.iastore, 1) := by decide +kernel
theorem kX10_times_42 : cdOf kX10_times 42 = some (.return_, 1) := by decide +kernel
theorem kX10_times_43 : cdOf kX10_times 43 = some (.iconst 0, 1) := by decide +kernel
theorem kX10_times_44 : cdOf kX10_times 44 = some (.istore 7, 2) := by decide +kernel
theorem kX10_times_46 : cdOf kX10_times 46 = some (.iload 7, 2) := by decide +kernel
theorem kX10_times_48 : cdOf kX10_times 48 = some (.iload 4, 2) := by decide +kernel
theorem kX10_times_50 : cdOf kX10_times 50 = some (.iload 5, 2) := by decide +kernel
theorem kX10_times_52 : cdOf kX10_times 52 = some (.iadd, 1) := by decide +kernel
theorem kX10_times_53 : cdOf kX10_times 53 = some (.iconst 1, 1) := by decide +kernel
theorem kX10_times_54 : cdOf kX10_times 54 = some (.iadd, 1) := by decide +kernel
theorem kX10_times_55 : cdOf kX10_times 55 = some (.if_icmp .ge 17, 3) := by decide +kernel
theorem kX10_times_58 : cdOf kX10_times 58 = some (.aload_n 0, 1) := by decide +kernel
theorem kX10_times_59 : cdOf kX10_times 59 = some (.getfield 16, 3) := by decide +kernel
theorem kX10_times_62 : cdOf kX10_times 62 = some (.iload 7, 2) := by decide +kernel
theorem kX10_times_64 : cdOf kX10_times 64 = some (.lconst 0, 1) := by decide +kernel
theorem kX10_times_65 : cdOf kX10_times 65 = some (.lastore, 1) := by decide +kernel
theorem kX10_times_66 : cdOf kX10_times 66 = some (.iinc 7 1, 3) := by decide +kernel
theorem kX10_times_69 : cdOf kX10_times 69 = some (.goto (-23), 3) := by decide +kernel
theorem kX10_times_72 : cdOf kX10_times 72 = some (.iload_n 2, 1) := by decide +kernel
theorem kX10_times_73 : cdOf kX10_times 73 = some (.invokestatic 64, 3) := by decide +kernel
theorem kX10_times_76 : cdOf kX10_times 76 = some (.iconst 1, 1) := by decide +kernel
theorem kX10_times_77 : cdOf kX10_times 77 = some (.iadd, 1) := by decide +kernel
theorem kX10_times_78 : cdOf kX10_times 78 = some (.istore 7, 2) := by decide +kernel
theorem kX10_times_80 : cdOf kX10_times 80 = some (.iload_n 3, 1) := by decide +kernel
theorem kX10_times_81 : cdOf kX10_times 81 = some (.invokestatic 64, 3) := by decide +kernel
theorem kX10_times_84 : cdOf kX10_times 84 = some (.iconst 1, 1) := by decide +kernel
theorem kX10_times_85 : cdOf kX10_times 85 = some (.iadd, 1) := by decide +kernel
theorem kX10_times_86 : cdOf kX10_times 86 = some (.istore 8, 2) := by decide +kernel
theorem kX10_times_88 : cdOf kX10_times 88 = some (.iconst 0, 1) := by decide +kernel
theorem kX10_times_89 : cdOf kX10_times 89 = some (.istore 9, 2) := by decide +kernel
theorem kX10_times_91 : cdOf kX10_times 91 = some (.iload 9, 2) := by decide +kernel
theorem kX10_times_93 : cdOf kX10_times 93 = some (.iload 4, 2) := by decide +kernel
theorem kX10_times_95 : cdOf kX10_times 95 = some (.if_icmp .ge 105, 3) := by decide +kernel
theorem kX10_times_98 : cdOf kX10_times 98 = some (.lconst 0, 1) := by decide +kernel
theorem kX10_times_99 : cdOf kX10_times 99 = some (.lstore 10, 2) := by decide +kernel
theorem kX10_times_101 : cdOf kX10_times 101 = some (.iconst 0, 1) := by decide +kernel
theorem kX10_times_102 : cdOf kX10_times 102 = some (.istore 12, 2) := by decide +kernel
theorem kX10_times_104 : cdOf kX10_times 104 = some (.iload 12, 2) := by decide +kernel
theorem kX10_times_106 : cdOf kX10_times 106 = some (.iload 5, 2) := by decide +kernel
theorem kX10_times_108 : cdOf kX10_times 108 = some (.if_icmp .ge 71, 3) := by decide +kernel
theorem kX10_times_111 : cdOf kX10_times 111 = some (.aload_n 0, 1) := by decide +kernel
theorem kX10_times_112 : cdOf kX10_times 112 = some (.getfield 16, 3) := by decide +kernel
theorem kX10_times_115 : cdOf kX10_times 115 = some (.iload 9, 2) := by decide +kernel
theorem kX10_times_117 : cdOf kX10_times 117 = some (.iload 12, 2) := by decide +kernel
theorem kX10_times_119 : cdOf kX10_times 119 = some (.iadd, 1) := by decide +kernel
theorem kX10_times_120 : cdOf kX10_times 120 = some (.laload, 1) := by decide +kernel
theorem kX10_times_121 : cdOf kX10_times 121 = some (.aload_n 0, 1) := by decide +kernel
theorem kX10_times_122 : cdOf kX10_times 122 = some (.getfield 12, 3) := by decide +kernel
theorem kX10_times_125 : cdOf kX10_times 125 = some (.iload 7, 2) := by decide +kernel
theorem kX10_times_127 : cdOf kX10_times 127 = some (.iload 9, 2) := by decide +kernel
theorem kX10_times_129 : cdOf kX10_times 129 = some (.iadd, 1) := by decide +kernel
theorem kX10_times_130 : cdOf kX10_times 130 = some (.iaload, 1) := by decide +kernel
theorem kX10_times_131 : cdOf kX10_times 131 = some (.i2l, 1) := by decide +kernel
theorem kX10_times_132 : cdOf kX10_times 132 = some (.aload_n 0, 1) := by decide +kernel
theorem kX10_times_133 : cdOf kX10_times 133 = some (.getfield 12, 3) := by decide +kernel
theorem kX10_times_136 : cdOf kX10_times 136 = some (.iload 8, 2) := by decide +kernel
theorem kX10_times_138 : cdOf kX10_times 138 = some (.iload 12, 2) := by decide +kernel
theorem kX10_times_140 : cdOf kX10_times 140 = some (.iadd, 1) := by decide +kernel
theorem kX10_times_141 : cdOf kX10_times 141 = some (.iaload, 1) := by decide +kernel
theorem kX10_times_142 : cdOf kX10_times 142 = some (.i2l, 1) := by decide +kernel
theorem kX10_times_143 : cdOf kX10_times 143 = some (.lmul, 1) := by decide +kernel
theorem kX10_times_144 : cdOf kX10_times 144 = some (.ladd, 1) := by decide +kernel
theorem kX10_times_145 : cdOf kX10_times 145 = some (.lload 10, 2) := by decide +kernel
theorem kX10_times_147 : cdOf kX10_times 147 = some (.ladd, 1) := by decide +kernel
theorem kX10_times_148 : cdOf kX10_times 148 = some (.lstore 13, 2) := by decide +kernel
theorem kX10_times_150 : cdOf kX10_times 150 = some (.aload_n 0, 1) := by decide +kernel
theorem kX10_times_151 : cdOf kX10_times 151 = some (.getfield 16, 3) := by decide +kernel
theorem kX10_times_154 : cdOf kX10_times 154 = some (.iload 9, 2) := by decide +kernel
theorem kX10_times_156 : cdOf kX10_times 156 = some (.iload 12, 2) := by decide +kernel
theorem kX10_times_158 : cdOf kX10_times 158 = some (.iadd, 1) := by decide +kernel
theorem kX10_times_159 : cdOf kX10_times 159 = some (.lload 13, 2) := by decide +kernel
theorem kX10_times_161 : cdOf kX10_times 161 = some (.ldc2_w 73, 3) := by decide +kernel
theorem kX10_times_164 : cdOf kX10_times 164 = some (.land, 1) := by decide +kernel
theorem kX10_times_165 : cdOf kX10_times 165 = some (.lastore, 1) := by decide +kernel
theorem kX10_times_166 : cdOf kX10_times 166 = some (.lload 13, 2) := by decide +kernel
theorem kX10_times_168 : cdOf kX10_times 168 = some (.bipush 28, 2) := by decide +kernel
theorem kX10_times_170 : cdOf kX10_times 170 = some (.lshr, 1) := by decide +kernel
theorem kX10_times_171 : cdOf kX10_times 171 = some (.lstore 10, 2) := by decide +kernel
theorem kX10_times_173 : cdOf kX10_times 173 = some (.iinc 12 1, 3) := by decide +kernel
theorem kX10_times_176 : cdOf kX10_times 176 = some (.goto (-72), 3) := by decide +kernel
theorem kX10_times_179 : cdOf kX10_times 179 = some (.aload_n 0, 1) := by decide +kernel
theorem kX10_times_180 : cdOf kX10_times 180 = some (.getfield 16, 3) := by decide +kernel
theorem kX10_times_183 : cdOf kX10_times 183 = some (.iload 9, 2) := by decide +kernel
theorem kX10_times_185 : cdOf kX10_times 185 = some (.iload 5, 2) := by decide +kernel
theorem kX10_times_187 : cdOf kX10_times 187 = some (.iadd, 1) := by decide +kernel
theorem kX10_times_188 : cdOf kX10_times 188 = some (.dup2, 1) := by decide +kernel
theorem kX10_times_189 : cdOf kX10_times 189 = some (.laload, 1) := by decide +kernel
theorem kX10_times_190 : cdOf kX10_times 190 = some (.lload 10, 2) := by decide +kernel
theorem kX10_times_192 : cdOf kX10_times 192 = some (.ladd, 1) := by decide +kernel
theorem kX10_times_193 : cdOf kX10_times 193 = some (.lastore, 1) := by decide +kernel
theorem kX10_times_194 : cdOf kX10_times 194 = some (.iinc 9 1, 3) := by decide +kernel
theorem kX10_times_197 : cdOf kX10_times 197 = some (.goto (-106), 3) := by decide +kernel
theorem kX10_times_200 : cdOf kX10_times 200 = some (.iload_n 1, 1) := by decide +kernel
theorem kX10_times_201 : cdOf kX10_times 201 = some (.invokestatic 64, 3) := by decide +kernel
theorem kX10_times_204 : cdOf kX10_times 204 = some (.istore 9, 2) := by decide +kernel
theorem kX10_times_206 : cdOf kX10_times 206 = some (.iconst 0, 1) := by decide +kernel
theorem kX10_times_207 : cdOf kX10_times 207 = some (.istore 10, 2) := by decide +kernel
theorem kX10_times_209 : cdOf kX10_times 209 = some (.iload 10, 2) := by decide +kernel
theorem kX10_times_211 : cdOf kX10_times 211 = some (.iload 4, 2) := by decide +kernel
theorem kX10_times_213 : cdOf kX10_times 213 = some (.iload 5, 2) := by decide +kernel
theorem kX10_times_215 : cdOf kX10_times 215 = some (.iadd, 1) := by decide +kernel
theorem kX10_times_216 : cdOf kX10_times 216 = some (.if_icmp .ge 29, 3) := by decide +kernel
theorem kX10_times_219 : cdOf kX10_times 219 = some (.aload_n 0, 1) := by decide +kernel
theorem kX10_times_220 : cdOf kX10_times 220 = some (.getfield 12, 3) := by decide +kernel
theorem kX10_times_223 : cdOf kX10_times 223 = some (.iload 9, 2) := by decide +kernel
theorem kX10_times_225 : cdOf kX10_times 225 = some (.iconst 1, 1) := by decide +kernel
theorem kX10_times_226 : cdOf kX10_times 226 = some (.iadd, 1) := by decide +kernel
theorem kX10_times_227 : cdOf kX10_times 227 = some (.iload 10, 2) := by decide +kernel
theorem kX10_times_229 : cdOf kX10_times 229 = some (.iadd, 1) := by decide +kernel
theorem kX10_times_230 : cdOf kX10_times 230 = some (.aload_n 0, 1) := by decide +kernel
theorem kX10_times_231 : cdOf kX10_times 231 = some (.getfield 16, 3) := by decide +kernel
theorem kX10_times_234 : cdOf kX10_times 234 = some (.iload 10, 2) := by decide +kernel
theorem kX10_times_236 : cdOf kX10_times 236 = some (.laload, 1) := by decide +kernel
theorem kX10_times_237 : cdOf kX10_times 237 = some (.l2i, 1) := by decide +kernel
theorem kX10_times_238 : cdOf kX10_times 238 = some (.iastore, 1) := by decide +kernel
theorem kX10_times_239 : cdOf kX10_times 239 = some (.iinc 10 1, 3) := by decide +kernel
theorem kX10_times_242 : cdOf kX10_times 242 = some (.goto (-33), 3) := by decide +kernel
theorem kX10_times_245 : cdOf kX10_times 245 = some (.aload_n 0, 1) := by decide +kernel
theorem kX10_times_246 : cdOf kX10_times 246 = some (.iload 9, 2) := by decide +kernel
theorem kX10_times_248 : cdOf kX10_times 248 = some (.iload 4, 2) := by decide +kernel
theorem kX10_times_250 : cdOf kX10_times 250 = some (.iload 5, 2) := by decide +kernel
theorem kX10_times_252 : cdOf kX10_times 252 = some (.iadd, 1) := by decide +kernel
theorem kX10_times_253 : cdOf kX10_times 253 = some (.iload 6, 2) := by decide +kernel
theorem kX10_times_255 : cdOf kX10_times 255 = some (.invokevirtual 99, 3) := by decide +kernel
theorem kX10_times_258 : cdOf kX10_times 258 = some (.return_, 1) := by decide +kernel
set_option maxRecDepth 20000 in
theorem kX10_times_ok : ∀ pc i len, cdOf kX10_times pc = some (i, len) → decode cX10_times pc = .ok (i, len) ∧ stOK 15 i = true ∧ jOK pc i = true ∧ eLen i len = true := cdOf_ok cX10_times 15 kX10_times (by decide +kernel)
def vtX10_times : Nat → Option (Nat × eSp) := fun k => match k with
  | 75 => some (2, SX10_length)
  | 78 => some (2, SX10_sign)
  | 99 => some (4, SX10_trim)
  | _ => none
theorem vtX10_times_75 : vtX10_times 75 = some (2, SX10_length) := rfl
theorem vtX10_times_78 : vtX10_times 78 = some (2, SX10_sign) := rfl
theorem vtX10_times_99 : vtX10_times 99 = some (4, SX10_trim) := rfl
def stX10_times : Nat → Option (Nat × eSp) := fun k => match k with
  | 64 => some (1, SX10_at)
  | _ => none
theorem stX10_times_64 : stX10_times 64 = some (1, SX10_at) := rfl
abbrev TX10_times : eT := (fl_RX10, cl_RX10, dl_RX10, vtX10_times, stX10_times)
set_option maxRecDepth 20000 in
theorem caX10_times : eCalls RX10 { frames := 2, cells := 0, slots := 0, locals := 42 } TX10_times := by
  refine ⟨fun k n sp h => ?_, fun k n sp h => ?_⟩
  · dsimp only [TX10_times] at h
    unfold vtX10_times at h
    split at h
    · cases h; exact eV_mk mX10_length wX10_length (by decide +kernel) (Or.inl (gW_at 1101 (by decide +kernel) rfl))
    · cases h; exact eV_mk mX10_sign wX10_sign (by decide +kernel) (Or.inl (gW_at 1142 (by decide +kernel) rfl))
    · cases h; exact eV_mk mX10_trim wX10_trim (by decide +kernel) (Or.inl (gW_at 1130 (by decide +kernel) rfl))
    · cases h
  · dsimp only [TX10_times] at h
    unfold stX10_times at h
    split at h
    · cases h; exact eS_mk mX10_at wX10_at (by decide +kernel) (Or.inl (gW_at 1070 (by decide +kernel) rfl))
    · cases h
set_option maxRecDepth 100000 in
set_option maxHeartbeats 4000000 in
theorem sX10_times : eSafe TX10_times (cdOf kX10_times) 15 none SX10_times := by
  intro K rt hK as M h
  obtain ⟨F, A, p, q, r, y, z, rfl, rfl, hp, hq, hr, hy, hz, hb, h⟩ := h
  have hwy := nm_w hy
  have hwz := nm_w hz
  have b0 : bB = 268435456 := rfl
  have hbp : 0 ≤ p * 601 ∧ p * 601 < 1602266 := by constructor <;> omega
  have hbq : 0 ≤ q * 601 ∧ q * 601 < 1602266 := by constructor <;> omega
  have hbr : 0 ≤ r * 601 ∧ r * 601 < 1602266 := by constructor <;> omega
  have e28 : (2 : Int) ^ 28 = 268435456 := by decide
  refine ⟨by simp [eE], ?_⟩
  obtain ⟨n, hn, yr, yt, yn, yv, y0, -, -, yg, -⟩ := nm_h hy
  obtain ⟨k, hk, zr, zt, zn, zv, z0, -, -, zg, -⟩ := nm_h hz
  have hA1 : ∀ T, uA A 1 T 0 = A 0 := fun T => uA_n _ _ (by decide)
  have hnk : y ≠ 0 → z ≠ 0 → n + k ≤ 599 := by
    intro g1 g2
    have a1 := yg g1
    have a2 := zg g2
    have a3 := Int.mul_le_mul a1 a2 (Int.le_of_lt (bB_pos _)) (by rw [zAbs_n]; exact Int.natCast_nonneg _)
    rw [← Int.pow_add] at a3
    have n0 : n ≠ 0 := fun g => g1 (y0.mpr g)
    have k0 : k ≠ 0 := fun g => g2 (z0.mpr g)
    rcases Nat.lt_or_ge (n + k) 600 with g | g
    · omega
    · have := bB_mono (show 598 ≤ n - 1 + (k - 1) by omega)
      omega
  have main : y ≠ 0 → z ≠ 0 → K 43 [some eRR, some (eI p), some (eI q), some (eI r), some (eI n), some (eI k), some (eI (zSgn y * zSgn z)), none, none, none, none, none, none, none, none] [] (cR F A) := by
    intro g1 g2
    have hNK := hnk g1 g2
    have hsg : zSgn y * zSgn z = 1 ∨ zSgn y * zSgn z = -1 := by rcases zSgn_in y g1 with e | e <;> rcases zSgn_in z g2 with e2 | e2 <;> rw [e, e2] <;> decide
    have hval : zSgn y * zSgn z * (zAbs y * zAbs z) = y * z := by
      have e1 := zSgn_zAbs y
      have e2 := zSgn_zAbs z
      have : zSgn y * zSgn z * (zAbs y * zAbs z) = (zSgn y * zAbs y) * (zSgn z * zAbs z) := by grind
      rw [this, e1, e2]
    have w0 : w32 (n : Int) := by constructor <;> omega
    have w1 : w32 (k : Int) := by constructor <;> omega
    clear hy hz hb yg zg
    -- copying the product, and the end
    have cpy : ∀ (d i : Nat) (A' : Nat → Int → Int) (u7 u8 u11 u12 u13 u14 : Option eV), i + d = n + k → sN A A' → oB (A 0) (A' 0) p → lr (A' 1) 0 (n + k) → vl (A' 1) 0 (n + k) = zAbs y * zAbs z → (∀ j : Nat, j < i → A' 0 (p * 601 + 1 + j) = A' 1 j) →
        K 209 [some eRR, some (eI p), some (eI q), some (eI r), some (eI n), some (eI k), some (eI (zSgn y * zSgn z)), u7, u8, some (eI (p * 601)), some (eI i), u11, u12, u13, u14] [] (cR F A') := by
      intro d
      induction d with
      | zero =>
        intro i A' u7 u8 u11 u12 u13 u14 hi hs ho hTr hTv hc
        have hfr : lr (A' 0) (p * 601 + 1) (n + k) := by
          intro j hj
          rw [hc j (by omega)]
          have := hTr j hj
          rw [Int.zero_add] at this
          exact this
        have hfv : vl (A' 0) (p * 601 + 1) (n + k) = zAbs y * zAbs z := by
          rw [← hTv]
          exact vl_cong (fun j hj => by rw [hc j (by omega), Int.zero_add])
        have hm := nm_mk (s := zSgn y * zSgn z) (by omega) hfr (Nat.le_trans (tk_le _ _ _) (by omega)) hsg
        rw [hfv, hval] at hm
        refine x_iload hK kX10_times_209 (q := 211) rfl rfl ?_
        refine x_iload hK kX10_times_211 (q := 213) rfl rfl ?_
        refine x_iload hK kX10_times_213 (q := 215) rfl rfl ?_
        refine x_iadd hK kX10_times_215 (q := 216) rfl ?_
        refine x_icmp_ge hK kX10_times_216 (q := 219) rfl (tg := 245) rfl (by refine ⟨?_, ?_⟩ <;> omega) (fun c216 => ?_) (fun c216 => ?_)
        · refine x_aload_n hK kX10_times_245 (q := 246) rfl rfl ?_
          refine x_iload hK kX10_times_246 (q := 248) rfl rfl ?_
          refine x_iload hK kX10_times_248 (q := 250) rfl rfl ?_
          refine x_iload hK kX10_times_250 (q := 252) rfl rfl ?_
          refine x_iadd hK kX10_times_252 (q := 253) rfl ?_
          refine x_iload hK kX10_times_253 (q := 255) rfl rfl ?_
          refine x_cv4 hK kX10_times_255 (q := 258) rfl (vtX10_times_99) (Nat.le_of_ble_eq_true rfl) ?_
          refine SX10_trim_i (n + k) (by omega) (by omega) (by omega) (fun j hj => by have := hfr j hj; constructor <;> omega) ?_
          refine x_return_ hK kX10_times_258 (by first | trivial | exact Or.inl rfl | exact Or.inr rfl) ?_
          refine h _ (sN_tr hs (sN_u (by decide) _)) (by rw [uA_g]; intro j hj; rw [uI_n _ _ (by omega)]; exact ho j hj) ?_
          rw [uA_g]
          exact hm
        · exact absurd c216 (by omega)
      | succ d ih =>
        intro i A' u7 u8 u11 u12 u13 u14 hi hs ho hTr hTv hc
        refine x_iload hK kX10_times_209 (q := 211) rfl rfl ?_
        refine x_iload hK kX10_times_211 (q := 213) rfl rfl ?_
        refine x_iload hK kX10_times_213 (q := 215) rfl rfl ?_
        refine x_iadd hK kX10_times_215 (q := 216) rfl ?_
        refine x_icmp_ge hK kX10_times_216 (q := 219) rfl (tg := 245) rfl (by refine ⟨?_, ?_⟩ <;> omega) (fun c216 => ?_) (fun c216 => ?_)
        · exact absurd c216 (by omega)
        · refine x_aload_n hK kX10_times_219 (q := 220) rfl rfl ?_
          refine x_getfield hK kX10_times_220 (q := 223) rfl (gX10_12 ?_)
          refine x_iload hK kX10_times_223 (q := 225) rfl rfl ?_
          refine x_iconst hK kX10_times_225 (q := 226) rfl ?_
          refine x_iadd hK kX10_times_226 (q := 227) rfl ?_
          refine x_iload hK kX10_times_227 (q := 229) rfl rfl ?_
          refine x_iadd hK kX10_times_229 (q := 230) rfl ?_
          refine x_aload_n hK kX10_times_230 (q := 231) rfl rfl ?_
          refine x_getfield hK kX10_times_231 (q := 234) rfl (gX10_16 ?_)
          refine x_iload hK kX10_times_234 (q := 236) rfl rfl ?_
          refine x_laload hK kX10_times_236 (q := 237) rfl (aX10_A1 (by refine ⟨?_, ?_⟩ <;> omega) ?_)
          refine x_l2i hK kX10_times_237 (q := 238) rfl ?_
          refine x_iastore hK kX10_times_238 (q := 239) rfl (yX10_A0 (by refine ⟨?_, ?_⟩ <;> omega) ?_)
          refine x_iinc hK kX10_times_239 (q := 242) rfl rfl ?_
          simp only [lS, lS2, clr_0, clr_I, clr_L, clr_R]
          refine x_goto hK kX10_times_242 (tg := 209) rfl ?_
          rw [show p * 601 + 1 + (i : Int) = p * 601 + 1 + i from rfl, show (i : Int) + 1 = ((i + 1 : Nat) : Int) by omega]
          refine ih (i + 1) _ _ _ _ _ _ _ (by omega) (sN_tr hs (sN_u (by decide) _)) (by rw [uA_g]; intro j hj; rw [uI_n _ _ (by omega)]; exact ho j hj) (by rw [uA_n _ _ (by decide)]; exact hTr) (by rw [uA_n _ _ (by decide)]; exact hTv) (fun j hj => ?_)
          rw [uA_g, uA_n _ _ (by decide)]
          rcases Nat.lt_or_ge j i with e | e
          · rw [uI_n _ _ (by omega)]; exact hc j e
          · rw [show j = i by omega, uI_s]
    -- the rows of the product
    have outer : ∀ (d i : Nat) (T : Int → Int) (u10 u11 u12 u13 u14 : Option eV), i + d = n → lr T 0 (i + k) → vl T 0 (i + k) = vl (A 0) (q * 601 + 1) i * zAbs z → (∀ j : Nat, i + k ≤ j → j ≤ n + k → T j = 0) →
        K 91 [some eRR, some (eI p), some (eI q), some (eI r), some (eI n), some (eI k), some (eI (zSgn y * zSgn z)), some (eI (q * 601 + 1)), some (eI (r * 601 + 1)), some (eI i), u10, u11, u12, u13, u14] [] (cR F (uA A 1 T)) := by
      intro d
      induction d with
      | zero =>
        intro i T u10 u11 u12 u13 u14 hi hTr hTv hT0
        have hin : i = n := by omega
        subst hin
        rw [← yv] at hTv
        refine x_iload hK kX10_times_91 (q := 93) rfl rfl ?_
        refine x_iload hK kX10_times_93 (q := 95) rfl rfl ?_
        refine x_icmp_ge hK kX10_times_95 (q := 98) rfl (tg := 200) rfl (by exact ⟨w0, w0⟩) (fun c95 => ?_) (fun c95 => ?_)
        · refine x_iload_n hK kX10_times_200 (q := 201) rfl rfl ?_
          refine x_cs1 hK kX10_times_201 (q := 204) rfl (stX10_times_64) (Nat.le_of_ble_eq_true rfl) ?_
          refine SX10_at_i ?_
          refine x_istore hK kX10_times_204 (q := 206) rfl ?_
          refine x_iconst hK kX10_times_206 (q := 207) rfl ?_
          refine x_istore hK kX10_times_207 (q := 209) rfl ?_
          simp only [lS, lS2, clr_0, clr_I, clr_L, clr_R]
          exact cpy (i + k) 0 _ _ _ _ _ _ _ (by omega) (sN_u (by decide) _) (by rw [hA1]; exact oB_rf _ _) (by rw [uA_g]; exact hTr) (by rw [uA_g]; exact hTv) (fun j hj => absurd hj (by omega))
        · exact absurd (Int.le_refl _) c95
      | succ d ih =>
        intro i T0 u10 u11 u12 u13 u14 hi hTr hTv hT0
        have wi : w32 (i : Int) := by constructor <;> omega
        have wy := yr i (by omega)
        have ey : q * 601 + 1 + (i : Int) = q * 601 + 1 + i := rfl
        have inner : ∀ (e j : Nat) (T : Int → Int) (c : Int) (u13 u14 : Option eV), j + e = k → (0 ≤ c ∧ c < 268435456) → lr T i j → (∀ l : Nat, (l < i ∨ i + j ≤ l) → T l = T0 l) → vl T i j + c * bB ^ j = vl T0 i j + A 0 (q * 601 + 1 + i) * vl (A 0) (r * 601 + 1) j →
            K 104 [some eRR, some (eI p), some (eI q), some (eI r), some (eI n), some (eI k), some (eI (zSgn y * zSgn z)), some (eI (q * 601 + 1)), some (eI (r * 601 + 1)), some (eI i), some (eL c), none, some (eI j), u13, u14] [] (cR F (uA A 1 T)) := by
          intro e
          induction e with
          | zero =>
            intro j T c u13 u14 hj hc hjr hjo hv
            have hjk : j = k := by omega
            subst hjk
            have eij : (i : Int) + j = ((i + j : Nat) : Int) := by omega
            have hT0' := hT0 (i + j) (Nat.le_refl _) (by omega)
            have hTj := hjo (i + j) (Or.inr (Nat.le_refl _))
            refine x_iload hK kX10_times_104 (q := 106) rfl rfl ?_
            refine x_iload hK kX10_times_106 (q := 108) rfl rfl ?_
            refine x_icmp_ge hK kX10_times_108 (q := 111) rfl (tg := 179) rfl (by exact ⟨w1, w1⟩) (fun c108 => ?_) (fun c108 => ?_)
            · refine x_aload_n hK kX10_times_179 (q := 180) rfl rfl ?_
              refine x_getfield hK kX10_times_180 (q := 183) rfl (gX10_16 ?_)
              refine x_iload hK kX10_times_183 (q := 185) rfl rfl ?_
              refine x_iload hK kX10_times_185 (q := 187) rfl rfl ?_
              refine x_iadd hK kX10_times_187 (q := 188) rfl ?_
              refine x_dup2 hK kX10_times_188 (q := 189) rfl ?_
              refine x_laload hK kX10_times_189 (q := 190) rfl (aX10_A1 (by omega) ?_)
              refine x_lload hK kX10_times_190 (q := 192) rfl rfl ?_
              rw [uA_g, eij, hTj, hT0']
              refine x_ladd hK kX10_times_192 (q := 193) rfl ?_
              rw [Int.zero_add]
              refine x_lastore hK kX10_times_193 (q := 194) rfl (yX10_A1 (by omega) ?_)
              refine x_iinc hK kX10_times_194 (q := 197) rfl rfl ?_
              simp only [lS, lS2, clr_0, clr_I, clr_L, clr_R]
              refine x_goto hK kX10_times_197 (tg := 91) rfl ?_
              rw [uA_g, uA_u, show (i : Int) + 1 = ((i + 1 : Nat) : Int) by omega]
              refine ih (i + 1) _ _ _ _ _ _ (by omega) ?_ ?_ (fun l l1 l2 => ?_)
              · intro l hl
                rw [Int.zero_add]
                rcases Nat.lt_or_ge l i with g | g
                · rw [uI_n _ _ (by omega), hjo l (Or.inl g)]
                  have := hTr l (by omega)
                  rw [Int.zero_add] at this
                  exact this
                · rcases Nat.lt_or_ge l (i + j) with g3 | g3
                  · rw [uI_n _ _ (by omega)]
                    have := hjr (l - i) (by omega)
                    rw [show (i : Int) + ((l - i : Nat) : Int) = (l : Int) by omega] at this
                    exact this
                  · rw [show l = i + j by omega, uI_s]
                    exact hc
              · rw [show i + 1 + j = i + (j + 1) by omega, vl_split i (j + 1), Int.zero_add, vl_one, eij, uI_s, vl_cong (f := T) (g := uI T ((i + j : Nat) : Int) c) (o := (i : Int)) (o' := (i : Int)) (fun l hl => uI_n _ _ (by omega)), vl_cong (f := T0) (g := uI T ((i + j : Nat) : Int) c) (o := 0) (o' := 0) (fun l hl => by rw [Int.zero_add, uI_n _ _ (by omega)]; exact hjo l (Or.inl hl)), hv]
                have h5 := vl_split (f := T0) (o := 0) i j
                rw [Int.zero_add] at h5
                rw [h5] at hTv
                rw [vl_one, ← zv]
                rw [Int.add_mul (vl (A 0) (q * 601 + 1) i), ← hTv]
                grind
              · rw [uI_n _ _ (by omega), hjo l (Or.inr (by omega))]
                exact hT0 l (by omega) l2
            · exact absurd (Int.le_refl _) c108
          | succ e ih2 =>
            intro j T c u13 u14 hj hc hjr hjo hv
            have wj : w32 (j : Int) := by constructor <;> omega
            have wz := zr j (by omega)
            have eij : (i : Int) + j = ((i + j : Nat) : Int) := by omega
            have hTj := hjo (i + j) (Or.inr (Nat.le_refl _))
            have wT := hTr (i + j) (by omega)
            rw [Int.zero_add] at wT
            have m0 := Int.mul_nonneg wy.1 wz.1
            have m1 := Int.mul_le_mul (show A 0 (q * 601 + 1 + i) ≤ 268435455 by omega) (show A 0 (r * 601 + 1 + j) ≤ 268435455 by omega) wz.1 (by decide)
            have next : ∀ (x : Int) (u13 u14 : Option eV), x = T0 ((i + j : Nat) : Int) + A 0 (q * 601 + 1 + i) * A 0 (r * 601 + 1 + j) + c → K 104 [some eRR, some (eI p), some (eI q), some (eI r), some (eI n), some (eI k), some (eI (zSgn y * zSgn z)), some (eI (q * 601 + 1)), some (eI (r * 601 + 1)), some (eI i), some (eL (x / 2 ^ 28)), none, some (eI ((j : Int) + 1)), u13, u14] [] (cR F (uA A 1 (uI T ((i + j : Nat) : Int) (x % 2 ^ 28)))) := by
              intro x u13 u14 hx
              rw [e28, show (j : Int) + 1 = ((j + 1 : Nat) : Int) by omega]
              refine ih2 (j + 1) _ _ u13 u14 (by omega) (by omega) ?_ ?_ ?_
              · intro l hl
                rcases Nat.lt_or_ge l j with g | g
                · rw [uI_n _ _ (by omega)]; exact hjr l g
                · rw [show (i : Int) + (l : Int) = ((i + j : Nat) : Int) by omega, uI_s]
                  show 0 ≤ x % 268435456 ∧ x % 268435456 < 268435456
                  omega
              · intro l hl
                rw [uI_n _ _ (by omega)]
                exact hjo l (by omega)
              · rw [vl_one, vl_one, vl_one, eij, uI_s, vl_cong (f := T) (g := uI T ((i + j : Nat) : Int) (x % 268435456)) (fun l hl => uI_n _ _ (by omega)), bB_succ]
                exact ti_alg _ _ x _ _ _ _ _ _ bB hv hx _ _ (by rw [b0]; omega)
            refine x_iload hK kX10_times_104 (q := 106) rfl rfl ?_
            refine x_iload hK kX10_times_106 (q := 108) rfl rfl ?_
            refine x_icmp_ge hK kX10_times_108 (q := 111) rfl (tg := 179) rfl (by exact ⟨wj, w1⟩) (fun c108 => ?_) (fun c108 => ?_)
            · exact absurd c108 (by omega)
            · refine x_aload_n hK kX10_times_111 (q := 112) rfl rfl ?_
              refine x_getfield hK kX10_times_112 (q := 115) rfl (gX10_16 ?_)
              refine x_iload hK kX10_times_115 (q := 117) rfl rfl ?_
              refine x_iload hK kX10_times_117 (q := 119) rfl rfl ?_
              refine x_iadd hK kX10_times_119 (q := 120) rfl ?_
              refine x_laload hK kX10_times_120 (q := 121) rfl (aX10_A1 (by omega) ?_)
              rw [uA_g, eij, hTj]
              refine x_aload_n hK kX10_times_121 (q := 122) rfl rfl ?_
              refine x_getfield hK kX10_times_122 (q := 125) rfl (gX10_12 ?_)
              refine x_iload hK kX10_times_125 (q := 127) rfl rfl ?_
              refine x_iload hK kX10_times_127 (q := 129) rfl rfl ?_
              refine x_iadd hK kX10_times_129 (q := 130) rfl ?_
              refine x_iaload hK kX10_times_130 (q := 131) rfl (aX10_A0 (by omega) ?_)
              rw [hA1]
              refine x_i2l hK kX10_times_131 (q := 132) rfl (by constructor <;> omega) ?_
              refine x_aload_n hK kX10_times_132 (q := 133) rfl rfl ?_
              refine x_getfield hK kX10_times_133 (q := 136) rfl (gX10_12 ?_)
              refine x_iload hK kX10_times_136 (q := 138) rfl rfl ?_
              refine x_iload hK kX10_times_138 (q := 140) rfl rfl ?_
              refine x_iadd hK kX10_times_140 (q := 141) rfl ?_
              refine x_iaload hK kX10_times_141 (q := 142) rfl (aX10_A0 (by omega) ?_)
              rw [hA1]
              refine x_i2l hK kX10_times_142 (q := 143) rfl (by constructor <;> omega) ?_
              refine x_lmul hK kX10_times_143 (q := 144) rfl ?_
              refine x_ladd hK kX10_times_144 (q := 145) rfl ?_
              refine x_lload hK kX10_times_145 (q := 147) rfl rfl ?_
              refine x_ladd hK kX10_times_147 (q := 148) rfl ?_
              refine x_lstore hK kX10_times_148 (q := 150) rfl ?_
              refine x_aload_n hK kX10_times_150 (q := 151) rfl rfl ?_
              refine x_getfield hK kX10_times_151 (q := 154) rfl (gX10_16 ?_)
              refine x_iload hK kX10_times_154 (q := 156) rfl rfl ?_
              refine x_iload hK kX10_times_156 (q := 158) rfl rfl ?_
              refine x_iadd hK kX10_times_158 (q := 159) rfl ?_
              refine x_lload hK kX10_times_159 (q := 161) rfl rfl ?_
              refine x_ldc2_w hK kX10_times_161 (q := 164) rfl lc2_RX10_73 ?_
              refine x_land hK kX10_times_164 (q := 165) rfl ?_
              simp only [lS, lS2, clr_0, clr_I, clr_L, clr_R]
              rw [zAndL_m _ _ 28 (by decide) (by decide)]
              refine x_lastore hK kX10_times_165 (q := 166) rfl (yX10_A1 (by omega) ?_)
              refine x_lload hK kX10_times_166 (q := 168) rfl rfl ?_
              refine x_bipush hK kX10_times_168 (q := 170) rfl (by decide) ?_
              refine x_lshr hK kX10_times_170 (q := 171) rfl ?_
              rw [show zShrL (T0 ((i + j : Nat) : Int) + A 0 (q * 601 + 1 + i) * A 0 (r * 601 + 1 + j) + c) 28 = (T0 ((i + j : Nat) : Int) + A 0 (q * 601 + 1 + i) * A 0 (r * 601 + 1 + j) + c) / 2 ^ 28 from zShrL_n _ (by constructor <;> omega) 28 (by decide)]
              refine x_lstore hK kX10_times_171 (q := 173) rfl ?_
              refine x_iinc hK kX10_times_173 (q := 176) rfl rfl ?_
              simp only [lS, lS2, clr_0, clr_I, clr_L, clr_R]
              refine x_goto hK kX10_times_176 (tg := 104) rfl ?_
              rw [uA_g, uA_u]
              exact next _ _ _ rfl
        refine x_iload hK kX10_times_91 (q := 93) rfl rfl ?_
        refine x_iload hK kX10_times_93 (q := 95) rfl rfl ?_
        refine x_icmp_ge hK kX10_times_95 (q := 98) rfl (tg := 200) rfl (by exact ⟨wi, w0⟩) (fun c95 => ?_) (fun c95 => ?_)
        · exact absurd c95 (by omega)
        · refine x_lconst0 hK kX10_times_98 (q := 99) rfl ?_
          refine x_lstore hK kX10_times_99 (q := 101) rfl ?_
          refine x_iconst hK kX10_times_101 (q := 102) rfl ?_
          refine x_istore hK kX10_times_102 (q := 104) rfl ?_
          simp only [lS, lS2, clr_0, clr_I, clr_L, clr_R]
          refine inner k 0 T0 0 _ _ (by omega) (by decide) (fun j hj => absurd hj (by omega)) (fun l hl => rfl) (by simp [vl])
    have zeros : ∀ (d i : Nat) (T : Int → Int) (u8 u9 u10 u11 u12 u13 u14 : Option eV), i + d = n + k + 1 → (∀ j : Nat, j < i → T j = 0) → K 46 [some eRR, some (eI p), some (eI q), some (eI r), some (eI n), some (eI k), some (eI (zSgn y * zSgn z)), some (eI i), u8, u9, u10, u11, u12, u13, u14] [] (cR F (uA A 1 T)) := by
      intro d
      induction d with
      | zero =>
        intro i T u8 u9 u10 u11 u12 u13 u14 hi hT
        refine x_iload hK kX10_times_46 (q := 48) rfl rfl ?_
        refine x_iload hK kX10_times_48 (q := 50) rfl rfl ?_
        refine x_iload hK kX10_times_50 (q := 52) rfl rfl ?_
        refine x_iadd hK kX10_times_52 (q := 53) rfl ?_
        refine x_iconst hK kX10_times_53 (q := 54) rfl ?_
        refine x_iadd hK kX10_times_54 (q := 55) rfl ?_
        refine x_icmp_ge hK kX10_times_55 (q := 58) rfl (tg := 72) rfl (by refine ⟨?_, ?_⟩ <;> omega) (fun c55 => ?_) (fun c55 => ?_)
        · refine x_iload_n hK kX10_times_72 (q := 73) rfl rfl ?_
          refine x_cs1 hK kX10_times_73 (q := 76) rfl (stX10_times_64) (Nat.le_of_ble_eq_true rfl) ?_
          refine SX10_at_i ?_
          refine x_iconst hK kX10_times_76 (q := 77) rfl ?_
          refine x_iadd hK kX10_times_77 (q := 78) rfl ?_
          refine x_istore hK kX10_times_78 (q := 80) rfl ?_
          refine x_iload_n hK kX10_times_80 (q := 81) rfl rfl ?_
          simp only [lS, lS2, clr_0, clr_I, clr_L, clr_R]
          refine x_cs1 hK kX10_times_81 (q := 84) rfl (stX10_times_64) (Nat.le_of_ble_eq_true rfl) ?_
          refine SX10_at_i ?_
          refine x_iconst hK kX10_times_84 (q := 85) rfl ?_
          refine x_iadd hK kX10_times_85 (q := 86) rfl ?_
          refine x_istore hK kX10_times_86 (q := 88) rfl ?_
          refine x_iconst hK kX10_times_88 (q := 89) rfl ?_
          refine x_istore hK kX10_times_89 (q := 91) rfl ?_
          simp only [lS, lS2, clr_0, clr_I, clr_L, clr_R]
          exact outer n 0 T _ _ _ _ _ (by omega) (fun j hj => by rw [Int.zero_add, hT j (by omega)]; decide) (by rw [vl_0 (fun j hj => by rw [Int.zero_add]; exact hT j (by omega))]; simp [vl]) (fun j a b => hT j (by omega))
        · exact absurd c55 (by omega)
      | succ d ih =>
        intro i T u8 u9 u10 u11 u12 u13 u14 hi hT
        refine x_iload hK kX10_times_46 (q := 48) rfl rfl ?_
        refine x_iload hK kX10_times_48 (q := 50) rfl rfl ?_
        refine x_iload hK kX10_times_50 (q := 52) rfl rfl ?_
        refine x_iadd hK kX10_times_52 (q := 53) rfl ?_
        refine x_iconst hK kX10_times_53 (q := 54) rfl ?_
        refine x_iadd hK kX10_times_54 (q := 55) rfl ?_
        refine x_icmp_ge hK kX10_times_55 (q := 58) rfl (tg := 72) rfl (by refine ⟨?_, ?_⟩ <;> omega) (fun c55 => ?_) (fun c55 => ?_)
        · exact absurd c55 (by omega)
        · refine x_aload_n hK kX10_times_58 (q := 59) rfl rfl ?_
          refine x_getfield hK kX10_times_59 (q := 62) rfl (gX10_16 ?_)
          refine x_iload hK kX10_times_62 (q := 64) rfl rfl ?_
          refine x_lconst0 hK kX10_times_64 (q := 65) rfl ?_
          refine x_lastore hK kX10_times_65 (q := 66) rfl (yX10_A1 (by refine ⟨?_, ?_⟩ <;> omega) ?_)
          refine x_iinc hK kX10_times_66 (q := 69) rfl rfl ?_
          simp only [lS, lS2, clr_0, clr_I, clr_L, clr_R]
          refine x_goto hK kX10_times_69 (tg := 46) rfl ?_
          rw [uA_g, uA_u, show (i : Int) + 1 = ((i + 1 : Nat) : Int) by omega]
          refine ih (i + 1) _ _ _ _ _ _ _ _ (by omega) (fun j hj => ?_)
          rcases Nat.lt_or_ge j i with e | e
          · rw [uI_n _ _ (by omega)]; exact hT j e
          · rw [show j = i by omega, uI_s]
    refine x_iconst hK kX10_times_43 (q := 44) rfl ?_
    refine x_istore hK kX10_times_44 (q := 46) rfl ?_
    simp only [lS, lS2, clr_0, clr_I, clr_L, clr_R]
    refine x_to (zeros (n + k + 1) 0 (A 1) _ _ _ _ _ _ _ (by omega) (fun j hj => absurd hj (by omega))) rfl rfl (by rw [uA_s])
  simp only [eLoc, eE, List.length_cons, List.length_nil, List.replicate, List.cons_append, List.nil_append, Nat.reduceAdd, Nat.reduceSub]
  refine x_aload_n hK kX10_times_0 (q := 1) rfl rfl ?_
  refine x_iload_n hK kX10_times_1 (q := 2) rfl rfl ?_
  refine x_cv2 hK kX10_times_2 (q := 5) rfl (vtX10_times_75) (Nat.le_of_ble_eq_true rfl) ?_
  refine SX10_length_i hbq hwy ?_
  rw [yn]
  refine x_istore hK kX10_times_5 (q := 7) rfl ?_
  refine x_aload_n hK kX10_times_7 (q := 8) rfl rfl ?_
  refine x_iload_n hK kX10_times_8 (q := 9) rfl rfl ?_
  simp only [lS, lS2, clr_0, clr_I, clr_L, clr_R]
  refine x_cv2 hK kX10_times_9 (q := 12) rfl (vtX10_times_75) (Nat.le_of_ble_eq_true rfl) ?_
  refine SX10_length_i hbr hwz ?_
  rw [zn]
  refine x_istore hK kX10_times_12 (q := 14) rfl ?_
  refine x_aload_n hK kX10_times_14 (q := 15) rfl rfl ?_
  refine x_iload_n hK kX10_times_15 (q := 16) rfl rfl ?_
  simp only [lS, lS2, clr_0, clr_I, clr_L, clr_R]
  refine x_cv2 hK kX10_times_16 (q := 19) rfl (vtX10_times_78) (Nat.le_of_ble_eq_true rfl) ?_
  refine SX10_sign_i hbq hwy ?_
  rw [zSgn_h hy]
  refine x_aload_n hK kX10_times_19 (q := 20) rfl rfl ?_
  refine x_iload_n hK kX10_times_20 (q := 21) rfl rfl ?_
  refine x_cv2 hK kX10_times_21 (q := 24) rfl (vtX10_times_78) (Nat.le_of_ble_eq_true rfl) ?_
  refine SX10_sign_i hbr hwz ?_
  rw [zSgn_h hz]
  refine x_imul hK kX10_times_24 (q := 25) rfl ?_
  refine x_istore hK kX10_times_25 (q := 27) rfl ?_
  refine x_iload hK kX10_times_27 (q := 29) rfl rfl ?_
  simp only [lS, lS2, clr_0, clr_I, clr_L, clr_R]
  refine x_if_ne hK kX10_times_29 (q := 32) rfl (tg := 43) rfl (by unfold zSgn; constructor <;> (split <;> (try split) <;> (try split) <;> (try split) <;> decide)) (fun c29 => ?_) (fun c29 => ?_)
  · exact main (fun g => c29 (by rw [g, zSgn_0, Int.zero_mul])) (fun g => c29 (by rw [g, zSgn_0, Int.mul_zero]))
  · refine x_aload_n hK kX10_times_32 (q := 33) rfl rfl ?_
    refine x_getfield hK kX10_times_33 (q := 36) rfl (gX10_12 ?_)
    refine x_iload_n hK kX10_times_36 (q := 37) rfl rfl ?_
    refine x_cs1 hK kX10_times_37 (q := 40) rfl (stX10_times_64) (Nat.le_of_ble_eq_true rfl) ?_
    refine SX10_at_i ?_
    refine x_iconst hK kX10_times_40 (q := 41) rfl ?_
    refine x_iastore hK kX10_times_41 (q := 42) rfl (yX10_A0 (by refine ⟨?_, ?_⟩ <;> omega) ?_)
    refine x_return_ hK kX10_times_42 (by first | trivial | exact Or.inl rfl | exact Or.inr rfl) ?_
    have hyz : y * z = 0 := by
      by_cases g : y = 0
      · rw [g, Int.zero_mul]
      · by_cases g2 : z = 0
        · rw [g2, Int.mul_zero]
        · exact absurd (by rcases zSgn_in y g with e | e <;> rcases zSgn_in z g2 with e2 | e2 <;> rw [e, e2] <;> decide) c29
    refine h _ (sN_u (by decide) _) (by rw [uA_g]; intro j hj; rw [uI_n _ _ (by omega)]) ?_
    rw [uA_g, hyz]
    exact ⟨0, by decide, fun j hj => absurd hj (by omega), fun g => absurd g (by decide), Or.inl ⟨uI_s _ _ _, rfl⟩⟩
set_option maxRecDepth 20000 in
theorem mX10_times : eMet yX10_times cX10_times 15 none 2 42 SX10_times := eMet_of (by decide +kernel) sX10_times kX10_times_ok caX10_times tb_RX10
theorem wX10_times : eWV yX10_times cX10_times 15 none 4 9 SX10_times := ⟨(gW_at 1152 (by decide +kernel) rfl), (gW_at 89 (by decide +kernel) rfl), (gW_at 1151 (by decide +kernel) rfl), ⟨_, rfl, (gW_at 51 (by decide +kernel) rfl)⟩, by decide +kernel, SX10_times_r⟩
