/-! Wholes: setProduct. -/
theorem vL_set {f : Int → Int} {p : Nat} (x : Int) : ∀ {n : Nat}, p < n → vL (uI f p x) n = vL f n + (x - f p) * cB ^ p
  | 0, h => absurd h (Nat.not_lt_zero _)
  | n + 1, h => by
    rw [vL, vL]
    rcases Nat.lt_or_ge p n with q | q
    · rw [vL_set x q, uI_n _ _ (by omega)]
      omega
    · have : p = n := by omega
      subst this
      rw [uI_s, vL_cong (f := f) (fun k hk => uI_n _ _ (by omega))]
      grind
theorem lR_set {f : Int → Int} {n : Nat} {p x : Int} (h : lR f n) (hx : 0 ≤ x ∧ x < 2147483648) : lR (uI f p x) n := fun k hk => by
  rcases Decidable.em ((k : Int) = p) with q | q
  · rw [q, uI_s]; exact hx
  · rw [uI_n _ _ q]; exact h k hk
theorem mul_lt {a b : Int} (ha : 0 ≤ a ∧ a < 2147483648) (hb : 0 ≤ b ∧ b < 2147483648) : 0 ≤ a * b ∧ a * b ≤ 4611686014132420609 := by
  refine ⟨Int.mul_nonneg ha.1 hb.1, ?_⟩
  have := Int.mul_le_mul (show a ≤ 2147483647 by omega) (show b ≤ 2147483647 by omega) hb.1 (by decide)
  omega
def SX8_setProduct : eSp := fun as M rt => ∃ (F : Nat → Int) (A W : Nat → Int → Int) (k a b : Nat) (x y : Int) (p q : Nat), as = [eR (2, k), eR (2, a), eR (2, b)] ∧ M = cC F A W ∧ (k < 332) ∧ (a < 332) ∧ (b < 332) ∧ (a ≠ k) ∧ (b ≠ k) ∧ (wq (lw a) (W a) x) ∧ (wq (lw b) (W b) y) ∧ (zAbs x < cB ^ p) ∧ (zAbs y < cB ^ q) ∧ (p + q ≤ lw k) ∧ (∀ f, wq (lw k) f (x * y) → rt none (cC F A (uA W k f)))
theorem SX8_setProduct_i {F : Nat → Int} {A W : Nat → Int → Int} {k a b : Nat} {x y : Int} {p q : Nat} {rt : Option eV → eM → Prop} (hk : k < 332) (ha : a < 332) (hb : b < 332) (na : a ≠ k) (nb : b ≠ k) (hx : wq (lw a) (W a) x) (hy : wq (lw b) (W b) y) (hp : zAbs x < cB ^ p) (hq : zAbs y < cB ^ q) (hpq : p + q ≤ lw k) (h : ∀ f, wq (lw k) f (x * y) → rt none (cC F A (uA W k f))) : SX8_setProduct [eR (2, k), eR (2, a), eR (2, b)] (cC F A W) rt := ⟨F, A, W, k, a, b, x, y, p, q, rfl, rfl, hk, ha, hb, na, nb, hx, hy, hp, hq, hpq, h⟩
theorem SX8_setProduct_r : ∀ as M rt, SX8_setProduct as M rt → ∃ a r fs, as = eR a :: r ∧ M a = some (.inl (7, fs)) := by
  rintro as M rt ⟨F, A, W, k, a, b, x, y, p, q, rfl, rfl, hk, -⟩
  exact ⟨_, _, _, rfl, cC_2 hk⟩
def kX8_setProduct : List (Nat × Jvm.ClassFile.Instr × Nat) := [(0, .aload_n 0, 1), (1, .aload_n 1, 1), (2, .getfield 9, 3), (5, .aload_n 2, 1), (6, .getfield 9, 3), (9, .iadd, 1), (10, .aload_n 0, 1), (11, .getfield 22, 3), (14, .arraylength, 1), (15, .invokestatic 45, 3), (18, .putfield 9, 3), (21, .aload_n 0, 1), (22, .aload_n 1, 1), (23, .getfield 13, 3), (26, .aload_n 2, 1), (27, .getfield 13, 3), (30, .imul, 1), (31, .putfield 13, 3), (34, .iconst 0, 1), (35, .istore_n 3, 1), (36, .iload_n 3, 1), (37, .aload_n 0, 1), (38, .getfield 9, 3), (41, .if_icmp .ge 25, 3), (44, .iload_n 3, 1), (45, .aload_n 0, 1), (46, .getfield 22, 3), (49, .arraylength, 1), (50, .if_icmp .ge 16, 3), (53, .aload_n 0, 1), (54, .getfield 22, 3), (57, .iload_n 3, 1), (58, .iconst 0, 1), (59, .iastore, 1), (60, .iinc 3 1, 3), (63, .goto (-27), 3), (66, .iconst 0, 1), (67, .istore_n 3, 1), (68, .iload_n 3, 1), (69, .aload_n 1, 1), (70, .getfield 9, 3), (73, .if_icmp .ge 148, 3), (76, .iload_n 3, 1), (77, .aload_n 1, 1), (78, .getfield 22, 3), (81, .arraylength, 1), (82, .if_icmp .ge 139, 3), (85, .aload_n 1, 1), (86, .getfield 22, 3), (89, .iload_n 3, 1), (90, .iaload, 1), (91, .i2l, 1), (92, .lstore 4, 2), (94, .lconst 0, 1), (95, .lstore 6, 2), (97, .iconst 0, 1), (98, .istore 8, 2), (100, .iload 8, 2), (102, .aload_n 2, 1), (103, .getfield 9, 3), (106, .if_icmp .ge 81, 3), (109, .iload 8, 2), (111, .aload_n 2, 1), (112, .getfield 22, 3), (115, .arraylength, 1), (116, .if_icmp .ge 71, 3), (119, .iload_n 3, 1), (120, .iload 8, 2), (122, .iadd, 1), (123, .aload_n 0, 1), (124, .getfield 22, 3), (127, .arraylength, 1), (128, .if_icmp .ge 59, 3), (131, .lload 4, 2), (133, .aload_n 2, 1), (134, .getfield 22, 3), (137, .iload 8, 2), (139, .iaload, 1), (140, .i2l, 1), (141, .lmul, 1), (142, .aload_n 0, 1), (143, .getfield 22, 3), (146, .iload_n 3, 1), (147, .iload 8, 2), (149, .iadd, 1), (150, .iaload, 1), (151, .i2l, 1), (152, .ladd, 1), (153, .lload 6, 2), (155, .ladd, 1), (156, .lstore 9, 2), (158, .aload_n 0, 1), (159, .getfield 22, 3), (162, .iload_n 3, 1), (163, .iload 8, 2), (165, .iadd, 1), (166, .lload 9, 2), (168, .ldc2_w 43, 3), (171, .land, 1), (172, .l2i, 1), (173, .iastore, 1), (174, .lload 9, 2), (176, .bipush 31, 2), (178, .lshr, 1), (179, .lstore 6, 2), (181, .iinc 8 1, 3), (184, .goto (-84), 3), (187, .iload_n 3, 1), (188, .aload_n 2, 1), (189, .getfield 9, 3), (192, .iadd, 1), (193, .aload_n 0, 1), (194, .getfield 22, 3), (197, .arraylength, 1), (198, .if_icmp .ge 17, 3), (201, .aload_n 0, 1), (202, .getfield 22, 3), (205, .iload_n 3, 1), (206, .aload_n 2, 1), (207, .getfield 9, 3), (210, .iadd, 1), (211, .lload 6, 2), (213, .l2i, 1), (214, .iastore, 1), (215, .iinc 3 1, 3), (218, .goto (-150), 3), (221, .aload_n 0, 1), (222, .invokevirtual 48, 3), (225, .return_, 1)]
theorem kX8_setProduct_0 : cdOf kX8_setProduct 0 = some (.aload_n 0, 1) := by decide +kernel
theorem kX8_setProduct_1 : cdOf kX8_setProduct 1 = some (.aload_n 1, 1) := by decide +kernel
theorem kX8_setProduct_2 : cdOf kX8_setProduct 2 = some (.getfield 9, 3) := by decide +kernel
theorem kX8_setProduct_5 : cdOf kX8_setProduct 5 = some (.aload_n 2, 1) := by decide +kernel
theorem kX8_setProduct_6 : cdOf kX8_setProduct 6 = some (.getfield 9, 3) := by decide +kernel
theorem kX8_setProduct_9 : cdOf kX8_setProduct 9 = some (.iadd, 1) := by decide +kernel
theorem kX8_setProduct_10 : cdOf kX8_setProduct 10 = some (.aload_n 0, 1) := by decide +kernel
theorem kX8_setProduct_11 : cdOf kX8_setProduct 11 = some (.getfield 22, 3) := by decide +kernel
theorem kX8_setProduct_14 : cdOf kX8_setProduct 14 = some (.arraylength, 1) := by decide +kernel
theorem kX8_setProduct_15 : cdOf kX8_setProduct 15 = some (.invokestatic 45, 3) := by decide +kernel
theorem kX8_setProduct_18 : cdOf kX8_setProduct 18 = some (.putfield 9, 3) := by decide +kernel
theorem kX8_setProduct_21 : cdOf kX8_setProduct 21 = some (.aload_n 0, 1) := by decide +kernel
theorem kX8_setProduct_22 : cdOf kX8_setProduct 22 = some (.aload_n 1, 1) := by decide +kernel
theorem kX8_setProduct_23 : cdOf kX8_setProduct 23 = some (.getfield 13, 3) := by decide +kernel
theorem kX8_setProduct_26 : cdOf kX8_setProduct 26 = some (.aload_n 2, 1) := by decide +kernel
theorem kX8_setProduct_27 : cdOf kX8_setProduct 27 = some (.getfield 13, 3) := by decide +kernel
theorem kX8_setProduct_30 : cdOf kX8_setProduct 30 = some (.imul, 1) := by decide +kernel
theorem kX8_setProduct_31 : cdOf kX8_setProduct 31 = some (.putfield 13, 3) := by decide +kernel
theorem kX8_setProduct_34 : cdOf kX8_setProduct 34 = some (.iconst 0, 1) := by decide +kernel
theorem kX8_setProduct_35 : cdOf kX8_setProduct 35 = some (.istore_n 3, 1) := by decide +kernel
theorem kX8_setProduct_36 : cdOf kX8_setProduct 36 = some (.iload_n 3, 1) := by decide +kernel
theorem kX8_setProduct_37 : cdOf kX8_setProduct 37 = some (.aload_n 0, 1) := by decide +kernel
theorem kX8_setProduct_38 : cdOf kX8_setProduct 38 = some (.getfield 9, 3) := by decide +kernel
theorem kX8_setProduct_41 : cdOf kX8_setProduct 41 = some (.if_icmp .ge 25, 3) := by decide +kernel
theorem kX8_setProduct_44 : cdOf kX8_setProduct 44 = some (.iload_n 3, 1) := by decide +kernel
theorem kX8_setProduct_45 : cdOf kX8_setProduct 45 = some (.aload_n 0, 1) := by decide +kernel
theorem kX8_setProduct_46 : cdOf kX8_setProduct 46 = some (.getfield 22, 3) := by decide +kernel
theorem kX8_setProduct_49 : cdOf kX8_setProduct 49 = some (.arraylength, 1) := by decide +kernel
theorem kX8_setProduct_50 : cdOf kX8_setProduct 50 = some (.if_icmp .ge 16, 3) := by decide +kernel
theorem kX8_setProduct_53 : cdOf kX8_setProduct 53 = some (.aload_n 0, 1) := by decide +kernel
theorem kX8_setProduct_54 : cdOf kX8_setProduct 54 = some (.getfield 22, 3) := by decide +kernel
theorem kX8_setProduct_57 : cdOf kX8_setProduct 57 = some (.iload_n 3, 1) := by decide +kernel
theorem kX8_setProduct_58 : cdOf kX8_setProduct 58 = some (.iconst 0, 1) := by decide +kernel
theorem kX8_setProduct_59 : cdOf kX8_setProduct 59 = some (.iastore, 1) := by decide +kernel
theorem kX8_setProduct_60 : cdOf kX8_setProduct 60 = some (.iinc 3 1, 3) := by decide +kernel
theorem kX8_setProduct_63 : cdOf kX8_setProduct 63 = some (.goto (-27), 3) := by decide +kernel
theorem kX8_setProduct_66 : cdOf kX8_setProduct 66 = some (.iconst 0, 1) := by decide +kernel
theorem kX8_setProduct_67 : cdOf kX8_setProduct 67 = some (.istore_n 3, 1) := by decide +kernel
theorem kX8_setProduct_68 : cdOf kX8_setProduct 68 = some (.iload_n 3, 1) := by decide +kernel
theorem kX8_setProduct_69 : cdOf kX8_setProduct 69 = some (.aload_n 1, 1) := by decide +kernel
theorem kX8_setProduct_70 : cdOf kX8_setProduct 70 = some (.getfield 9, 3) := by decide +kernel
theorem kX8_setProduct_73 : cdOf kX8_setProduct 73 = some (.if_icmp .ge 148, 3) := by decide +kernel
theorem kX8_setProduct_76 : cdOf kX8_setProduct 76 = some (.iload_n 3, 1) := by decide +kernel
theorem kX8_setProduct_77 : cdOf kX8_setProduct 77 = some (.aload_n 1, 1) := by decide +kernel
theorem kX8_setProduct_78 : cdOf kX8_setProduct 78 = some (.getfield 22, 3) := by decide +kernel
theorem kX8_setProduct_81 : cdOf kX8_setProduct 81 = some (.arraylength, 1) := by decide +kernel
theorem kX8_setProduct_82 : cdOf kX8_setProduct 82 = some (.if_icmp .ge 139, 3) := by decide +kernel
theorem kX8_setProduct_85 : cdOf kX8_setProduct 85 = some (.aload_n 1, 1) := by decide +kernel
theorem kX8_setProduct_86 : cdOf kX8_setProduct 86 = some (.getfield 22, 3) := by decide +kernel
theorem kX8_setProduct_89 : cdOf kX8_setProduct 89 = some (.iload_n 3, 1) := by decide +kernel
theorem kX8_setProduct_90 : cdOf kX8_setProduct 90 = some (.iaload, 1) := by decide +kernel
theorem kX8_setProduct_91 : cdOf kX8_setProduct 91 = some (.i2l, 1) := by decide +kernel
theorem kX8_setProduct_92 : cdOf kX8_setProduct 92 = some (.lstore 4, 2) := by decide +kernel
theorem kX8_setProduct_94 : cdOf kX8_setProduct 94 = some (.lconst 0, 1) := by decide +kernel
theorem kX8_setProduct_95 : cdOf kX8_setProduct 95 = some (.lstore 6, 2) := by decide +kernel
theorem kX8_setProduct_97 : cdOf kX8_setProduct 97 = some (.iconst 0, 1) := by decide +kernel
theorem kX8_setProduct_98 : cdOf kX8_setProduct 98 = some (.istore 8, 2) := by decide +kernel
theorem kX8_setProduct_100 : cdOf kX8_setProduct 100 = some (.iload 8, 2) := by decide +kernel
theorem kX8_setProduct_102 : cdOf kX8_setProduct 102 = some (.aload_n 2, 1) := by decide +kernel
theorem kX8_setProduct_103 : cdOf kX8_setProduct 103 = some (.getfield 9, 3) := by decide +kernel
theorem kX8_setProduct_106 : cdOf kX8_setProduct 106 = some (.if_icmp .ge 81, 3) := by decide +kernel
theorem kX8_setProduct_109 : cdOf kX8_setProduct 109 = some (.iload 8, 2) := by decide +kernel
theorem kX8_setProduct_111 : cdOf kX8_setProduct 111 = some (.aload_n 2, 1) := by decide +kernel
theorem kX8_setProduct_112 : cdOf kX8_setProduct 112 = some (.getfield 22, 3) := by decide +kernel
theorem kX8_setProduct_115 : cdOf kX8_setProduct 115 = some (.arraylength, 1) := by decide +kernel
theorem kX8_setProduct_116 : cdOf kX8_setProduct 116 = some (.if_icmp .ge 71, 3) := by decide +kernel
theorem kX8_setProduct_119 : cdOf kX8_setProduct 119 = some (.iload_n 3, 1) := by decide +kernel
theorem kX8_setProduct_120 : cdOf kX8_setProduct 120 = some (.iload 8, 2) := by decide +kernel
theorem kX8_setProduct_122 : cdOf kX8_setProduct 122 = some (.iadd, 1) := by decide +kernel
theorem kX8_setProduct_123 : cdOf kX8_setProduct 123 = some (.aload_n 0, 1) := by decide +kernel
theorem kX8_setProduct_124 : cdOf kX8_setProduct 124 = some (.getfield 22, 3) := by decide +kernel
theorem kX8_setProduct_127 : cdOf kX8_setProduct 127 = some (.arraylength, 1) := by decide +kernel
theorem kX8_setProduct_128 : cdOf kX8_setProduct 128 = some (.if_icmp .ge 59, 3) := by decide +kernel
theorem kX8_setProduct_131 : cdOf kX8_setProduct 131 = some (.lload 4, 2) := by decide +kernel
theorem kX8_setProduct_133 : cdOf kX8_setProduct 133 = some (.aload_n 2, 1) := by decide +kernel
theorem kX8_setProduct_134 : cdOf kX8_setProduct 134 = some (.getfield 22, 3) := by decide +kernel
theorem kX8_setProduct_137 : cdOf kX8_setProduct 137 = some (.iload 8, 2) := by decide +kernel
theorem kX8_setProduct_139 : cdOf kX8_setProduct 139 = some (.iaload, 1) := by decide +kernel
theorem kX8_setProduct_140 : cdOf kX8_setProduct 140 = some (.i2l, 1) := by decide +kernel
theorem kX8_setProduct_141 : cdOf kX8_setProduct 141 = some (.lmul, 1) := by decide +kernel
theorem kX8_setProduct_142 : cdOf kX8_setProduct 142 = some (.aload_n 0, 1) := by decide +kernel
theorem kX8_setProduct_143 : cdOf kX8_setProduct 143 = some (.getfield 22, 3) := by decide +kernel
theorem kX8_setProduct_146 : cdOf kX8_setProduct 146 = some (.iload_n 3, 1) := by decide +kernel
theorem kX8_setProduct_147 : cdOf kX8_setProduct 147 = some (.iload 8, 2) := by decide +kernel
theorem kX8_setProduct_149 : cdOf kX8_setProduct 149 = some (.iadd, 1) := by decide +kernel
theorem kX8_setProduct_150 : cdOf kX8_setProduct 150 = some (.iaload, 1) := by decide +kernel
theorem kX8_setProduct_151 : cdOf kX8_setProduct 151 = some (.i2l, 1) := by decide +kernel
theorem kX8_setProduct_152 : cdOf kX8_setProduct 152 = some (.ladd, 1) := by decide +kernel
theorem kX8_setProduct_153 : cdOf kX8_setProduct 153 = some (.lload 6, 2) := by decide +kernel
theorem kX8_setProduct_155 : cdOf kX8_setProduct 155 = some (.ladd, 1) := by decide +kernel
theorem kX8_setProduct_156 : cdOf kX8_setProduct 156 = some (.lstore 9, 2) := by decide +kernel
theorem kX8_setProduct_158 : cdOf kX8_setProduct 158 = some (.aload_n 0, 1) := by decide +kernel
theorem kX8_setProduct_159 : cdOf kX8_setProduct 159 = some (.getfield 22, 3) := by decide +kernel
theorem kX8_setProduct_162 : cdOf kX8_setProduct 162 = some (.iload_n 3, 1) := by decide +kernel
theorem kX8_setProduct_163 : cdOf kX8_setProduct 163 = some (.iload 8, 2) := by decide +kernel
theorem kX8_setProduct_165 : cdOf kX8_setProduct 165 = some (.iadd, 1) := by decide +kernel
theorem kX8_setProduct_166 : cdOf kX8_setProduct 166 = some (.lload 9, 2) := by decide +kernel
theorem kX8_setProduct_168 : cdOf kX8_setProduct 168 = some (.ldc2_w 43, 3) := by decide +kernel
theorem kX8_setProduct_171 : cdOf kX8_setProduct 171 = some (.land, 1) := by decide +kernel
theorem kX8_setProduct_172 : cdOf kX8_setProduct 172 = some (.l2i, 1) := by decide +kernel
theorem kX8_setProduct_173 : cdOf kX8_setProduct 173 = some (.iastore, 1) := by decide +kernel
theorem kX8_setProduct_174 : cdOf kX8_setProduct 174 = some (.lload 9, 2) := by decide +kernel
theorem kX8_setProduct_176 : cdOf kX8_setProduct 176 = some (.bipush 31, 2) := by decide +kernel
theorem kX8_setProduct_178 : cdOf kX8_setProduct 178 = some (.lshr, 1) := by decide +kernel
theorem kX8_setProduct_179 : cdOf kX8_setProduct 179 = some (.lstore 6, 2) := by decide +kernel
theorem kX8_setProduct_181 : cdOf kX8_setProduct 181 = some (.iinc 8 1, 3) := by decide +kernel
theorem kX8_setProduct_184 : cdOf kX8_setProduct 184 = some (.goto (-84), 3) := by decide +kernel
theorem kX8_setProduct_187 : cdOf kX8_setProduct 187 = some (.iload_n 3, 1) := by decide +kernel
theorem kX8_setProduct_188 : cdOf kX8_setProduct 188 = some (.aload_n 2, 1) := by decide +kernel
theorem kX8_setProduct_189 : cdOf kX8_setProduct 189 = some (.getfield 9, 3) := by decide +kernel
theorem kX8_setProduct_192 : cdOf kX8_setProduct 192 = some (.iadd, 1) := by decide +kernel
theorem kX8_setProduct_193 : cdOf kX8_setProduct 193 = some (.aload_n 0, 1) := by decide +kernel
theorem kX8_setProduct_194 : cdOf kX8_setProduct 194 = some (.getfield 22, 3) := by decide +kernel
theorem kX8_setProduct_197 : cdOf kX8_setProduct 197 = some (.arraylength, 1) := by decide +kernel
theorem kX8_setProduct_198 : cdOf kX8_setProduct 198 = some (.if_icmp .ge 17, 3) := by decide +kernel
theorem kX8_setProduct_201 : cdOf kX8_setProduct 201 = some (.aload_n 0, 1) := by decide +kernel
theorem kX8_setProduct_202 : cdOf kX8_setProduct 202 = some (.getfield 22, 3) := by decide +kernel
theorem kX8_setProduct_205 : cdOf kX8_setProduct 205 = some (.iload_n 3, 1) := by decide +kernel
theorem kX8_setProduct_206 : cdOf kX8_setProduct 206 = some (.aload_n 2, 1) := by decide +kernel
theorem kX8_setProduct_207 : cdOf kX8_setProduct 207 = some (.getfield 9, 3) := by decide +kernel
theorem kX8_setProduct_210 : cdOf kX8_setProduct 210 = some (.iadd, 1) := by decide +kernel
theorem kX8_setProduct_211 : cdOf kX8_setProduct 211 = some (.lload 6, 2) := by decide +kernel
theorem kX8_setProduct_213 : cdOf kX8_setProduct 213 = some (.l2i, 1) := by decide +kernel
theorem kX8_setProduct_214 : cdOf kX8_setProduct 214 = some (.iastore, 1) := by decide +kernel
theorem kX8_setProduct_215 : cdOf kX8_setProduct 215 = some (.iinc 3 1, 3) := by decide +kernel
theorem kX8_setProduct_218 : cdOf kX8_setProduct 218 = some (.goto (-150), 3) := by decide +kernel
theorem kX8_setProduct_221 : cdOf kX8_setProduct 221 = some (.aload_n 0, 1) := by decide +kernel
theorem kX8_setProduct_222 : cdOf kX8_setProduct 222 = some (.invokevirtual 48, 3) := by decide +kernel
theorem kX8_setProduct_225 : cdOf kX8_setProduct 225 = some (.return_, 1) := by decide +kernel
set_option maxRecDepth 20000 in
theorem kX8_setProduct_ok : ∀ pc i len, cdOf kX8_setProduct pc = some (i, len) → decode cX8_setProduct pc = .ok (i, len) ∧ stOK 11 i = true ∧ jOK pc i = true ∧ eLen i len = true := cdOf_ok cX8_setProduct 11 kX8_setProduct (by decide +kernel)
def vtX8_setProduct : Nat → Option (Nat × eSp) := fun k => match k with
  | 48 => some (1, SX8_trim)
  | _ => none
theorem vtX8_setProduct_48 : vtX8_setProduct 48 = some (1, SX8_trim) := rfl
def stX8_setProduct : Nat → Option (Nat × eSp) := fun k => match k with
  | 45 => some (2, sMin)
  | _ => none
theorem stX8_setProduct_45 : stX8_setProduct 45 = some (2, sMin) := rfl
abbrev TX8_setProduct : eT := (fl_RX8, cl_RX8, dl_RX8, vtX8_setProduct, stX8_setProduct)
set_option maxRecDepth 20000 in
theorem caX8_setProduct : eCalls RX8 { frames := 1, cells := 0, slots := 0, locals := 21 } TX8_setProduct := by
  refine ⟨fun k n sp h => ?_, fun k n sp h => ?_⟩
  · dsimp only [TX8_setProduct] at h
    unfold vtX8_setProduct at h
    split at h
    · cases h; exact eV_mk mX8_trim wX8_trim (by decide +kernel) (Or.inl (gW_at 533 (by decide +kernel) rfl))
    · cases h
  · dsimp only [TX8_setProduct] at h
    unfold stX8_setProduct at h
    split at h
    · cases h; exact eS_min (by decide +kernel) (gW_at 530 (by decide +kernel) rfl) (gW_at 531 (by decide +kernel) rfl) (gW_at 82 (by decide +kernel) rfl) (gW_at 532 (by decide +kernel) rfl)
    · cases h
set_option maxRecDepth 100000 in
set_option maxHeartbeats 4000000 in
theorem sX8_setProduct : eSafe TX8_setProduct (cdOf kX8_setProduct) 11 none SX8_setProduct := by
  intro K rt hK as M h
  obtain ⟨F, A, W, k, a, b, x, y, p, q, rfl, rfl, hk, ha, hb, na, nb, hx, hy, hp, hq, hpq, h⟩ := h
  refine ⟨by simp [eE], ?_⟩
  obtain ⟨n, n8, b1, c, d, e1, e2⟩ := hx
  obtain ⟨m, m8, b1', c', d', f1, f2⟩ := hy
  have hn' := wq_n c d e1
  have hm := wq_n c' d' f1
  have lk := lw_b k
  have la := lw_b a
  have lb := lw_b b
  have np : n ≤ p := nl_le hn'.2.2 hp
  have mq : m ≤ q := nl_le hm.2.2 hq
  have ta : ∀ f, uA W k f a = W a := fun f => uA_n _ _ na
  have tb : ∀ f, uA W k f b = W b := fun f => uA_n _ _ nb
  obtain ⟨N, hN⟩ : ∃ N : Nat, n + m = N := ⟨_, rfl⟩
  have sgn : zSg x * zSg y = zSg (x * y) := by
    rcases zSg_c x with g | g | g <;> rcases zSg_c y with g2 | g2 | g2 <;> rw [g.2.1, g2.2.1]
    · have := Int.mul_pos_of_neg_of_neg g.1 g2.1
      unfold zSg; rw [if_neg (by omega), if_neg (by omega)]; rfl
    · rw [show x * y = 0 by rw [g2.1, Int.mul_zero]]; rfl
    · have := Int.mul_neg_of_neg_of_pos g.1 g2.1
      unfold zSg; rw [if_pos (by omega)]; rfl
    · rw [show x * y = 0 by rw [g.1, Int.zero_mul]]; rfl
    · rw [show x * y = 0 by rw [g.1, Int.zero_mul]]; rfl
    · rw [show x * y = 0 by rw [g.1, Int.zero_mul]]; rfl
    · have := Int.mul_neg_of_pos_of_neg g.1 g2.1
      unfold zSg; rw [if_pos (by omega)]; rfl
    · rw [show x * y = 0 by rw [g2.1, Int.mul_zero]]; rfl
    · have := Int.mul_pos g.1 g2.1
      unfold zSg; rw [if_neg (by omega), if_neg (by omega)]; rfl
  -- one limb of the first
  have inner : ∀ (i : Nat) (f0 : Int → Int), i < n → vL f0 N = vL (W a) i * vL (W b) m →
      (∀ f : Int → Int, f 80 = N → f 81 = zSg x * zSg y → lR f N → (∀ t : Nat, i + 1 + m ≤ t → t < N → f t = 0) → vL f N = vL (W a) (i + 1) * vL (W b) m → ∀ u4 u5 u6 u7 u8 u9, K 68 [some (eR (2, k)), some (eR (2, a)), some (eR (2, b)), some (eI ((i + 1 : Nat) : Int)), u4, u5, u6, u7, u8, u9, none] [] (cC F A (uA W k f))) →
      ∀ (d j : Nat) (f : Int → Int) (cr : Int) (u9 : Option eV), j + d = m → f 80 = N → f 81 = zSg x * zSg y → lR f N → (∀ t : Nat, i + m ≤ t → t < N → f t = 0) → 0 ≤ cr → cr < 2147483648 → vL f N + cr * cB ^ (i + j) = vL f0 N + W a i * vL (W b) j * cB ^ i →
      K 100 [some (eR (2, k)), some (eR (2, a)), some (eR (2, b)), some (eI i), some (eL (W a i)), none, some (eL cr), none, some (eI j), u9, none] [] (cC F A (uA W k f)) := by
    intro i f0 hi hv0 cont d
    have r1 : 0 ≤ W a i ∧ W a i < 2147483648 := c i hi
    induction d with
    | zero =>
      intro j f cr u9 hd h80 h81 hr hz c0 c1 hv
      have : j = m := by omega
      subst this
      have hf0 : f ((i + j : Nat) : Int) = 0 := hz (i + j) (Nat.le_refl _) (by omega)
      refine x_iload hK kX8_setProduct_100 (q := 102) rfl rfl ?_
      refine x_aload_n hK kX8_setProduct_102 (q := 103) rfl rfl ?_
      refine x_getfield hK kX8_setProduct_103 (q := 106) rfl (gX8_9 ?_)
      rw [tb, b1']
      refine x_icmp_ge hK kX8_setProduct_106 (q := 109) rfl (tg := 187) rfl (by refine ⟨?_, ?_⟩ <;> omega) (fun c106 => ?_) (fun c106 => ?_)
      · refine x_iload_n hK kX8_setProduct_187 (q := 188) rfl rfl ?_
        refine x_aload_n hK kX8_setProduct_188 (q := 189) rfl rfl ?_
        refine x_getfield hK kX8_setProduct_189 (q := 192) rfl (gX8_9 ?_)
        rw [tb, b1']
        refine x_iadd hK kX8_setProduct_192 (q := 193) rfl ?_
        refine x_aload_n hK kX8_setProduct_193 (q := 194) rfl rfl ?_
        refine x_getfield hK kX8_setProduct_194 (q := 197) rfl (gX8_22 ?_)
        refine x_arraylength hK kX8_setProduct_197 (q := 198) rfl (nC7_0 ?_)
        refine x_icmp_ge hK kX8_setProduct_198 (q := 201) rfl (tg := 215) rfl (by refine ⟨?_, ?_⟩ <;> omega) (fun c198 => ?_) (fun c198 => ?_)
        · exfalso; omega
        · refine x_aload_n hK kX8_setProduct_201 (q := 202) rfl rfl ?_
          refine x_getfield hK kX8_setProduct_202 (q := 205) rfl (gX8_22 ?_)
          refine x_iload_n hK kX8_setProduct_205 (q := 206) rfl rfl ?_
          refine x_aload_n hK kX8_setProduct_206 (q := 207) rfl rfl ?_
          refine x_getfield hK kX8_setProduct_207 (q := 210) rfl (gX8_9 ?_)
          rw [tb, b1']
          refine x_iadd hK kX8_setProduct_210 (q := 211) rfl ?_
          refine x_lload hK kX8_setProduct_211 (q := 213) rfl rfl ?_
          refine x_l2i hK kX8_setProduct_213 (q := 214) rfl ?_
          refine x_iastore hK kX8_setProduct_214 (q := 215) rfl (yC7_0 (by refine ⟨?_, ?_⟩ <;> omega) ?_)
          rw [uA_g, uA_u]
          refine x_iinc hK kX8_setProduct_215 (q := 218) rfl rfl ?_
          simp only [lS, lS2, clr_0, clr_I, clr_L, clr_R]
          refine x_goto hK kX8_setProduct_218 (tg := 68) rfl ?_
          rw [show (i : Int) + 1 = ((i + 1 : Nat) : Int) by omega, show (i : Int) + (j : Int) = ((i + j : Nat) : Int) by omega]
          refine cont _ (by rw [uI_n _ _ (by omega)]; exact h80) (by rw [uI_n _ _ (by omega)]; exact h81) (lR_set hr ⟨c0, c1⟩) (fun t t0 t1 => by rw [uI_n _ _ (by omega)]; exact hz t (by omega) t1) ?_ _ _ _ _ _ _
          rw [vL_set cr (show i + j < N by omega), hf0]
          have q1 : vL (W a) (i + 1) = vL (W a) i + W a i * cB ^ i := rfl
          rw [q1, Int.add_mul, ← hv0]
          have q2 : W a i * vL (W b) j * cB ^ i = W a i * cB ^ i * vL (W b) j := by grind
          rw [Int.sub_zero]
          omega
      · exfalso; omega
    | succ d ih =>
      intro j f cr u9 hd h80 h81 hr hz c0 c1 hv
      have r2 : 0 ≤ W b j ∧ W b j < 2147483648 := c' j (by omega)
      have r3 : 0 ≤ f ((i + j : Nat) : Int) ∧ f ((i + j : Nat) : Int) < 2147483648 := hr (i + j) (by omega)
      have r4 := mul_lt r1 r2
      have ei : (i : Int) + (j : Int) = ((i + j : Nat) : Int) := by omega
      refine x_iload hK kX8_setProduct_100 (q := 102) rfl rfl ?_
      refine x_aload_n hK kX8_setProduct_102 (q := 103) rfl rfl ?_
      refine x_getfield hK kX8_setProduct_103 (q := 106) rfl (gX8_9 ?_)
      rw [tb, b1']
      refine x_icmp_ge hK kX8_setProduct_106 (q := 109) rfl (tg := 187) rfl (by refine ⟨?_, ?_⟩ <;> omega) (fun c106 => ?_) (fun c106 => ?_)
      · exfalso; omega
      · refine x_iload hK kX8_setProduct_109 (q := 111) rfl rfl ?_
        refine x_aload_n hK kX8_setProduct_111 (q := 112) rfl rfl ?_
        refine x_getfield hK kX8_setProduct_112 (q := 115) rfl (gX8_22 ?_)
        refine x_arraylength hK kX8_setProduct_115 (q := 116) rfl (nC7_0 ?_)
        refine x_icmp_ge hK kX8_setProduct_116 (q := 119) rfl (tg := 187) rfl (by refine ⟨?_, ?_⟩ <;> omega) (fun c116 => ?_) (fun c116 => ?_)
        · exfalso; omega
        · refine x_iload_n hK kX8_setProduct_119 (q := 120) rfl rfl ?_
          refine x_iload hK kX8_setProduct_120 (q := 122) rfl rfl ?_
          refine x_iadd hK kX8_setProduct_122 (q := 123) rfl ?_
          refine x_aload_n hK kX8_setProduct_123 (q := 124) rfl rfl ?_
          refine x_getfield hK kX8_setProduct_124 (q := 127) rfl (gX8_22 ?_)
          refine x_arraylength hK kX8_setProduct_127 (q := 128) rfl (nC7_0 ?_)
          refine x_icmp_ge hK kX8_setProduct_128 (q := 131) rfl (tg := 187) rfl (by refine ⟨?_, ?_⟩ <;> omega) (fun c128 => ?_) (fun c128 => ?_)
          · exfalso; omega
          · refine x_lload hK kX8_setProduct_131 (q := 133) rfl rfl ?_
            refine x_aload_n hK kX8_setProduct_133 (q := 134) rfl rfl ?_
            refine x_getfield hK kX8_setProduct_134 (q := 137) rfl (gX8_22 ?_)
            refine x_iload hK kX8_setProduct_137 (q := 139) rfl rfl ?_
            refine x_iaload hK kX8_setProduct_139 (q := 140) rfl (aC7_0 (by refine ⟨?_, ?_⟩ <;> omega) ?_)
            rw [tb]
            refine x_i2l hK kX8_setProduct_140 (q := 141) rfl (by omega) ?_
            refine x_lmul hK kX8_setProduct_141 (q := 142) rfl ?_
            refine x_aload_n hK kX8_setProduct_142 (q := 143) rfl rfl ?_
            refine x_getfield hK kX8_setProduct_143 (q := 146) rfl (gX8_22 ?_)
            refine x_iload_n hK kX8_setProduct_146 (q := 147) rfl rfl ?_
            refine x_iload hK kX8_setProduct_147 (q := 149) rfl rfl ?_
            refine x_iadd hK kX8_setProduct_149 (q := 150) rfl ?_
            rw [ei]
            refine x_iaload hK kX8_setProduct_150 (q := 151) rfl (aC7_0 (by refine ⟨?_, ?_⟩ <;> omega) ?_)
            rw [uA_g]
            refine x_i2l hK kX8_setProduct_151 (q := 152) rfl (by omega) ?_
            refine x_ladd hK kX8_setProduct_152 (q := 153) rfl ?_
            refine x_lload hK kX8_setProduct_153 (q := 155) rfl rfl ?_
            refine x_ladd hK kX8_setProduct_155 (q := 156) rfl ?_
            refine x_lstore hK kX8_setProduct_156 (q := 158) rfl ?_
            refine x_aload_n hK kX8_setProduct_158 (q := 159) rfl rfl ?_
            refine x_getfield hK kX8_setProduct_159 (q := 162) rfl (gX8_22 ?_)
            refine x_iload_n hK kX8_setProduct_162 (q := 163) rfl rfl ?_
            refine x_iload hK kX8_setProduct_163 (q := 165) rfl rfl ?_
            refine x_iadd hK kX8_setProduct_165 (q := 166) rfl ?_
            simp only [lS, lS2, clr_0, clr_I, clr_L, clr_R]
            rw [ei]
            refine x_lload hK kX8_setProduct_166 (q := 168) rfl rfl ?_
            refine x_ldc2_w hK kX8_setProduct_168 (q := 171) rfl lc2_RX8_43 ?_
            refine x_land hK kX8_setProduct_171 (q := 172) rfl ?_
            rw [m31]
            refine x_l2i hK kX8_setProduct_172 (q := 173) rfl ?_
            refine x_iastore hK kX8_setProduct_173 (q := 174) rfl (yC7_0 (by refine ⟨?_, ?_⟩ <;> omega) ?_)
            rw [uA_g, uA_u]
            refine x_lload hK kX8_setProduct_174 (q := 176) rfl rfl ?_
            refine x_bipush hK kX8_setProduct_176 (q := 178) rfl (by decide) ?_
            refine x_lshr hK kX8_setProduct_178 (q := 179) rfl ?_
            rw [s31 ⟨by omega, by omega⟩]
            refine x_lstore hK kX8_setProduct_179 (q := 181) rfl ?_
            refine x_iinc hK kX8_setProduct_181 (q := 184) rfl rfl ?_
            simp only [lS, lS2, clr_0, clr_I, clr_L, clr_R]
            refine x_goto hK kX8_setProduct_184 (tg := 100) rfl ?_
            rw [show (j : Int) + 1 = ((j + 1 : Nat) : Int) by omega]
            refine ih (j + 1) _ _ _ (by omega) (by rw [uI_n _ _ (by omega)]; exact h80) (by rw [uI_n _ _ (by omega)]; exact h81) (lR_set hr (by omega)) (fun t t0 t1 => by rw [uI_n _ _ (by omega)]; exact hz t t0 t1) (by omega) (by omega) ?_
            have q1 : vL (W b) (j + 1) = vL (W b) j + W b j * cB ^ j := rfl
            have q2 : cB ^ (i + (j + 1)) = cB ^ (i + j) * cB := Int.pow_succ cB (i + j)
            have q3 : cB ^ (i + j) = cB ^ i * cB ^ j := Int.pow_add cB i j
            have q4 : W a i * W b j + f ((i + j : Nat) : Int) + cr = (W a i * W b j + f ((i + j : Nat) : Int) + cr) / 2147483648 * 2147483648 + (W a i * W b j + f ((i + j : Nat) : Int) + cr) % 2147483648 := by omega
            rw [vL_set _ (show i + j < N by omega), q1, q2]
            generalize f ((i + j : Nat) : Int) = Y at *
            generalize (W a i * W b j + Y + cr) / 2147483648 = Q at *
            generalize (W a i * W b j + Y + cr) % 2147483648 = R at *
            rw [q3] at hv ⊢
            generalize W a i = X at *
            generalize W b j = Z at *
            generalize cB ^ i = P at *
            generalize cB ^ j = P2 at *
            generalize vL f N = V at *
            generalize vL f0 N = V0 at *
            generalize vL (W b) j = V1 at *
            have : cr = Q * 2147483648 + R - X * Z - Y := by omega
            subst this
            show V + (R - Y) * (P * P2) + Q * (P * P2 * 2147483648) = V0 + X * (V1 + Z * P2) * P
            grind
  have outer : ∀ (d i : Nat) (f : Int → Int) (u4 u5 u6 u7 u8 u9 : Option eV), i + d = n → f 80 = N → f 81 = zSg x * zSg y → lR f N → (∀ t : Nat, i + m ≤ t → t < N → f t = 0) → vL f N = vL (W a) i * vL (W b) m →
      K 68 [some (eR (2, k)), some (eR (2, a)), some (eR (2, b)), some (eI i), u4, u5, u6, u7, u8, u9, none] [] (cC F A (uA W k f)) := by
    intro d
    induction d with
    | zero =>
      intro i f u4 u5 u6 u7 u8 u9 hd h80 h81 hr hz hv
      have : i = n := by omega
      subst this
      refine x_iload_n hK kX8_setProduct_68 (q := 69) rfl rfl ?_
      refine x_aload_n hK kX8_setProduct_69 (q := 70) rfl rfl ?_
      refine x_getfield hK kX8_setProduct_70 (q := 73) rfl (gX8_9 ?_)
      rw [ta, b1]
      refine x_icmp_ge hK kX8_setProduct_73 (q := 76) rfl (tg := 221) rfl (by refine ⟨?_, ?_⟩ <;> omega) (fun c73 => ?_) (fun c73 => ?_)
      · refine x_aload_n hK kX8_setProduct_221 (q := 222) rfl rfl ?_
        refine x_cv1 hK kX8_setProduct_222 (q := 225) rfl (vtX8_setProduct_48) (Nat.le_of_ble_eq_true rfl) ?_
        refine SX8_trim_i (z := x * y) hk ?_ (fun g hg => ?_)
        · rw [uA_g]
          exact ⟨N, by omega, h80, hr, by rw [hv, e1, f1, zAbs_x], fun _ => by rw [h81, sgn]⟩
        refine x_return_ hK kX8_setProduct_225 (by first | trivial | exact Or.inl rfl | exact Or.inr rfl) ?_
        rw [uA_u]
        exact h g hg
      · exfalso; omega
    | succ d ih =>
      intro i f u4 u5 u6 u7 u8 u9 hd h80 h81 hr hz hv
      have r1 : 0 ≤ W a i ∧ W a i < 2147483648 := c i (by omega)
      refine x_iload_n hK kX8_setProduct_68 (q := 69) rfl rfl ?_
      refine x_aload_n hK kX8_setProduct_69 (q := 70) rfl rfl ?_
      refine x_getfield hK kX8_setProduct_70 (q := 73) rfl (gX8_9 ?_)
      rw [ta, b1]
      refine x_icmp_ge hK kX8_setProduct_73 (q := 76) rfl (tg := 221) rfl (by refine ⟨?_, ?_⟩ <;> omega) (fun c73 => ?_) (fun c73 => ?_)
      · exfalso; omega
      · refine x_iload_n hK kX8_setProduct_76 (q := 77) rfl rfl ?_
        refine x_aload_n hK kX8_setProduct_77 (q := 78) rfl rfl ?_
        refine x_getfield hK kX8_setProduct_78 (q := 81) rfl (gX8_22 ?_)
        refine x_arraylength hK kX8_setProduct_81 (q := 82) rfl (nC7_0 ?_)
        refine x_icmp_ge hK kX8_setProduct_82 (q := 85) rfl (tg := 221) rfl (by refine ⟨?_, ?_⟩ <;> omega) (fun c82 => ?_) (fun c82 => ?_)
        · exfalso; omega
        · refine x_aload_n hK kX8_setProduct_85 (q := 86) rfl rfl ?_
          refine x_getfield hK kX8_setProduct_86 (q := 89) rfl (gX8_22 ?_)
          refine x_iload_n hK kX8_setProduct_89 (q := 90) rfl rfl ?_
          refine x_iaload hK kX8_setProduct_90 (q := 91) rfl (aC7_0 (by refine ⟨?_, ?_⟩ <;> omega) ?_)
          rw [ta]
          refine x_i2l hK kX8_setProduct_91 (q := 92) rfl (by omega) ?_
          refine x_lstore hK kX8_setProduct_92 (q := 94) rfl ?_
          refine x_lconst0 hK kX8_setProduct_94 (q := 95) rfl ?_
          refine x_lstore hK kX8_setProduct_95 (q := 97) rfl ?_
          refine x_iconst hK kX8_setProduct_97 (q := 98) rfl ?_
          refine x_istore hK kX8_setProduct_98 (q := 100) rfl ?_
          simp only [lS, lS2, clr_0, clr_I, clr_L, clr_R]
          refine x_to (inner i f (by omega) hv (fun g g1 g2 g3 g4 g5 u4 u5 u6 u7 u8 u9 => ih (i + 1) g u4 u5 u6 u7 u8 u9 (by omega) g1 g2 g3 (fun t t0 t1 => g4 t (by omega) t1) g5) m 0 f 0 _ (by omega) h80 h81 hr hz (by decide) (by decide) ?_) rfl rfl rfl
          show vL f N + 0 * cB ^ (i + 0) = vL f N + W a i * 0 * cB ^ i
          rw [Int.zero_mul, Int.mul_zero, Int.zero_mul]
  have zero : ∀ (d i : Nat) (f : Int → Int), i + d = N → f 80 = N → f 81 = zSg x * zSg y → (∀ t : Nat, t < i → f t = 0) → K 36 [some (eR (2, k)), some (eR (2, a)), some (eR (2, b)), some (eI i), none, none, none, none, none, none, none] [] (cC F A (uA W k f)) := by
    intro d
    induction d with
    | zero =>
      intro i f hd h80 h81 hz
      have : i = N := by omega
      subst this
      refine x_iload_n hK kX8_setProduct_36 (q := 37) rfl rfl ?_
      refine x_aload_n hK kX8_setProduct_37 (q := 38) rfl rfl ?_
      refine x_getfield hK kX8_setProduct_38 (q := 41) rfl (gX8_9 ?_)
      rw [uA_g, h80]
      refine x_icmp_ge hK kX8_setProduct_41 (q := 44) rfl (tg := 66) rfl (by refine ⟨?_, ?_⟩ <;> omega) (fun c41 => ?_) (fun c41 => ?_)
      · refine x_iconst hK kX8_setProduct_66 (q := 67) rfl ?_
        refine x_istore_n hK kX8_setProduct_67 (q := 68) (jn := 3) rfl rfl ?_
        simp only [lS, lS2, clr_0, clr_I, clr_L, clr_R]
        refine x_to (outer n 0 f _ _ _ _ _ _ (by omega) h80 h81 (fun t ht => by rw [hz t ht]; decide) (fun t _ t1 => hz t t1) ?_) rfl rfl rfl
        rw [vL_0 hz]
        show (0 : Int) = 0 * _
        rw [Int.zero_mul]
      · exfalso; omega
    | succ d ih =>
      intro i f hd h80 h81 hz
      refine x_iload_n hK kX8_setProduct_36 (q := 37) rfl rfl ?_
      refine x_aload_n hK kX8_setProduct_37 (q := 38) rfl rfl ?_
      refine x_getfield hK kX8_setProduct_38 (q := 41) rfl (gX8_9 ?_)
      rw [uA_g, h80]
      refine x_icmp_ge hK kX8_setProduct_41 (q := 44) rfl (tg := 66) rfl (by refine ⟨?_, ?_⟩ <;> omega) (fun c41 => ?_) (fun c41 => ?_)
      · exfalso; omega
      · refine x_iload_n hK kX8_setProduct_44 (q := 45) rfl rfl ?_
        refine x_aload_n hK kX8_setProduct_45 (q := 46) rfl rfl ?_
        refine x_getfield hK kX8_setProduct_46 (q := 49) rfl (gX8_22 ?_)
        refine x_arraylength hK kX8_setProduct_49 (q := 50) rfl (nC7_0 ?_)
        refine x_icmp_ge hK kX8_setProduct_50 (q := 53) rfl (tg := 66) rfl (by refine ⟨?_, ?_⟩ <;> omega) (fun c50 => ?_) (fun c50 => ?_)
        · exfalso; omega
        · refine x_aload_n hK kX8_setProduct_53 (q := 54) rfl rfl ?_
          refine x_getfield hK kX8_setProduct_54 (q := 57) rfl (gX8_22 ?_)
          refine x_iload_n hK kX8_setProduct_57 (q := 58) rfl rfl ?_
          refine x_iconst hK kX8_setProduct_58 (q := 59) rfl ?_
          refine x_iastore hK kX8_setProduct_59 (q := 60) rfl (yC7_0 (by refine ⟨?_, ?_⟩ <;> omega) ?_)
          rw [uA_g, uA_u]
          refine x_iinc hK kX8_setProduct_60 (q := 63) rfl rfl ?_
          simp only [lS, lS2, clr_0, clr_I, clr_L, clr_R]
          refine x_goto hK kX8_setProduct_63 (tg := 36) rfl ?_
          rw [show (i : Int) + 1 = ((i + 1 : Nat) : Int) by omega]
          refine ih (i + 1) _ (by omega) (by rw [uI_n _ _ (by omega)]; exact h80) (by rw [uI_n _ _ (by omega)]; exact h81) (fun t ht => ?_)
          rcases Nat.lt_or_ge t i with g | g
          · rw [uI_n _ _ (by omega)]; exact hz t g
          · rw [show t = i by omega, uI_s]
  simp only [eLoc, eE, List.length_cons, List.length_nil, List.replicate, List.cons_append, List.nil_append, Nat.reduceAdd, Nat.reduceSub]
  refine x_aload_n hK kX8_setProduct_0 (q := 1) rfl rfl ?_
  refine x_aload_n hK kX8_setProduct_1 (q := 2) rfl rfl ?_
  refine x_getfield hK kX8_setProduct_2 (q := 5) rfl (gX8_9 ?_)
  refine x_aload_n hK kX8_setProduct_5 (q := 6) rfl rfl ?_
  refine x_getfield hK kX8_setProduct_6 (q := 9) rfl (gX8_9 ?_)
  refine x_iadd hK kX8_setProduct_9 (q := 10) rfl ?_
  refine x_aload_n hK kX8_setProduct_10 (q := 11) rfl rfl ?_
  refine x_getfield hK kX8_setProduct_11 (q := 14) rfl (gX8_22 ?_)
  refine x_arraylength hK kX8_setProduct_14 (q := 15) rfl (nC7_0 ?_)
  refine x_cs2 hK kX8_setProduct_15 (q := 18) rfl (stX8_setProduct_45) (Nat.le_of_ble_eq_true rfl) ?_
  refine SJ9_min_7cf53_i ⟨⟨by omega, by omega⟩, ⟨by omega, by omega⟩⟩ ?_
  rw [b1, b1', show min ((n : Int) + m) (lw k) = (N : Int) by omega]
  refine x_putfield hK kX8_setProduct_18 (q := 21) rfl (pX8_9 ?_)
  refine x_aload_n hK kX8_setProduct_21 (q := 22) rfl rfl ?_
  refine x_aload_n hK kX8_setProduct_22 (q := 23) rfl rfl ?_
  refine x_getfield hK kX8_setProduct_23 (q := 26) rfl (gX8_13 ?_)
  refine x_aload_n hK kX8_setProduct_26 (q := 27) rfl rfl ?_
  refine x_getfield hK kX8_setProduct_27 (q := 30) rfl (gX8_13 ?_)
  rw [ta, tb, e2, f2]
  refine x_imul hK kX8_setProduct_30 (q := 31) rfl ?_
  refine x_putfield hK kX8_setProduct_31 (q := 34) rfl (pX8_13 ?_)
  rw [uA_g, uA_u]
  refine x_iconst hK kX8_setProduct_34 (q := 35) rfl ?_
  refine x_istore_n hK kX8_setProduct_35 (q := 36) (jn := 3) rfl rfl ?_
  simp only [lS, lS2, clr_0, clr_I, clr_L, clr_R]
  exact zero N 0 _ (by omega) (by rw [uI_n _ _ (by decide), uI_s]) (uI_s _ _ _) (fun t ht => absurd ht (by omega))
set_option maxRecDepth 20000 in
theorem mX8_setProduct : eMet yX8_setProduct cX8_setProduct 11 none 1 21 SX8_setProduct := eMet_of (by decide +kernel) sX8_setProduct kX8_setProduct_ok caX8_setProduct tb_RX8
theorem wX8_setProduct : eWV yX8_setProduct cX8_setProduct 11 none 3 7 SX8_setProduct := ⟨(gW_at 529 (by decide +kernel) rfl), (gW_at 81 (by decide +kernel) rfl), (gW_at 527 (by decide +kernel) rfl), ⟨_, rfl, (gW_at 528 (by decide +kernel) rfl)⟩, by decide +kernel, SX8_setProduct_r⟩
