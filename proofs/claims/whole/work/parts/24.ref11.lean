/-! raise(p, by): p becomes p times two to the by. -/
/-- a limb of a raised number -/
def rsH (g : Int → Int) (n P k : Nat) : Int := (if k ≤ n then g (k : Int) else 0) * 2 ^ P % 2 ^ 28
def rsL (g : Int → Int) (P k : Nat) : Int := if 1 < k ∧ 0 < P then g ((k - 1 : Nat) : Int) / 2 ^ (28 - P) else 0
theorem rs_alg (V L X Y gm Pp Bm S b : Int) (ih : V + L * Bm = S * Pp) (e2 : X + b * Y = gm * Pp) : V + (X + L) * Bm + Y * (Bm * b) = (S + gm * Bm) * Pp := by
  grind
theorem rs_v {g u : Int → Int} {n P : Nat} (hP : P < 28) (hr : lr g 1 n) (h : ∀ k : Nat, 1 ≤ k → k ≤ n + 1 → u k = rsH g n P k + rsL g P k) : vl u 1 (n + 1) = vl g 1 n * 2 ^ P := by
  have hvu : (2 : Int) ^ P * 2 ^ (28 - P) = bB := by rw [← Int.pow_add, show P + (28 - P) = 28 by omega]; rfl
  have hp : (0 : Int) < 2 ^ P := Int.pow_pos (by decide)
  have hu0 : (0 : Int) < 2 ^ (28 - P) := Int.pow_pos (by decide)
  have hlow : ∀ k : Nat, 1 < k → k ≤ n + 1 → rsL g P k = g ((k - 1 : Nat) : Int) * 2 ^ P / bB := by
    intro k h1 h2
    unfold rsL
    have w := hr (k - 2) (by omega)
    rw [show (1 : Int) + ((k - 2 : Nat) : Int) = ((k - 1 : Nat) : Int) by omega] at w
    rcases Nat.eq_zero_or_pos P with q | q
    · rw [if_neg (by omega), q, Int.pow_zero, Int.mul_one, Int.ediv_eq_zero_of_lt w.1 w.2]
    · rw [if_pos ⟨h1, q⟩, ← hvu, Int.mul_comm (g _) (2 ^ P), Int.mul_ediv_mul_of_pos _ _ hp]
  have key : ∀ m : Nat, m ≤ n → vl u 1 m + (if 0 < m then g (m : Int) * 2 ^ P / bB else 0) * bB ^ m = vl g 1 m * 2 ^ P := by
    intro m
    induction m with
    | zero => intro _; simp [vl]
    | succ m ih =>
      intro hm
      have ih := ih (by omega)
      have e1 : (1 : Int) + (m : Int) = ((m + 1 : Nat) : Int) := by omega
      have hum := h (m + 1) (by omega) (by omega)
      have hH : rsH g n P (m + 1) = g ((m + 1 : Nat) : Int) * 2 ^ P % bB := by
        unfold rsH
        rw [if_pos (by omega)]
        rfl
      have hL : rsL g P (m + 1) = if 0 < m then g (m : Int) * 2 ^ P / bB else 0 := by
        by_cases c : 0 < m
        · rw [if_pos c, hlow (m + 1) (by omega) (by omega)]
          rfl
        · rw [if_neg c]
          unfold rsL
          rw [if_neg (by omega)]
      rw [vl, vl, e1, hum, hH, hL, if_pos (show 0 < m + 1 by omega), bB_succ]
      exact rs_alg _ _ _ _ _ _ _ _ _ ih (Int.emod_add_mul_ediv (g ((m + 1 : Nat) : Int) * 2 ^ P) bB)
  have hk := key n (Nat.le_refl n)
  have hun := h (n + 1) (by omega) (by omega)
  have e1 : (1 : Int) + (n : Int) = ((n + 1 : Nat) : Int) := by omega
  have hH : rsH g n P (n + 1) = 0 := by unfold rsH; rw [if_neg (by omega)]; simp
  rw [vl, e1, hun, hH]
  by_cases c : 0 < n
  · rw [if_pos c] at hk
    rw [hlow (n + 1) (by omega) (by omega)]
    have e3 : n + 1 - 1 = n := by omega
    rw [e3, Int.zero_add]
    exact hk
  · have e4 : n = 0 := by omega
    subst e4
    simp [vl, rsL]
theorem rs_o {g : Int → Int} {n P k : Nat} (hP : P < 28) (hr : lr g 1 n) (h1 : 1 ≤ k) (h2 : k ≤ n + 1) : zOrL (rsH g n P k) (rsL g P k) = rsH g n P k + rsL g P k ∧ 0 ≤ rsH g n P k + rsL g P k ∧ rsH g n P k + rsL g P k < 268435456 := by
  have hvu : (2 : Int) ^ (28 - P) * 2 ^ P = 2 ^ 28 := by rw [← Int.pow_add, show 28 - P + P = 28 by omega]
  have e28 : (2 : Int) ^ 28 = 268435456 := by decide
  have hp : (0 : Int) < 2 ^ P := Int.pow_pos (by decide)
  have hu0 : (0 : Int) < 2 ^ (28 - P) := Int.pow_pos (by decide)
  have hH : ∃ a : Int, 0 ≤ a ∧ a < 2 ^ (28 - P) ∧ rsH g n P k = a * 2 ^ P := by
    unfold rsH
    generalize (if k ≤ n then g (k : Int) else 0) = x
    refine ⟨x % 2 ^ (28 - P), Int.emod_nonneg _ (by omega), Int.emod_lt_of_pos _ hu0, ?_⟩
    rw [← hvu, Int.mul_comm x, Int.mul_comm (2 ^ (28 - P)), Int.mul_emod_mul_of_pos _ _ hp, Int.mul_comm]
  have hL : 0 ≤ rsL g P k ∧ rsL g P k < 2 ^ P := by
    unfold rsL
    split
    · have w := hr (k - 2) (by omega)
      rw [show (1 : Int) + ((k - 2 : Nat) : Int) = ((k - 1 : Nat) : Int) by omega] at w
      refine ⟨Int.ediv_nonneg w.1 (by omega), Int.ediv_lt_of_lt_mul hu0 ?_⟩
      have b0 : bB = 268435456 := rfl
      rw [Int.mul_comm, hvu]
      omega
    · omega
  obtain ⟨a, a0, a1, ha⟩ := hH
  have a2 := Int.mul_le_mul_of_nonneg_right (show a ≤ 2 ^ (28 - P) - 1 by omega) (Int.le_of_lt hp)
  rw [Int.sub_mul, Int.one_mul, hvu, e28] at a2
  have a3 := Int.mul_nonneg a0 (Int.le_of_lt hp)
  rw [ha, zOrL_s a (rsL g P k) P (by omega) a0 hL.1 hL.2 (by omega)]
  exact ⟨rfl, by omega, by omega⟩
def SX10_raise : eSp := fun as M rt => ∃ (F : Nat → Int) (A : Nat → Int → Int) (p z : Int) (e : Nat), as = [eRR, eI p, eI e] ∧ M = cR F A ∧ (0 ≤ p ∧ p < 2666) ∧ nm (A 0) p z ∧ 0 ≤ z ∧ (z ≠ 0 → z * 2 ^ e < bB ^ 599) ∧ e < 16800 ∧ ∀ f, oB (A 0) f p → nm f p (z * 2 ^ e) → rt none (cR F (uA A 0 f))
theorem SX10_raise_i {F : Nat → Int} {A : Nat → Int → Int} {p : Int} {e : Nat} {rt : Option eV → eM → Prop} (z : Int) (h0 : 0 ≤ p ∧ p < 2666) (h1 : nm (A 0) p z) (h2 : 0 ≤ z) (h3 : z ≠ 0 → z * 2 ^ e < bB ^ 599) (h4 : e < 16800) (h : ∀ f, oB (A 0) f p → nm f p (z * 2 ^ e) → rt none (cR F (uA A 0 f))) : SX10_raise [eRR, eI p, eI e] (cR F A) rt := ⟨F, A, p, z, e, rfl, rfl, h0, h1, h2, h3, h4, h⟩
theorem SX10_raise_r : ∀ as M rt, SX10_raise as M rt → ∃ a r fs, as = eR a :: r ∧ M a = some (.inl (9, fs)) := by
  rintro as M rt ⟨F, A, p, z, e, rfl, rfl, -⟩
  exact ⟨_, _, _, rfl, rfl⟩
def kX10_raise : List (Nat × Jvm.ClassFile.Instr × Nat) := [(0, .iload_n 1, 1), (1, .invokestatic 64, 3), (4, .istore_n 3, 1), (5, .aload_n 0, 1), (6, .iload_n 1, 1), (7, .invokevirtual 75, 3), (10, .istore 4, 2), (12, .iload_n 2, 1), (13, .bipush 28, 2), (15, .idiv, 1), (16, .istore 5, 2), (18, .iload_n 2, 1), (19, .bipush 28, 2), (21, .irem, 1), (22, .istore 6, 2), (24, .iload 4, 2), (26, .ifCond .eq 7, 3), (29, .iload_n 2, 1), (30, .ifCond .ne 4, 3), (33, .return_, 1), (34, .iload 4, 2), (36, .iconst 1, 1), (37, .iadd, 1), (38, .istore 7, 2), (40, .iload 7, 2), (42, .iconst 1, 1), (43, .if_icmp .lt 92, 3), (46, .iload 7, 2), (48, .iload 4, 2), (50, .if_icmp .gt 23, 3), (53, .aload_n 0, 1), (54, .getfield 12, 3), (57, .iload_n 3, 1), (58, .iload 7, 2), (60, .iadd, 1), (61, .iaload, 1), (62, .i2l, 1), (63, .iload 6, 2), (65, .lshl, 1), (66, .ldc2_w 73, 3), (69, .land, 1), (70, .goto 4, 3), (73, .lconst 0, 1), (74, .lstore 8, 2), (76, .iload 7, 2), (78, .iconst 1, 1), (79, .if_icmp .le 29, 3), (82, .iload 6, 2), (84, .ifCond .le 24, 3), (87, .aload_n 0, 1), (88, .getfield 12, 3), (91, .iload_n 3, 1), (92, .iload 7, 2), (94, .iadd, 1), (95, .iconst 1, 1), (96, .isub, 1), (97, .iaload, 1), (98, .bipush 28, 2), (100, .iload 6, 2), (102, .isub, 1), (103, .iushr, 1), (104, .i2l, 1), (105, .goto 4, 3), (108, .lconst 0, 1), (109, .lstore 10, 2), (111, .aload_n 0, 1), (112, .getfield 12, 3), (115, .iload_n 3, 1), (116, .iload 7, 2), (118, .iadd, 1), (119, .iload 5, 2), (121, .iadd, 1), (122, .lload 8, 2), (124, .lload 10, 2), (126, .lor, 1), (127, .l2i, 1), (128, .iastore, 1), (129, .iinc 7 (-1), 3), (132, .goto (-92), 3), (135, .iconst 1, 1), (136, .istore 7, 2), (138, .iload 7, 2), (140, .iload 5, 2), (142, .if_icmp .gt 19, 3), (145, .aload_n 0, 1), (146, .getfield 12, 3), (149, .iload_n 3, 1), (150, .iload 7, 2), (152, .iadd, 1), (153, .iconst 0, 1), (154, .iastore, 1), (155, .iinc 7 1, 3), (158, .goto (-20), 3), (161, .aload_n 0, 1), (162, .iload_n 3, 1), (163, .iload 4, 2), (165, .iconst 1, 1), (166, .iadd, 1), (167, .iload 5, 2), (169, .iadd, 1), (170, .iconst 1, 1), (171, .invokevirtual 99, 3), (174, .return_, 1)]
theorem kX10_raise_0 : cdOf kX10_raise 0 = some (.iload_n 1, 1) := by decide +kernel
theorem kX10_raise_1 : cdOf kX10_raise 1 = some (.invokestatic 64, 3) := by decide +kernel
theorem kX10_raise_4 : cdOf kX10_raise 4 = some (.istore_n 3, 1) := by decide +kernel
theorem kX10_raise_5 : cdOf kX10_raise 5 = some (.aload_n 0, 1) := by decide +kernel
theorem kX10_raise_6 : cdOf kX10_raise 6 = some (.iload_n 1, 1) := by decide +kernel
theorem kX10_raise_7 : cdOf kX10_raise 7 = some (.invokevirtual 75, 3) := by decide +kernel
theorem kX10_raise_10 : cdOf kX10_raise 10 = some (.istore 4, 2) := by decide +kernel
theorem kX10_raise_12 : cdOf kX10_raise 12 = some (.iload_n 2, 1) := by decide +kernel
theorem kX10_raise_13 : cdOf kX10_raise 13 = some (.bipush 28, 2) := by decide +kernel
theorem kX10_raise_15 : cdOf kX10_raise 15 = some (.idiv, 1) := by decide +kernel
theorem kX10_raise_16 : cdOf kX10_raise 16 = some (.istore 5, 2) := by decide +kernel
theorem kX10_raise_18 : cdOf kX10_raise 18 = some (.iload_n 2, 1) := by decide +kernel
theorem kX10_raise_19 : cdOf kX10_raise 19 = some (.bipush 28, 2) := by decide +kernel
theorem kX10_raise_21 : cdOf kX10_raise 21 = some (.irem, 1) := by decide +kernel
theorem kX10_raise_22 : cdOf kX10_raise 22 = some (.istore 6, 2) := by decide +kernel
theorem kX10_raise_24 : cdOf kX10_raise 24 = some (.iload 4, 2) := by decide +kernel
theorem kX10_raise_26 : cdOf kX10_raise 26 = some (.ifCond .eq 7, 3) := by decide +kernel
theorem kX10_raise_29 : cdOf kX10_raise 29 = some (.iload_n 2, 1) := by decide +kernel
theorem kX10_raise_30 : cdOf kX10_raise 30 = some (.ifCond .ne 4, 3) := by decide +kernel
theorem kX10_raise_33 : cdOf kX10_raise 33 = some (.return_, 1) := by decide +kernel
theorem kX10_raise_34 : cdOf kX10_raise 34 = some (.iload 4, 2) := by decide +kernel
theorem kX10_raise_36 : cdOf kX10_raise 36 = some (.iconst 1, 1) := by decide +kernel
theorem kX10_raise_37 : cdOf kX10_raise 37 = some (.iadd, 1) := by decide +kernel
theorem kX10_raise_38 : cdOf kX10_raise 38 = some (.istore 7, 2) := by decide +kernel
theorem kX10_raise_40 : cdOf kX10_raise 40 = some (.iload 7, 2) := by decide +kernel
theorem kX10_raise_42 : cdOf kX10_raise 42 = some (.iconst 1, 1) := by decide +kernel
theorem kX10_raise_43 : cdOf kX10_raise 43 = some (.if_icmp .lt 92, 3) := by decide +kernel
theorem kX10_raise_46 : cdOf kX10_raise 46 = some (.iload 7, 2) := by decide +kernel
theorem kX10_raise_48 : cdOf kX10_raise 48 = some (.iload 4, 2) := by decide +kernel
theorem kX10_raise_50 : cdOf kX10_raise 50 = some (.if_icmp .gt 23, 3) := by decide +kernel
theorem kX10_raise_53 : cdOf kX10_raise 53 = some (.aload_n 0, 1) := by decide +kernel
theorem kX10_raise_54 : cdOf kX10_raise 54 = some (.getfield 12, 3) := by decide +kernel
theorem kX10_raise_57 : cdOf kX10_raise 57 = some (.iload_n 3, 1) := by decide +kernel
theorem kX10_raise_58 : cdOf kX10_raise 58 = some (.iload 7, 2) := by decide +kernel
theorem kX10_raise_60 : cdOf kX10_raise 60 = some (.iadd, 1) := by decide +kernel
theorem kX10_raise_61 : cdOf kX10_raise 61 = some (.iaload, 1) := by decide +kernel
theorem kX10_raise_62 : cdOf kX10_raise 62 = some (.i2l, 1) := by decide +kernel
theorem kX10_raise_63 : cdOf kX10_raise 63 = some (.iload 6, 2) := by decide +kernel
theorem kX10_raise_65 : cdOf kX10_raise 65 = some (.lshl, 1) := by decide +kernel
theorem kX10_raise_66 : cdOf kX10_raise 66 = some (.ldc2_w 73, 3) := by decide +kernel
theorem kX10_raise_69 : cdOf kX10_raise 69 = some (.land, 1) := by decide +kernel
theorem kX10_raise_70 : cdOf kX10_raise 70 = some (.goto 4, 3) := by decide +kernel
theorem kX10_raise_73 : cdOf kX10_raise 73 = some (.lconst 0, 1) := by decide +kernel
theorem kX10_raise_74 : cdOf kX10_raise 74 = some (.lstore 8, 2) := by decide +kernel
theorem kX10_raise_76 : cdOf kX10_raise 76 = some (.iload 7, 2) := by decide +kernel
theorem kX10_raise_78 : cdOf kX10_raise 78 = some (.iconst 1, 1) := by decide +kernel
theorem kX10_raise_79 : cdOf kX10_raise 79 = some (.if_icmp .le 29, 3) := by decide +kernel
theorem kX10_raise_82 : cdOf kX10_raise 82 = some (.iload 6, 2) := by decide +kernel
theorem kX10_raise_84 : cdOf kX10_raise 84 = some (.ifCond .le 24, 3) := by decide +kernel
theorem kX10_raise_87 : cdOf kX10_raise 87 = some (.aload_n 0, 1) := by decide +kernel
theorem kX10_raise_88 : cdOf kX10_raise 88 = some (.getfield 12, 3) := by decide +kernel
theorem kX10_raise_91 : cdOf kX10_raise 91 = some (.iload_n 3, 1) := by decide +kernel
theorem kX10_raise_92 : cdOf kX10_raise 92 = some (.iload 7, 2) := by decide +kernel
theorem kX10_raise_94 : cdOf kX10_raise 94 = some (.iadd, 1) := by decide +kernel
theorem kX10_raise_95 : cdOf kX10_raise 95 = some (.iconst 1, 1) := by decide +kernel
theorem kX10_raise_96 : cdOf kX10_raise 96 = some (.isub, 1) := by decide +kernel
theorem kX10_raise_97 : cdOf kX10_raise 97 = some (.iaload, 1) := by decide +kernel
theorem kX10_raise_98 : cdOf kX10_raise 98 = some (.bipush 28, 2) := by decide +kernel
theorem kX10_raise_100 : cdOf kX10_raise 100 = some (.iload 6, 2) := by decide +kernel
theorem kX10_raise_102 : cdOf kX10_raise 102 = some (.isub, 1) := by decide +kernel
theorem kX10_raise_103 : cdOf kX10_raise 103 = some (.iushr, 1) := by decide +kernel
theorem kX10_raise_104 : cdOf kX10_raise 104 = some (.i2l, 1) := by decide +kernel
theorem kX10_raise_105 : cdOf kX10_raise 105 = some (.goto 4, 3) := by decide +kernel
theorem kX10_raise_108 : cdOf kX10_raise 108 = some (.lconst 0, 1) := by decide +kernel
theorem kX10_raise_109 : cdOf kX10_raise 109 = some (.lstore 10, 2) := by decide +kernel
theorem kX10_raise_111 : cdOf kX10_raise 111 = some (.aload_n 0, 1) := by decide +kernel
theorem kX10_raise_112 : cdOf kX10_raise 112 = some (.getfield 12, 3) := by decide +kernel
theorem kX10_raise_115 : cdOf kX10_raise 115 = some (.iload_n 3, 1) := by decide +kernel
theorem kX10_raise_116 : cdOf kX10_raise 116 = some (.iload 7, 2) := by decide +kernel
theorem kX10_raise_118 : cdOf kX10_raise 118 = some (.iadd, 1) := by decide +kernel
theorem kX10_raise_119 : cdOf kX10_raise 119 = some (.iload 5, 2) := by decide +kernel
theorem kX10_raise_121 : cdOf kX10_raise 121 = some (.iadd, 1) := by decide +kernel
theorem kX10_raise_122 : cdOf kX10_raise 122 = some (.lload 8, 2) := by decide +kernel
theorem kX10_raise_124 : cdOf kX10_raise 124 = some (.lload 10, 2) := by decide +kernel
theorem kX10_raise_126 : cdOf kX10_raise 126 = some (.lor, 1) := by decide +kernel
theorem kX10_raise_127 : cdOf kX10_raise 127 = some (.l2i, 1) := by decide +kernel
theorem kX10_raise_128 : cdOf kX10_raise 128 = some (.iastore, 1) := by decide +kernel
theorem kX10_raise_129 : cdOf kX10_raise 129 = some (.iinc 7 (-1), 3) := by decide +kernel
theorem kX10_raise_132 : cdOf kX10_raise 132 = some (.goto (-92), 3) := by decide +kernel
theorem kX10_raise_135 : cdOf kX10_raise 135 = some (.iconst 1, 1) := by decide +kernel
theorem kX10_raise_136 : cdOf kX10_raise 136 = some (.istore 7, 2) := by decide +kernel
theorem kX10_raise_138 : cdOf kX10_raise 138 = some (.iload 7, 2) := by decide +kernel
theorem kX10_raise_140 : cdOf kX10_raise 140 = some (.iload 5, 2) := by decide +kernel
theorem kX10_raise_142 : cdOf kX10_raise 142 = some (.if_icmp .gt 19, 3) := by decide +kernel
theorem kX10_raise_145 : cdOf kX10_raise 145 = some (.aload_n 0, 1) := by decide +kernel
theorem kX10_raise_146 : cdOf kX10_raise 146 = some (.getfield 12, 3) := by decide +kernel
theorem kX10_raise_149 : cdOf kX10_raise 149 = some (.iload_n 3, 1) := by decide +kernel
theorem kX10_raise_150 : cdOf kX10_raise 150 = some (.iload 7, 2) := by decide +kernel
theorem kX10_raise_152 : cdOf kX10_raise 152 = some (.iadd, 1) := by decide +kernel
theorem kX10_raise_153 : cdOf kX10_raise 153 = some (.iconst 0, 1) := by decide +kernel
theorem kX10_raise_154 : cdOf kX10_raise 154 = some (.iastore, 1) := by decide +kernel
theorem kX10_raise_155 : cdOf kX10_raise 155 = some (.iinc 7 1, 3) := by decide +kernel
theorem kX10_raise_158 : cdOf kX10_raise 158 = some (.goto (-20), 3) := by decide +kernel
theorem kX10_raise_161 : cdOf kX10_raise 161 = some (.aload_n 0, 1) := by decide +kernel
theorem kX10_raise_162 : cdOf kX10_raise 162 = some (.iload_n 3, 1) := by decide +kernel
theorem kX10_raise_163 : cdOf kX10_raise 163 = some (.iload 4, 2) := by decide +kernel
theorem kX10_raise_165 : cdOf kX10_raise 165 = some (.iconst 1, 1) := by decide +kernel
theorem kX10_raise_166 : cdOf kX10_raise 166 = some (.iadd, 1) := by decide +kernel
theorem kX10_raise_167 : cdOf kX10_raise 167 = some (.iload 5, 2) := by decide +kernel
theorem kX10_raise_169 : cdOf kX10_raise 169 = some (.iadd, 1) := by decide +kernel
theorem kX10_raise_170 : cdOf kX10_raise 170 = some (.iconst 1, 1) := by decide +kernel
theorem kX10_raise_171 : cdOf kX10_raise 171 = some (.invokevirtual 99, 3) := by decide +kernel
theorem kX10_raise_174 : cdOf kX10_raise 174 = some (.return_, 1) := by decide +kernel
set_option maxRecDepth 20000 in
theorem kX10_raise_ok : ∀ pc i len, cdOf kX10_raise pc = some (i, len) → decode cX10_raise pc = .ok (i, len) ∧ stOK 12 i = true ∧ jOK pc i = true ∧ eLen i len = true := cdOf_ok cX10_raise 12 kX10_raise (by decide +kernel)
def vtX10_raise : Nat → Option (Nat × eSp) := fun k => match k with
  | 75 => some (2, SX10_length)
  | 99 => some (4, SX10_trim)
  | _ => none
theorem vtX10_raise_75 : vtX10_raise 75 = some (2, SX10_length) := rfl
theorem vtX10_raise_99 : vtX10_raise 99 = some (4, SX10_trim) := rfl
def stX10_raise : Nat → Option (Nat × eSp) := fun k => match k with
  | 64 => some (1, SX10_at)
  | _ => none
theorem stX10_raise_64 : stX10_raise 64 = some (1, SX10_at) := rfl
abbrev TX10_raise : eT := (fl_RX10, cl_RX10, dl_RX10, vtX10_raise, stX10_raise)
set_option maxRecDepth 20000 in
theorem caX10_raise : eCalls RX10 { frames := 2, cells := 0, slots := 0, locals := 42 } TX10_raise := by
  refine ⟨fun k n sp h => ?_, fun k n sp h => ?_⟩
  · dsimp only [TX10_raise] at h
    unfold vtX10_raise at h
    split at h
    · cases h; exact eV_mk mX10_length wX10_length (by decide +kernel) (Or.inl (gW_at 1101 (by decide +kernel) rfl))
    · cases h; exact eV_mk mX10_trim wX10_trim (by decide +kernel) (Or.inl (gW_at 1130 (by decide +kernel) rfl))
    · cases h
  · dsimp only [TX10_raise] at h
    unfold stX10_raise at h
    split at h
    · cases h; exact eS_mk mX10_at wX10_at (by decide +kernel) (Or.inl (gW_at 1070 (by decide +kernel) rfl))
    · cases h
set_option maxRecDepth 100000 in
set_option maxHeartbeats 4000000 in
theorem sX10_raise : eSafe TX10_raise (cdOf kX10_raise) 12 none SX10_raise := by
  intro K rt hK as M h
  obtain ⟨F, A, p, z, e, rfl, rfl, h0, h2, hz, hb, he, h⟩ := h
  have hw := nm_w h2
  obtain ⟨n, hn, hr, htop, hln, hav, hz0, hneg, -, hge, hlt, -⟩ := nm_h h2
  have b0 : bB = 268435456 := rfl
  have hza : zAbs z = z := by unfold zAbs; rw [if_neg (by omega)]
  rw [hza] at hav hge hlt
  obtain ⟨W, P, hP, hWP⟩ : ∃ W P : Nat, P < 28 ∧ e = 28 * W + P := ⟨e / 28, e % 28, by omega, by omega⟩
  refine ⟨by simp [eE], ?_⟩
  have base : (n = 0 ∨ e = 0) → rt none (cR F A) := fun c => by
    have := h (A 0) (fun _ _ => rfl) (by
      rcases c with c | c
      · rw [hz0.mpr c] at h2 ⊢; rw [Int.zero_mul]; exact h2
      · rw [c, Int.pow_zero, Int.mul_one]; exact h2)
    rw [uA_s] at this
    exact this
  -- limbs of the old number, by places from 1
  obtain ⟨G, hG⟩ : ∃ G : Int → Int, ∀ j, G j = A 0 (p * 601 + j) := ⟨fun j => A 0 (p * 601 + j), fun _ => rfl⟩
  have hGr : lr G 1 n := lr_cong hr (fun k hk => by rw [hG]; congr 1; omega)
  have hGv : vl G 1 n = z := by rw [hav]; exact vl_cong (fun k hk => by rw [hG]; congr 1; omega)
  have work : 0 < n → 0 < e → K 34 [some eRR, some (eI p), some (eI e), some (eI (p * 601)), some (eI n), some (eI W), some (eI P), none, none, none, none, none] [] (cR F A) := by
    intro hn0 he0
    have hnW : n + 1 + W ≤ 600 := by
      have a1 := hge (by rw [Ne, hz0]; omega)
      have a2 := hb (by rw [Ne, hz0]; omega)
      rcases Nat.lt_or_ge (n + 1 + W) 601 with q | q
      · omega
      · have a3 : (2 : Int) ^ (28 * W) ≤ 2 ^ e := zb_ple (by omega)
        rw [← bB_pow] at a3
        have a4 := Int.mul_le_mul a1 a3 (Int.le_of_lt (bB_pos W)) hz
        rw [← Int.pow_add] at a4
        have a5 := bB_mono (show 599 ≤ n - 1 + W by omega)
        omega
    have fin : ∀ (f : Int → Int) (u v w : Option eV) (x y : Option eV), oB (A 0) f p → (∀ k : Nat, 1 ≤ k → k ≤ n + 1 → f (p * 601 + (k + W : Nat)) = rsH G n P k + rsL G P k) → (∀ k : Nat, 1 ≤ k → k ≤ W → f (p * 601 + k) = 0) → K 161 [some eRR, some (eI p), some (eI e), some (eI (p * 601)), some (eI n), some (eI W), some (eI P), u, v, w, x, y] [] (cR F (uA A 0 f)) := by
      intro f u v w x y ho hh hl
      have hfr : lr f (p * 601 + 1) (n + 1 + W) := by
        intro j hj
        rcases Nat.lt_or_ge j W with q | q
        · rw [show p * 601 + 1 + (j : Int) = p * 601 + ((j + 1 : Nat) : Int) by omega, hl (j + 1) (by omega) (by omega)]
          omega
        · rw [show p * 601 + 1 + (j : Int) = p * 601 + ((j + 1 - W + W : Nat) : Int) by omega, hh (j + 1 - W) (by omega) (by omega)]
          exact (rs_o hP hGr (by omega) (by omega)).2
      have hfv : vl f (p * 601 + 1) (n + 1 + W) = z * 2 ^ e := by
        rw [vl_drop (k := W) (by omega) (fun j hj => by rw [show p * 601 + 1 + (j : Int) = p * 601 + ((j + 1 : Nat) : Int) by omega]; exact hl (j + 1) (by omega) (by omega))]
        rw [show n + 1 + W - W = n + 1 by omega]
        have := rs_v (g := G) (u := fun j => f (p * 601 + (j + W))) (n := n) (P := P) hP hGr (fun k a b => by
          show f (p * 601 + ((k : Int) + W)) = _
          rw [show (k : Int) + W = ((k + W : Nat) : Int) by omega]
          exact hh k a b)
        rw [hGv] at this
        rw [vl_cong (f := fun j => f (p * 601 + (j + W))) (g := f) (o := 1) (o' := p * 601 + 1 + (W : Int)) (fun k hk => by
          show f _ = f _
          congr 1
          omega), this, hWP, Int.pow_add, ← bB_pow, Int.mul_assoc, Int.mul_comm (2 ^ P)]
      have htk : tk f (p * 601 + 1) (n + 1 + W) ≤ 600 := Nat.le_trans (tk_le _ _ _) hnW
      have hm := nm_mk (s := 1) (by omega) hfr htk (Or.inl rfl)
      rw [Int.one_mul, Int.one_mul, hfv] at hm
      refine x_aload_n hK kX10_raise_161 (q := 162) rfl rfl ?_
      refine x_iload_n hK kX10_raise_162 (q := 163) rfl rfl ?_
      refine x_iload hK kX10_raise_163 (q := 165) rfl rfl ?_
      refine x_iconst hK kX10_raise_165 (q := 166) rfl ?_
      refine x_iadd hK kX10_raise_166 (q := 167) rfl ?_
      refine x_iload hK kX10_raise_167 (q := 169) rfl rfl ?_
      refine x_iadd hK kX10_raise_169 (q := 170) rfl ?_
      refine x_iconst hK kX10_raise_170 (q := 171) rfl ?_
      refine x_cv4 hK kX10_raise_171 (q := 174) rfl (vtX10_raise_99) (Nat.le_of_ble_eq_true rfl) ?_
      refine SX10_trim_i (n + 1 + W) (by omega) (by omega) (by omega) (fun k hk => by rw [uA_g]; have := hfr k hk; constructor <;> omega) ?_
      rw [uA_g, uA_u, Int.one_mul]
      refine x_return_ hK kX10_raise_174 (by first | trivial | exact Or.inl rfl | exact Or.inr rfl) ?_
      refine h _ (fun j hj => ?_) hm
      rw [uI_n _ _ (by omega)]
      exact ho j hj
    have low : ∀ (d k : Nat) (f : Int → Int) (v w x y : Option eV), k + d = W + 1 → 1 ≤ k → oB (A 0) f p → (∀ k : Nat, 1 ≤ k → k ≤ n + 1 → f (p * 601 + (k + W : Nat)) = rsH G n P k + rsL G P k) → (∀ j : Nat, 1 ≤ j → j < k → f (p * 601 + j) = 0) → K 138 [some eRR, some (eI p), some (eI e), some (eI (p * 601)), some (eI n), some (eI W), some (eI P), some (eI k), v, w, x, y] [] (cR F (uA A 0 f)) := by
      intro d
      induction d with
      | zero =>
        intro k f v w x y hk k1 ho hh hl
        refine x_iload hK kX10_raise_138 (q := 140) rfl rfl ?_
        refine x_iload hK kX10_raise_140 (q := 142) rfl rfl ?_
        refine x_icmp_gt hK kX10_raise_142 (q := 145) rfl (tg := 161) rfl (by refine ⟨?_, ?_⟩ <;> omega) (fun c142 => ?_) (fun c142 => ?_)
        · exact fin f _ _ _ _ _ ho hh (fun j a b => hl j a (by omega))
        · exact absurd c142 (by omega)
      | succ d ih =>
        intro k f v w x y hk k1 ho hh hl
        refine x_iload hK kX10_raise_138 (q := 140) rfl rfl ?_
        refine x_iload hK kX10_raise_140 (q := 142) rfl rfl ?_
        refine x_icmp_gt hK kX10_raise_142 (q := 145) rfl (tg := 161) rfl (by refine ⟨?_, ?_⟩ <;> omega) (fun c142 => ?_) (fun c142 => ?_)
        · exact absurd c142 (by omega)
        · refine x_aload_n hK kX10_raise_145 (q := 146) rfl rfl ?_
          refine x_getfield hK kX10_raise_146 (q := 149) rfl (gX10_12 ?_)
          refine x_iload_n hK kX10_raise_149 (q := 150) rfl rfl ?_
          refine x_iload hK kX10_raise_150 (q := 152) rfl rfl ?_
          refine x_iadd hK kX10_raise_152 (q := 153) rfl ?_
          refine x_iconst hK kX10_raise_153 (q := 154) rfl ?_
          refine x_iastore hK kX10_raise_154 (q := 155) rfl (yX10_A0 (by refine ⟨?_, ?_⟩ <;> omega) ?_)
          refine x_iinc hK kX10_raise_155 (q := 158) rfl rfl ?_
          simp only [lS, lS2, clr_0, clr_I, clr_L, clr_R]
          refine x_goto hK kX10_raise_158 (tg := 138) rfl ?_
          rw [uA_g, uA_u]
          refine ih (k + 1) _ _ _ _ _ (by omega) (by omega) (fun j hj => by rw [uI_n _ _ (by omega)]; exact ho j hj) (fun j a b => by rw [uI_n _ _ (by omega)]; exact hh j a b) (fun j a b => ?_)
          rcases Nat.lt_or_ge j k with q | q
          · rw [uI_n _ _ (by omega)]; exact hl j a q
          · rw [show j = k by omega, uI_s]
    have top : ∀ (k : Nat) (f : Int → Int) (v w x y : Option eV), k ≤ n + 1 → oB (A 0) f p → (∀ j : Nat, k < j → j ≤ n + 1 → f (p * 601 + (j + W : Nat)) = rsH G n P j + rsL G P j) → (∀ j : Nat, 1 ≤ j → j ≤ k → f (p * 601 + j) = G j) → K 40 [some eRR, some (eI p), some (eI e), some (eI (p * 601)), some (eI n), some (eI W), some (eI P), some (eI k), v, w, x, y] [] (cR F (uA A 0 f)) := by
      intro k
      induction k with
      | zero =>
        intro f v w x y hk ho hh hl
        refine x_iload hK kX10_raise_40 (q := 42) rfl rfl ?_
        refine x_iconst hK kX10_raise_42 (q := 43) rfl ?_
        refine x_icmp_lt hK kX10_raise_43 (q := 46) rfl (tg := 135) rfl (by refine ⟨?_, ?_⟩ <;> omega) (fun c43 => ?_) (fun c43 => ?_)
        · refine x_iconst hK kX10_raise_135 (q := 136) rfl ?_
          refine x_istore hK kX10_raise_136 (q := 138) rfl ?_
          simp only [lS, lS2, clr_0, clr_I, clr_L, clr_R]
          exact low W 1 f _ _ _ _ (by omega) (by omega) ho (fun j a b => hh j (by omega) b) (fun j a b => absurd a (by omega))
        · exact absurd (show ((0 : Nat) : Int) < 1 by decide) c43
      | succ k ih =>
        intro f v w x y hk ho hh hl
        have e28 : (2 : Int) ^ 28 = 268435456 := by decide
        obtain ⟨q1, q2, q3⟩ := rs_o (g := G) (n := n) (P := P) (k := k + 1) hP hGr (by omega) hk
        have ek : p * 601 + ((k + 1 : Nat) : Int) + W = p * 601 + ((k + 1 + W : Nat) : Int) := by omega
        have next : ∀ X (v w x y : Option eV), X = rsH G n P (k + 1) + rsL G P (k + 1) → K 40 [some eRR, some (eI p), some (eI e), some (eI (p * 601)), some (eI n), some (eI W), some (eI P), some (eI (((k + 1 : Nat) : Int) + -1)), v, w, x, y] [] (cR F (uA A 0 (uI f (p * 601 + ((k + 1 : Nat) : Int) + W) X))) := by
          intro X v w x y hX
          rw [show ((k + 1 : Nat) : Int) + -1 = (k : Int) by omega, ek]
          refine ih _ _ _ _ _ (by omega) (fun j hj => by rw [uI_n _ _ (by omega)]; exact ho j hj) (fun j a b => ?_) (fun j a b => ?_)
          · rcases Nat.lt_or_ge (k + 1) j with c | c
            · rw [uI_n _ _ (by omega)]; exact hh j c b
            · rw [show j = k + 1 by omega, uI_s]; exact hX
          · rw [uI_n _ _ (by omega)]; exact hl j a (by omega)
        -- from the middle on: the high part is on the stack
        have mid : ∀ (v w x y : Option eV), K 74 [some eRR, some (eI p), some (eI e), some (eI (p * 601)), some (eI n), some (eI W), some (eI P), some (eI (k + 1 : Nat)), v, w, x, y] [eL (rsH G n P (k + 1))] (cR F (uA A 0 f)) := by
          intro v w x y
          refine x_lstore hK kX10_raise_74 (q := 76) rfl ?_
          refine x_iload hK kX10_raise_76 (q := 78) rfl rfl ?_
          refine x_iconst hK kX10_raise_78 (q := 79) rfl ?_
          simp only [lS, lS2, clr_0, clr_I, clr_L, clr_R]
          refine x_icmp_le hK kX10_raise_79 (q := 82) rfl (tg := 108) rfl (by refine ⟨?_, ?_⟩ <;> omega) (fun c79 => ?_) (fun c79 => ?_)
          · have hL : rsL G P (k + 1) = 0 := by unfold rsL; rw [if_neg (by omega)]
            rw [hL] at q1
            refine x_lconst0 hK kX10_raise_108 (q := 109) rfl ?_
            refine x_lstore hK kX10_raise_109 (q := 111) rfl ?_
            refine x_aload_n hK kX10_raise_111 (q := 112) rfl rfl ?_
            refine x_getfield hK kX10_raise_112 (q := 115) rfl (gX10_12 ?_)
            refine x_iload_n hK kX10_raise_115 (q := 116) rfl rfl ?_
            refine x_iload hK kX10_raise_116 (q := 118) rfl rfl ?_
            refine x_iadd hK kX10_raise_118 (q := 119) rfl ?_
            refine x_iload hK kX10_raise_119 (q := 121) rfl rfl ?_
            refine x_iadd hK kX10_raise_121 (q := 122) rfl ?_
            refine x_lload hK kX10_raise_122 (q := 124) rfl rfl ?_
            refine x_lload hK kX10_raise_124 (q := 126) rfl rfl ?_
            refine x_lor hK kX10_raise_126 (q := 127) rfl ?_
            simp only [lS, lS2, clr_0, clr_I, clr_L, clr_R]
            rw [q1]
            refine x_l2i hK kX10_raise_127 (q := 128) rfl ?_
            refine x_iastore hK kX10_raise_128 (q := 129) rfl (yX10_A0 (by refine ⟨?_, ?_⟩ <;> omega) ?_)
            refine x_iinc hK kX10_raise_129 (q := 132) rfl rfl ?_
            simp only [lS, lS2, clr_0, clr_I, clr_L, clr_R]
            refine x_goto hK kX10_raise_132 (tg := 40) rfl ?_
            rw [uA_g, uA_u]
            exact next _ _ _ _ _ (by omega)
          · refine x_iload hK kX10_raise_82 (q := 84) rfl rfl ?_
            refine x_if_le hK kX10_raise_84 (q := 87) rfl (tg := 108) rfl (by omega) (fun c84 => ?_) (fun c84 => ?_)
            · have hL : rsL G P (k + 1) = 0 := by unfold rsL; rw [if_neg (by omega)]
              rw [hL] at q1
              refine x_lconst0 hK kX10_raise_108 (q := 109) rfl ?_
              refine x_lstore hK kX10_raise_109 (q := 111) rfl ?_
              refine x_aload_n hK kX10_raise_111 (q := 112) rfl rfl ?_
              refine x_getfield hK kX10_raise_112 (q := 115) rfl (gX10_12 ?_)
              refine x_iload_n hK kX10_raise_115 (q := 116) rfl rfl ?_
              refine x_iload hK kX10_raise_116 (q := 118) rfl rfl ?_
              refine x_iadd hK kX10_raise_118 (q := 119) rfl ?_
              refine x_iload hK kX10_raise_119 (q := 121) rfl rfl ?_
              refine x_iadd hK kX10_raise_121 (q := 122) rfl ?_
              refine x_lload hK kX10_raise_122 (q := 124) rfl rfl ?_
              refine x_lload hK kX10_raise_124 (q := 126) rfl rfl ?_
              refine x_lor hK kX10_raise_126 (q := 127) rfl ?_
              simp only [lS, lS2, clr_0, clr_I, clr_L, clr_R]
              rw [q1]
              refine x_l2i hK kX10_raise_127 (q := 128) rfl ?_
              refine x_iastore hK kX10_raise_128 (q := 129) rfl (yX10_A0 (by refine ⟨?_, ?_⟩ <;> omega) ?_)
              refine x_iinc hK kX10_raise_129 (q := 132) rfl rfl ?_
              simp only [lS, lS2, clr_0, clr_I, clr_L, clr_R]
              refine x_goto hK kX10_raise_132 (tg := 40) rfl ?_
              rw [uA_g, uA_u]
              exact next _ _ _ _ _ (by omega)
            · have hL : rsL G P (k + 1) = G (k : Int) / 2 ^ (28 - P) := by
                unfold rsL
                rw [if_pos (by constructor <;> omega)]
                rfl
              have w0 := hGr (k - 1) (by omega)
              rw [show (1 : Int) + ((k - 1 : Nat) : Int) = (k : Int) by omega] at w0
              rw [hL] at q1 q2 q3
              refine x_aload_n hK kX10_raise_87 (q := 88) rfl rfl ?_
              refine x_getfield hK kX10_raise_88 (q := 91) rfl (gX10_12 ?_)
              refine x_iload_n hK kX10_raise_91 (q := 92) rfl rfl ?_
              refine x_iload hK kX10_raise_92 (q := 94) rfl rfl ?_
              refine x_iadd hK kX10_raise_94 (q := 95) rfl ?_
              refine x_iconst hK kX10_raise_95 (q := 96) rfl ?_
              refine x_isub hK kX10_raise_96 (q := 97) rfl ?_
              refine x_iaload hK kX10_raise_97 (q := 98) rfl (aX10_A0 (by refine ⟨?_, ?_⟩ <;> omega) ?_)
              rw [uA_g, show p * 601 + ((k + 1 : Nat) : Int) - 1 = p * 601 + (k : Int) by omega, hl k (by omega) (by omega)]
              refine x_bipush hK kX10_raise_98 (q := 100) rfl (by decide) ?_
              refine x_iload hK kX10_raise_100 (q := 102) rfl rfl ?_
              refine x_isub hK kX10_raise_102 (q := 103) rfl ?_
              refine x_iushr hK kX10_raise_103 (q := 104) rfl ?_
              rw [show (28 : Int) - P = ((28 - P : Nat) : Int) by omega, zUshr_n _ w0.1 (by omega) _ (by omega)]
              refine x_i2l hK kX10_raise_104 (q := 105) rfl (by 
                    have := Int.ediv_nonneg w0.1 (show (0 : Int) ≤ 2 ^ (28 - P) from Int.le_of_lt (Int.pow_pos (by decide)))
                    have := Int.ediv_le_self (b := 2 ^ (28 - P)) w0.1
                    constructor <;> omega) ?_
              refine x_goto hK kX10_raise_105 (tg := 109) rfl ?_
              refine x_lstore hK kX10_raise_109 (q := 111) rfl ?_
              refine x_aload_n hK kX10_raise_111 (q := 112) rfl rfl ?_
              refine x_getfield hK kX10_raise_112 (q := 115) rfl (gX10_12 ?_)
              refine x_iload_n hK kX10_raise_115 (q := 116) rfl rfl ?_
              refine x_iload hK kX10_raise_116 (q := 118) rfl rfl ?_
              refine x_iadd hK kX10_raise_118 (q := 119) rfl ?_
              refine x_iload hK kX10_raise_119 (q := 121) rfl rfl ?_
              refine x_iadd hK kX10_raise_121 (q := 122) rfl ?_
              refine x_lload hK kX10_raise_122 (q := 124) rfl rfl ?_
              refine x_lload hK kX10_raise_124 (q := 126) rfl rfl ?_
              refine x_lor hK kX10_raise_126 (q := 127) rfl ?_
              simp only [lS, lS2, clr_0, clr_I, clr_L, clr_R]
              rw [q1]
              refine x_l2i hK kX10_raise_127 (q := 128) rfl ?_
              refine x_iastore hK kX10_raise_128 (q := 129) rfl (yX10_A0 (by refine ⟨?_, ?_⟩ <;> omega) ?_)
              refine x_iinc hK kX10_raise_129 (q := 132) rfl rfl ?_
              simp only [lS, lS2, clr_0, clr_I, clr_L, clr_R]
              refine x_goto hK kX10_raise_132 (tg := 40) rfl ?_
              rw [uA_g, uA_u]
              exact next _ _ _ _ _ (by omega)
        refine x_iload hK kX10_raise_40 (q := 42) rfl rfl ?_
        refine x_iconst hK kX10_raise_42 (q := 43) rfl ?_
        refine x_icmp_lt hK kX10_raise_43 (q := 46) rfl (tg := 135) rfl (by refine ⟨?_, ?_⟩ <;> omega) (fun c43 => ?_) (fun c43 => ?_)
        · exact absurd c43 (by omega)
        · refine x_iload hK kX10_raise_46 (q := 48) rfl rfl ?_
          refine x_iload hK kX10_raise_48 (q := 50) rfl rfl ?_
          refine x_icmp_gt hK kX10_raise_50 (q := 53) rfl (tg := 73) rfl (by refine ⟨?_, ?_⟩ <;> omega) (fun c50 => ?_) (fun c50 => ?_)
          · have hH : rsH G n P (k + 1) = 0 := by unfold rsH; rw [if_neg (by omega)]; simp
            refine x_lconst0 hK kX10_raise_73 (q := 74) rfl ?_
            first | exact mid _ _ _ _ | (rw [← hH]; exact mid _ _ _ _)
          · refine x_aload_n hK kX10_raise_53 (q := 54) rfl rfl ?_
            refine x_getfield hK kX10_raise_54 (q := 57) rfl (gX10_12 ?_)
            refine x_iload_n hK kX10_raise_57 (q := 58) rfl rfl ?_
            refine x_iload hK kX10_raise_58 (q := 60) rfl rfl ?_
            refine x_iadd hK kX10_raise_60 (q := 61) rfl ?_
            refine x_iaload hK kX10_raise_61 (q := 62) rfl (aX10_A0 (by refine ⟨?_, ?_⟩ <;> omega) ?_)
            rw [uA_g, hl (k + 1) (by omega) (by omega)]
            refine x_i2l hK kX10_raise_62 (q := 63) rfl (by 
                  have := hGr k (by omega)
                  rw [show (1 : Int) + (k : Int) = ((k + 1 : Nat) : Int) by omega] at this
                  constructor <;> omega) ?_
            refine x_iload hK kX10_raise_63 (q := 65) rfl rfl ?_
            refine x_lshl hK kX10_raise_65 (q := 66) rfl ?_
            refine x_ldc2_w hK kX10_raise_66 (q := 69) rfl lc2_RX10_73 ?_
            have w0 := hGr k (by omega)
            rw [show (1 : Int) + (k : Int) = ((k + 1 : Nat) : Int) by omega] at w0
            have p27 : (2 : Int) ^ P ≤ 2 ^ 27 := zb_ple (by omega)
            have p0 : (0 : Int) < 2 ^ P := Int.pow_pos (by decide)
            have m1 := Int.mul_nonneg w0.1 (Int.le_of_lt p0)
            have m2 := Int.mul_le_mul (show G ((k + 1 : Nat) : Int) ≤ 268435455 by omega) p27 (Int.le_of_lt p0) (by decide)
            have e27 : (268435455 : Int) * 2 ^ 27 = 36028796884746240 := by decide
            rw [e27] at m2
            rw [zShlL_n _ _ (by omega) (by constructor <;> omega)]
            refine x_land hK kX10_raise_69 (q := 70) rfl ?_
            rw [zAndL_m _ _ 28 (by decide) (by decide)]
            have hH : rsH G n P (k + 1) = G ((k + 1 : Nat) : Int) * 2 ^ P % 2 ^ 28 := by unfold rsH; rw [if_pos (by omega)]
            rw [← hH]
            refine x_goto hK kX10_raise_70 (tg := 74) rfl ?_
            first | exact mid _ _ _ _ | (rw [← hH]; exact mid _ _ _ _)
    refine x_iload hK kX10_raise_34 (q := 36) rfl rfl ?_
    refine x_iconst hK kX10_raise_36 (q := 37) rfl ?_
    refine x_iadd hK kX10_raise_37 (q := 38) rfl ?_
    refine x_istore hK kX10_raise_38 (q := 40) rfl ?_
    simp only [lS, lS2, clr_0, clr_I, clr_L, clr_R]
    exact x_to (top (n + 1) (A 0) _ _ _ _ (Nat.le_refl _) (fun _ _ => rfl) (fun j a b => by omega) (fun j a b => (hG j).symm)) rfl rfl (by rw [uA_s])
  simp only [eLoc, eE, List.length_cons, List.length_nil, List.replicate, List.cons_append, List.nil_append, Nat.reduceAdd, Nat.reduceSub]
  refine x_iload_n hK kX10_raise_0 (q := 1) rfl rfl ?_
  refine x_cs1 hK kX10_raise_1 (q := 4) rfl (stX10_raise_64) (Nat.le_of_ble_eq_true rfl) ?_
  refine SX10_at_i ?_
  refine x_istore_n hK kX10_raise_4 (q := 5) (jn := 3) rfl rfl ?_
  refine x_aload_n hK kX10_raise_5 (q := 6) rfl rfl ?_
  refine x_iload_n hK kX10_raise_6 (q := 7) rfl rfl ?_
  simp only [lS, lS2, clr_0, clr_I, clr_L, clr_R]
  refine x_cv2 hK kX10_raise_7 (q := 10) rfl (vtX10_raise_75) (Nat.le_of_ble_eq_true rfl) ?_
  refine SX10_length_i (by omega) hw ?_
  rw [hln]
  refine x_istore hK kX10_raise_10 (q := 12) rfl ?_
  refine x_iload_n hK kX10_raise_12 (q := 13) rfl rfl ?_
  refine x_bipush hK kX10_raise_13 (q := 15) rfl (by decide) ?_
  refine x_idiv hK kX10_raise_15 (q := 16) rfl (by refine ⟨?_, ?_, ?_⟩ <;> omega) ?_
  simp only [lS, lS2, clr_0, clr_I, clr_L, clr_R]
  rw [Int.tdiv_eq_ediv_of_nonneg (by omega), show (e : Int) / 28 = (W : Int) by omega]
  refine x_istore hK kX10_raise_16 (q := 18) rfl ?_
  refine x_iload_n hK kX10_raise_18 (q := 19) rfl rfl ?_
  refine x_bipush hK kX10_raise_19 (q := 21) rfl (by decide) ?_
  refine x_irem hK kX10_raise_21 (q := 22) rfl (by refine ⟨?_, ?_, ?_⟩ <;> omega) ?_
  simp only [lS, lS2, clr_0, clr_I, clr_L, clr_R]
  rw [Int.tmod_eq_emod_of_nonneg (by omega), show (e : Int) % 28 = (P : Int) by omega]
  refine x_istore hK kX10_raise_22 (q := 24) rfl ?_
  refine x_iload hK kX10_raise_24 (q := 26) rfl rfl ?_
  simp only [lS, lS2, clr_0, clr_I, clr_L, clr_R]
  refine x_if_eq hK kX10_raise_26 (q := 29) rfl (tg := 33) rfl (by omega) (fun c26 => ?_) (fun c26 => ?_)
  · refine x_return_ hK kX10_raise_33 (by first | trivial | exact Or.inl rfl | exact Or.inr rfl) ?_
    exact base (by omega)
  · refine x_iload_n hK kX10_raise_29 (q := 30) rfl rfl ?_
    refine x_if_ne hK kX10_raise_30 (q := 33) rfl (tg := 34) rfl (by omega) (fun c30 => ?_) (fun c30 => ?_)
    · exact work (by omega) (by omega)
    · refine x_return_ hK kX10_raise_33 (by first | trivial | exact Or.inl rfl | exact Or.inr rfl) ?_
      exact base (by omega)
set_option maxRecDepth 20000 in
theorem mX10_raise : eMet yX10_raise cX10_raise 12 none 2 42 SX10_raise := eMet_of (by decide +kernel) sX10_raise kX10_raise_ok caX10_raise tb_RX10
theorem wX10_raise : eWV yX10_raise cX10_raise 12 none 3 9 SX10_raise := ⟨(gW_at 1129 (by decide +kernel) rfl), (gW_at 89 (by decide +kernel) rfl), (gW_at 1128 (by decide +kernel) rfl), ⟨_, rfl, (gW_at 46 (by decide +kernel) rfl)⟩, by decide +kernel, SX10_raise_r⟩
