/-! join(p, q, s): p becomes p and s times q. -/
theorem nm_hd {f : Int → Int} {p z s : Int} {n : Nat} (h : nm f p z) (hn : zAbs (f (p * 601)) = n) (hs : s = 1 ∨ s = -1) : nm (uI f (p * 601) (s * n)) p (s * zAbs z) := by
  obtain ⟨n2, hn2, hr, ht, hln, hav, -⟩ := nm_h h
  have e : n2 = n := by omega
  subst e
  have e2 : ∀ k : Nat, k < n2 → uI f (p * 601) (s * n2) (p * 601 + 1 + k) = f (p * 601 + 1 + k) := fun k _ => uI_n _ _ (by omega)
  refine ⟨n2, hn2, lr_cong hr e2, fun q => ?_, ?_⟩
  · rw [uI_n _ _ (by omega)]
    exact ht q
  · rw [uI_s, vl_cong e2, hav]
    rcases hs with rfl | rfl
    · left; constructor <;> omega
    · right; constructor <;> omega
theorem zSgn_in (z : Int) : z ≠ 0 → zSgn z = 1 ∨ zSgn z = -1 := by
  intro h
  unfold zSgn
  split
  · right; rfl
  · left; first | rfl | (rw [if_neg h])
theorem zSgn_zAbs (z : Int) : zSgn z * zAbs z = z := by rw [zAbs_n]; exact zSgn_abs z
theorem zSgn_ne {z : Int} (h : zSgn z ≠ 0) : z ≠ 0 := fun e => h (by rw [e]; rfl)
theorem zSgn_nz {z : Int} (h : z ≠ 0) : zSgn z ≠ 0 := by rcases zSgn_in z h with e | e <;> omega
theorem zSgn_w (z : Int) : w32 (zSgn z) := by unfold zSgn; constructor <;> (split <;> (try split) <;> omega)
def zZ (a : Int) : Int := if a = 0 then 1 else 0
theorem SX10_isZero_j {F : Nat → Int} {A : Nat → Int → Int} {p : Int} {rt : Option eV → eM → Prop} (h0 : 0 ≤ p * 601 ∧ p * 601 < 1602266) (h1 : w32 (A 0 (p * 601))) (h : rt (some (eI (zZ (A 0 (p * 601))))) (cR F A)) : SX10_isZero [eRR, eI p] (cR F A) rt := by
  refine SX10_isZero_i h0 h1 (fun e => ?_) (fun e => ?_)
  · unfold zZ at h
    rw [if_pos e] at h
    exact h
  · unfold zZ at h
    rw [if_neg e] at h
    exact h
theorem zZ_w (a : Int) : w32 (zZ a) := by unfold zZ; split <;> decide
theorem zZ_0 {a : Int} : zZ a = 0 ↔ a ≠ 0 := by unfold zZ; split <;> simp_all
theorem nm_len {f g : Int → Int} {p q z : Int} (h : nm f p z) (h2 : nm g q z) : zAbs (f (p * 601)) = zAbs (g (q * 601)) := by
  obtain ⟨n, -, -, -, a1, -, a2, -, -, a3, a4, -⟩ := nm_h h
  obtain ⟨m, -, -, -, b1, -, b2, -, -, b3, b4, -⟩ := nm_h h2
  rw [a1, b1]
  rcases Nat.lt_trichotomy n m with e | e | e
  · have := bB_mono (show n ≤ m - 1 by omega)
    have := b3 (by rw [Ne, b2]; omega)
    omega
  · rw [e]
  · have := bB_mono (show m ≤ n - 1 by omega)
    have := a3 (by rw [Ne, a2]; omega)
    omega
def SX10_join : eSp := fun as M rt => ∃ (F : Nat → Int) (A : Nat → Int → Int) (p q s y z : Int), as = [eRR, eI p, eI q, eI s] ∧ M = cR F A ∧ (0 ≤ p ∧ p < 2666) ∧ (0 ≤ q ∧ q < 2666) ∧ p ≠ q ∧ (s = 1 ∨ s = -1) ∧ nm (A 0) p y ∧ nm (A 0) q z ∧ (zAbs y < bB ^ 599 ∧ zAbs z < bB ^ 599) ∧ ∀ A', sN A A' → oB (A 0) (A' 0) p → nm (A' 0) p (y + s * z) → rt none (cR F A')
theorem SX10_join_i {F : Nat → Int} {A : Nat → Int → Int} {p q s : Int} {rt : Option eV → eM → Prop} (y z : Int) (h0 : 0 ≤ p ∧ p < 2666) (h1 : 0 ≤ q ∧ q < 2666) (h2 : p ≠ q) (h3 : s = 1 ∨ s = -1) (h4 : nm (A 0) p y) (h5 : nm (A 0) q z) (h6 : zAbs y < bB ^ 599 ∧ zAbs z < bB ^ 599) (h : ∀ A', sN A A' → oB (A 0) (A' 0) p → nm (A' 0) p (y + s * z) → rt none (cR F A')) : SX10_join [eRR, eI p, eI q, eI s] (cR F A) rt := ⟨F, A, p, q, s, y, z, rfl, rfl, h0, h1, h2, h3, h4, h5, h6, h⟩
theorem SX10_join_r : ∀ as M rt, SX10_join as M rt → ∃ a r fs, as = eR a :: r ∧ M a = some (.inl (9, fs)) := by
  rintro as M rt ⟨F, A, p, q, s, y, z, rfl, rfl, -⟩
  exact ⟨_, _, _, rfl, rfl⟩
def kX10_join : List (Nat × Jvm.ClassFile.Instr × Nat) := [(0, .iload_n 3, 1), (1, .aload_n 0, 1), (2, .iload_n 2, 1), (3, .invokevirtual 78, 3), (6, .imul, 1), (7, .istore 4, 2), (9, .iload 4, 2), (11, .ifCond .ne 4, 3), (14, .return_, 1), (15, .aload_n 0, 1), (16, .iload_n 1, 1), (17, .invokevirtual 81, 3), (20, .ifCond .eq 27, 3), (23, .aload_n 0, 1), (24, .iload_n 1, 1), (25, .iload_n 2, 1), (26, .invokevirtual 85, 3), (29, .aload_n 0, 1), (30, .getfield 12, 3), (33, .iload_n 1, 1), (34, .invokestatic 64, 3), (37, .iload 4, 2), (39, .aload_n 0, 1), (40, .iload_n 2, 1), (41, .invokevirtual 75, 3), (44, .imul, 1), (45, .iastore, 1), (46, .return_, 1), (47, .iload_n 1, 1), (48, .invokestatic 64, 3), (51, .istore 5, 2), (53, .iload_n 2, 1), (54, .invokestatic 64, 3), (57, .istore 6, 2), (59, .aload_n 0, 1), (60, .iload_n 1, 1), (61, .invokevirtual 75, 3), (64, .aload_n 0, 1), (65, .iload_n 2, 1), (66, .invokevirtual 75, 3), (69, .invokestatic 89, 3), (72, .istore 7, 2), (74, .aload_n 0, 1), (75, .iload_n 1, 1), (76, .invokevirtual 78, 3), (79, .iload 4, 2), (81, .if_icmp .ne 7, 3), (84, .iconst 1, 1), (85, .goto 4, 3), (88, .iconst 0, 1), (89, .istore 8, 2), (91, .iload 8, 2), (93, .ifCond .ne 16, 3), (96, .aload_n 0, 1), (97, .iload_n 1, 1), (98, .iload_n 2, 1), (99, .invokevirtual 95, 3), (102, .ifCond .ge 7, 3), (105, .iconst 1, 1), (106, .goto 4, 3), (109, .iconst 0, 1), (110, .istore 9, 2), (112, .iload 9, 2), (114, .ifCond .eq 8, 3), (117, .iload 4, 2), (119, .goto 8, 3), (122, .aload_n 0, 1), (123, .iload_n 1, 1), (124, .invokevirtual 78, 3), (127, .istore 10, 2), (129, .aload_n 0, 1), (130, .iload_n 1, 1), (131, .invokevirtual 75, 3), (134, .istore 11, 2), (136, .aload_n 0, 1), (137, .iload_n 2, 1), (138, .invokevirtual 75, 3), (141, .istore 12, 2), (143, .iconst 0, 1), (144, .istore 13, 2), (146, .iconst 1, 1), (147, .istore 14, 2), (149, .iload 14, 2), (151, .iload 7, 2), (153, .if_icmp .gt 119, 3), (156, .iload 14, 2), (158, .iload 11, 2), (160, .if_icmp .gt 16, 3), (163, .aload_n 0, 1), (164, .getfield 12, 3), (167, .iload 5, 2), (169, .iload 14, 2), (171, .iadd, 1), (172, .iaload, 1), (173, .goto 4, 3), (176, .iconst 0, 1), (177, .istore 15, 2), (179, .iload 14, 2), (181, .iload 12, 2), (183, .if_icmp .gt 16, 3), (186, .aload_n 0, 1), (187, .getfield 12, 3), (190, .iload 6, 2), (192, .iload 14, 2), (194, .iadd, 1), (195, .iaload, 1), (196, .goto 4, 3), (199, .iconst 0, 1), (200, .istore 16, 2), (202, .iload 8, 2), (204, .ifCond .eq 14, 3), (207, .iload 15, 2), (209, .iload 16, 2), (211, .iadd, 1), (212, .iload 13, 2), (214, .iadd, 1), (215, .goto 27, 3), (218, .iload 9, 2), (220, .ifCond .eq 14, 3), (223, .iload 16, 2), (225, .iload 15, 2), (227, .isub, 1), (228, .iload 13, 2), (230, .iadd, 1), (231, .goto 11, 3), (234, .iload 15, 2), (236, .iload 16, 2), (238, .isub, 1), (239, .iload 13, 2), (241, .iadd, 1), (242, .istore 17, 2), (244, .aload_n 0, 1), (245, .getfield 12, 3), (248, .iload 5, 2), (250, .iload 14, 2), (252, .iadd, 1), (253, .iload 17, 2), (255, .ldc 98, 2), (257, .iand, 1), (258, .iastore, 1), (259, .iload 17, 2), (261, .bipush 28, 2), (263, .ishr, 1), (264, .istore 13, 2), (266, .iinc 14 1, 3), (269, .goto (-120), 3), (272, .iload 13, 2), (274, .ifCond .le 18, 3), (277, .iinc 7 1, 3), (280, .aload_n 0, 1), (281, .getfield 12, 3), (284, .iload 5, 2), (286, .iload 7, 2), (288, .iadd, 1), (289, .iload 13, 2), (291, .iastore, 1), (292, .aload_n 0, 1), (293, .iload 5, 2), (295, .iload 7, 2), (297, .iload 10, 2), (299, .invokevirtual 99, 3), (302, .return_, 1)]
theorem kX10_join_0 : cdOf kX10_join 0 = some (.iload_n 3, 1) := by decide +kernel
theorem kX10_join_1 : cdOf kX10_join 1 = some (.aload_n 0, 1) := by decide +kernel
theorem kX10_join_2 : cdOf kX10_join 2 = some (.iload_n 2, 1) := by decide +kernel
theorem kX10_join_3 : cdOf kX10_join 3 = some (.invokevirtual 78, 3) := by decide +kernel
theorem kX10_join_6 : cdOf kX10_join 6 = some (.imul, 1) := by decide +kernel
theorem kX10_join_7 : cdOf kX10_join 7 = some (.istore 4, 2) := by decide +kernel
theorem kX10_join_9 : cdOf kX10_join 9 = some (.iload 4, 2) := by decide +kernel
theorem kX10_join_11 : cdOf kX10_join 11 = some (.ifCond .ne 4, 3) := by decide +kernel
theorem kX10_join_14 : cdOf kX10_join 14 = some (.return_, 1) := by decide +kernel
theorem kX10_join_15 : cdOf kX10_join 15 = some (.aload_n 0, 1) := by decide +kernel
theorem kX10_join_16 : cdOf kX10_join 16 = some (.iload_n 1, 1) := by decide +kernel
theorem kX10_join_17 : cdOf kX10_join 17 = some (.invokevirtual 81, 3) := by decide +kernel
theorem kX10_join_20 : cdOf kX10_join 20 = some (.ifCond .eq 27, 3) := by decide +kernel
theorem kX10_join_23 : cdOf kX10_join 23 = some (.aload_n 0, 1) := by decide +kernel
theorem kX10_join_24 : cdOf kX10_join 24 = some (.iload_n 1, 1) := by decide +kernel
theorem kX10_join_25 : cdOf kX10_join 25 = some (.iload_n 2, 1) := by decide +kernel
theorem kX10_join_26 : cdOf kX10_join 26 = some (.invokevirtual 85, 3) := by decide +kernel
theorem kX10_join_29 : cdOf kX10_join 29 = some (.aload_n 0, 1) := by decide +kernel
theorem kX10_join_30 : cdOf kX10_join 30 = some (.getfield 12, 3) := by decide +kernel
theorem kX10_join_33 : cdOf kX10_join 33 = some (.iload_n 1, 1) := by decide +kernel
theorem kX10_join_34 : cdOf kX10_join 34 = some (.invokestatic 64, 3) := by decide +kernel
theorem kX10_join_37 : cdOf kX10_join 37 = some (.iload 4, 2) := by decide +kernel
theorem kX10_join_39 : cdOf kX10_join 39 = some (.aload_n 0, 1) := by decide +kernel
theorem kX10_join_40 : cdOf kX10_join 40 = some (.iload_n 2, 1) := by decide +kernel
theorem kX10_join_41 : cdOf kX10_join 41 = some (.invokevirtual 75, 3) := by decide +kernel
theorem kX10_join_44 : cdOf kX10_join 44 = some (.imul, 1) := by decide +kernel
theorem kX10_join_45 : cdOf kX10_join 45 = some (.iastore, 1) := by decide +kernel
theorem kX10_join_46 : cdOf kX10_join 46 = some (.return_, 1) := by decide +kernel
theorem kX10_join_47 : cdOf kX10_join 47 = some (.iload_n 1, 1) := by decide +kernel
theorem kX10_join_48 : cdOf kX10_join 48 = some (.invokestatic 64, 3) := by decide +kernel
theorem kX10_join_51 : cdOf kX10_join 51 = some (.istore 5, 2) := by decide +kernel
theorem kX10_join_53 : cdOf kX10_join 53 = some (.iload_n 2, 1) := by decide +kernel
theorem kX10_join_54 : cdOf kX10_join 54 = some (.invokestatic 64, 3) := by decide +kernel
theorem kX10_join_57 : cdOf kX10_join 57 = some (.istore 6, 2) := by decide +kernel
theorem kX10_join_59 : cdOf kX10_join 59 = some (.aload_n 0, 1) := by decide +kernel
theorem kX10_join_60 : cdOf kX10_join 60 = some (.iload_n 1, 1) := by decide +kernel
theorem kX10_join_61 : cdOf kX10_join 61 = some (.invokevirtual 75, 3) := by decide +kernel
theorem kX10_join_64 : cdOf kX10_join 64 = some (.aload_n 0, 1) := by decide +kernel
theorem kX10_join_65 : cdOf kX10_join 65 = some (.iload_n 2, 1) := by decide +kernel
theorem kX10_join_66 : cdOf kX10_join 66 = some (.invokevirtual 75, 3) := by decide +kernel
theorem kX10_join_69 : cdOf kX10_join 69 = some (.invokestatic 89, 3) := by decide +kernel
theorem kX10_join_72 : cdOf kX10_join 72 = some (.istore 7, 2) := by decide +kernel
theorem kX10_join_74 : cdOf kX10_join 74 = some (.aload_n 0, 1) := by decide +kernel
theorem kX10_join_75 : cdOf kX10_join 75 = some (.iload_n 1, 1) := by decide +kernel
theorem kX10_join_76 : cdOf kX10_join 76 = some (.invokevirtual 78, 3) := by decide +kernel
theorem kX10_join_79 : cdOf kX10_join 79 = some (.iload 4, 2) := by decide +kernel
theorem kX10_join_81 : cdOf kX10_join 81 = some (.if_icmp .ne 7, 3) := by decide +kernel
theorem kX10_join_84 : cdOf kX10_join 84 = some (.iconst 1, 1) := by decide +kernel
theorem kX10_join_85 : cdOf kX10_join 85 = some (.goto 4, 3) := by decide +kernel
theorem kX10_join_88 : cdOf kX10_join 88 = some (.iconst 0, 1) := by decide +kernel
theorem kX10_join_89 : cdOf kX10_join 89 = some (.istore 8, 2) := by decide +kernel
theorem kX10_join_91 : cdOf kX10_join 91 = some (.iload 8, 2) := by decide +kernel
theorem kX10_join_93 : cdOf kX10_join 93 = some (.ifCond .ne 16, 3) := by decide +kernel
theorem kX10_join_96 : cdOf kX10_join 96 = some (.aload_n 0, 1) := by decide +kernel
theorem kX10_join_97 : cdOf kX10_join 97 = some (.iload_n 1, 1) := by decide +kernel
theorem kX10_join_98 : cdOf kX10_join 98 = some (.iload_n 2, 1) := by decide +kernel
theorem kX10_join_99 : cdOf kX10_join 99 = some (.invokevirtual 95, 3) := by decide +kernel
theorem kX10_join_102 : cdOf kX10_join 102 = some (.ifCond .ge 7, 3) := by decide +kernel
theorem kX10_join_105 : cdOf kX10_join 105 = some (.iconst 1, 1) := by decide +kernel
theorem kX10_join_106 : cdOf kX10_join 106 = some (.goto 4, 3) := by decide +kernel
theorem kX10_join_109 : cdOf kX10_join 109 = some (.iconst 0, 1) := by decide +kernel
theorem kX10_join_110 : cdOf kX10_join 110 = some (.istore 9, 2) := by decide +kernel
theorem kX10_join_112 : cdOf kX10_join 112 = some (.iload 9, 2) := by decide +kernel
theorem kX10_join_114 : cdOf kX10_join 114 = some (.ifCond .eq 8, 3) := by decide +kernel
theorem kX10_join_117 : cdOf kX10_join 117 = some (.iload 4, 2) := by decide +kernel
theorem kX10_join_119 : cdOf kX10_join 119 = some (.goto 8, 3) := by decide +kernel
theorem kX10_join_122 : cdOf kX10_join 122 = some (.aload_n 0, 1) := by decide +kernel
theorem kX10_join_123 : cdOf kX10_join 123 = some (.iload_n 1, 1) := by decide +kernel
theorem kX10_join_124 : cdOf kX10_join 124 = some (.invokevirtual 78, 3) := by decide +kernel
theorem kX10_join_127 : cdOf kX10_join 127 = some (.istore 10, 2) := by decide +kernel
theorem kX10_join_129 : cdOf kX10_join 129 = some (.aload_n 0, 1) := by decide +kernel
theorem kX10_join_130 : cdOf kX10_join 130 = some (.iload_n 1, 1) := by decide +kernel
theorem kX10_join_131 : cdOf kX10_join 131 = some (.invokevirtual 75, 3) := by decide +kernel
theorem kX10_join_134 : cdOf kX10_join 134 = some (.istore 11, 2) := by decide +kernel
theorem kX10_join_136 : cdOf kX10_join 136 = some (.aload_n 0, 1) := by decide +kernel
theorem kX10_join_137 : cdOf kX10_join 137 = some (.iload_n 2, 1) := by decide +kernel
theorem kX10_join_138 : cdOf kX10_join 138 = some (.invokevirtual 75, 3) := by decide +kernel
theorem kX10_join_141 : cdOf kX10_join 141 = some (.istore 12, 2) := by decide +kernel
theorem kX10_join_143 : cdOf kX10_join 143 = some (.iconst 0, 1) := by decide +kernel
theorem kX10_join_144 : cdOf kX10_join 144 = some (.istore 13, 2) := by decide +kernel
theorem kX10_join_146 : cdOf kX10_join 146 = some (.iconst 1, 1) := by decide +kernel
theorem kX10_join_147 : cdOf kX10_join 147 = some (.istore 14, 2) := by decide +kernel
theorem kX10_join_149 : cdOf kX10_join 149 = some (.iload 14, 2) := by decide +kernel
theorem kX10_join_151 : cdOf kX10_join 151 = some (.iload 7, 2) := by decide +kernel
theorem kX10_join_153 : cdOf kX10_join 153 = some (.if_icmp .gt 119, 3) := by decide +kernel
theorem kX10_join_156 : cdOf kX10_join 156 = some (.iload 14, 2) := by decide +kernel
theorem kX10_join_158 : cdOf kX10_join 158 = some (.iload 11, 2) := by decide +kernel
theorem kX10_join_160 : cdOf kX10_join 160 = some (.if_icmp .gt 16, 3) := by decide +kernel
theorem kX10_join_163 : cdOf kX10_join 163 = some (.aload_n 0, 1) := by decide +kernel
theorem kX10_join_164 : cdOf kX10_join 164 = some (.getfield 12, 3) := by decide +kernel
theorem kX10_join_167 : cdOf kX10_join 167 = some (.iload 5, 2) := by decide +kernel
theorem kX10_join_169 : cdOf kX10_join 169 = some (.iload 14, 2) := by decide +kernel
theorem kX10_join_171 : cdOf kX10_join 171 = some (.iadd, 1) := by decide +kernel
theorem kX10_join_172 : cdOf kX10_join 172 = some (.iaload, 1) := by decide +kernel
theorem kX10_join_173 : cdOf kX10_join 173 = some (.goto 4, 3) := by decide +kernel
theorem kX10_join_176 : cdOf kX10_join 176 = some (.iconst 0, 1) := by decide +kernel
theorem kX10_join_177 : cdOf kX10_join 177 = some (.istore 15, 2) := by decide +kernel
theorem kX10_join_179 : cdOf kX10_join 179 = some (.iload 14, 2) := by decide +kernel
theorem kX10_join_181 : cdOf kX10_join 181 = some (.iload 12, 2) := by decide +kernel
theorem kX10_join_183 : cdOf kX10_join 183 = some (.if_icmp .gt 16, 3) := by decide +kernel
theorem kX10_join_186 : cdOf kX10_join 186 = some (.aload_n 0, 1) := by decide +kernel
theorem kX10_join_187 : cdOf kX10_join 187 = some (.getfield 12, 3) := by decide +kernel
theorem kX10_join_190 : cdOf kX10_join 190 = some (.iload 6, 2) := by decide +kernel
theorem kX10_join_192 : cdOf kX10_join 192 = some (.iload 14, 2) := by decide +kernel
theorem kX10_join_194 : cdOf kX10_join 194 = some (.iadd, 1) := by decide +kernel
theorem kX10_join_195 : cdOf kX10_join 195 = some (.iaload, 1) := by decide +kernel
theorem kX10_join_196 : cdOf kX10_join 196 = some (.goto 4, 3) := by decide +kernel
theorem kX10_join_199 : cdOf kX10_join 199 = some (.iconst 0, 1) := by decide +kernel
theorem kX10_join_200 : cdOf kX10_join 200 = some (.istore 16, 2) := by decide +kernel
theorem kX10_join_202 : cdOf kX10_join 202 = some (.iload 8, 2) := by decide +kernel
theorem kX10_join_204 : cdOf kX10_join 204 = some (.ifCond .eq 14, 3) := by decide +kernel
theorem kX10_join_207 : cdOf kX10_join 207 = some (.iload 15, 2) := by decide +kernel
theorem kX10_join_209 : cdOf kX10_join 209 = some (.iload 16, 2) := by decide +kernel
theorem kX10_join_211 : cdOf kX10_join 211 = some (.iadd, 1) := by decide +kernel
theorem kX10_join_212 : cdOf kX10_join 212 = some (.iload 13, 2) := by decide +kernel
theorem kX10_join_214 : cdOf kX10_join 214 = some (.iadd, 1) := by decide +kernel
theorem kX10_join_215 : cdOf kX10_join 215 = some (.goto 27, 3) := by decide +kernel
theorem kX10_join_218 : cdOf kX10_join 218 = some (.iload 9, 2) := by decide +kernel
theorem kX10_join_220 : cdOf kX10_join 220 = some (.ifCond .eq 14, 3) := by decide +kernel
theorem kX10_join_223 : cdOf kX10_join 223 = some (.iload 16, 2) := by decide +kernel
theorem kX10_join_225 : cdOf kX10_join 225 = some (.iload 15, 2) := by decide +kernel
theorem kX10_join_227 : cdOf kX10_join 227 = some (.isub, 1) := by decide +kernel
theorem kX10_join_228 : cdOf kX10_join 228 = some (.iload 13, 2) := by decide +kernel
theorem kX10_join_230 : cdOf kX10_join 230 = some (.iadd, 1) := by decide +kernel
theorem kX10_join_231 : cdOf kX10_join 231 = some (.goto 11, 3) := by decide +kernel
theorem kX10_join_234 : cdOf kX10_join 234 = some (.iload 15, 2) := by decide +kernel
theorem kX10_join_236 : cdOf kX10_join 236 = some (.iload 16, 2) := by decide +kernel
theorem kX10_join_238 : cdOf kX10_join 238 = some (.isub, 1) := by decide +kernel
theorem kX10_join_239 : cdOf kX10_join 239 = some (.iload 13, 2) := by decide +kernel
theorem kX10_join_241 : cdOf kX10_join 241 = some (.iadd, 1) := by decide +kernel
theorem kX10_join_242 : cdOf kX10_join 242 = some (.istore 17, 2) := by decide +kernel
theorem kX10_join_244 : cdOf kX10_join 244 = some (.aload_n 0, 1) := by decide +kernel
theorem kX10_join_245 : cdOf kX10_join 245 = some (.getfield 12, 3) := by decide +kernel
theorem kX10_join_248 : cdOf kX10_join 248 = some (.iload 5, 2) := by decide +kernel
theorem kX10_join_250 : cdOf kX10_join 250 = some (.iload 14, 2) := by decide +kernel
theorem kX10_join_252 : cdOf kX10_join 252 = some (.iadd, 1) := by decide +kernel
theorem kX10_join_253 : cdOf kX10_join 253 = some (.iload 17, 2) := by decide +kernel
theorem kX10_join_255 : cdOf kX10_join 255 = some (.ldc 98, 2) := by decide +kernel
theorem kX10_join_257 : cdOf kX10_join 257 = some (.iand, 1) := by decide +kernel
theorem kX10_join_258 : cdOf kX10_join 258 = some (.iastore, 1) := by decide +kernel
theorem kX10_join_259 : cdOf kX10_join 259 = some (.iload 17, 2) := by decide +kernel
theorem kX10_join_261 : cdOf kX10_join 261 = some (.bipush 28, 2) := by decide +kernel
theorem kX10_join_263 : cdOf kX10_join 263 = some (.ishr, 1) := by decide +kernel
theorem kX10_join_264 : cdOf kX10_join 264 = some (.istore 13, 2) := by decide +kernel
theorem kX10_join_266 : cdOf kX10_join 266 = some (.iinc 14 1, 3) := by decide +kernel
theorem kX10_join_269 : cdOf kX10_join 269 = some (.goto (-120), 3) := by decide +kernel
theorem kX10_join_272 : cdOf kX10_join 272 = some (.iload 13, 2) := by decide +kernel
theorem kX10_join_274 : cdOf kX10_join 274 = some (.ifCond .le 18, 3) := by decide +kernel
theorem kX10_join_277 : cdOf kX10_join 277 = some (.iinc 7 1, 3) := by decide +kernel
theorem kX10_join_280 : cdOf kX10_join 280 = some (.aload_n 0, 1) := by decide +kernel
theorem kX10_join_281 : cdOf kX10_join 281 = some (.getfield 12, 3) := by decide +kernel
theorem kX10_join_284 : cdOf kX10_join 284 = some (.iload 5, 2) := by decide +kernel
theorem kX10_join_286 : cdOf kX10_join 286 = some (.iload 7, 2) := by decide +kernel
theorem kX10_join_288 : cdOf kX10_join 288 = some (.iadd, 1) := by decide +kernel
theorem kX10_join_289 : cdOf kX10_join 289 = some (.iload 13, 2) := by decide +kernel
theorem kX10_join_291 : cdOf kX10_join 291 = some (.iastore, 1) := by decide +kernel
theorem kX10_join_292 : cdOf kX10_join 292 = some (.aload_n 0, 1) := by decide +kernel
theorem kX10_join_293 : cdOf kX10_join 293 = some (.iload 5, 2) := by decide +kernel
theorem kX10_join_295 : cdOf kX10_join 295 = some (.iload 7, 2) := by decide +kernel
theorem kX10_join_297 : cdOf kX10_join 297 = some (.iload 10, 2) := by decide +kernel
theorem kX10_join_299 : cdOf kX10_join 299 = some (.invokevirtual 99, 3) := by decide +kernel
theorem kX10_join_302 : cdOf kX10_join 302 = some (.return_, 1) := by decide +kernel
set_option maxRecDepth 20000 in
theorem kX10_join_ok : ∀ pc i len, cdOf kX10_join pc = some (i, len) → decode cX10_join pc = .ok (i, len) ∧ stOK 18 i = true ∧ jOK pc i = true ∧ eLen i len = true := cdOf_ok cX10_join 18 kX10_join (by decide +kernel)
def vtX10_join : Nat → Option (Nat × eSp) := fun k => match k with
  | 78 => some (2, SX10_sign)
  | 81 => some (2, SX10_isZero)
  | 85 => some (3, SX10_copy)
  | 75 => some (2, SX10_length)
  | 95 => some (3, SX10_compare)
  | 99 => some (4, SX10_trim)
  | _ => none
theorem vtX10_join_78 : vtX10_join 78 = some (2, SX10_sign) := rfl
theorem vtX10_join_81 : vtX10_join 81 = some (2, SX10_isZero) := rfl
theorem vtX10_join_85 : vtX10_join 85 = some (3, SX10_copy) := rfl
theorem vtX10_join_75 : vtX10_join 75 = some (2, SX10_length) := rfl
theorem vtX10_join_95 : vtX10_join 95 = some (3, SX10_compare) := rfl
theorem vtX10_join_99 : vtX10_join 99 = some (4, SX10_trim) := rfl
def stX10_join : Nat → Option (Nat × eSp) := fun k => match k with
  | 64 => some (1, SX10_at)
  | 89 => some (2, sMax)
  | _ => none
theorem stX10_join_64 : stX10_join 64 = some (1, SX10_at) := rfl
theorem stX10_join_89 : stX10_join 89 = some (2, sMax) := rfl
abbrev TX10_join : eT := (fl_RX10, cl_RX10, dl_RX10, vtX10_join, stX10_join)
set_option maxRecDepth 20000 in
theorem caX10_join : eCalls RX10 { frames := 3, cells := 0, slots := 0, locals := 68 } TX10_join := by
  refine ⟨fun k n sp h => ?_, fun k n sp h => ?_⟩
  · dsimp only [TX10_join] at h
    unfold vtX10_join at h
    split at h
    · cases h; exact eV_mk mX10_sign wX10_sign (by decide +kernel) (Or.inl (gW_at 1142 (by decide +kernel) rfl))
    · cases h; exact eV_mk mX10_isZero wX10_isZero (by decide +kernel) (Or.inl (gW_at 1086 (by decide +kernel) rfl))
    · cases h; exact eV_mk mX10_copy wX10_copy (by decide +kernel) (Or.inl (gW_at 1134 (by decide +kernel) rfl))
    · cases h; exact eV_mk mX10_length wX10_length (by decide +kernel) (Or.inl (gW_at 1101 (by decide +kernel) rfl))
    · cases h; exact eV_mk mX10_compare wX10_compare (by decide +kernel) (Or.inl (gW_at 1158 (by decide +kernel) rfl))
    · cases h; exact eV_mk mX10_trim wX10_trim (by decide +kernel) (Or.inl (gW_at 1130 (by decide +kernel) rfl))
    · cases h
  · dsimp only [TX10_join] at h
    unfold stX10_join at h
    split at h
    · cases h; exact eS_mk mX10_at wX10_at (by decide +kernel) (Or.inl (gW_at 1070 (by decide +kernel) rfl))
    · cases h; exact eS_max (by decide +kernel) (gW_at 1157 (by decide +kernel) rfl) (gW_at 119 (by decide +kernel) rfl) (gW_at 82 (by decide +kernel) rfl) (gW_at 120 (by decide +kernel) rfl)
    · cases h
set_option maxRecDepth 100000 in
set_option maxHeartbeats 4000000 in
theorem sX10_join : eSafe TX10_join (cdOf kX10_join) 18 none SX10_join := by
  intro K rt hK as M h
  obtain ⟨F, A, p, q, s, y, z, rfl, rfl, hp, hq, hpq, hs, hy, hz, ⟨by1, bz1⟩, h⟩ := h
  have hwy := nm_w hy
  have hwz := nm_w hz
  have b0 : bB = 268435456 := rfl
  refine ⟨by simp [eE], ?_⟩
  have hzq : ∀ (f : Int → Int) (j : Int), 0 ≤ j → j ≤ 600 → oB (A 0) f p → f (q * 601 + j) = A 0 (q * 601 + j) := by
    intro f j j0 j1 hof
    apply hof
    rcases Int.lt_or_gt_of_ne hpq with e | e <;> omega
  obtain ⟨lp, hlp, ryr, ryt, ryn, ryv, ry0, -, ry00, ryg, -⟩ := nm_h hy
  obtain ⟨lq, hlq, rzr, rzt, rzn, rzv, rz0, -, rz00, rzg, -⟩ := nm_h hz
  have lp599 : lp ≤ 599 := by
    rcases Nat.lt_or_ge lp 600 with c | c
    · omega
    · have := ryg (by rw [Ne, ry0]; omega)
      have := bB_mono (show 599 ≤ lp - 1 by omega)
      omega
  have lq599 : lq ≤ 599 := by
    rcases Nat.lt_or_ge lq 600 with c | c
    · omega
    · have := rzg (by rw [Ne, rz0]; omega)
      have := bB_mono (show 599 ≤ lq - 1 by omega)
      omega
  obtain ⟨N, hN⟩ : ∃ N, N = max lp lq := ⟨_, rfl⟩
  -- the padded limbs, by places from 1
  obtain ⟨xp, hxp⟩ : ∃ xp : Int → Int, ∀ j, xp j = if j ≤ lp then A 0 (p * 601 + j) else 0 := ⟨fun j => if j ≤ lp then A 0 (p * 601 + j) else 0, fun _ => rfl⟩
  obtain ⟨zp, hzp⟩ : ∃ zp : Int → Int, ∀ j, zp j = if j ≤ lq then A 0 (q * 601 + j) else 0 := ⟨fun j => if j ≤ lq then A 0 (q * 601 + j) else 0, fun _ => rfl⟩
  have pad : ∀ (f : Int → Int) (o : Int) (l : Nat), (∀ j, f j = if j ≤ l then A 0 (o + j) else 0) → l ≤ N → lr (A 0) (o + 1) l → lr f 1 N ∧ vl f 1 N = vl (A 0) (o + 1) l := by
    intro f o l hf hl hr
    constructor
    · intro j hj
      rw [hf]
      split
      · have := hr j (by omega)
        rw [show o + 1 + (j : Int) = o + (1 + (j : Int)) by omega] at this
        exact this
      · omega
    · have h5 := vl_split (f := f) (o := 1) l (N - l)
      rw [show l + (N - l) = N by omega, vl_0 (o := 1 + (l : Int)) (fun k hk => by rw [hf, if_neg (by omega)])] at h5
      rw [h5, Int.zero_mul, Int.add_zero]
      exact vl_cong (fun k hk => by rw [hf, if_pos (by omega)]; congr 1; omega)
  obtain ⟨xr, xv⟩ := pad xp (p * 601) lp hxp (by omega) ryr
  obtain ⟨zr, zv⟩ := pad zp (q * 601) lq hzp (by omega) rzr
  -- the loop and what is behind it
  have loop : ∀ (ca cb res f8 f9 sq : Int), ((f8 = 1 ∧ ca = 1 ∧ cb = 1) ∨ (f8 = 0 ∧ f9 = 1 ∧ ca = -1 ∧ cb = 1) ∨ (f8 = 0 ∧ f9 = 0 ∧ ca = 1 ∧ cb = -1)) → (res = 1 ∨ res = -1) → y + s * z = res * (ca * zAbs y + cb * zAbs z) → 0 ≤ ca * zAbs y + cb * zAbs z → w32 f8 → w32 f9 →
      ∀ (d k : Nat) (f : Int → Int) (cy : Int) (u15 u16 u17 : Option eV), k + d = N → (-1 ≤ cy ∧ cy ≤ 1) → oB (A 0) f p → lr f (p * 601 + 1) k → (∀ j : Nat, k < j → f (p * 601 + j) = A 0 (p * 601 + j)) → vl f (p * 601 + 1) k + cy * bB ^ k = ca * vl xp 1 k + cb * vl zp 1 k →
      K 149 [some eRR, some (eI p), some (eI q), some (eI s), some (eI sq), some (eI (p * 601)), some (eI (q * 601)), some (eI N), some (eI f8), some (eI f9), some (eI res), some (eI lp), some (eI lq), some (eI cy), some (eI (k + 1 : Nat)), u15, u16, u17] [] (cR F (uA A 0 f)) := by
    intro ca cb res f8 f9 sq hcase hres hsum hpos w8 w9 d
    induction d with
    | zero =>
      intro k f cy u15 u16 u17 hk hcy hof hfr hhi hv
      have hkN : k = N := by omega
      subst hkN
      rw [xv, zv, ← ryv, ← rzv] at hv
      have h1 := vl_lt hfr
      have h2 := vl_nn hfr
      have hcy0 : 0 ≤ cy := by
        rcases (show 0 ≤ cy ∨ cy = -1 by omega) with e | e
        · exact e
        · subst e; omega
      refine x_iload hK kX10_join_149 (q := 151) rfl rfl ?_
      refine x_iload hK kX10_join_151 (q := 153) rfl rfl ?_
      refine x_icmp_gt hK kX10_join_153 (q := 156) rfl (tg := 272) rfl (by refine ⟨?_, ?_⟩ <;> omega) (fun c153 => ?_) (fun c153 => ?_)
      · refine x_iload hK kX10_join_272 (q := 274) rfl rfl ?_
        refine x_if_le hK kX10_join_274 (q := 277) rfl (tg := 292) rfl (by omega) (fun c274 => ?_) (fun c274 => ?_)
        · have hc0 : cy = 0 := by omega
          subst hc0
          have htk : tk f (p * 601 + 1) k ≤ 600 := Nat.le_trans (tk_le _ _ _) (by omega)
          have hm := nm_mk (s := res) (by omega) hfr htk hres
          rw [show vl f (p * 601 + 1) k = ca * zAbs y + cb * zAbs z by omega, ← hsum] at hm
          try rw [uA_g, uA_u, ek]
          refine x_aload_n hK kX10_join_292 (q := 293) rfl rfl ?_
          refine x_iload hK kX10_join_293 (q := 295) rfl rfl ?_
          refine x_iload hK kX10_join_295 (q := 297) rfl rfl ?_
          refine x_iload hK kX10_join_297 (q := 299) rfl rfl ?_
          refine x_cv4 hK kX10_join_299 (q := 302) rfl (vtX10_join_99) (Nat.le_of_ble_eq_true rfl) ?_
          first
            | (refine SX10_trim_i k rfl (by omega) (by omega) (fun j hj => by rw [uA_g]; have := hfr j hj; constructor <;> omega) ?_
               rw [uA_g, uA_u])
            | (refine SX10_trim_i (k + 1) (by omega) (by omega) (by omega) (fun j hj => by rw [uA_g]; have := hfr2 j hj; constructor <;> omega) ?_
               rw [uA_g, uA_u])
          refine x_return_ hK kX10_join_302 (by first | trivial | exact Or.inl rfl | exact Or.inr rfl) ?_
          refine h _ (sN_u (by decide) _) (by rw [uA_g]; intro j hj; rw [uI_n _ _ (by omega)]; first | exact hof j hj | (rw [uI_n _ _ (by omega)]; exact hof j hj)) ?_
          rw [uA_g]
          exact hm
        · have hc1 : cy = 1 := by omega
          subst hc1
          have ek : p * 601 + ((k : Int) + 1) = p * 601 + 1 + k := by omega
          have hfr2 : lr (uI f (p * 601 + 1 + k) 1) (p * 601 + 1) (k + 1) := by
            intro j hj
            rcases Nat.lt_or_ge j k with e | e
            · rw [uI_n _ _ (by omega)]; exact hfr j e
            · rw [show j = k by omega, uI_s]; omega
          have htk : tk (uI f (p * 601 + 1 + k) 1) (p * 601 + 1) (k + 1) ≤ 600 := Nat.le_trans (tk_le _ _ _) (by omega)
          have hm := nm_mk (s := res) (by omega) hfr2 htk hres
          rw [vl_one, uI_s, vl_cong (f := f) (fun j hj => uI_n _ _ (by omega)), show vl f (p * 601 + 1) k + 1 * bB ^ k = ca * zAbs y + cb * zAbs z by omega, ← hsum] at hm
          refine x_iinc hK kX10_join_277 (q := 280) rfl rfl ?_
          refine x_aload_n hK kX10_join_280 (q := 281) rfl rfl ?_
          refine x_getfield hK kX10_join_281 (q := 284) rfl (gX10_12 ?_)
          refine x_iload hK kX10_join_284 (q := 286) rfl rfl ?_
          refine x_iload hK kX10_join_286 (q := 288) rfl rfl ?_
          refine x_iadd hK kX10_join_288 (q := 289) rfl ?_
          refine x_iload hK kX10_join_289 (q := 291) rfl rfl ?_
          refine x_iastore hK kX10_join_291 (q := 292) rfl (yX10_A0 (by refine ⟨?_, ?_⟩ <;> omega) ?_)
          simp only [lS, lS2, clr_0, clr_I, clr_L, clr_R]
          try rw [uA_g, uA_u, ek]
          refine x_aload_n hK kX10_join_292 (q := 293) rfl rfl ?_
          refine x_iload hK kX10_join_293 (q := 295) rfl rfl ?_
          refine x_iload hK kX10_join_295 (q := 297) rfl rfl ?_
          refine x_iload hK kX10_join_297 (q := 299) rfl rfl ?_
          refine x_cv4 hK kX10_join_299 (q := 302) rfl (vtX10_join_99) (Nat.le_of_ble_eq_true rfl) ?_
          first
            | (refine SX10_trim_i k rfl (by omega) (by omega) (fun j hj => by rw [uA_g]; have := hfr j hj; constructor <;> omega) ?_
               rw [uA_g, uA_u])
            | (refine SX10_trim_i (k + 1) (by omega) (by omega) (by omega) (fun j hj => by rw [uA_g]; have := hfr2 j hj; constructor <;> omega) ?_
               rw [uA_g, uA_u])
          refine x_return_ hK kX10_join_302 (by first | trivial | exact Or.inl rfl | exact Or.inr rfl) ?_
          refine h _ (sN_u (by decide) _) (by rw [uA_g]; intro j hj; rw [uI_n _ _ (by omega)]; first | exact hof j hj | (rw [uI_n _ _ (by omega)]; exact hof j hj)) ?_
          rw [uA_g]
          exact hm
      · exact absurd c153 (by omega)
    | succ d ih =>
      intro k f cy u15 u16 u17 hk hcy hof hfr hhi hv
      have wx := xr k (by omega)
      have wz := zr k (by omega)
      rw [show (1 : Int) + (k : Int) = ((k + 1 : Nat) : Int) by omega] at wx wz
      have next : ∀ (v : Int) (u15 u16 u17 : Option eV), v = ca * xp ((k + 1 : Nat) : Int) + cb * zp ((k + 1 : Nat) : Int) + cy → K 242 [some eRR, some (eI p), some (eI q), some (eI s), some (eI sq), some (eI (p * 601)), some (eI (q * 601)), some (eI N), some (eI f8), some (eI f9), some (eI res), some (eI lp), some (eI lq), some (eI cy), some (eI (k + 1 : Nat)), u15, u16, u17] [eI v] (cR F (uA A 0 f)) := by
        intro v u15 u16 u17 hv2
        have hvr : -536870912 ≤ v ∧ v < 536870913 := by
          rcases hcase with ⟨-, rfl, rfl⟩ | ⟨-, -, rfl, rfl⟩ | ⟨-, -, rfl, rfl⟩ <;> omega
        have e28 : (2 : Int) ^ 28 = 268435456 := by decide
        refine x_istore hK kX10_join_242 (q := 244) rfl ?_
        refine x_aload_n hK kX10_join_244 (q := 245) rfl rfl ?_
        refine x_getfield hK kX10_join_245 (q := 248) rfl (gX10_12 ?_)
        refine x_iload hK kX10_join_248 (q := 250) rfl rfl ?_
        refine x_iload hK kX10_join_250 (q := 252) rfl rfl ?_
        refine x_iadd hK kX10_join_252 (q := 253) rfl ?_
        refine x_iload hK kX10_join_253 (q := 255) rfl rfl ?_
        refine x_ldc hK kX10_join_255 (q := 257) rfl lc_RX10_98 ?_
        refine x_iand hK kX10_join_257 (q := 258) rfl ?_
        simp only [lS, lS2, clr_0, clr_I, clr_L, clr_R]
        rw [zAnd_m _ _ 28 (by decide) (by decide)]
        refine x_iastore hK kX10_join_258 (q := 259) rfl (yX10_A0 (by refine ⟨?_, ?_⟩ <;> omega) ?_)
        refine x_iload hK kX10_join_259 (q := 261) rfl rfl ?_
        refine x_bipush hK kX10_join_261 (q := 263) rfl (by decide) ?_
        refine x_ishr hK kX10_join_263 (q := 264) rfl ?_
        rw [show zShr v 28 = v / 2 ^ 28 from zShr_n v (by constructor <;> omega) 28 (by decide)]
        refine x_istore hK kX10_join_264 (q := 266) rfl ?_
        refine x_iinc hK kX10_join_266 (q := 269) rfl rfl ?_
        simp only [lS, lS2, clr_0, clr_I, clr_L, clr_R]
        refine x_goto hK kX10_join_269 (tg := 149) rfl ?_
        rw [uA_g, uA_u, e28, show p * 601 + ((k + 1 : Nat) : Int) = p * 601 + 1 + k by omega, show ((k + 1 : Nat) : Int) + 1 = ((k + 1 + 1 : Nat) : Int) by omega]
        refine ih (k + 1) _ _ _ _ _ (by omega) ?_ (fun j hj => by rw [uI_n _ _ (by omega)]; exact hof j hj) ?_ (fun j hj => by rw [uI_n _ _ (by omega)]; exact hhi j (by omega)) ?_
        · rcases hcase with ⟨-, rfl, rfl⟩ | ⟨-, -, rfl, rfl⟩ | ⟨-, -, rfl, rfl⟩ <;> omega
        · intro j hj
          rcases Nat.lt_or_ge j k with e | e
          · rw [uI_n _ _ (by omega)]; exact hfr j e
          · rw [show j = k by omega, uI_s]
            show 0 ≤ v % 268435456 ∧ v % 268435456 < 268435456
            omega
        · rw [vl_one, vl_one, vl_one, uI_s, vl_cong (f := f) (fun j hj => uI_n _ _ (by omega)), bB_succ, show (1 : Int) + (k : Int) = ((k + 1 : Nat) : Int) by omega]
          have e6 : v = v / 268435456 * 268435456 + v % 268435456 := by omega
          have e7 : v * bB ^ k = v / 268435456 * (bB ^ k * bB) + v % 268435456 * bB ^ k := by
            rw [Int.mul_comm (bB ^ k) bB, ← Int.mul_assoc, ← Int.add_mul]
            congr 1
          have e8 : v * bB ^ k = ca * (xp ((k + 1 : Nat) : Int) * bB ^ k) + cb * (zp ((k + 1 : Nat) : Int) * bB ^ k) + cy * bB ^ k := by rw [hv2, Int.add_mul, Int.add_mul, Int.mul_assoc, Int.mul_assoc]
          rw [Int.mul_add, Int.mul_add]
          omega
      have hx := hxp ((k + 1 : Nat) : Int)
      have hzz := hzp ((k + 1 : Nat) : Int)
      have n1 : f8 ≠ 0 → ∀ u15 u16 u17, _ := fun g u15 u16 u17 => next (xp ((k + 1 : Nat) : Int) + zp ((k + 1 : Nat) : Int) + cy) u15 u16 u17 (by rcases hcase with ⟨g1, rfl, rfl⟩ | ⟨g1, g2, rfl, rfl⟩ | ⟨g1, g2, rfl, rfl⟩ <;> omega)
      have n2 : f8 = 0 → f9 ≠ 0 → ∀ u15 u16 u17, _ := fun g g0 u15 u16 u17 => next (zp ((k + 1 : Nat) : Int) - xp ((k + 1 : Nat) : Int) + cy) u15 u16 u17 (by rcases hcase with ⟨g1, rfl, rfl⟩ | ⟨g1, g2, rfl, rfl⟩ | ⟨g1, g2, rfl, rfl⟩ <;> omega)
      have n3 : f8 = 0 → f9 = 0 → ∀ u15 u16 u17, _ := fun g g0 u15 u16 u17 => next (xp ((k + 1 : Nat) : Int) - zp ((k + 1 : Nat) : Int) + cy) u15 u16 u17 (by rcases hcase with ⟨g1, rfl, rfl⟩ | ⟨g1, g2, rfl, rfl⟩ | ⟨g1, g2, rfl, rfl⟩ <;> omega)
      have wk : w32 ((k + 1 : Nat) : Int) := by constructor <;> omega
      have wn : w32 (N : Int) := by constructor <;> omega
      have wlp : w32 (lp : Int) := by constructor <;> omega
      have wlq : w32 (lq : Int) := by constructor <;> omega
      have hk1 : ¬ (N : Int) < ((k + 1 : Nat) : Int) := by omega
      have hb1 : 0 ≤ p * 601 + ((k + 1 : Nat) : Int) ∧ p * 601 + ((k + 1 : Nat) : Int) < 1602266 := by constructor <;> omega
      have hb2 : 0 ≤ q * 601 + ((k + 1 : Nat) : Int) ∧ q * 601 + ((k + 1 : Nat) : Int) < 1602266 := by constructor <;> omega
      have hx1 := hhi (k + 1) (by omega)
      have hz1 : ((k + 1 : Nat) : Int) ≤ lq → f (q * 601 + ((k + 1 : Nat) : Int)) = A 0 (q * 601 + ((k + 1 : Nat) : Int)) := fun g => hzq f _ (Int.natCast_nonneg _) (Int.le_trans g (by omega)) hof
      have h200 : ∀ u16 u17, K 200 [some eRR, some (eI p), some (eI q), some (eI s), some (eI sq), some (eI (p * 601)), some (eI (q * 601)), some (eI N), some (eI f8), some (eI f9), some (eI res), some (eI lp), some (eI lq), some (eI cy), some (eI (k + 1 : Nat)), some (eI (xp ((k + 1 : Nat) : Int))), u16, u17] [eI (zp ((k + 1 : Nat) : Int))] (cR F (uA A 0 f)) := by
        intro u16 u17
        refine x_istore hK kX10_join_200 (q := 202) rfl ?_
        refine x_iload hK kX10_join_202 (q := 204) rfl rfl ?_
        simp only [lS, lS2, clr_0, clr_I, clr_L, clr_R]
        refine x_if_eq hK kX10_join_204 (q := 207) rfl (tg := 218) rfl (by exact w8) (fun c204 => ?_) (fun c204 => ?_)
        · refine x_iload hK kX10_join_218 (q := 220) rfl rfl ?_
          refine x_if_eq hK kX10_join_220 (q := 223) rfl (tg := 234) rfl (by exact w9) (fun c220 => ?_) (fun c220 => ?_)
          · have nn := n3 c204 c220
            refine x_iload hK kX10_join_234 (q := 236) rfl rfl ?_
            refine x_iload hK kX10_join_236 (q := 238) rfl rfl ?_
            refine x_isub hK kX10_join_238 (q := 239) rfl ?_
            refine x_iload hK kX10_join_239 (q := 241) rfl rfl ?_
            refine x_iadd hK kX10_join_241 (q := 242) rfl ?_
            exact nn _ _ _
          · have nn := n2 c204 c220
            refine x_iload hK kX10_join_223 (q := 225) rfl rfl ?_
            refine x_iload hK kX10_join_225 (q := 227) rfl rfl ?_
            refine x_isub hK kX10_join_227 (q := 228) rfl ?_
            refine x_iload hK kX10_join_228 (q := 230) rfl rfl ?_
            refine x_iadd hK kX10_join_230 (q := 231) rfl ?_
            refine x_goto hK kX10_join_231 (tg := 242) rfl ?_
            exact nn _ _ _
        · have nn := n1 c204
          refine x_iload hK kX10_join_207 (q := 209) rfl rfl ?_
          refine x_iload hK kX10_join_209 (q := 211) rfl rfl ?_
          refine x_iadd hK kX10_join_211 (q := 212) rfl ?_
          refine x_iload hK kX10_join_212 (q := 214) rfl rfl ?_
          refine x_iadd hK kX10_join_214 (q := 215) rfl ?_
          refine x_goto hK kX10_join_215 (tg := 242) rfl ?_
          exact nn _ _ _
      have h177 : ∀ u15 u16 u17, K 177 [some eRR, some (eI p), some (eI q), some (eI s), some (eI sq), some (eI (p * 601)), some (eI (q * 601)), some (eI N), some (eI f8), some (eI f9), some (eI res), some (eI lp), some (eI lq), some (eI cy), some (eI (k + 1 : Nat)), u15, u16, u17] [eI (xp ((k + 1 : Nat) : Int))] (cR F (uA A 0 f)) := by
        intro u15 u16 u17
        refine x_istore hK kX10_join_177 (q := 179) rfl ?_
        refine x_iload hK kX10_join_179 (q := 181) rfl rfl ?_
        refine x_iload hK kX10_join_181 (q := 183) rfl rfl ?_
        simp only [lS, lS2, clr_0, clr_I, clr_L, clr_R]
        refine x_icmp_gt hK kX10_join_183 (q := 186) rfl (tg := 199) rfl (by exact ⟨wk, wlq⟩) (fun c183 => ?_) (fun c183 => ?_)
        · rw [if_neg (Int.not_le.mpr c183)] at hzz
          refine x_iconst hK kX10_join_199 (q := 200) rfl ?_
          first | exact h200 _ _ | (exact x_to (h200 _ _) rfl (by rw [hzz]) rfl)
        · rw [if_pos (Int.not_lt.mp c183)] at hzz
          refine x_aload_n hK kX10_join_186 (q := 187) rfl rfl ?_
          refine x_getfield hK kX10_join_187 (q := 190) rfl (gX10_12 ?_)
          refine x_iload hK kX10_join_190 (q := 192) rfl rfl ?_
          refine x_iload hK kX10_join_192 (q := 194) rfl rfl ?_
          refine x_iadd hK kX10_join_194 (q := 195) rfl ?_
          refine x_iaload hK kX10_join_195 (q := 196) rfl (aX10_A0 (by exact hb2) ?_)
          rw [uA_g, hz1 (Int.not_lt.mp c183), ← hzz]
          refine x_goto hK kX10_join_196 (tg := 200) rfl ?_
          first | exact h200 _ _ | (exact x_to (h200 _ _) rfl (by rw [hzz]) rfl)
      refine x_iload hK kX10_join_149 (q := 151) rfl rfl ?_
      refine x_iload hK kX10_join_151 (q := 153) rfl rfl ?_
      refine x_icmp_gt hK kX10_join_153 (q := 156) rfl (tg := 272) rfl (by exact ⟨wk, wn⟩) (fun c153 => ?_) (fun c153 => ?_)
      · exact absurd c153 hk1
      · refine x_iload hK kX10_join_156 (q := 158) rfl rfl ?_
        refine x_iload hK kX10_join_158 (q := 160) rfl rfl ?_
        refine x_icmp_gt hK kX10_join_160 (q := 163) rfl (tg := 176) rfl (by exact ⟨wk, wlp⟩) (fun c160 => ?_) (fun c160 => ?_)
        · rw [if_neg (Int.not_le.mpr c160)] at hx
          refine x_iconst hK kX10_join_176 (q := 177) rfl ?_
          first | exact h177 _ _ _ | (exact x_to (h177 _ _ _) rfl (by rw [hx]) rfl)
        · rw [if_pos (Int.not_lt.mp c160)] at hx
          refine x_aload_n hK kX10_join_163 (q := 164) rfl rfl ?_
          refine x_getfield hK kX10_join_164 (q := 167) rfl (gX10_12 ?_)
          refine x_iload hK kX10_join_167 (q := 169) rfl rfl ?_
          refine x_iload hK kX10_join_169 (q := 171) rfl rfl ?_
          refine x_iadd hK kX10_join_171 (q := 172) rfl ?_
          refine x_iaload hK kX10_join_172 (q := 173) rfl (aX10_A0 (by exact hb1) ?_)
          rw [uA_g, hx1, ← hx]
          refine x_goto hK kX10_join_173 (tg := 177) rfl ?_
          first | exact h177 _ _ _ | (exact x_to (h177 _ _ _) rfl (by rw [hx]) rfl)
  -- the start
  have hbp : 0 ≤ p * 601 ∧ p * 601 < 1602266 := by constructor <;> omega
  have hbq : 0 ≤ q * 601 ∧ q * 601 < 1602266 := by constructor <;> omega
  have main : z ≠ 0 → y ≠ 0 → K 47 [some eRR, some (eI p), some (eI q), some (eI s), some (eI (s * zSgn z)), none, none, none, none, none, none, none, none, none, none, none, none, none] [] (cR F A) := by
    intro hz0 hy0
    have hss := zSgn_in z hz0
    have hys := zSgn_in y hy0
    have hyv := zSgn_zAbs y
    have hzv := zSgn_zAbs z
    have hya : 0 ≤ zAbs y := by rw [zAbs_n]; exact Int.natCast_nonneg _
    have hza : 0 ≤ zAbs z := by rw [zAbs_n]; exact Int.natCast_nonneg _
    have wsq : w32 (s * zSgn z) := by rcases hs with rfl | rfl <;> rcases hss with e | e <;> rw [e] <;> decide
    have hN2 : max (lp : Int) lq = N := by rw [hN]; omega
    have a0 : ∀ (f8 f9 res : Int), (f9 = 0 → res = zSgn y) → (f9 ≠ 0 → res = s * zSgn z) → w32 f9 → (∀ u15 u16 u17, K 149 [some eRR, some (eI p), some (eI q), some (eI s), some (eI (s * zSgn z)), some (eI (p * 601)), some (eI (q * 601)), some (eI N), some (eI f8), some (eI f9), some (eI res), some (eI lp), some (eI lq), some (eI 0), some (eI 1), u15, u16, u17] [] (cR F A)) →
        K 112 [some eRR, some (eI p), some (eI q), some (eI s), some (eI (s * zSgn z)), some (eI (p * 601)), some (eI (q * 601)), some (eI N), some (eI f8), some (eI f9), none, none, none, none, none, none, none, none] [] (cR F A) := by
      intro f8 f9 res r0 r1 w9 hfin
      refine x_iload hK kX10_join_112 (q := 114) rfl rfl ?_
      refine x_if_eq hK kX10_join_114 (q := 117) rfl (tg := 122) rfl (by exact w9) (fun c114 => ?_) (fun c114 => ?_)
      · have hr := r0 c114
        refine x_aload_n hK kX10_join_122 (q := 123) rfl rfl ?_
        refine x_iload_n hK kX10_join_123 (q := 124) rfl rfl ?_
        refine x_cv2 hK kX10_join_124 (q := 127) rfl (vtX10_join_78) (Nat.le_of_ble_eq_true rfl) ?_
        refine SX10_sign_i hbp hwy ?_
        rw [zSgn_h hy]
        refine x_to (st' := [eI res]) ?_ rfl (by rw [hr]) rfl
        refine x_istore hK kX10_join_127 (q := 129) rfl ?_
        refine x_aload_n hK kX10_join_129 (q := 130) rfl rfl ?_
        refine x_iload_n hK kX10_join_130 (q := 131) rfl rfl ?_
        simp only [lS, lS2, clr_0, clr_I, clr_L, clr_R]
        refine x_cv2 hK kX10_join_131 (q := 134) rfl (vtX10_join_75) (Nat.le_of_ble_eq_true rfl) ?_
        refine SX10_length_i hbp hwy ?_
        rw [ryn]
        refine x_istore hK kX10_join_134 (q := 136) rfl ?_
        refine x_aload_n hK kX10_join_136 (q := 137) rfl rfl ?_
        refine x_iload_n hK kX10_join_137 (q := 138) rfl rfl ?_
        simp only [lS, lS2, clr_0, clr_I, clr_L, clr_R]
        refine x_cv2 hK kX10_join_138 (q := 141) rfl (vtX10_join_75) (Nat.le_of_ble_eq_true rfl) ?_
        refine SX10_length_i hbq hwz ?_
        rw [rzn]
        refine x_istore hK kX10_join_141 (q := 143) rfl ?_
        refine x_iconst hK kX10_join_143 (q := 144) rfl ?_
        refine x_istore hK kX10_join_144 (q := 146) rfl ?_
        refine x_iconst hK kX10_join_146 (q := 147) rfl ?_
        refine x_istore hK kX10_join_147 (q := 149) rfl ?_
        simp only [lS, lS2, clr_0, clr_I, clr_L, clr_R]
        exact hfin _ _ _
      · have hr := r1 c114
        refine x_iload hK kX10_join_117 (q := 119) rfl rfl ?_
        refine x_goto hK kX10_join_119 (tg := 127) rfl ?_
        refine x_to (st' := [eI res]) ?_ rfl (by rw [hr]) rfl
        refine x_istore hK kX10_join_127 (q := 129) rfl ?_
        refine x_aload_n hK kX10_join_129 (q := 130) rfl rfl ?_
        refine x_iload_n hK kX10_join_130 (q := 131) rfl rfl ?_
        simp only [lS, lS2, clr_0, clr_I, clr_L, clr_R]
        refine x_cv2 hK kX10_join_131 (q := 134) rfl (vtX10_join_75) (Nat.le_of_ble_eq_true rfl) ?_
        refine SX10_length_i hbp hwy ?_
        rw [ryn]
        refine x_istore hK kX10_join_134 (q := 136) rfl ?_
        refine x_aload_n hK kX10_join_136 (q := 137) rfl rfl ?_
        refine x_iload_n hK kX10_join_137 (q := 138) rfl rfl ?_
        simp only [lS, lS2, clr_0, clr_I, clr_L, clr_R]
        refine x_cv2 hK kX10_join_138 (q := 141) rfl (vtX10_join_75) (Nat.le_of_ble_eq_true rfl) ?_
        refine SX10_length_i hbq hwz ?_
        rw [rzn]
        refine x_istore hK kX10_join_141 (q := 143) rfl ?_
        refine x_iconst hK kX10_join_143 (q := 144) rfl ?_
        refine x_istore hK kX10_join_144 (q := 146) rfl ?_
        refine x_iconst hK kX10_join_146 (q := 147) rfl ?_
        refine x_istore hK kX10_join_147 (q := 149) rfl ?_
        simp only [lS, lS2, clr_0, clr_I, clr_L, clr_R]
        exact hfin _ _ _
    have fl : ∀ ca cb res f8 f9, ((f8 = 1 ∧ ca = 1 ∧ cb = 1) ∨ (f8 = 0 ∧ f9 = 1 ∧ ca = -1 ∧ cb = 1) ∨ (f8 = 0 ∧ f9 = 0 ∧ ca = 1 ∧ cb = -1)) → (res = 1 ∨ res = -1) → y + s * z = res * (ca * zAbs y + cb * zAbs z) → 0 ≤ ca * zAbs y + cb * zAbs z → w32 f8 → w32 f9 → ∀ u15 u16 u17, K 149 [some eRR, some (eI p), some (eI q), some (eI s), some (eI (s * zSgn z)), some (eI (p * 601)), some (eI (q * 601)), some (eI N), some (eI f8), some (eI f9), some (eI res), some (eI lp), some (eI lq), some (eI 0), some (eI 1), u15, u16, u17] [] (cR F A) := fun ca cb res f8 f9 g1 g2 g3 g4 g5 g6 u15 u16 u17 => by
      have := loop ca cb res f8 f9 (s * zSgn z) g1 g2 g3 g4 g5 g6 N 0 (A 0) 0 u15 u16 u17 (by omega) (by decide) (oB_rf _ _) (fun j hj => absurd hj (by omega)) (fun j hj => rfl) (by simp [vl])
      rw [uA_s] at this
      exact this
    have h91 : ∀ f8, (f8 = 1 ∧ zSgn y = s * zSgn z ∨ f8 = 0 ∧ zSgn y = -(s * zSgn z)) → K 91 [some eRR, some (eI p), some (eI q), some (eI s), some (eI (s * zSgn z)), some (eI (p * 601)), some (eI (q * 601)), some (eI N), some (eI f8), none, none, none, none, none, none, none, none, none] [] (cR F A) := by
      intro f8 hf8
      have e1 : s * z = s * zSgn z * zAbs z := by rw [Int.mul_assoc, hzv]
      rcases hf8 with ⟨rfl, hsg⟩ | ⟨rfl, hsg⟩
      · skip
        refine x_iload hK kX10_join_91 (q := 93) rfl rfl ?_
        refine x_if_ne hK kX10_join_93 (q := 96) rfl (tg := 109) rfl (by omega) (fun c93 => ?_) (fun c93 => ?_)
        · refine x_iconst hK kX10_join_109 (q := 110) rfl ?_
          refine x_istore hK kX10_join_110 (q := 112) rfl ?_
          simp only [lS, lS2, clr_0, clr_I, clr_L, clr_R]
          refine a0 1 0 (zSgn y) (fun _ => rfl) (fun g => absurd rfl g) (by decide) (fl 1 1 (zSgn y) 1 0 (Or.inl ⟨rfl, rfl, rfl⟩) hys ?_ (by omega) (by decide) (by decide))
          rw [e1, ← hsg, Int.one_mul, Int.one_mul, Int.mul_add, hyv]
        · exact absurd (by decide) c93
      · skip
        refine x_iload hK kX10_join_91 (q := 93) rfl rfl ?_
        refine x_if_ne hK kX10_join_93 (q := 96) rfl (tg := 109) rfl (by omega) (fun c93 => ?_) (fun c93 => ?_)
        · exact absurd rfl c93
        · refine x_aload_n hK kX10_join_96 (q := 97) rfl rfl ?_
          refine x_iload_n hK kX10_join_97 (q := 98) rfl rfl ?_
          refine x_iload_n hK kX10_join_98 (q := 99) rfl rfl ?_
          refine x_cv3 hK kX10_join_99 (q := 102) rfl (vtX10_join_95) (Nat.le_of_ble_eq_true rfl) ?_
          refine SX10_compare_i y z hp hq hy hz ?_
          refine x_if_ge hK kX10_join_102 (q := 105) rfl (tg := 109) rfl (by exact zSgn_w _) (fun c102 => ?_) (fun c102 => ?_)
          · have hle : zAbs z ≤ zAbs y := by
              rcases Int.lt_or_le (zAbs y) (zAbs z) with g | g
              · rw [zSgn_lt (by omega)] at c102; omega
              · exact g
            have fin := a0 0 0 (zSgn y) (fun _ => rfl) (fun g => absurd rfl g) (by decide) (fl 1 (-1) (zSgn y) 0 0 (Or.inr (Or.inr ⟨rfl, rfl, rfl, rfl⟩)) hys (by rw [e1, Int.mul_add, Int.one_mul, hyv, Int.neg_mul, Int.one_mul, Int.mul_neg, hsg, Int.neg_mul, Int.neg_neg]) (by omega) (by decide) (by decide))
            refine x_iconst hK kX10_join_109 (q := 110) rfl ?_
            refine x_istore hK kX10_join_110 (q := 112) rfl ?_
            simp only [lS, lS2, clr_0, clr_I, clr_L, clr_R]
            exact fin
          · have hle : zAbs y < zAbs z := by
              rcases Int.lt_or_le (zAbs y) (zAbs z) with g | g
              · exact g
              · rcases Int.lt_or_eq_of_le g with g2 | g2
                · rw [zSgn_gt (by omega)] at c102; omega
                · rw [g2, Int.sub_self, zSgn_0] at c102; omega
            have hsq : s * zSgn z = 1 ∨ s * zSgn z = -1 := by rcases hys with g | g <;> rw [g] at hsg <;> omega
            have fin := a0 0 1 (s * zSgn z) (fun g => absurd g (by decide)) (fun _ => rfl) (by decide) (fl (-1) 1 (s * zSgn z) 0 1 (Or.inr (Or.inl ⟨rfl, rfl, rfl, rfl⟩)) hsq (by rw [e1, Int.mul_add, Int.one_mul, Int.neg_mul, Int.one_mul, Int.mul_neg, ← Int.neg_mul, ← hsg, hyv]) (by omega) (by decide) (by decide))
            refine x_iconst hK kX10_join_105 (q := 106) rfl ?_
            refine x_goto hK kX10_join_106 (tg := 110) rfl ?_
            refine x_istore hK kX10_join_110 (q := 112) rfl ?_
            simp only [lS, lS2, clr_0, clr_I, clr_L, clr_R]
            exact fin
    refine x_iload_n hK kX10_join_47 (q := 48) rfl rfl ?_
    refine x_cs1 hK kX10_join_48 (q := 51) rfl (stX10_join_64) (Nat.le_of_ble_eq_true rfl) ?_
    refine SX10_at_i ?_
    refine x_istore hK kX10_join_51 (q := 53) rfl ?_
    refine x_iload_n hK kX10_join_53 (q := 54) rfl rfl ?_
    simp only [lS, lS2, clr_0, clr_I, clr_L, clr_R]
    refine x_cs1 hK kX10_join_54 (q := 57) rfl (stX10_join_64) (Nat.le_of_ble_eq_true rfl) ?_
    refine SX10_at_i ?_
    refine x_istore hK kX10_join_57 (q := 59) rfl ?_
    refine x_aload_n hK kX10_join_59 (q := 60) rfl rfl ?_
    refine x_iload_n hK kX10_join_60 (q := 61) rfl rfl ?_
    simp only [lS, lS2, clr_0, clr_I, clr_L, clr_R]
    refine x_cv2 hK kX10_join_61 (q := 64) rfl (vtX10_join_75) (Nat.le_of_ble_eq_true rfl) ?_
    refine SX10_length_i hbp hwy ?_
    rw [ryn]
    refine x_aload_n hK kX10_join_64 (q := 65) rfl rfl ?_
    refine x_iload_n hK kX10_join_65 (q := 66) rfl rfl ?_
    refine x_cv2 hK kX10_join_66 (q := 69) rfl (vtX10_join_75) (Nat.le_of_ble_eq_true rfl) ?_
    refine SX10_length_i hbq hwz ?_
    rw [rzn]
    refine x_cs2 hK kX10_join_69 (q := 72) rfl (stX10_join_89) (Nat.le_of_ble_eq_true rfl) ?_
    refine SJ9_max_7cf53_i (by constructor <;> constructor <;> omega) ?_
    rw [hN2]
    refine x_istore hK kX10_join_72 (q := 74) rfl ?_
    refine x_aload_n hK kX10_join_74 (q := 75) rfl rfl ?_
    refine x_iload_n hK kX10_join_75 (q := 76) rfl rfl ?_
    simp only [lS, lS2, clr_0, clr_I, clr_L, clr_R]
    refine x_cv2 hK kX10_join_76 (q := 79) rfl (vtX10_join_78) (Nat.le_of_ble_eq_true rfl) ?_
    refine SX10_sign_i hbp hwy ?_
    rw [zSgn_h hy]
    refine x_iload hK kX10_join_79 (q := 81) rfl rfl ?_
    refine x_icmp_ne hK kX10_join_81 (q := 84) rfl (tg := 88) rfl (by exact ⟨zSgn_w y, wsq⟩) (fun c81 => ?_) (fun c81 => ?_)
    · have hf8 : (0 : Int) = 1 ∧ zSgn y = s * zSgn z ∨ (0 : Int) = 0 ∧ zSgn y = -(s * zSgn z) := Or.inr ⟨rfl, by rcases hs with rfl | rfl <;> rcases hss with e | e <;> rcases hys with e2 | e2 <;> rw [e, e2] at c81 ⊢ <;> omega⟩
      refine x_iconst hK kX10_join_88 (q := 89) rfl ?_
      refine x_istore hK kX10_join_89 (q := 91) rfl ?_
      simp only [lS, lS2, clr_0, clr_I, clr_L, clr_R]
      exact h91 _ hf8
    · have hf8 : (1 : Int) = 1 ∧ zSgn y = s * zSgn z ∨ (1 : Int) = 0 ∧ zSgn y = -(s * zSgn z) := Or.inl ⟨rfl, by omega⟩
      refine x_iconst hK kX10_join_84 (q := 85) rfl ?_
      refine x_goto hK kX10_join_85 (tg := 89) rfl ?_
      refine x_istore hK kX10_join_89 (q := 91) rfl ?_
      simp only [lS, lS2, clr_0, clr_I, clr_L, clr_R]
      exact h91 _ hf8
  have wsq : w32 (s * zSgn z) := by unfold zSgn; rcases hs with rfl | rfl <;> (split <;> (try split) <;> decide)
  simp only [eLoc, eE, List.length_cons, List.length_nil, List.replicate, List.cons_append, List.nil_append, Nat.reduceAdd, Nat.reduceSub]
  refine x_iload_n hK kX10_join_0 (q := 1) rfl rfl ?_
  refine x_aload_n hK kX10_join_1 (q := 2) rfl rfl ?_
  refine x_iload_n hK kX10_join_2 (q := 3) rfl rfl ?_
  refine x_cv2 hK kX10_join_3 (q := 6) rfl (vtX10_join_78) (Nat.le_of_ble_eq_true rfl) ?_
  refine SX10_sign_i hbq hwz ?_
  rw [zSgn_h hz]
  refine x_imul hK kX10_join_6 (q := 7) rfl ?_
  refine x_istore hK kX10_join_7 (q := 9) rfl ?_
  refine x_iload hK kX10_join_9 (q := 11) rfl rfl ?_
  simp only [lS, lS2, clr_0, clr_I, clr_L, clr_R]
  refine x_if_ne hK kX10_join_11 (q := 14) rfl (tg := 15) rfl (by exact wsq) (fun c11 => ?_) (fun c11 => ?_)
  · refine x_aload_n hK kX10_join_15 (q := 16) rfl rfl ?_
    refine x_iload_n hK kX10_join_16 (q := 17) rfl rfl ?_
    refine x_cv2 hK kX10_join_17 (q := 20) rfl (vtX10_join_81) (Nat.le_of_ble_eq_true rfl) ?_
    refine SX10_isZero_j hbp hwy ?_
    refine x_if_eq hK kX10_join_20 (q := 23) rfl (tg := 47) rfl (by exact zZ_w _) (fun c20 => ?_) (fun c20 => ?_)
    · exact main (fun g => c11 (by rw [g, zSgn_0, Int.mul_zero])) (fun g => zZ_0.mp c20 (ry00.mpr g))
    · refine x_aload_n hK kX10_join_23 (q := 24) rfl rfl ?_
      refine x_iload_n hK kX10_join_24 (q := 25) rfl rfl ?_
      refine x_iload_n hK kX10_join_25 (q := 26) rfl rfl ?_
      refine x_cv3 hK kX10_join_26 (q := 29) rfl (vtX10_join_85) (Nat.le_of_ble_eq_true rfl) ?_
      refine SX10_copy_i z hp hq hz (fun f hof hf => ?_)
      have hlen := nm_len hf hz
      rw [rzn] at hlen
      refine x_aload_n hK kX10_join_29 (q := 30) rfl rfl ?_
      refine x_getfield hK kX10_join_30 (q := 33) rfl (gX10_12 ?_)
      refine x_iload_n hK kX10_join_33 (q := 34) rfl rfl ?_
      refine x_cs1 hK kX10_join_34 (q := 37) rfl (stX10_join_64) (Nat.le_of_ble_eq_true rfl) ?_
      refine SX10_at_i ?_
      refine x_iload hK kX10_join_37 (q := 39) rfl rfl ?_
      refine x_aload_n hK kX10_join_39 (q := 40) rfl rfl ?_
      refine x_iload_n hK kX10_join_40 (q := 41) rfl rfl ?_
      refine x_cv2 hK kX10_join_41 (q := 44) rfl (vtX10_join_75) (Nat.le_of_ble_eq_true rfl) ?_
      refine SX10_length_i hbq (by rw [uA_g]; have := hzq f 0 (by decide) (by decide) hof; rw [Int.add_zero] at this; rw [this]; exact hwz) ?_
      rw [uA_g]
      have hq0 := hzq f 0 (by decide) (by decide) hof
      rw [Int.add_zero] at hq0
      rw [hq0, rzn]
      refine x_imul hK kX10_join_44 (q := 45) rfl ?_
      refine x_iastore hK kX10_join_45 (q := 46) rfl (yX10_A0 (by refine ⟨?_, ?_⟩ <;> omega) ?_)
      refine x_return_ hK kX10_join_46 (by first | trivial | exact Or.inl rfl | exact Or.inr rfl) ?_
      rw [uA_g, uA_u]
      refine h _ (sN_u (by decide) _) (by rw [uA_g]; intro j hj; rw [uI_n _ _ (by omega)]; exact hof j hj) ?_
      rw [uA_g]
      have hy0 : y = 0 := by
        by_cases g : y = 0
        · exact g
        · exact absurd (zZ_0.mpr (fun g2 => g (ry00.mp g2))) c20
      have hz0 : z ≠ 0 := fun g => c11 (by rw [g, zSgn_0, Int.mul_zero])
      have hm := nm_hd (s := s * zSgn z) hf hlen (by rcases hs with rfl | rfl <;> rcases zSgn_in z hz0 with e | e <;> rw [e] <;> decide)
      rw [hy0, Int.zero_add, show s * z = s * zSgn z * zAbs z by rw [Int.mul_assoc, zSgn_zAbs]]
      exact hm
  · refine x_return_ hK kX10_join_14 (by first | trivial | exact Or.inl rfl | exact Or.inr rfl) ?_
    have hz0 : z = 0 := by
      by_cases g : z = 0
      · exact g
      · exact absurd (by rcases hs with rfl | rfl <;> rcases zSgn_in z g with e | e <;> rw [e] <;> decide) c11
    refine h A (sN_rf A) (oB_rf _ _) ?_
    rw [hz0, Int.mul_zero, Int.add_zero]
    exact hy
set_option maxRecDepth 20000 in
theorem mX10_join : eMet yX10_join cX10_join 18 none 3 68 SX10_join := eMet_of (by decide +kernel) sX10_join kX10_join_ok caX10_join tb_RX10
theorem wX10_join : eWV yX10_join cX10_join 18 none 4 9 SX10_join := ⟨(gW_at 1156 (by decide +kernel) rfl), (gW_at 89 (by decide +kernel) rfl), (gW_at 1155 (by decide +kernel) rfl), ⟨_, rfl, (gW_at 52 (by decide +kernel) rfl)⟩, by decide +kernel, SX10_join_r⟩
