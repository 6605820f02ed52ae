/-! divisor(p, q, r): the greatest common divisor. -/
/-- nothing but the numbers and the scratch rows differs -/
def sN (A A' : Nat → Int → Int) : Prop := ∀ k, 4 ≤ k → A' k = A k
theorem sN_rf (A : Nat → Int → Int) : sN A A := fun _ _ => rfl
theorem sN_tr {A B C : Nat → Int → Int} (h : sN A B) (h2 : sN B C) : sN A C := fun k hk => (h2 k hk).trans (h k hk)
theorem sN_u {A : Nat → Int → Int} {j : Nat} (hj : j < 4) (f : Int → Int) : sN A (uA A j f) := fun k hk => uA_n _ _ (by omega)
theorem oB_rf (f : Int → Int) (p : Int) : oB f f p := fun _ _ => rfl
theorem oB_tr {f g k : Int → Int} {p : Int} (h : oB f g p) (h2 : oB g k p) : oB f k p := fun j hj => (h2 j hj).trans (h j hj)
theorem gc_2 {n : Nat} (h : n % 2 = 1) (e : Nat) : Nat.Coprime (2 ^ e) n := by
  apply Nat.Coprime.pow_left
  show Nat.gcd 2 n = 1
  rw [Nat.gcd_rec, h]
  exact Nat.gcd_one_left 2
theorem gc_even {m n e : Nat} (h : n % 2 = 1) : Nat.gcd (2 ^ e * m) n = Nat.gcd m n := Nat.Coprime.gcd_mul_left_cancel m (gc_2 h e)
/-- od, for natural numbers -/
theorem od_nat {a e : Nat} (h : od (a : Int) e) : ∃ b : Nat, a = 2 ^ e * b ∧ b % 2 = 1 ∧ (a : Int) / 2 ^ e = (b : Int) ∧ (2 : Int) ^ e ≤ a := by
  obtain ⟨q, hq, h⟩ := h
  obtain ⟨k, rfl⟩ := Int.eq_ofNat_of_zero_le hq
  have hp : (0 : Int) < 2 ^ e := Int.pow_pos (by decide)
  have e1 : (a : Int) = 2 ^ e * ((2 * k + 1 : Nat) : Int) := by
    rw [h, Int.pow_succ]
    have : ((2 * k + 1 : Nat) : Int) = 2 * (k : Int) + 1 := by omega
    rw [this, Int.mul_add, Int.mul_one, Int.mul_assoc]
  refine ⟨2 * k + 1, ?_, by omega, ?_, ?_⟩
  · apply Int.ofNat.inj
    show (a : Int) = ((2 ^ e * (2 * k + 1) : Nat) : Int)
    rw [e1, Int.natCast_mul, zb_p2]
  · rw [e1, Int.mul_ediv_cancel_left _ (by omega)]
  · rw [e1]
    have := Int.mul_le_mul_of_nonneg_left (show (1 : Int) ≤ ((2 * k + 1 : Nat) : Int) by omega) (Int.le_of_lt hp)
    rw [Int.mul_one] at this
    exact this
theorem gc_both {y z s t y' z' : Nat} (hy : y = 2 ^ s * y') (hz : z = 2 ^ t * z') (oy : y' % 2 = 1) (oz : z' % 2 = 1) : Nat.gcd y z = Nat.gcd y' z' * 2 ^ (min s t) := by
  rcases Nat.le_total s t with q | q
  · rw [Nat.min_eq_left q, hy, hz]
    have e : 2 ^ t * z' = 2 ^ s * (2 ^ (t - s) * z') := by rw [← Nat.mul_assoc, ← Nat.pow_add, show s + (t - s) = t by omega]
    rw [e, Nat.gcd_mul_left, Nat.gcd_comm y', gc_even oy, Nat.gcd_comm, Nat.mul_comm]
  · rw [Nat.min_eq_right q, hy, hz]
    have e : 2 ^ s * y' = 2 ^ t * (2 ^ (s - t) * y') := by rw [← Nat.mul_assoc, ← Nat.pow_add, show t + (s - t) = s by omega]
    rw [e, Nat.gcd_mul_left, gc_even oz, Nat.mul_comm]
theorem zAbs_n (z : Int) : zAbs z = (z.natAbs : Int) := by unfold zAbs; split <;> omega
theorem rw_n {g : Int → Int} {a : Nat} (h : rw_ g (a : Int)) : ∃ n : Nat, n ≤ 600 ∧ g 0 = n ∧ (a = 0 ↔ n = 0) ∧ (n ≤ 2 → (a : Int) < bB ^ 2) := by
  obtain ⟨n, hn, hg, -, -, -, -, hz0, -, hlt⟩ := rw_h h
  refine ⟨n, hn, hg, by omega, fun q => ?_⟩
  have := bB_mono q
  omega
def SX10_divisor : eSp := fun as M rt => ∃ (F : Nat → Int) (A : Nat → Int → Int) (p q r y z : Int), as = [eRR, eI p, eI q, eI r] ∧ M = cR F A ∧ (0 ≤ p ∧ p < 2666) ∧ (0 ≤ q ∧ q < 2666) ∧ (0 ≤ r ∧ r < 2666) ∧ nm (A 0) q y ∧ nm (A 0) r z ∧ (zAbs y < bB ^ 598 ∧ zAbs z < bB ^ 598) ∧ ∀ A', sN A A' → oB (A 0) (A' 0) p → nm (A' 0) p (Int.gcd y z : Int) → rt none (cR F A')
theorem SX10_divisor_i {F : Nat → Int} {A : Nat → Int → Int} {p q r : Int} {rt : Option eV → eM → Prop} (y z : Int) (h0 : 0 ≤ p ∧ p < 2666) (h1 : 0 ≤ q ∧ q < 2666) (h2 : 0 ≤ r ∧ r < 2666) (h3 : nm (A 0) q y) (h4 : nm (A 0) r z) (h5 : zAbs y < bB ^ 598 ∧ zAbs z < bB ^ 598) (h : ∀ A', sN A A' → oB (A 0) (A' 0) p → nm (A' 0) p (Int.gcd y z : Int) → rt none (cR F A')) : SX10_divisor [eRR, eI p, eI q, eI r] (cR F A) rt := ⟨F, A, p, q, r, y, z, rfl, rfl, h0, h1, h2, h3, h4, h5, h⟩
theorem SX10_divisor_r : ∀ as M rt, SX10_divisor as M rt → ∃ a r fs, as = eR a :: r ∧ M a = some (.inl (9, fs)) := by
  rintro as M rt ⟨F, A, p, q, r, y, z, rfl, rfl, -⟩
  exact ⟨_, _, _, rfl, rfl⟩
def kX10_divisor : List (Nat × Jvm.ClassFile.Instr × Nat) := [(0, .aload_n 0, 1), (1, .aload_n 0, 1), (2, .getfield 20, 3), (5, .iload_n 2, 1), (6, .invokevirtual 106, 3), (9, .aload_n 0, 1), (10, .aload_n 0, 1), (11, .getfield 23, 3), (14, .iload_n 3, 1), (15, .invokevirtual 106, 3), (18, .iconst 0, 1), (19, .istore 4, 2), (21, .aload_n 0, 1), (22, .getfield 20, 3), (25, .iconst 0, 1), (26, .iaload, 1), (27, .ifCond .le 57, 3), (30, .aload_n 0, 1), (31, .getfield 23, 3), (34, .iconst 0, 1), (35, .iaload, 1), (36, .ifCond .le 48, 3), (39, .aload_n 0, 1), (40, .getfield 20, 3), (43, .invokestatic 110, 3), (46, .istore 5, 2), (48, .aload_n 0, 1), (49, .getfield 23, 3), (52, .invokestatic 110, 3), (55, .istore 6, 2), (57, .iload 5, 2), (59, .iload 6, 2), (61, .invokestatic 114, 3), (64, .istore 4, 2), (66, .aload_n 0, 1), (67, .getfield 20, 3), (70, .iload 5, 2), (72, .invokestatic 117, 3), (75, .aload_n 0, 1), (76, .getfield 23, 3), (79, .iload 6, 2), (81, .invokestatic 117, 3), (84, .aload_n 0, 1), (85, .getfield 20, 3), (88, .iconst 0, 1), (89, .iaload, 1), (90, .ifCond .le 115, 3), (93, .aload_n 0, 1), (94, .getfield 23, 3), (97, .iconst 0, 1), (98, .iaload, 1), (99, .ifCond .le 106, 3), (102, .aload_n 0, 1), (103, .getfield 20, 3), (106, .iconst 0, 1), (107, .iaload, 1), (108, .iconst 2, 1), (109, .if_icmp .gt 13, 3), (112, .aload_n 0, 1), (113, .getfield 23, 3), (116, .iconst 0, 1), (117, .iaload, 1), (118, .iconst 2, 1), (119, .if_icmp .le 86, 3), (122, .aload_n 0, 1), (123, .getfield 20, 3), (126, .aload_n 0, 1), (127, .getfield 23, 3), (130, .invokestatic 120, 3), (133, .istore 5, 2), (135, .iload 5, 2), (137, .ifCond .lt 40, 3), (140, .aload_n 0, 1), (141, .getfield 20, 3), (144, .aload_n 0, 1), (145, .getfield 23, 3), (148, .invokestatic 124, 3), (151, .aload_n 0, 1), (152, .getfield 20, 3), (155, .iconst 0, 1), (156, .iaload, 1), (157, .ifCond .le 45, 3), (160, .aload_n 0, 1), (161, .getfield 20, 3), (164, .aload_n 0, 1), (165, .getfield 20, 3), (168, .invokestatic 110, 3), (171, .invokestatic 117, 3), (174, .goto 28, 3), (177, .aload_n 0, 1), (178, .getfield 23, 3), (181, .aload_n 0, 1), (182, .getfield 20, 3), (185, .invokestatic 124, 3), (188, .aload_n 0, 1), (189, .getfield 23, 3), (192, .aload_n 0, 1), (193, .getfield 23, 3), (196, .invokestatic 110, 3), (199, .invokestatic 117, 3), (202, .goto (-118), 3), (205, .aload_n 0, 1), (206, .getfield 20, 3), (209, .iconst 0, 1), (210, .iaload, 1), (211, .ifCond .le 65, 3), (214, .aload_n 0, 1), (215, .getfield 23, 3), (218, .iconst 0, 1), (219, .iaload, 1), (220, .ifCond .le 56, 3), (223, .aload_n 0, 1), (224, .getfield 20, 3), (227, .invokestatic 128, 3), (230, .lstore 5, 2), (232, .aload_n 0, 1), (233, .getfield 23, 3), (236, .invokestatic 128, 3), (239, .lstore 7, 2), (241, .lload 7, 2), (243, .lconst 0, 1), (244, .lcmp, 1), (245, .ifCond .eq 21, 3), (248, .lload 5, 2), (250, .lload 7, 2), (252, .lrem, 1), (253, .lstore 9, 2), (255, .lload 7, 2), (257, .lstore 5, 2), (259, .lload 9, 2), (261, .lstore 7, 2), (263, .goto (-22), 3), (266, .aload_n 0, 1), (267, .iload_n 1, 1), (268, .lload 5, 2), (270, .invokevirtual 132, 3), (273, .goto 75, 3), (276, .iload_n 1, 1), (277, .invokestatic 64, 3), (280, .istore 5, 2), (282, .aload_n 0, 1), (283, .getfield 20, 3), (286, .iconst 0, 1), (287, .iaload, 1), (288, .ifCond .le 10, 3), (291, .aload_n 0, 1), (292, .getfield 20, 3), (295, .goto 7, 3), (298, .aload_n 0, 1), (299, .getfield 23, 3), (302, .astore 6, 2), (304, .aload_n 0, 1), (305, .getfield 12, 3), (308, .iload 5, 2), (310, .aload 6, 2), (312, .iconst 0, 1), (313, .iaload, 1), (314, .iastore, 1), (315, .iconst 1, 1), (316, .istore 7, 2), (318, .iload 7, 2), (320, .aload 6, 2), (322, .iconst 0, 1), (323, .iaload, 1), (324, .if_icmp .gt 24, 3), (327, .aload_n 0, 1), (328, .getfield 12, 3), (331, .iload 5, 2), (333, .iload 7, 2), (335, .iadd, 1), (336, .aload 6, 2), (338, .iload 7, 2), (340, .iaload, 1), (341, .iastore, 1), (342, .iinc 7 1, 3), (345, .goto (-27), 3), (348, .aload_n 0, 1), (349, .iload_n 1, 1), (350, .iload 4, 2), (352, .invokevirtual 136, 3), (355, .return_, 1)]
theorem kX10_divisor_0 : cdOf kX10_divisor 0 = some (.aload_n 0, 1) := by decide +kernel
theorem kX10_divisor_1 : cdOf kX10_divisor 1 = some (.aload_n 0, 1) := by decide +kernel
theorem kX10_divisor_2 : cdOf kX10_divisor 2 = some (.getfield 20, 3) := by decide +kernel
theorem kX10_divisor_5 : cdOf kX10_divisor 5 = some (.iload_n 2, 1) := by decide +kernel
theorem kX10_divisor_6 : cdOf kX10_divisor 6 = some (.invokevirtual 106, 3) := by decide +kernel
theorem kX10_divisor_9 : cdOf kX10_divisor 9 = some (.aload_n 0, 1) := by decide +kernel
theorem kX10_divisor_10 : cdOf kX10_divisor 10 = some (.aload_n 0, 1) := by decide +kernel
theorem kX10_divisor_11 : cdOf kX10_divisor 11 = some (.getfield 23, 3) := by decide +kernel
theorem kX10_divisor_14 : cdOf kX10_divisor 14 = some (.iload_n 3, 1) := by decide +kernel
theorem kX10_divisor_15 : cdOf kX10_divisor 15 = some (.invokevirtual 106, 3) := by decide +kernel
theorem kX10_divisor_18 : cdOf kX10_divisor 18 = some (.iconst 0, 1) := by decide +kernel
theorem kX10_divisor_19 : cdOf kX10_divisor 19 = some (.istore 4, 2) := by decide +kernel
theorem kX10_divisor_21 : cdOf kX10_divisor 21 = some (.aload_n 0, 1) := by decide +kernel
theorem kX10_divisor_22 : cdOf kX10_divisor 22 = some (.getfield 20, 3) := by decide +kernel
theorem kX10_divisor_25 : cdOf kX10_divisor 25 = some (.iconst 0, 1) := by decide +kernel
theorem kX10_divisor_26 : cdOf kX10_divisor 26 = some (.iaload, 1) := by decide +kernel
theorem kX10_divisor_27 : cdOf kX10_divisor 27 = some (.ifCond .le 57, 3) := by decide +kernel
theorem kX10_divisor_30 : cdOf kX10_divisor 30 = some (.aload_n 0, 1) := by decide +kernel
theorem kX10_divisor_31 : cdOf kX10_divisor 31 = some (.getfield 23, 3) := by decide +kernel
theorem kX10_divisor_34 : cdOf kX10_divisor 34 = some (.iconst 0, 1) := by decide +kernel
theorem kX10_divisor_35 : cdOf kX10_divisor 35 = some (.iaload, 1) := by decide +kernel
theorem kX10_divisor_36 : cdOf kX10_divisor 36 = some (.ifCond .le 48, 3) := by decide +kernel
theorem kX10_divisor_39 : cdOf kX10_divisor 39 = some (.aload_n 0, 1) := by decide +kernel
theorem kX10_divisor_40 : cdOf kX10_divisor 40 = some (.getfield 20, 3) := by decide +kernel
theorem kX10_divisor_43 : cdOf kX10_divisor 43 = some (.invokestatic 110, 3) := by decide +kernel
theorem kX10_divisor_46 : cdOf kX10_divisor 46 = some (.istore 5, 2) := by decide +kernel
theorem kX10_divisor_48 : cdOf kX10_divisor 48 = some (.aload_n 0, 1) := by decide +kernel
theorem kX10_divisor_49 : cdOf kX10_divisor 49 = some (.getfield 23, 3) := by decide +kernel
theorem kX10_divisor_52 : cdOf kX10_divisor 52 = some (.invokestatic 110, 3) := by decide +kernel
theorem kX10_divisor_55 : cdOf kX10_divisor 55 = some (.istore 6, 2) := by decide +kernel
theorem kX10_divisor_57 : cdOf kX10_divisor 57 = some (.iload 5, 2) := by decide +kernel
theorem kX10_divisor_59 : cdOf kX10_divisor 59 = some (.iload 6, 2) := by decide +kernel
theorem kX10_divisor_61 : cdOf kX10_divisor 61 = some (.invokestatic 114, 3) := by decide +kernel
theorem kX10_divisor_64 : cdOf kX10_divisor 64 = some (.istore 4, 2) := by decide +kernel
theorem kX10_divisor_66 : cdOf kX10_divisor 66 = some (.aload_n 0, 1) := by decide +kernel
theorem kX10_divisor_67 : cdOf kX10_divisor 67 = some (.getfield 20, 3) := by decide +kernel
theorem kX10_divisor_70 : cdOf kX10_divisor 70 = some (.iload 5, 2) := by decide +kernel
theorem kX10_divisor_72 : cdOf kX10_divisor 72 = some (.invokestatic 117, 3) := by decide +kernel
theorem kX10_divisor_75 : cdOf kX10_divisor 75 = some (.aload_n 0, 1) := by decide +kernel
theorem kX10_divisor_76 : cdOf kX10_divisor 76 = some (.getfield 23, 3) := by decide +kernel
theorem kX10_divisor_79 : cdOf kX10_divisor 79 = some (.iload 6, 2) := by decide +kernel
theorem kX10_divisor_81 : cdOf kX10_divisor 81 = some (.invokestatic 117, 3) := by decide +kernel
theorem kX10_divisor_84 : cdOf kX10_divisor 84 = some (.aload_n 0, 1) := by decide +kernel
theorem kX10_divisor_85 : cdOf kX10_divisor 85 = some (.getfield 20, 3) := by decide +kernel
theorem kX10_divisor_88 : cdOf kX10_divisor 88 = some (.iconst 0, 1) := by decide +kernel
theorem kX10_divisor_89 : cdOf kX10_divisor 89 = some (.iaload, 1) := by decide +kernel
theorem kX10_divisor_90 : cdOf kX10_divisor 90 = some (.ifCond .le 115, 3) := by decide +kernel
theorem kX10_divisor_93 : cdOf kX10_divisor 93 = some (.aload_n 0, 1) := by decide +kernel
theorem kX10_divisor_94 : cdOf kX10_divisor 94 = some (.getfield 23, 3) := by decide +kernel
theorem kX10_divisor_97 : cdOf kX10_divisor 97 = some (.iconst 0, 1) := by decide +kernel
theorem kX10_divisor_98 : cdOf kX10_divisor 98 = some (.iaload, 1) := by decide +kernel
theorem kX10_divisor_99 : cdOf kX10_divisor 99 = some (.ifCond .le 106, 3) := by decide +kernel
theorem kX10_divisor_102 : cdOf kX10_divisor 102 = some (.aload_n 0, 1) := by decide +kernel
theorem kX10_divisor_103 : cdOf kX10_divisor 103 = some (.getfield 20, 3) := by decide +kernel
theorem kX10_divisor_106 : cdOf kX10_divisor 106 = some (.iconst 0, 1) := by decide +kernel
theorem kX10_divisor_107 : cdOf kX10_divisor 107 = some (.iaload, 1) := by decide +kernel
theorem kX10_divisor_108 : cdOf kX10_divisor 108 = some (.iconst 2, 1) := by decide +kernel
theorem kX10_divisor_109 : cdOf kX10_divisor 109 = some (.if_icmp .gt 13, 3) := by decide +kernel
theorem kX10_divisor_112 : cdOf kX10_divisor 112 = some (.aload_n 0, 1) := by decide +kernel
theorem kX10_divisor_113 : cdOf kX10_divisor 113 = some (.getfield 23, 3) := by decide +kernel
theorem kX10_divisor_116 : cdOf kX10_divisor 116 = some (.iconst 0, 1) := by decide +kernel
theorem kX10_divisor_117 : cdOf kX10_divisor 117 = some (.iaload, 1) := by decide +kernel
theorem kX10_divisor_118 : cdOf kX10_divisor 118 = some (.iconst 2, 1) := by decide +kernel
theorem kX10_divisor_119 : cdOf kX10_divisor 119 = some (.if_icmp .le 86, 3) := by decide +kernel
theorem kX10_divisor_122 : cdOf kX10_divisor 122 = some (.aload_n 0, 1) := by decide +kernel
theorem kX10_divisor_123 : cdOf kX10_divisor 123 = some (.getfield 20, 3) := by decide +kernel
theorem kX10_divisor_126 : cdOf kX10_divisor 126 = some (.aload_n 0, 1) := by decide +kernel
theorem kX10_divisor_127 : cdOf kX10_divisor 127 = some (.getfield 23, 3) := by decide +kernel
theorem kX10_divisor_130 : cdOf kX10_divisor 130 = some (.invokestatic 120, 3) := by decide +kernel
theorem kX10_divisor_133 : cdOf kX10_divisor 133 = some (.istore 5, 2) := by decide +kernel
theorem kX10_divisor_135 : cdOf kX10_divisor 135 = some (.iload 5, 2) := by decide +kernel
theorem kX10_divisor_137 : cdOf kX10_divisor 137 = some (.ifCond .lt 40, 3) := by decide +kernel
theorem kX10_divisor_140 : cdOf kX10_divisor 140 = some (.aload_n 0, 1) := by decide +kernel
theorem kX10_divisor_141 : cdOf kX10_divisor 141 = some (.getfield 20, 3) := by decide +kernel
theorem kX10_divisor_144 : cdOf kX10_divisor 144 = some (.aload_n 0, 1) := by decide +kernel
theorem kX10_divisor_145 : cdOf kX10_divisor 145 = some (.getfield 23, 3) := by decide +kernel
theorem kX10_divisor_148 : cdOf kX10_divisor 148 = some (.invokestatic 124, 3) := by decide +kernel
theorem kX10_divisor_151 : cdOf kX10_divisor 151 = some (.aload_n 0, 1) := by decide +kernel
theorem kX10_divisor_152 : cdOf kX10_divisor 152 = some (.getfield 20, 3) := by decide +kernel
theorem kX10_divisor_155 : cdOf kX10_divisor 155 = some (.iconst 0, 1) := by decide +kernel
theorem kX10_divisor_156 : cdOf kX10_divisor 156 = some (.iaload, 1) := by decide +kernel
theorem kX10_divisor_157 : cdOf kX10_divisor 157 = some (.ifCond .le 45, 3) := by decide +kernel
theorem kX10_divisor_160 : cdOf kX10_divisor 160 = some (.aload_n 0, 1) := by decide +kernel
theorem kX10_divisor_161 : cdOf kX10_divisor 161 = some (.getfield 20, 3) := by decide +kernel
theorem kX10_divisor_164 : cdOf kX10_divisor 164 = some (.aload_n 0, 1) := by decide +kernel
theorem kX10_divisor_165 : cdOf kX10_divisor 165 = some (.getfield 20, 3) := by decide +kernel
theorem kX10_divisor_168 : cdOf kX10_divisor 168 = some (.invokestatic 110, 3) := by decide +kernel
theorem kX10_divisor_171 : cdOf kX10_divisor 171 = some (.invokestatic 117, 3) := by decide +kernel
theorem kX10_divisor_174 : cdOf kX10_divisor 174 = some (.goto 28, 3) := by decide +kernel
theorem kX10_divisor_177 : cdOf kX10_divisor 177 = some (.aload_n 0, 1) := by decide +kernel
theorem kX10_divisor_178 : cdOf kX10_divisor 178 = some (.getfield 23, 3) := by decide +kernel
theorem kX10_divisor_181 : cdOf kX10_divisor 181 = some (.aload_n 0, 1) := by decide +kernel
theorem kX10_divisor_182 : cdOf kX10_divisor 182 = some (.getfield 20, 3) := by decide +kernel
theorem kX10_divisor_185 : cdOf kX10_divisor 185 = some (.invokestatic 124, 3) := by decide +kernel
theorem kX10_divisor_188 : cdOf kX10_divisor 188 = some (.aload_n 0, 1) := by decide +kernel
theorem kX10_divisor_189 : cdOf kX10_divisor 189 = some (.getfield 23, 3) := by decide +kernel
theorem kX10_divisor_192 : cdOf kX10_divisor 192 = some (.aload_n 0, 1) := by decide +kernel
theorem kX10_divisor_193 : cdOf kX10_divisor 193 = some (.getfield 23, 3) := by decide +kernel
theorem kX10_divisor_196 : cdOf kX10_divisor 196 = some (.invokestatic 110, 3) := by decide +kernel
theorem kX10_divisor_199 : cdOf kX10_divisor 199 = some (.invokestatic 117, 3) := by decide +kernel
theorem kX10_divisor_202 : cdOf kX10_divisor 202 = some (.goto (-118), 3) := by decide +kernel
theorem kX10_divisor_205 : cdOf kX10_divisor 205 = some (.aload_n 0, 1) := by decide +kernel
theorem kX10_divisor_206 : cdOf kX10_divisor 206 = some (.getfield 20, 3) := by decide +kernel
theorem kX10_divisor_209 : cdOf kX10_divisor 209 = some (.iconst 0, 1) := by decide +kernel
theorem kX10_divisor_210 : cdOf kX10_divisor 210 = some (.iaload, 1) := by decide +kernel
theorem kX10_divisor_211 : cdOf kX10_divisor 211 = some (.ifCond .le 65, 3) := by decide +kernel
theorem kX10_divisor_214 : cdOf kX10_divisor 214 = some (.aload_n 0, 1) := by decide +kernel
theorem kX10_divisor_215 : cdOf kX10_divisor 215 = some (.getfield 23, 3) := by decide +kernel
theorem kX10_divisor_218 : cdOf kX10_divisor 218 = some (.iconst 0, 1) := by decide +kernel
theorem kX10_divisor_219 : cdOf kX10_divisor 219 = some (.iaload, 1) := by decide +kernel
theorem kX10_divisor_220 : cdOf kX10_divisor 220 = some (.ifCond .le 56, 3) := by decide +kernel
theorem kX10_divisor_223 : cdOf kX10_divisor 223 = some (.aload_n 0, 1) := by decide +kernel
theorem kX10_divisor_224 : cdOf kX10_divisor 224 = some (.getfield 20, 3) := by decide +kernel
theorem kX10_divisor_227 : cdOf kX10_divisor 227 = some (.invokestatic 128, 3) := by decide +kernel
theorem kX10_divisor_230 : cdOf kX10_divisor 230 = some (.lstore 5, 2) := by decide +kernel
theorem kX10_divisor_232 : cdOf kX10_divisor 232 = some (.aload_n 0, 1) := by decide +kernel
theorem kX10_divisor_233 : cdOf kX10_divisor 233 = some (.getfield 23, 3) := by decide +kernel
theorem kX10_divisor_236 : cdOf kX10_divisor 236 = some (.invokestatic 128, 3) := by decide +kernel
theorem kX10_divisor_239 : cdOf kX10_divisor 239 = some (.lstore 7, 2) := by decide +kernel
theorem kX10_divisor_241 : cdOf kX10_divisor 241 = some (.lload 7, 2) := by decide +kernel
theorem kX10_divisor_243 : cdOf kX10_divisor 243 = some (.lconst 0, 1) := by decide +kernel
theorem kX10_divisor_244 : cdOf kX10_divisor 244 = some (.lcmp, 1) := by decide +kernel
theorem kX10_divisor_245 : cdOf kX10_divisor 245 = some (.ifCond .eq 21, 3) := by decide +kernel
theorem kX10_divisor_248 : cdOf kX10_divisor 248 = some (.lload 5, 2) := by decide +kernel
theorem kX10_divisor_250 : cdOf kX10_divisor 250 = some (.lload 7, 2) := by decide +kernel
theorem kX10_divisor_252 : cdOf kX10_divisor 252 = some (.lrem, 1) := by decide +kernel
theorem kX10_divisor_253 : cdOf kX10_divisor 253 = some (.lstore 9, 2) := by decide +kernel
theorem kX10_divisor_255 : cdOf kX10_divisor 255 = some (.lload 7, 2) := by decide +kernel
theorem kX10_divisor_257 : cdOf kX10_divisor 257 = some (.lstore 5, 2) := by decide +kernel
theorem kX10_divisor_259 : cdOf kX10_divisor 259 = some (.lload 9, 2) := by decide +kernel
theorem kX10_divisor_261 : cdOf kX10_divisor 261 = some (.lstore 7, 2) := by decide +kernel
theorem kX10_divisor_263 : cdOf kX10_divisor 263 = some (.goto (-22), 3) := by decide +kernel
theorem kX10_divisor_266 : cdOf kX10_divisor 266 = some (.aload_n 0, 1) := by decide +kernel
theorem kX10_divisor_267 : cdOf kX10_divisor 267 = some (.iload_n 1, 1) := by decide +kernel
theorem kX10_divisor_268 : cdOf kX10_divisor 268 = some (.lload 5, 2) := by decide +kernel
theorem kX10_divisor_270 : cdOf kX10_divisor 270 = some (.invokevirtual 132, 3) := by decide +kernel
theorem kX10_divisor_273 : cdOf kX10_divisor 273 = some (.goto 75, 3) := by decide +kernel
theorem kX10_divisor_276 : cdOf kX10_divisor 276 = some (.iload_n 1, 1) := by decide +kernel
theorem kX10_divisor_277 : cdOf kX10_divisor 277 = some (.invokestatic 64, 3) := by decide +kernel
theorem kX10_divisor_280 : cdOf kX10_divisor 280 = some (.istore 5, 2) := by decide +kernel
theorem kX10_divisor_282 : cdOf kX10_divisor 282 = some (.aload_n 0, 1) := by decide +kernel
theorem kX10_divisor_283 : cdOf kX10_divisor 283 = some (.getfield 20, 3) := by decide +kernel
theorem kX10_divisor_286 : cdOf kX10_divisor 286 = some (.iconst 0, 1) := by decide +kernel
theorem kX10_divisor_287 : cdOf kX10_divisor 287 = some (.iaload, 1) := by decide +kernel
theorem kX10_divisor_288 : cdOf kX10_divisor 288 = some (.ifCond .le 10, 3) := by decide +kernel
theorem kX10_divisor_291 : cdOf kX10_divisor 291 = some (.aload_n 0, 1) := by decide +kernel
theorem kX10_divisor_292 : cdOf kX10_divisor 292 = some (.getfield 20, 3) := by decide +kernel
theorem kX10_divisor_295 : cdOf kX10_divisor 295 = some (.goto 7, 3) := by decide +kernel
theorem kX10_divisor_298 : cdOf kX10_divisor 298 = some (.aload_n 0, 1) := by decide +kernel
theorem kX10_divisor_299 : cdOf kX10_divisor 299 = some (.getfield 23, 3) := by decide +kernel
theorem kX10_divisor_302 : cdOf kX10_divisor 302 = some (.astore 6, 2) := by decide +kernel
theorem kX10_divisor_304 : cdOf kX10_divisor 304 = some (.aload_n 0, 1) := by decide +kernel
theorem kX10_divisor_305 : cdOf kX10_divisor 305 = some (.getfield 12, 3) := by decide +kernel
theorem kX10_divisor_308 : cdOf kX10_divisor 308 = some (.iload 5, 2) := by decide +kernel
theorem kX10_divisor_310 : cdOf kX10_divisor 310 = some (.aload 6, 2) := by decide +kernel
theorem kX10_divisor_312 : cdOf kX10_divisor 312 = some (.iconst 0, 1) := by decide +kernel
theorem kX10_divisor_313 : cdOf kX10_divisor 313 = some (.iaload, 1) := by decide +kernel
theorem kX10_divisor_314 : cdOf kX10_divisor 314 = some (.iastore, 1) := by decide +kernel
theorem kX10_divisor_315 : cdOf kX10_divisor 315 = some (.iconst 1, 1) := by decide +kernel
theorem kX10_divisor_316 : cdOf kX10_divisor 316 = some (.istore 7, 2) := by decide +kernel
theorem kX10_divisor_318 : cdOf kX10_divisor 318 = some (.iload 7, 2) := by decide +kernel
theorem kX10_divisor_320 : cdOf kX10_divisor 320 = some (.aload 6, 2) := by decide +kernel
theorem kX10_divisor_322 : cdOf kX10_divisor 322 = some (.iconst 0, 1) := by decide +kernel
theorem kX10_divisor_323 : cdOf kX10_divisor 323 = some (.iaload, 1) := by decide +kernel
theorem kX10_divisor_324 : cdOf kX10_divisor 324 = some (.if_icmp .gt 24, 3) := by decide +kernel
theorem kX10_divisor_327 : cdOf kX10_divisor 327 = some (.aload_n 0, 1) := by decide +kernel
theorem kX10_divisor_328 : cdOf kX10_divisor 328 = some (.getfield 12, 3) := by decide +kernel
theorem kX10_divisor_331 : cdOf kX10_divisor 331 = some (.iload 5, 2) := by decide +kernel
theorem kX10_divisor_333 : cdOf kX10_divisor 333 = some (.iload 7, 2) := by decide +kernel
theorem kX10_divisor_335 : cdOf kX10_divisor 335 = some (.iadd, 1) := by decide +kernel
theorem kX10_divisor_336 : cdOf kX10_divisor 336 = some (.aload 6, 2) := by decide +kernel
theorem kX10_divisor_338 : cdOf kX10_divisor 338 = some (.iload 7, 2) := by decide +kernel
theorem kX10_divisor_340 : cdOf kX10_divisor 340 = some (.iaload, 1) := by decide +kernel
theorem kX10_divisor_341 : cdOf kX10_divisor 341 = some (.iastore, 1) := by decide +kernel
theorem kX10_divisor_342 : cdOf kX10_divisor 342 = some (.iinc 7 1, 3) := by decide +kernel
theorem kX10_divisor_345 : cdOf kX10_divisor 345 = some (.goto (-27), 3) := by decide +kernel
theorem kX10_divisor_348 : cdOf kX10_divisor 348 = some (.aload_n 0, 1) := by decide +kernel
theorem kX10_divisor_349 : cdOf kX10_divisor 349 = some (.iload_n 1, 1) := by decide +kernel
theorem kX10_divisor_350 : cdOf kX10_divisor 350 = some (.iload 4, 2) := by decide +kernel
theorem kX10_divisor_352 : cdOf kX10_divisor 352 = some (.invokevirtual 136, 3) := by decide +kernel
theorem kX10_divisor_355 : cdOf kX10_divisor 355 = some (.return_, 1) := by decide +kernel
set_option maxRecDepth 20000 in
theorem kX10_divisor_ok : ∀ pc i len, cdOf kX10_divisor pc = some (i, len) → decode cX10_divisor pc = .ok (i, len) ∧ stOK 11 i = true ∧ jOK pc i = true ∧ eLen i len = true := cdOf_ok cX10_divisor 11 kX10_divisor (by decide +kernel)
def vtX10_divisor : Nat → Option (Nat × eSp) := fun k => match k with
  | 106 => some (3, SX10_lift)
  | 132 => some (3, SX10_set)
  | 136 => some (3, SX10_raise)
  | _ => none
theorem vtX10_divisor_106 : vtX10_divisor 106 = some (3, SX10_lift) := rfl
theorem vtX10_divisor_132 : vtX10_divisor 132 = some (3, SX10_set) := rfl
theorem vtX10_divisor_136 : vtX10_divisor 136 = some (3, SX10_raise) := rfl
def stX10_divisor : Nat → Option (Nat × eSp) := fun k => match k with
  | 110 => some (1, SX10_zeros)
  | 114 => some (2, sMin)
  | 117 => some (2, SX10_shift)
  | 120 => some (2, SX10_compareRows)
  | 124 => some (2, SX10_less)
  | 128 => some (1, SX10_small)
  | 64 => some (1, SX10_at)
  | _ => none
theorem stX10_divisor_110 : stX10_divisor 110 = some (1, SX10_zeros) := rfl
theorem stX10_divisor_114 : stX10_divisor 114 = some (2, sMin) := rfl
theorem stX10_divisor_117 : stX10_divisor 117 = some (2, SX10_shift) := rfl
theorem stX10_divisor_120 : stX10_divisor 120 = some (2, SX10_compareRows) := rfl
theorem stX10_divisor_124 : stX10_divisor 124 = some (2, SX10_less) := rfl
theorem stX10_divisor_128 : stX10_divisor 128 = some (1, SX10_small) := rfl
theorem stX10_divisor_64 : stX10_divisor 64 = some (1, SX10_at) := rfl
abbrev TX10_divisor : eT := (fl_RX10, cl_RX10, dl_RX10, vtX10_divisor, stX10_divisor)
set_option maxRecDepth 20000 in
theorem caX10_divisor : eCalls RX10 { frames := 3, cells := 0, slots := 0, locals := 73 } TX10_divisor := by
  refine ⟨fun k n sp h => ?_, fun k n sp h => ?_⟩
  · dsimp only [TX10_divisor] at h
    unfold vtX10_divisor at h
    split at h
    · cases h; exact eV_mk mX10_lift wX10_lift (by decide +kernel) (Or.inl (gW_at 1097 (by decide +kernel) rfl))
    · cases h; exact eV_mk mX10_set wX10_set (by decide +kernel) (Or.inl (gW_at 1073 (by decide +kernel) rfl))
    · cases h; exact eV_mk mX10_raise wX10_raise (by decide +kernel) (Or.inl (gW_at 1126 (by decide +kernel) rfl))
    · cases h
  · dsimp only [TX10_divisor] at h
    unfold stX10_divisor at h
    split at h
    · cases h; exact eS_mk mX10_zeros wX10_zeros (by decide +kernel) (Or.inl (gW_at 1105 (by decide +kernel) rfl))
    · cases h; exact eS_min (by decide +kernel) (gW_at 1112 (by decide +kernel) rfl) (gW_at 531 (by decide +kernel) rfl) (gW_at 82 (by decide +kernel) rfl) (gW_at 532 (by decide +kernel) rfl)
    · cases h; exact eS_mk mX10_shift wX10_shift (by decide +kernel) (Or.inl (gW_at 1113 (by decide +kernel) rfl))
    · cases h; exact eS_mk mX10_compareRows wX10_compareRows (by decide +kernel) (Or.inl (gW_at 1117 (by decide +kernel) rfl))
    · cases h; exact eS_mk mX10_less wX10_less (by decide +kernel) (Or.inl (gW_at 1120 (by decide +kernel) rfl))
    · cases h; exact eS_mk mX10_small wX10_small (by decide +kernel) (Or.inl (gW_at 1123 (by decide +kernel) rfl))
    · cases h; exact eS_mk mX10_at wX10_at (by decide +kernel) (Or.inl (gW_at 1070 (by decide +kernel) rfl))
    · cases h
set_option maxRecDepth 100000 in
set_option maxHeartbeats 4000000 in
theorem sX10_divisor : eSafe TX10_divisor (cdOf kX10_divisor) 11 none SX10_divisor := by
  intro K rt hK as M h
  obtain ⟨F, A, p, q, r, y, z, rfl, rfl, hp, hq, hr, hy, hz, ⟨by1, bz1⟩, h⟩ := h
  refine ⟨by simp [eE], ?_⟩
  -- the last step: raising
  have last : ∀ (A' : Nat → Int → Int) (G e : Nat) (u5 u6 u7 u8 u9 u10 : Option eV), sN A A' → oB (A 0) (A' 0) p → nm (A' 0) p (G : Int) → Int.gcd y z = G * 2 ^ e → e < 16800 → (G : Int) * 2 ^ e < bB ^ 599 → K 348 [some eRR, some (eI p), some (eI q), some (eI r), some (eI e), u5, u6, u7, u8, u9, u10] [] (cR F A') := by
    intro A' G e u5 u6 u7 u8 u9 u10 hs ho hn hg he hb
    have e1 : (Int.gcd y z : Int) = (G : Int) * 2 ^ e := by rw [hg, Int.natCast_mul, zb_p2]
    refine x_aload_n hK kX10_divisor_348 (q := 349) rfl rfl ?_
    refine x_iload_n hK kX10_divisor_349 (q := 350) rfl rfl ?_
    refine x_iload hK kX10_divisor_350 (q := 352) rfl rfl ?_
    refine x_cv3 hK kX10_divisor_352 (q := 355) rfl (vtX10_divisor_136) (Nat.le_of_ble_eq_true rfl) ?_
    refine SX10_raise_i (G : Int) hp hn (Int.natCast_nonneg G) (fun _ => hb) he (fun f h1 h2 => ?_)
    refine x_return_ hK kX10_divisor_355 (by first | trivial | exact Or.inl rfl | exact Or.inr rfl) ?_
    refine h _ (sN_tr hs (sN_u (by decide) _)) (by rw [uA_g]; exact oB_tr ho h1) ?_
    rw [uA_g, e1]
    exact h2
  -- Euclid's loop over longs
  have eucl : ∀ (m : Nat) (A' : Nat → Int → Int) (G e a b : Nat) (u9 u10 : Option eV), b < m → sN A A' → oB (A 0) (A' 0) p → Nat.gcd a b = G → (a : Int) < bB ^ 2 → (b : Int) < bB ^ 2 → Int.gcd y z = G * 2 ^ e → e < 16800 → (G : Int) * 2 ^ e < bB ^ 599 → K 241 [some eRR, some (eI p), some (eI q), some (eI r), some (eI e), some (eL a), none, some (eL b), none, u9, u10] [] (cR F A') := by
    intro m
    induction m with
    | zero => intro A' G e a b u9 u10 hm; omega
    | succ m ih =>
      intro A' G e a b u9 u10 hm hs ho hG ha hb hg he hbb
      have b2 : bB ^ 2 = 72057594037927936 := by decide
      refine x_lload hK kX10_divisor_241 (q := 243) rfl rfl ?_
      refine x_lconst0 hK kX10_divisor_243 (q := 244) rfl ?_
      refine x_lcmp hK kX10_divisor_244 (q := 245) rfl (by refine ⟨?_, ?_⟩ <;> omega) ?_
      refine x_ifc_eq hK kX10_divisor_245 (q := 248) rfl (tg := 266) rfl (fun c245 => ?_) (fun c245 => ?_)
      · have hb0 : b = 0 := by omega
        subst hb0
        rw [Nat.gcd_zero_right] at hG
        subst hG
        refine x_aload_n hK kX10_divisor_266 (q := 267) rfl rfl ?_
        refine x_iload_n hK kX10_divisor_267 (q := 268) rfl rfl ?_
        refine x_lload hK kX10_divisor_268 (q := 270) rfl rfl ?_
        refine x_cv3 hK kX10_divisor_270 (q := 273) rfl (vtX10_divisor_132) (Nat.le_of_ble_eq_true rfl) ?_
        refine SX10_set_i hp (by constructor <;> omega) (fun f h1 h2 => ?_)
        refine x_goto hK kX10_divisor_273 (tg := 348) rfl ?_
        exact last _ a e _ _ _ _ _ _ (sN_tr hs (sN_u (by decide) _)) (by rw [uA_g]; exact oB_tr ho h1) (by rw [uA_g]; exact h2) hg he hbb
      · refine x_lload hK kX10_divisor_248 (q := 250) rfl rfl ?_
        refine x_lload hK kX10_divisor_250 (q := 252) rfl rfl ?_
        refine x_lrem hK kX10_divisor_252 (q := 253) rfl (by refine ⟨?_, ?_, ?_⟩ <;> omega) ?_
        rw [Int.tmod_eq_emod_of_nonneg (by omega), show (a : Int) % (b : Int) = ((a % b : Nat) : Int) by simp]
        refine x_lstore hK kX10_divisor_253 (q := 255) rfl ?_
        refine x_lload hK kX10_divisor_255 (q := 257) rfl rfl ?_
        refine x_lstore hK kX10_divisor_257 (q := 259) rfl ?_
        refine x_lload hK kX10_divisor_259 (q := 261) rfl rfl ?_
        refine x_lstore hK kX10_divisor_261 (q := 263) rfl ?_
        simp only [lS, lS2, clr_0, clr_I, clr_L, clr_R]
        refine x_goto hK kX10_divisor_263 (tg := 241) rfl ?_
        have hb0 : 0 < b := by omega
        have h5 := Nat.mod_lt a hb0
        refine ih A' G e b (a % b) _ _ (by omega) hs ho ?_ (by omega) (by omega) hg he hbb
        rw [Nat.gcd_comm, ← Nat.gcd_rec, Nat.gcd_comm]
        exact hG
  -- the row that is left
  have cpy : ∀ (A' : Nat → Int → Int) (G e t : Nat) (u7 u8 u9 u10 : Option eV), (t = 2 ∨ t = 3) → sN A A' → oB (A 0) (A' 0) p → rw_ (A' t) (G : Int) → Int.gcd y z = G * 2 ^ e → e < 16800 → (G : Int) * 2 ^ e < bB ^ 599 → K 304 [some eRR, some (eI p), some (eI q), some (eI r), some (eI e), some (eI (p * 601)), some (eR (1, t)), u7, u8, u9, u10] [] (cR F A') := by
    intro A' G e t u7 u8 u9 u10 ht hs ho hrw hg he hbb
    obtain ⟨n, hn, hg0, hgr, hgt, hgv⟩ := hrw
    have hA : ∀ f, uA A' 0 f t = A' t := fun f => uA_n _ _ (by rcases ht with rfl | rfl <;> decide)
    have lp : ∀ (d k : Nat) (f : Int → Int) (u8 u9 u10 : Option eV), k + d = n + 1 → 1 ≤ k → oB (A 0) f p → f (p * 601) = n → (∀ j : Nat, 1 ≤ j → j < k → f (p * 601 + j) = A' t j) → K 318 [some eRR, some (eI p), some (eI q), some (eI r), some (eI e), some (eI (p * 601)), some (eR (1, t)), some (eI k), u8, u9, u10] [] (cR F (uA A' 0 f)) := by
      intro d
      induction d with
      | zero =>
        intro k f u8 u9 u10 hk k1 hof hf0 hfl
        refine x_iload hK kX10_divisor_318 (q := 320) rfl rfl ?_
        refine x_aload hK kX10_divisor_320 (q := 322) rfl rfl ?_
        refine x_iconst hK kX10_divisor_322 (q := 323) rfl ?_
        refine x_iaload hK kX10_divisor_323 (q := 324) rfl (aX10_P ht (by refine ⟨?_, ?_⟩ <;> omega) ?_)
        rw [hA, hg0]
        refine x_icmp_gt hK kX10_divisor_324 (q := 327) rfl (tg := 348) rfl (by refine ⟨?_, ?_⟩ <;> omega) (fun c324 => ?_) (fun c324 => ?_)
        · refine last _ G e _ _ _ _ _ _ (sN_tr hs (sN_u (by decide) _)) (by rw [uA_g]; exact hof) ?_ hg he hbb
          rw [uA_g]
          have e1 : ∀ j : Nat, j < n → f (p * 601 + 1 + j) = A' t (1 + j) := fun j hj => by
            have := hfl (j + 1) (by omega) (by omega)
            rw [show p * 601 + ((j + 1 : Nat) : Int) = p * 601 + 1 + j by omega, show ((j + 1 : Nat) : Int) = 1 + (j : Int) by omega] at this
            exact this
          refine ⟨n, hn, lr_cong hgr e1, fun h0 => ?_, Or.inl ⟨hf0, by rw [vl_cong e1]; exact hgv⟩⟩
          rw [hfl n (by omega) (by omega)]
          exact hgt h0
        · exact absurd c324 (by omega)
      | succ d ih =>
        intro k f u8 u9 u10 hk k1 hof hf0 hfl
        refine x_iload hK kX10_divisor_318 (q := 320) rfl rfl ?_
        refine x_aload hK kX10_divisor_320 (q := 322) rfl rfl ?_
        refine x_iconst hK kX10_divisor_322 (q := 323) rfl ?_
        refine x_iaload hK kX10_divisor_323 (q := 324) rfl (aX10_P ht (by refine ⟨?_, ?_⟩ <;> omega) ?_)
        rw [hA, hg0]
        refine x_icmp_gt hK kX10_divisor_324 (q := 327) rfl (tg := 348) rfl (by refine ⟨?_, ?_⟩ <;> omega) (fun c324 => ?_) (fun c324 => ?_)
        · exact absurd c324 (by omega)
        · refine x_aload_n hK kX10_divisor_327 (q := 328) rfl rfl ?_
          refine x_getfield hK kX10_divisor_328 (q := 331) rfl (gX10_12 ?_)
          refine x_iload hK kX10_divisor_331 (q := 333) rfl rfl ?_
          refine x_iload hK kX10_divisor_333 (q := 335) rfl rfl ?_
          refine x_iadd hK kX10_divisor_335 (q := 336) rfl ?_
          refine x_aload hK kX10_divisor_336 (q := 338) rfl rfl ?_
          refine x_iload hK kX10_divisor_338 (q := 340) rfl rfl ?_
          refine x_iaload hK kX10_divisor_340 (q := 341) rfl (aX10_P ht (by refine ⟨?_, ?_⟩ <;> omega) ?_)
          refine x_iastore hK kX10_divisor_341 (q := 342) rfl (yX10_A0 (by refine ⟨?_, ?_⟩ <;> omega) ?_)
          refine x_iinc hK kX10_divisor_342 (q := 345) rfl rfl ?_
          simp only [lS, lS2, clr_0, clr_I, clr_L, clr_R]
          refine x_goto hK kX10_divisor_345 (tg := 318) rfl ?_
          rw [hA, uA_g, uA_u]
          refine ih (k + 1) _ _ _ _ (by omega) (by omega) (fun j hj => by rw [uI_n _ _ (by omega)]; exact hof j hj) (by rw [uI_n _ _ (by omega)]; exact hf0) (fun j a b => ?_)
          rcases Nat.lt_or_ge j k with c | c
          · rw [uI_n _ _ (by omega)]; exact hfl j a c
          · rw [show j = k by omega, uI_s]
    refine x_aload_n hK kX10_divisor_304 (q := 305) rfl rfl ?_
    refine x_getfield hK kX10_divisor_305 (q := 308) rfl (gX10_12 ?_)
    refine x_iload hK kX10_divisor_308 (q := 310) rfl rfl ?_
    refine x_aload hK kX10_divisor_310 (q := 312) rfl rfl ?_
    refine x_iconst hK kX10_divisor_312 (q := 313) rfl ?_
    refine x_iaload hK kX10_divisor_313 (q := 314) rfl (aX10_P ht (by refine ⟨?_, ?_⟩ <;> omega) ?_)
    rw [hg0]
    refine x_iastore hK kX10_divisor_314 (q := 315) rfl (yX10_A0 (by refine ⟨?_, ?_⟩ <;> omega) ?_)
    refine x_iconst hK kX10_divisor_315 (q := 316) rfl ?_
    refine x_istore hK kX10_divisor_316 (q := 318) rfl ?_
    simp only [lS, lS2, clr_0, clr_I, clr_L, clr_R]
    exact lp n 1 _ _ _ _ (by omega) (by omega) (fun j hj => by rw [uI_n _ _ (by omega)]; exact ho j hj) (by rw [uI_s]) (fun j a b => absurd a (by omega))
  -- behind the loop
  have tail : ∀ (A' : Nat → Int → Int) (G e a b : Nat) (u5 u6 u7 u8 u9 u10 : Option eV), sN A A' → oB (A 0) (A' 0) p → rw_ (A' 2) a → rw_ (A' 3) b → Nat.gcd a b = G → (a = 0 ∨ b = 0 ∨ ((a : Int) < bB ^ 2 ∧ (b : Int) < bB ^ 2)) → Int.gcd y z = G * 2 ^ e → e < 16800 → (G : Int) * 2 ^ e < bB ^ 599 → K 205 [some eRR, some (eI p), some (eI q), some (eI r), some (eI e), u5, u6, u7, u8, u9, u10] [] (cR F A') := by
    intro A' G e a b u5 u6 u7 u8 u9 u10 hs ho ha hb hG hab hg he hbb
    obtain ⟨na, hna, ga, ga0, -⟩ := rw_n ha
    obtain ⟨nb, hnb, gb, gb0, -⟩ := rw_n hb
    refine x_aload_n hK kX10_divisor_205 (q := 206) rfl rfl ?_
    refine x_getfield hK kX10_divisor_206 (q := 209) rfl (gX10_20 ?_)
    refine x_iconst hK kX10_divisor_209 (q := 210) rfl ?_
    refine x_iaload hK kX10_divisor_210 (q := 211) rfl (aX10_A2 (by refine ⟨?_, ?_⟩ <;> omega) ?_)
    rw [ga]
    refine x_if_le hK kX10_divisor_211 (q := 214) rfl (tg := 276) rfl (by omega) (fun c211 => ?_) (fun c211 => ?_)
    · refine x_iload_n hK kX10_divisor_276 (q := 277) rfl rfl ?_
      refine x_cs1 hK kX10_divisor_277 (q := 280) rfl (stX10_divisor_64) (Nat.le_of_ble_eq_true rfl) ?_
      refine SX10_at_i ?_
      refine x_istore hK kX10_divisor_280 (q := 282) rfl ?_
      refine x_aload_n hK kX10_divisor_282 (q := 283) rfl rfl ?_
      refine x_getfield hK kX10_divisor_283 (q := 286) rfl (gX10_20 ?_)
      refine x_iconst hK kX10_divisor_286 (q := 287) rfl ?_
      refine x_iaload hK kX10_divisor_287 (q := 288) rfl (aX10_A2 (by refine ⟨?_, ?_⟩ <;> omega) ?_)
      simp only [lS, lS2, clr_0, clr_I, clr_L, clr_R]
      rw [ga]
      refine x_if_le hK kX10_divisor_288 (q := 291) rfl (tg := 298) rfl (by omega) (fun c288 => ?_) (fun c288 => ?_)
      · refine x_aload_n hK kX10_divisor_298 (q := 299) rfl rfl ?_
        refine x_getfield hK kX10_divisor_299 (q := 302) rfl (gX10_23 ?_)
        refine x_astore hK kX10_divisor_302 (q := 304) rfl ?_
        simp only [lS, lS2, clr_0, clr_I, clr_L, clr_R]
        first
          | (have hb0 : b = 0 := by omega
             subst hb0
             rw [Nat.gcd_zero_right] at hG
             subst hG
             exact cpy A' a e 2 _ _ _ _ (Or.inl rfl) hs ho ha hg he hbb)
          | (have ha0 : a = 0 := by omega
             subst ha0
             rw [Nat.gcd_zero_left] at hG
             subst hG
             exact cpy A' b e 3 _ _ _ _ (Or.inr rfl) hs ho hb hg he hbb)
      · refine x_aload_n hK kX10_divisor_291 (q := 292) rfl rfl ?_
        refine x_getfield hK kX10_divisor_292 (q := 295) rfl (gX10_20 ?_)
        refine x_goto hK kX10_divisor_295 (tg := 302) rfl ?_
        refine x_astore hK kX10_divisor_302 (q := 304) rfl ?_
        simp only [lS, lS2, clr_0, clr_I, clr_L, clr_R]
        first
          | (have hb0 : b = 0 := by omega
             subst hb0
             rw [Nat.gcd_zero_right] at hG
             subst hG
             exact cpy A' a e 2 _ _ _ _ (Or.inl rfl) hs ho ha hg he hbb)
          | (have ha0 : a = 0 := by omega
             subst ha0
             rw [Nat.gcd_zero_left] at hG
             subst hG
             exact cpy A' b e 3 _ _ _ _ (Or.inr rfl) hs ho hb hg he hbb)
    · refine x_aload_n hK kX10_divisor_214 (q := 215) rfl rfl ?_
      refine x_getfield hK kX10_divisor_215 (q := 218) rfl (gX10_23 ?_)
      refine x_iconst hK kX10_divisor_218 (q := 219) rfl ?_
      refine x_iaload hK kX10_divisor_219 (q := 220) rfl (aX10_A3 (by refine ⟨?_, ?_⟩ <;> omega) ?_)
      rw [gb]
      refine x_if_le hK kX10_divisor_220 (q := 223) rfl (tg := 276) rfl (by omega) (fun c220 => ?_) (fun c220 => ?_)
      · refine x_iload_n hK kX10_divisor_276 (q := 277) rfl rfl ?_
        refine x_cs1 hK kX10_divisor_277 (q := 280) rfl (stX10_divisor_64) (Nat.le_of_ble_eq_true rfl) ?_
        refine SX10_at_i ?_
        refine x_istore hK kX10_divisor_280 (q := 282) rfl ?_
        refine x_aload_n hK kX10_divisor_282 (q := 283) rfl rfl ?_
        refine x_getfield hK kX10_divisor_283 (q := 286) rfl (gX10_20 ?_)
        refine x_iconst hK kX10_divisor_286 (q := 287) rfl ?_
        refine x_iaload hK kX10_divisor_287 (q := 288) rfl (aX10_A2 (by refine ⟨?_, ?_⟩ <;> omega) ?_)
        simp only [lS, lS2, clr_0, clr_I, clr_L, clr_R]
        rw [ga]
        refine x_if_le hK kX10_divisor_288 (q := 291) rfl (tg := 298) rfl (by omega) (fun c288 => ?_) (fun c288 => ?_)
        · refine x_aload_n hK kX10_divisor_298 (q := 299) rfl rfl ?_
          refine x_getfield hK kX10_divisor_299 (q := 302) rfl (gX10_23 ?_)
          refine x_astore hK kX10_divisor_302 (q := 304) rfl ?_
          simp only [lS, lS2, clr_0, clr_I, clr_L, clr_R]
          first
            | (have hb0 : b = 0 := by omega
               subst hb0
               rw [Nat.gcd_zero_right] at hG
               subst hG
               exact cpy A' a e 2 _ _ _ _ (Or.inl rfl) hs ho ha hg he hbb)
            | (have ha0 : a = 0 := by omega
               subst ha0
               rw [Nat.gcd_zero_left] at hG
               subst hG
               exact cpy A' b e 3 _ _ _ _ (Or.inr rfl) hs ho hb hg he hbb)
        · refine x_aload_n hK kX10_divisor_291 (q := 292) rfl rfl ?_
          refine x_getfield hK kX10_divisor_292 (q := 295) rfl (gX10_20 ?_)
          refine x_goto hK kX10_divisor_295 (tg := 302) rfl ?_
          refine x_astore hK kX10_divisor_302 (q := 304) rfl ?_
          simp only [lS, lS2, clr_0, clr_I, clr_L, clr_R]
          first
            | (have hb0 : b = 0 := by omega
               subst hb0
               rw [Nat.gcd_zero_right] at hG
               subst hG
               exact cpy A' a e 2 _ _ _ _ (Or.inl rfl) hs ho ha hg he hbb)
            | (have ha0 : a = 0 := by omega
               subst ha0
               rw [Nat.gcd_zero_left] at hG
               subst hG
               exact cpy A' b e 3 _ _ _ _ (Or.inr rfl) hs ho hb hg he hbb)
      · refine x_aload_n hK kX10_divisor_223 (q := 224) rfl rfl ?_
        refine x_getfield hK kX10_divisor_224 (q := 227) rfl (gX10_20 ?_)
        refine x_cs1 hK kX10_divisor_227 (q := 230) rfl (stX10_divisor_128) (Nat.le_of_ble_eq_true rfl) ?_
        refine SX10_small_i (a : Int) (Or.inl rfl) ha (by omega) ?_
        refine x_lstore hK kX10_divisor_230 (q := 232) rfl ?_
        refine x_aload_n hK kX10_divisor_232 (q := 233) rfl rfl ?_
        refine x_getfield hK kX10_divisor_233 (q := 236) rfl (gX10_23 ?_)
        simp only [lS, lS2, clr_0, clr_I, clr_L, clr_R]
        refine x_cs1 hK kX10_divisor_236 (q := 239) rfl (stX10_divisor_128) (Nat.le_of_ble_eq_true rfl) ?_
        refine SX10_small_i (b : Int) (Or.inr rfl) hb (by omega) ?_
        refine x_lstore hK kX10_divisor_239 (q := 241) rfl ?_
        simp only [lS, lS2, clr_0, clr_I, clr_L, clr_R]
        exact eucl (b + 1) A' G e a b _ _ (by omega) hs ho hG (by omega) (by omega) hg he hbb
  -- the loop
  have loop : ∀ (m : Nat) (A' : Nat → Int → Int) (G e a b : Nat) (u5 u6 u7 u8 u9 u10 : Option eV), a + b < m → sN A A' → oB (A 0) (A' 0) p → rw_ (A' 2) a → rw_ (A' 3) b → Nat.gcd a b = G → (0 < a → 0 < b → a % 2 = 1 ∧ b % 2 = 1) → (a : Int) < bB ^ 598 → (b : Int) < bB ^ 598 → Int.gcd y z = G * 2 ^ e → e < 16800 → (G : Int) * 2 ^ e < bB ^ 599 → K 84 [some eRR, some (eI p), some (eI q), some (eI r), some (eI e), u5, u6, u7, u8, u9, u10] [] (cR F A') := by
    intro m
    induction m with
    | zero => intro A' G e a b u5 u6 u7 u8 u9 u10 hm; omega
    | succ m ih =>
      intro A' G e a b u5 u6 u7 u8 u9 u10 hm hs ho ha hb hG hodd ba bb hg he hbb
      obtain ⟨na, hna, ga, ga0, gas⟩ := rw_n ha
      obtain ⟨nb, hnb, gb, gb0, gbs⟩ := rw_n hb
      refine x_aload_n hK kX10_divisor_84 (q := 85) rfl rfl ?_
      refine x_getfield hK kX10_divisor_85 (q := 88) rfl (gX10_20 ?_)
      refine x_iconst hK kX10_divisor_88 (q := 89) rfl ?_
      refine x_iaload hK kX10_divisor_89 (q := 90) rfl (aX10_A2 (by refine ⟨?_, ?_⟩ <;> omega) ?_)
      rw [ga]
      refine x_if_le hK kX10_divisor_90 (q := 93) rfl (tg := 205) rfl (by omega) (fun c90 => ?_) (fun c90 => ?_)
      · exact tail A' G e a b _ _ _ _ _ _ hs ho ha hb hG (by
          by_cases c1 : a = 0
          · exact Or.inl c1
          · by_cases c2 : b = 0
            · exact Or.inr (Or.inl c2)
            · exact Or.inr (Or.inr ⟨gas (by omega), gbs (by omega)⟩)) hg he hbb
      · refine x_aload_n hK kX10_divisor_93 (q := 94) rfl rfl ?_
        refine x_getfield hK kX10_divisor_94 (q := 97) rfl (gX10_23 ?_)
        refine x_iconst hK kX10_divisor_97 (q := 98) rfl ?_
        refine x_iaload hK kX10_divisor_98 (q := 99) rfl (aX10_A3 (by refine ⟨?_, ?_⟩ <;> omega) ?_)
        rw [gb]
        refine x_if_le hK kX10_divisor_99 (q := 102) rfl (tg := 205) rfl (by omega) (fun c99 => ?_) (fun c99 => ?_)
        · exact tail A' G e a b _ _ _ _ _ _ hs ho ha hb hG (by
            by_cases c1 : a = 0
            · exact Or.inl c1
            · by_cases c2 : b = 0
              · exact Or.inr (Or.inl c2)
              · exact Or.inr (Or.inr ⟨gas (by omega), gbs (by omega)⟩)) hg he hbb
        · refine x_aload_n hK kX10_divisor_102 (q := 103) rfl rfl ?_
          refine x_getfield hK kX10_divisor_103 (q := 106) rfl (gX10_20 ?_)
          refine x_iconst hK kX10_divisor_106 (q := 107) rfl ?_
          refine x_iaload hK kX10_divisor_107 (q := 108) rfl (aX10_A2 (by refine ⟨?_, ?_⟩ <;> omega) ?_)
          rw [ga]
          refine x_iconst hK kX10_divisor_108 (q := 109) rfl ?_
          refine x_icmp_gt hK kX10_divisor_109 (q := 112) rfl (tg := 122) rfl (by refine ⟨?_, ?_⟩ <;> omega) (fun c109 => ?_) (fun c109 => ?_)
          · refine x_aload_n hK kX10_divisor_122 (q := 123) rfl rfl ?_
            refine x_getfield hK kX10_divisor_123 (q := 126) rfl (gX10_20 ?_)
            refine x_aload_n hK kX10_divisor_126 (q := 127) rfl rfl ?_
            refine x_getfield hK kX10_divisor_127 (q := 130) rfl (gX10_23 ?_)
            refine x_cs2 hK kX10_divisor_130 (q := 133) rfl (stX10_divisor_120) (Nat.le_of_ble_eq_true rfl) ?_
            refine SX10_compareRows_i (a : Int) (b : Int) (Or.inl rfl) (Or.inr rfl) ha hb ?_
            refine x_istore hK kX10_divisor_133 (q := 135) rfl ?_
            refine x_iload hK kX10_divisor_135 (q := 137) rfl rfl ?_
            simp only [lS, lS2, clr_0, clr_I, clr_L, clr_R]
            refine x_if_lt hK kX10_divisor_137 (q := 140) rfl (tg := 177) rfl (by unfold zSgn; constructor <;> (split <;> (try split) <;> omega)) (fun c137 => ?_) (fun c137 => ?_)
            · have hlt : a < b := by
                unfold zSgn at c137
                split at c137
                · omega
                · split at c137 <;> omega
              refine x_aload_n hK kX10_divisor_177 (q := 178) rfl rfl ?_
              refine x_getfield hK kX10_divisor_178 (q := 181) rfl (gX10_23 ?_)
              refine x_aload_n hK kX10_divisor_181 (q := 182) rfl rfl ?_
              refine x_getfield hK kX10_divisor_182 (q := 185) rfl (gX10_20 ?_)
              refine x_cs2 hK kX10_divisor_185 (q := 188) rfl (stX10_divisor_124) (Nat.le_of_ble_eq_true rfl) ?_
              refine SX10_less_i (b : Int) (a : Int) (Or.inr rfl) (Or.inl rfl) (by decide) hb ha (by omega) (fun g hg2 => ?_)
              rw [show (b : Int) - (a : Int) = ((b - a : Nat) : Int) by omega] at hg2
              have ho2 := hodd (by omega) (by omega)
              refine x_aload_n hK kX10_divisor_188 (q := 189) rfl rfl ?_
              refine x_getfield hK kX10_divisor_189 (q := 192) rfl (gX10_23 ?_)
              refine x_aload_n hK kX10_divisor_192 (q := 193) rfl rfl ?_
              refine x_getfield hK kX10_divisor_193 (q := 196) rfl (gX10_23 ?_)
              refine x_cs1 hK kX10_divisor_196 (q := 199) rfl (stX10_divisor_110) (Nat.le_of_ble_eq_true rfl) ?_
              refine SX10_zeros_i ((b - a : Nat) : Int) (Or.inr rfl) (by rw [uA_g]; exact hg2) (by omega) (fun e2 he2 he2b => ?_)
              obtain ⟨c, hc1, hc2, hc3, hc4⟩ := od_nat he2
              refine x_cs2 hK kX10_divisor_199 (q := 202) rfl (stX10_divisor_117) (Nat.le_of_ble_eq_true rfl) ?_
              refine SX10_shift_i ((b - a : Nat) : Int) (Or.inr rfl) (by rw [uA_g]; exact hg2) hc4 he2b (fun g2 hg3 => ?_)
              rw [uA_u]
              rw [hc3] at hg3
              refine x_goto hK kX10_divisor_202 (tg := 84) rfl ?_
              first
                | (have hc6 : c ≤ a - b := by
                     rw [hc1]
                     exact Nat.le_mul_of_pos_left _ (Nat.two_pow_pos _)
                   refine ih _ G e c b _ _ _ _ _ _ (by omega) (sN_tr hs (sN_u (by decide) _)) (by rw [uA_n _ _ (by decide)]; exact ho) (by rw [uA_g]; exact hg3) (by rw [uA_n _ _ (by decide)]; exact hb) ?_ (fun _ _ => ⟨hc2, ho2.2⟩) (by omega) bb hg he hbb
                   rw [← gc_even (e := e2) ho2.2, ← hc1, Nat.gcd_sub_self_left hle]
                   exact hG)
                | (have hc6 : c ≤ b - a := by
                     rw [hc1]
                     exact Nat.le_mul_of_pos_left _ (Nat.two_pow_pos _)
                   refine ih _ G e a c _ _ _ _ _ _ (by omega) (sN_tr hs (sN_u (by decide) _)) (by rw [uA_n _ _ (by decide)]; exact ho) (by rw [uA_n _ _ (by decide)]; exact ha) (by rw [uA_g]; exact hg3) ?_ (fun _ _ => ⟨ho2.1, hc2⟩) ba (by omega) hg he hbb
                   rw [Nat.gcd_comm, ← gc_even (e := e2) ho2.1, ← hc1, Nat.gcd_sub_self_left (by omega), Nat.gcd_comm]
                   exact hG)
                | (have hab : a = b := by omega
                   subst hab
                   refine ih _ G e 0 a _ _ _ _ _ _ (by omega) (sN_tr hs (sN_u (by decide) _)) (by rw [uA_n _ _ (by decide)]; exact ho) (by rw [uA_g]; simpa using hg2) (by rw [uA_n _ _ (by decide)]; exact hb) ?_ (fun q => by omega) (by have := bB_pos 598; simpa using this) bb hg he hbb
                   rw [Nat.gcd_zero_left]
                   rw [Nat.gcd_self] at hG
                   exact hG)
            · have hle : b ≤ a := by
                unfold zSgn at c137
                split at c137
                · omega
                · omega
              have ho2 := hodd (by omega) (by omega)
              refine x_aload_n hK kX10_divisor_140 (q := 141) rfl rfl ?_
              refine x_getfield hK kX10_divisor_141 (q := 144) rfl (gX10_20 ?_)
              refine x_aload_n hK kX10_divisor_144 (q := 145) rfl rfl ?_
              refine x_getfield hK kX10_divisor_145 (q := 148) rfl (gX10_23 ?_)
              refine x_cs2 hK kX10_divisor_148 (q := 151) rfl (stX10_divisor_124) (Nat.le_of_ble_eq_true rfl) ?_
              refine SX10_less_i (a : Int) (b : Int) (Or.inl rfl) (Or.inr rfl) (by decide) ha hb (by omega) (fun g hg2 => ?_)
              rw [show (a : Int) - (b : Int) = ((a - b : Nat) : Int) by omega] at hg2
              obtain ⟨nd, hnd, gd, gd0, -⟩ := rw_n hg2
              refine x_aload_n hK kX10_divisor_151 (q := 152) rfl rfl ?_
              refine x_getfield hK kX10_divisor_152 (q := 155) rfl (gX10_20 ?_)
              refine x_iconst hK kX10_divisor_155 (q := 156) rfl ?_
              refine x_iaload hK kX10_divisor_156 (q := 157) rfl (aX10_A2 (by refine ⟨?_, ?_⟩ <;> omega) ?_)
              rw [uA_g, gd]
              refine x_if_le hK kX10_divisor_157 (q := 160) rfl (tg := 202) rfl (by omega) (fun c157 => ?_) (fun c157 => ?_)
              · refine x_goto hK kX10_divisor_202 (tg := 84) rfl ?_
                first
                  | (have hc6 : c ≤ a - b := by
                       rw [hc1]
                       exact Nat.le_mul_of_pos_left _ (Nat.two_pow_pos _)
                     refine ih _ G e c b _ _ _ _ _ _ (by omega) (sN_tr hs (sN_u (by decide) _)) (by rw [uA_n _ _ (by decide)]; exact ho) (by rw [uA_g]; exact hg3) (by rw [uA_n _ _ (by decide)]; exact hb) ?_ (fun _ _ => ⟨hc2, ho2.2⟩) (by omega) bb hg he hbb
                     rw [← gc_even (e := e2) ho2.2, ← hc1, Nat.gcd_sub_self_left hle]
                     exact hG)
                  | (have hc6 : c ≤ b - a := by
                       rw [hc1]
                       exact Nat.le_mul_of_pos_left _ (Nat.two_pow_pos _)
                     refine ih _ G e a c _ _ _ _ _ _ (by omega) (sN_tr hs (sN_u (by decide) _)) (by rw [uA_n _ _ (by decide)]; exact ho) (by rw [uA_n _ _ (by decide)]; exact ha) (by rw [uA_g]; exact hg3) ?_ (fun _ _ => ⟨ho2.1, hc2⟩) ba (by omega) hg he hbb
                     rw [Nat.gcd_comm, ← gc_even (e := e2) ho2.1, ← hc1, Nat.gcd_sub_self_left (by omega), Nat.gcd_comm]
                     exact hG)
                  | (have hab : a = b := by omega
                     subst hab
                     refine ih _ G e 0 a _ _ _ _ _ _ (by omega) (sN_tr hs (sN_u (by decide) _)) (by rw [uA_n _ _ (by decide)]; exact ho) (by rw [uA_g]; simpa using hg2) (by rw [uA_n _ _ (by decide)]; exact hb) ?_ (fun q => by omega) (by have := bB_pos 598; simpa using this) bb hg he hbb
                     rw [Nat.gcd_zero_left]
                     rw [Nat.gcd_self] at hG
                     exact hG)
              · refine x_aload_n hK kX10_divisor_160 (q := 161) rfl rfl ?_
                refine x_getfield hK kX10_divisor_161 (q := 164) rfl (gX10_20 ?_)
                refine x_aload_n hK kX10_divisor_164 (q := 165) rfl rfl ?_
                refine x_getfield hK kX10_divisor_165 (q := 168) rfl (gX10_20 ?_)
                refine x_cs1 hK kX10_divisor_168 (q := 171) rfl (stX10_divisor_110) (Nat.le_of_ble_eq_true rfl) ?_
                refine SX10_zeros_i ((a - b : Nat) : Int) (Or.inl rfl) (by rw [uA_g]; exact hg2) (by omega) (fun e2 he2 he2b => ?_)
                obtain ⟨c, hc1, hc2, hc3, hc4⟩ := od_nat he2
                refine x_cs2 hK kX10_divisor_171 (q := 174) rfl (stX10_divisor_117) (Nat.le_of_ble_eq_true rfl) ?_
                refine SX10_shift_i ((a - b : Nat) : Int) (Or.inl rfl) (by rw [uA_g]; exact hg2) hc4 he2b (fun g2 hg3 => ?_)
                rw [uA_u]
                rw [hc3] at hg3
                refine x_goto hK kX10_divisor_174 (tg := 202) rfl ?_
                refine x_goto hK kX10_divisor_202 (tg := 84) rfl ?_
                first
                  | (have hc6 : c ≤ a - b := by
                       rw [hc1]
                       exact Nat.le_mul_of_pos_left _ (Nat.two_pow_pos _)
                     refine ih _ G e c b _ _ _ _ _ _ (by omega) (sN_tr hs (sN_u (by decide) _)) (by rw [uA_n _ _ (by decide)]; exact ho) (by rw [uA_g]; exact hg3) (by rw [uA_n _ _ (by decide)]; exact hb) ?_ (fun _ _ => ⟨hc2, ho2.2⟩) (by omega) bb hg he hbb
                     rw [← gc_even (e := e2) ho2.2, ← hc1, Nat.gcd_sub_self_left hle]
                     exact hG)
                  | (have hc6 : c ≤ b - a := by
                       rw [hc1]
                       exact Nat.le_mul_of_pos_left _ (Nat.two_pow_pos _)
                     refine ih _ G e a c _ _ _ _ _ _ (by omega) (sN_tr hs (sN_u (by decide) _)) (by rw [uA_n _ _ (by decide)]; exact ho) (by rw [uA_n _ _ (by decide)]; exact ha) (by rw [uA_g]; exact hg3) ?_ (fun _ _ => ⟨ho2.1, hc2⟩) ba (by omega) hg he hbb
                     rw [Nat.gcd_comm, ← gc_even (e := e2) ho2.1, ← hc1, Nat.gcd_sub_self_left (by omega), Nat.gcd_comm]
                     exact hG)
                  | (have hab : a = b := by omega
                     subst hab
                     refine ih _ G e 0 a _ _ _ _ _ _ (by omega) (sN_tr hs (sN_u (by decide) _)) (by rw [uA_n _ _ (by decide)]; exact ho) (by rw [uA_g]; simpa using hg2) (by rw [uA_n _ _ (by decide)]; exact hb) ?_ (fun q => by omega) (by have := bB_pos 598; simpa using this) bb hg he hbb
                     rw [Nat.gcd_zero_left]
                     rw [Nat.gcd_self] at hG
                     exact hG)
          · refine x_aload_n hK kX10_divisor_112 (q := 113) rfl rfl ?_
            refine x_getfield hK kX10_divisor_113 (q := 116) rfl (gX10_23 ?_)
            refine x_iconst hK kX10_divisor_116 (q := 117) rfl ?_
            refine x_iaload hK kX10_divisor_117 (q := 118) rfl (aX10_A3 (by refine ⟨?_, ?_⟩ <;> omega) ?_)
            rw [gb]
            refine x_iconst hK kX10_divisor_118 (q := 119) rfl ?_
            refine x_icmp_le hK kX10_divisor_119 (q := 122) rfl (tg := 205) rfl (by refine ⟨?_, ?_⟩ <;> omega) (fun c119 => ?_) (fun c119 => ?_)
            · exact tail A' G e a b _ _ _ _ _ _ hs ho ha hb hG (by
                by_cases c1 : a = 0
                · exact Or.inl c1
                · by_cases c2 : b = 0
                  · exact Or.inr (Or.inl c2)
                  · exact Or.inr (Or.inr ⟨gas (by omega), gbs (by omega)⟩)) hg he hbb
            · refine x_aload_n hK kX10_divisor_122 (q := 123) rfl rfl ?_
              refine x_getfield hK kX10_divisor_123 (q := 126) rfl (gX10_20 ?_)
              refine x_aload_n hK kX10_divisor_126 (q := 127) rfl rfl ?_
              refine x_getfield hK kX10_divisor_127 (q := 130) rfl (gX10_23 ?_)
              refine x_cs2 hK kX10_divisor_130 (q := 133) rfl (stX10_divisor_120) (Nat.le_of_ble_eq_true rfl) ?_
              refine SX10_compareRows_i (a : Int) (b : Int) (Or.inl rfl) (Or.inr rfl) ha hb ?_
              refine x_istore hK kX10_divisor_133 (q := 135) rfl ?_
              refine x_iload hK kX10_divisor_135 (q := 137) rfl rfl ?_
              simp only [lS, lS2, clr_0, clr_I, clr_L, clr_R]
              refine x_if_lt hK kX10_divisor_137 (q := 140) rfl (tg := 177) rfl (by unfold zSgn; constructor <;> (split <;> (try split) <;> omega)) (fun c137 => ?_) (fun c137 => ?_)
              · have hlt : a < b := by
                  unfold zSgn at c137
                  split at c137
                  · omega
                  · split at c137 <;> omega
                refine x_aload_n hK kX10_divisor_177 (q := 178) rfl rfl ?_
                refine x_getfield hK kX10_divisor_178 (q := 181) rfl (gX10_23 ?_)
                refine x_aload_n hK kX10_divisor_181 (q := 182) rfl rfl ?_
                refine x_getfield hK kX10_divisor_182 (q := 185) rfl (gX10_20 ?_)
                refine x_cs2 hK kX10_divisor_185 (q := 188) rfl (stX10_divisor_124) (Nat.le_of_ble_eq_true rfl) ?_
                refine SX10_less_i (b : Int) (a : Int) (Or.inr rfl) (Or.inl rfl) (by decide) hb ha (by omega) (fun g hg2 => ?_)
                rw [show (b : Int) - (a : Int) = ((b - a : Nat) : Int) by omega] at hg2
                have ho2 := hodd (by omega) (by omega)
                refine x_aload_n hK kX10_divisor_188 (q := 189) rfl rfl ?_
                refine x_getfield hK kX10_divisor_189 (q := 192) rfl (gX10_23 ?_)
                refine x_aload_n hK kX10_divisor_192 (q := 193) rfl rfl ?_
                refine x_getfield hK kX10_divisor_193 (q := 196) rfl (gX10_23 ?_)
                refine x_cs1 hK kX10_divisor_196 (q := 199) rfl (stX10_divisor_110) (Nat.le_of_ble_eq_true rfl) ?_
                refine SX10_zeros_i ((b - a : Nat) : Int) (Or.inr rfl) (by rw [uA_g]; exact hg2) (by omega) (fun e2 he2 he2b => ?_)
                obtain ⟨c, hc1, hc2, hc3, hc4⟩ := od_nat he2
                refine x_cs2 hK kX10_divisor_199 (q := 202) rfl (stX10_divisor_117) (Nat.le_of_ble_eq_true rfl) ?_
                refine SX10_shift_i ((b - a : Nat) : Int) (Or.inr rfl) (by rw [uA_g]; exact hg2) hc4 he2b (fun g2 hg3 => ?_)
                rw [uA_u]
                rw [hc3] at hg3
                refine x_goto hK kX10_divisor_202 (tg := 84) rfl ?_
                first
                  | (have hc6 : c ≤ a - b := by
                       rw [hc1]
                       exact Nat.le_mul_of_pos_left _ (Nat.two_pow_pos _)
                     refine ih _ G e c b _ _ _ _ _ _ (by omega) (sN_tr hs (sN_u (by decide) _)) (by rw [uA_n _ _ (by decide)]; exact ho) (by rw [uA_g]; exact hg3) (by rw [uA_n _ _ (by decide)]; exact hb) ?_ (fun _ _ => ⟨hc2, ho2.2⟩) (by omega) bb hg he hbb
                     rw [← gc_even (e := e2) ho2.2, ← hc1, Nat.gcd_sub_self_left hle]
                     exact hG)
                  | (have hc6 : c ≤ b - a := by
                       rw [hc1]
                       exact Nat.le_mul_of_pos_left _ (Nat.two_pow_pos _)
                     refine ih _ G e a c _ _ _ _ _ _ (by omega) (sN_tr hs (sN_u (by decide) _)) (by rw [uA_n _ _ (by decide)]; exact ho) (by rw [uA_n _ _ (by decide)]; exact ha) (by rw [uA_g]; exact hg3) ?_ (fun _ _ => ⟨ho2.1, hc2⟩) ba (by omega) hg he hbb
                     rw [Nat.gcd_comm, ← gc_even (e := e2) ho2.1, ← hc1, Nat.gcd_sub_self_left (by omega), Nat.gcd_comm]
                     exact hG)
                  | (have hab : a = b := by omega
                     subst hab
                     refine ih _ G e 0 a _ _ _ _ _ _ (by omega) (sN_tr hs (sN_u (by decide) _)) (by rw [uA_n _ _ (by decide)]; exact ho) (by rw [uA_g]; simpa using hg2) (by rw [uA_n _ _ (by decide)]; exact hb) ?_ (fun q => by omega) (by have := bB_pos 598; simpa using this) bb hg he hbb
                     rw [Nat.gcd_zero_left]
                     rw [Nat.gcd_self] at hG
                     exact hG)
              · have hle : b ≤ a := by
                  unfold zSgn at c137
                  split at c137
                  · omega
                  · omega
                have ho2 := hodd (by omega) (by omega)
                refine x_aload_n hK kX10_divisor_140 (q := 141) rfl rfl ?_
                refine x_getfield hK kX10_divisor_141 (q := 144) rfl (gX10_20 ?_)
                refine x_aload_n hK kX10_divisor_144 (q := 145) rfl rfl ?_
                refine x_getfield hK kX10_divisor_145 (q := 148) rfl (gX10_23 ?_)
                refine x_cs2 hK kX10_divisor_148 (q := 151) rfl (stX10_divisor_124) (Nat.le_of_ble_eq_true rfl) ?_
                refine SX10_less_i (a : Int) (b : Int) (Or.inl rfl) (Or.inr rfl) (by decide) ha hb (by omega) (fun g hg2 => ?_)
                rw [show (a : Int) - (b : Int) = ((a - b : Nat) : Int) by omega] at hg2
                obtain ⟨nd, hnd, gd, gd0, -⟩ := rw_n hg2
                refine x_aload_n hK kX10_divisor_151 (q := 152) rfl rfl ?_
                refine x_getfield hK kX10_divisor_152 (q := 155) rfl (gX10_20 ?_)
                refine x_iconst hK kX10_divisor_155 (q := 156) rfl ?_
                refine x_iaload hK kX10_divisor_156 (q := 157) rfl (aX10_A2 (by refine ⟨?_, ?_⟩ <;> omega) ?_)
                rw [uA_g, gd]
                refine x_if_le hK kX10_divisor_157 (q := 160) rfl (tg := 202) rfl (by omega) (fun c157 => ?_) (fun c157 => ?_)
                · refine x_goto hK kX10_divisor_202 (tg := 84) rfl ?_
                  first
                    | (have hc6 : c ≤ a - b := by
                         rw [hc1]
                         exact Nat.le_mul_of_pos_left _ (Nat.two_pow_pos _)
                       refine ih _ G e c b _ _ _ _ _ _ (by omega) (sN_tr hs (sN_u (by decide) _)) (by rw [uA_n _ _ (by decide)]; exact ho) (by rw [uA_g]; exact hg3) (by rw [uA_n _ _ (by decide)]; exact hb) ?_ (fun _ _ => ⟨hc2, ho2.2⟩) (by omega) bb hg he hbb
                       rw [← gc_even (e := e2) ho2.2, ← hc1, Nat.gcd_sub_self_left hle]
                       exact hG)
                    | (have hc6 : c ≤ b - a := by
                         rw [hc1]
                         exact Nat.le_mul_of_pos_left _ (Nat.two_pow_pos _)
                       refine ih _ G e a c _ _ _ _ _ _ (by omega) (sN_tr hs (sN_u (by decide) _)) (by rw [uA_n _ _ (by decide)]; exact ho) (by rw [uA_n _ _ (by decide)]; exact ha) (by rw [uA_g]; exact hg3) ?_ (fun _ _ => ⟨ho2.1, hc2⟩) ba (by omega) hg he hbb
                       rw [Nat.gcd_comm, ← gc_even (e := e2) ho2.1, ← hc1, Nat.gcd_sub_self_left (by omega), Nat.gcd_comm]
                       exact hG)
                    | (have hab : a = b := by omega
                       subst hab
                       refine ih _ G e 0 a _ _ _ _ _ _ (by omega) (sN_tr hs (sN_u (by decide) _)) (by rw [uA_n _ _ (by decide)]; exact ho) (by rw [uA_g]; simpa using hg2) (by rw [uA_n _ _ (by decide)]; exact hb) ?_ (fun q => by omega) (by have := bB_pos 598; simpa using this) bb hg he hbb
                       rw [Nat.gcd_zero_left]
                       rw [Nat.gcd_self] at hG
                       exact hG)
                · refine x_aload_n hK kX10_divisor_160 (q := 161) rfl rfl ?_
                  refine x_getfield hK kX10_divisor_161 (q := 164) rfl (gX10_20 ?_)
                  refine x_aload_n hK kX10_divisor_164 (q := 165) rfl rfl ?_
                  refine x_getfield hK kX10_divisor_165 (q := 168) rfl (gX10_20 ?_)
                  refine x_cs1 hK kX10_divisor_168 (q := 171) rfl (stX10_divisor_110) (Nat.le_of_ble_eq_true rfl) ?_
                  refine SX10_zeros_i ((a - b : Nat) : Int) (Or.inl rfl) (by rw [uA_g]; exact hg2) (by omega) (fun e2 he2 he2b => ?_)
                  obtain ⟨c, hc1, hc2, hc3, hc4⟩ := od_nat he2
                  refine x_cs2 hK kX10_divisor_171 (q := 174) rfl (stX10_divisor_117) (Nat.le_of_ble_eq_true rfl) ?_
                  refine SX10_shift_i ((a - b : Nat) : Int) (Or.inl rfl) (by rw [uA_g]; exact hg2) hc4 he2b (fun g2 hg3 => ?_)
                  rw [uA_u]
                  rw [hc3] at hg3
                  refine x_goto hK kX10_divisor_174 (tg := 202) rfl ?_
                  refine x_goto hK kX10_divisor_202 (tg := 84) rfl ?_
                  first
                    | (have hc6 : c ≤ a - b := by
                         rw [hc1]
                         exact Nat.le_mul_of_pos_left _ (Nat.two_pow_pos _)
                       refine ih _ G e c b _ _ _ _ _ _ (by omega) (sN_tr hs (sN_u (by decide) _)) (by rw [uA_n _ _ (by decide)]; exact ho) (by rw [uA_g]; exact hg3) (by rw [uA_n _ _ (by decide)]; exact hb) ?_ (fun _ _ => ⟨hc2, ho2.2⟩) (by omega) bb hg he hbb
                       rw [← gc_even (e := e2) ho2.2, ← hc1, Nat.gcd_sub_self_left hle]
                       exact hG)
                    | (have hc6 : c ≤ b - a := by
                         rw [hc1]
                         exact Nat.le_mul_of_pos_left _ (Nat.two_pow_pos _)
                       refine ih _ G e a c _ _ _ _ _ _ (by omega) (sN_tr hs (sN_u (by decide) _)) (by rw [uA_n _ _ (by decide)]; exact ho) (by rw [uA_n _ _ (by decide)]; exact ha) (by rw [uA_g]; exact hg3) ?_ (fun _ _ => ⟨ho2.1, hc2⟩) ba (by omega) hg he hbb
                       rw [Nat.gcd_comm, ← gc_even (e := e2) ho2.1, ← hc1, Nat.gcd_sub_self_left (by omega), Nat.gcd_comm]
                       exact hG)
                    | (have hab : a = b := by omega
                       subst hab
                       refine ih _ G e 0 a _ _ _ _ _ _ (by omega) (sN_tr hs (sN_u (by decide) _)) (by rw [uA_n _ _ (by decide)]; exact ho) (by rw [uA_g]; simpa using hg2) (by rw [uA_n _ _ (by decide)]; exact hb) ?_ (fun q => by omega) (by have := bB_pos 598; simpa using this) bb hg he hbb
                       rw [Nat.gcd_zero_left]
                       rw [Nat.gcd_self] at hG
                       exact hG)
  -- the start
  have hgc : Int.gcd y z = Nat.gcd y.natAbs z.natAbs := rfl
  rw [zAbs_n] at by1 bz1
  have hG598 : ((Nat.gcd y.natAbs z.natAbs : Nat) : Int) < bB ^ 599 := by
    have a1 := bB_mono (show 598 ≤ 599 by decide)
    rcases Nat.eq_zero_or_pos y.natAbs with q1 | q1
    · rw [q1, Nat.gcd_zero_left]
      omega
    · have := Nat.gcd_le_left z.natAbs q1
      omega
  simp only [eLoc, eE, List.length_cons, List.length_nil, List.replicate, List.cons_append, List.nil_append, Nat.reduceAdd, Nat.reduceSub]
  refine x_aload_n hK kX10_divisor_0 (q := 1) rfl rfl ?_
  refine x_aload_n hK kX10_divisor_1 (q := 2) rfl rfl ?_
  refine x_getfield hK kX10_divisor_2 (q := 5) rfl (gX10_20 ?_)
  refine x_iload_n hK kX10_divisor_5 (q := 6) rfl rfl ?_
  refine x_cv3 hK kX10_divisor_6 (q := 9) rfl (vtX10_divisor_106) (Nat.le_of_ble_eq_true rfl) ?_
  refine SX10_lift_i y (Or.inl rfl) hq hy (fun g2 h2 => ?_)
  rw [zAbs_n] at h2
  obtain ⟨na, hna, ga, ga0, -⟩ := rw_n h2
  refine x_aload_n hK kX10_divisor_9 (q := 10) rfl rfl ?_
  refine x_aload_n hK kX10_divisor_10 (q := 11) rfl rfl ?_
  refine x_getfield hK kX10_divisor_11 (q := 14) rfl (gX10_23 ?_)
  refine x_iload_n hK kX10_divisor_14 (q := 15) rfl rfl ?_
  refine x_cv3 hK kX10_divisor_15 (q := 18) rfl (vtX10_divisor_106) (Nat.le_of_ble_eq_true rfl) ?_
  refine SX10_lift_i z (Or.inr rfl) hr (by rw [uA_n _ _ (by decide)]; exact hz) (fun g3 h3 => ?_)
  rw [zAbs_n] at h3
  obtain ⟨nb, hnb, gb, gb0, -⟩ := rw_n h3
  refine x_iconst hK kX10_divisor_18 (q := 19) rfl ?_
  refine x_istore hK kX10_divisor_19 (q := 21) rfl ?_
  refine x_aload_n hK kX10_divisor_21 (q := 22) rfl rfl ?_
  refine x_getfield hK kX10_divisor_22 (q := 25) rfl (gX10_20 ?_)
  refine x_iconst hK kX10_divisor_25 (q := 26) rfl ?_
  refine x_iaload hK kX10_divisor_26 (q := 27) rfl (aX10_A2 (by refine ⟨?_, ?_⟩ <;> omega) ?_)
  simp only [lS, lS2, clr_0, clr_I, clr_L, clr_R]
  rw [uA_n _ _ (by decide), uA_g, ga]
  refine x_if_le hK kX10_divisor_27 (q := 30) rfl (tg := 84) rfl (by omega) (fun c27 => ?_) (fun c27 => ?_)
  · first
      | (refine loop (y.natAbs + z.natAbs + 1) _ (Nat.gcd y.natAbs z.natAbs) 0 y.natAbs z.natAbs _ _ _ _ _ _ (by omega) (sN_tr (sN_u (by decide) _) (sN_u (by decide) _)) (by rw [uA_n _ _ (by decide), uA_n _ _ (by decide)]; exact oB_rf _ _) (by rw [uA_n _ _ (by decide), uA_g]; exact h2) (by rw [uA_g]; exact h3) rfl (fun q1 q2 => by omega) by1 bz1 (by rw [hgc]; simp) (by omega) (by simpa using hG598))
      | (have hb := gc_both hc1 hd1 hc2 hd2
         have hcy : c ≤ y.natAbs := by rw [hc1]; exact Nat.le_mul_of_pos_left _ (Nat.two_pow_pos _)
         have hdz : d ≤ z.natAbs := by rw [hd1]; exact Nat.le_mul_of_pos_left _ (Nat.two_pow_pos _)
         refine loop (c + d + 1) _ (Nat.gcd c d) (min s t) c d _ _ _ _ _ _ (by omega) (sN_tr (sN_tr (sN_tr (sN_u (by decide) _) (sN_u (by decide) _)) (sN_u (by decide) _)) (sN_u (by decide) _)) (by rw [uA_n _ _ (by decide), uA_n _ _ (by decide), uA_n _ _ (by decide), uA_n _ _ (by decide)]; exact oB_rf _ _) (by rw [uA_n _ _ (by decide), uA_g]; exact h4) (by rw [uA_g]; exact h5) rfl (fun _ _ => ⟨hc2, hd2⟩) (by omega) (by omega) (by rw [hgc]; exact hb) (by omega) ?_
         rw [hb] at hG598
         rw [Int.natCast_mul, zb_p2] at hG598
         exact hG598)
  · refine x_aload_n hK kX10_divisor_30 (q := 31) rfl rfl ?_
    refine x_getfield hK kX10_divisor_31 (q := 34) rfl (gX10_23 ?_)
    refine x_iconst hK kX10_divisor_34 (q := 35) rfl ?_
    refine x_iaload hK kX10_divisor_35 (q := 36) rfl (aX10_A3 (by refine ⟨?_, ?_⟩ <;> omega) ?_)
    rw [uA_g, gb]
    refine x_if_le hK kX10_divisor_36 (q := 39) rfl (tg := 84) rfl (by omega) (fun c36 => ?_) (fun c36 => ?_)
    · first
        | (refine loop (y.natAbs + z.natAbs + 1) _ (Nat.gcd y.natAbs z.natAbs) 0 y.natAbs z.natAbs _ _ _ _ _ _ (by omega) (sN_tr (sN_u (by decide) _) (sN_u (by decide) _)) (by rw [uA_n _ _ (by decide), uA_n _ _ (by decide)]; exact oB_rf _ _) (by rw [uA_n _ _ (by decide), uA_g]; exact h2) (by rw [uA_g]; exact h3) rfl (fun q1 q2 => by omega) by1 bz1 (by rw [hgc]; simp) (by omega) (by simpa using hG598))
        | (have hb := gc_both hc1 hd1 hc2 hd2
           have hcy : c ≤ y.natAbs := by rw [hc1]; exact Nat.le_mul_of_pos_left _ (Nat.two_pow_pos _)
           have hdz : d ≤ z.natAbs := by rw [hd1]; exact Nat.le_mul_of_pos_left _ (Nat.two_pow_pos _)
           refine loop (c + d + 1) _ (Nat.gcd c d) (min s t) c d _ _ _ _ _ _ (by omega) (sN_tr (sN_tr (sN_tr (sN_u (by decide) _) (sN_u (by decide) _)) (sN_u (by decide) _)) (sN_u (by decide) _)) (by rw [uA_n _ _ (by decide), uA_n _ _ (by decide), uA_n _ _ (by decide), uA_n _ _ (by decide)]; exact oB_rf _ _) (by rw [uA_n _ _ (by decide), uA_g]; exact h4) (by rw [uA_g]; exact h5) rfl (fun _ _ => ⟨hc2, hd2⟩) (by omega) (by omega) (by rw [hgc]; exact hb) (by omega) ?_
           rw [hb] at hG598
           rw [Int.natCast_mul, zb_p2] at hG598
           exact hG598)
    · refine x_aload_n hK kX10_divisor_39 (q := 40) rfl rfl ?_
      refine x_getfield hK kX10_divisor_40 (q := 43) rfl (gX10_20 ?_)
      refine x_cs1 hK kX10_divisor_43 (q := 46) rfl (stX10_divisor_110) (Nat.le_of_ble_eq_true rfl) ?_
      refine SX10_zeros_i (y.natAbs : Int) (Or.inl rfl) (by rw [uA_n _ _ (by decide), uA_g]; exact h2) (by omega) (fun s hs1 hs2 => ?_)
      obtain ⟨c, hc1, hc2, hc3, hc4⟩ := od_nat hs1
      refine x_istore hK kX10_divisor_46 (q := 48) rfl ?_
      refine x_aload_n hK kX10_divisor_48 (q := 49) rfl rfl ?_
      refine x_getfield hK kX10_divisor_49 (q := 52) rfl (gX10_23 ?_)
      simp only [lS, lS2, clr_0, clr_I, clr_L, clr_R]
      refine x_cs1 hK kX10_divisor_52 (q := 55) rfl (stX10_divisor_110) (Nat.le_of_ble_eq_true rfl) ?_
      refine SX10_zeros_i (z.natAbs : Int) (Or.inr rfl) (by rw [uA_g]; exact h3) (by omega) (fun t ht1 ht2 => ?_)
      obtain ⟨d, hd1, hd2, hd3, hd4⟩ := od_nat ht1
      refine x_istore hK kX10_divisor_55 (q := 57) rfl ?_
      refine x_iload hK kX10_divisor_57 (q := 59) rfl rfl ?_
      refine x_iload hK kX10_divisor_59 (q := 61) rfl rfl ?_
      simp only [lS, lS2, clr_0, clr_I, clr_L, clr_R]
      refine x_cs2 hK kX10_divisor_61 (q := 64) rfl (stX10_divisor_114) (Nat.le_of_ble_eq_true rfl) ?_
      refine SJ9_min_7cf53_i (by constructor <;> constructor <;> omega) ?_
      rw [show min (s : Int) (t : Int) = ((min s t : Nat) : Int) by omega]
      refine x_istore hK kX10_divisor_64 (q := 66) rfl ?_
      refine x_aload_n hK kX10_divisor_66 (q := 67) rfl rfl ?_
      refine x_getfield hK kX10_divisor_67 (q := 70) rfl (gX10_20 ?_)
      refine x_iload hK kX10_divisor_70 (q := 72) rfl rfl ?_
      simp only [lS, lS2, clr_0, clr_I, clr_L, clr_R]
      refine x_cs2 hK kX10_divisor_72 (q := 75) rfl (stX10_divisor_117) (Nat.le_of_ble_eq_true rfl) ?_
      refine SX10_shift_i (y.natAbs : Int) (Or.inl rfl) (by rw [uA_n _ _ (by decide), uA_g]; exact h2) hc4 hs2 (fun g4 h4 => ?_)
      rw [hc3] at h4
      refine x_aload_n hK kX10_divisor_75 (q := 76) rfl rfl ?_
      refine x_getfield hK kX10_divisor_76 (q := 79) rfl (gX10_23 ?_)
      refine x_iload hK kX10_divisor_79 (q := 81) rfl rfl ?_
      refine x_cs2 hK kX10_divisor_81 (q := 84) rfl (stX10_divisor_117) (Nat.le_of_ble_eq_true rfl) ?_
      refine SX10_shift_i (z.natAbs : Int) (Or.inr rfl) (by rw [uA_n _ _ (by decide), uA_g]; exact h3) hd4 ht2 (fun g5 h5 => ?_)
      rw [hd3] at h5
      first
        | (refine loop (y.natAbs + z.natAbs + 1) _ (Nat.gcd y.natAbs z.natAbs) 0 y.natAbs z.natAbs _ _ _ _ _ _ (by omega) (sN_tr (sN_u (by decide) _) (sN_u (by decide) _)) (by rw [uA_n _ _ (by decide), uA_n _ _ (by decide)]; exact oB_rf _ _) (by rw [uA_n _ _ (by decide), uA_g]; exact h2) (by rw [uA_g]; exact h3) rfl (fun q1 q2 => by omega) by1 bz1 (by rw [hgc]; simp) (by omega) (by simpa using hG598))
        | (have hb := gc_both hc1 hd1 hc2 hd2
           have hcy : c ≤ y.natAbs := by rw [hc1]; exact Nat.le_mul_of_pos_left _ (Nat.two_pow_pos _)
           have hdz : d ≤ z.natAbs := by rw [hd1]; exact Nat.le_mul_of_pos_left _ (Nat.two_pow_pos _)
           refine loop (c + d + 1) _ (Nat.gcd c d) (min s t) c d _ _ _ _ _ _ (by omega) (sN_tr (sN_tr (sN_tr (sN_u (by decide) _) (sN_u (by decide) _)) (sN_u (by decide) _)) (sN_u (by decide) _)) (by rw [uA_n _ _ (by decide), uA_n _ _ (by decide), uA_n _ _ (by decide), uA_n _ _ (by decide)]; exact oB_rf _ _) (by rw [uA_n _ _ (by decide), uA_g]; exact h4) (by rw [uA_g]; exact h5) rfl (fun _ _ => ⟨hc2, hd2⟩) (by omega) (by omega) (by rw [hgc]; exact hb) (by omega) ?_
           rw [hb] at hG598
           rw [Int.natCast_mul, zb_p2] at hG598
           exact hG598)
set_option maxRecDepth 20000 in
theorem mX10_divisor : eMet yX10_divisor cX10_divisor 11 none 3 73 SX10_divisor := eMet_of (by decide +kernel) sX10_divisor kX10_divisor_ok caX10_divisor tb_RX10
theorem wX10_divisor : eWV yX10_divisor cX10_divisor 11 none 4 9 SX10_divisor := ⟨(gW_at 1096 (by decide +kernel) rfl), (gW_at 89 (by decide +kernel) rfl), (gW_at 1095 (by decide +kernel) rfl), ⟨_, rfl, (gW_at 43 (by decide +kernel) rfl)⟩, by decide +kernel, SX10_divisor_r⟩
