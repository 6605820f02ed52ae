/-! The desk: divide on the machine. -/
/-- how it begins -/
theorem kn_i {fs fu q : Int → Int} {N L m : Nat} {Z Y : Int} (hN : N < 80) (hm : m + L = N + 1) (L1 : 1 ≤ L) {L' : Nat} (hu : wq L' fu Z) (u80 : fu 80 = N) (hZ : 0 < Z) (q80 : q 80 = m) (q81 : q 81 = 1) (hY : cB ^ (L - 1) ≤ Y) : kN fs (uI fu N 0) q N L m m Z Y := by
  obtain ⟨n, n8, h8, hr, ht, hv, hs⟩ := hu
  have : n = N := by omega
  subst this
  have u81 : fu 81 = 1 := by
    rw [hs]
    rcases zSg_c Z with g | g | g <;> omega
  have lu : lR (uI fu n 0) (n + 1) := lR_up hr ⟨by decide, by decide⟩
  have ev : vL (uI fu n 0) (n + 1) = Z := by
    rw [vL_up, hv, zAbs_nn (by omega)]
    omega
  have ur : ∀ t : Nat, t ≤ n → 0 ≤ uI fu n 0 t ∧ uI fu n 0 t < 2147483648 := fun t h => lu t (by omega)
  refine ⟨by rw [uI_n _ _ (by omega)]; exact u80, by rw [uI_n _ _ (by omega)]; exact u81, q80, q81, ur, ?_, ?_, fun t t0 t1 => by omega⟩
  · obtain ⟨l, rfl⟩ : ∃ l, L = l + 1 := ⟨L - 1, by omega⟩
    rw [show l + 1 - 1 = l by omega] at hY
    have e : vL (sf (uI fu n 0) m) (l + 1) = vL (sf (uI fu n 0) m) l + sf (uI fu n 0) m l * cB ^ l := rfl
    have e2 : sf (uI fu n 0) m l = 0 := by
      rw [sf_e, show (m : Int) + (l : Int) = (n : Int) by omega, uI_s]
    have e3 := vL_lt (sf_r (a := m) (n := l) ur (by omega))
    rw [e, e2]
    omega
  · have e := vL_split (f := uI fu n 0) m L
    rw [hm, ev] at e
    have e2 : vL (sf q m) (m - m) = 0 := by rw [Nat.sub_self]; rfl
    have e3 : vL (fun t => uI fu n 0 ((m : Int) + t)) L = vL (sf (uI fu n 0) m) L := rfl
    rw [e3] at e
    rw [e2, e, Int.mul_zero, Int.add_zero, Int.mul_comm (cB ^ m)]
theorem kn_0 {y Y top : Int} {nb s : Nat} (hn : 0 < nb) (h1 : top * cB ^ (nb - 1) ≤ y) (h2 : y < (top + 1) * cB ^ (nb - 1)) (t1 : 1073741824 ≤ top * 2 ^ s) (t2 : top * 2 ^ s < 2147483648) (hs : s ≤ 30) (hY : Y = y * 2 ^ s) : 1073741824 * cB ^ (nb - 1) ≤ Y ∧ Y < cB ^ nb := by
  have p := p2_pos s
  have c := cB_pos (nb - 1)
  obtain ⟨k, rfl⟩ : ∃ k, nb = k + 1 := ⟨nb - 1, by omega⟩
  rw [show k + 1 - 1 = k by omega] at *
  rw [cB_succ, hY]
  have a1 := Int.mul_le_mul_of_nonneg_right h1 (show (0 : Int) ≤ 2 ^ s by omega)
  have a2 := Int.mul_lt_mul_of_pos_right h2 p
  have a3 := Int.mul_le_mul_of_nonneg_right t1 (Int.le_of_lt c)
  have e1 : top * cB ^ k * 2 ^ s = top * 2 ^ s * cB ^ k := by grind
  have e2 : (top + 1) * cB ^ k * 2 ^ s = (top * 2 ^ s + 2 ^ s) * cB ^ k := by grind
  have d : top * 2 ^ s + 2 ^ s ≤ 2147483648 := by
    obtain ⟨r, hr⟩ : ∃ r, (2147483648 : Int) = r * 2 ^ s := ⟨2 ^ (31 - s), by
      rw [← Int.pow_add, show 31 - s + s = 31 by omega]
      decide⟩
    rw [hr] at t2 ⊢
    have : top < r := Int.lt_of_mul_lt_mul_right t2 (by omega)
    have := Int.mul_le_mul_of_nonneg_right (show top + 1 ≤ r by omega) (show (0 : Int) ≤ 2 ^ s by omega)
    rw [Int.add_mul, Int.one_mul] at this
    exact this
  have a4 := Int.mul_le_mul_of_nonneg_right d (Int.le_of_lt c)
  refine ⟨by omega, ?_⟩
  show y * 2 ^ s < cB ^ k * 2147483648
  rw [e2] at a2
  omega
theorem wq_tp {f : Int → Int} {z : Int} {n : Nat} (hr : lR f n) (hz : vL f n = zAbs z) (hn : 0 < n) : f ((n : Int) - 1) * cB ^ (n - 1) ≤ zAbs z ∧ zAbs z < (f ((n : Int) - 1) + 1) * cB ^ (n - 1) := by
  obtain ⟨k, rfl⟩ : ∃ k, n = k + 1 := ⟨n - 1, by omega⟩
  have e : vL f (k + 1) = vL f k + f k * cB ^ k := rfl
  have h0 := vL_nn (hr.sub (Nat.le_succ k))
  have h1 := vL_lt (hr.sub (Nat.le_succ k))
  rw [show ((k + 1 : Nat) : Int) - 1 = k by omega, show k + 1 - 1 = k by omega, Int.add_mul, Int.one_mul]
  omega
theorem kn_f {Z Y z y R Q p : Int} (hp : 0 < p) (hZ : Z = z * p) (hY : Y = y * p) (hy : 0 < y) (h : Z = R + Y * Q) (h0 : 0 ≤ R) (h1 : R < Y) : z / y = Q ∧ R / p = z % y := by
  have e1 : z * p / (y * p) = z / y := Int.mul_ediv_mul_of_pos_left z y hp
  have e2 : z * p / (y * p) = Q := by
    rw [← hZ, ← hY, h, Int.add_mul_ediv_left _ _ (by omega), Int.ediv_eq_zero_of_lt h0 h1]
    omega
  have e3 : z / y = Q := by omega
  refine ⟨e3, ?_⟩
  have e4 := Int.emod_add_mul_ediv z y
  rw [e3] at e4
  have e5 : R = z % y * p := by
    have : R = z * p - y * p * Q := by rw [← hZ, ← hY]; omega
    rw [this]
    have : z = z % y + y * Q := e4.symm
    generalize z % y = M at *
    subst this
    grind
  rw [e5]
  exact Int.mul_ediv_cancel _ (by omega)
def SX1_divide : eSp := fun as M rt => ∃ (F : Nat → Int) (A W : Nat → Int → Int) (j b c : Nat) (z y : Int), as = [eR (1, 2), eR (2, j), eR (2, b), eR (2, c)] ∧ M = cC F A W ∧ (j < 332) ∧ (b < 332) ∧ (c < 332) ∧ (j ≠ 2) ∧ (b ≠ 2) ∧ (c ≠ 2) ∧ (c ≠ j) ∧ (c ≠ b) ∧ (b ≠ j) ∧ (wq (lw j) (W j) z) ∧ (wq (lw b) (W b) y) ∧ (0 ≤ z) ∧ (0 < y) ∧ (z < cB ^ 62) ∧ (lw j = 64) ∧ (z < cB ^ lw c) ∧ (∃ v, wq (lw 2) (W 2) v) ∧ (∀ W' : Nat → Int → Int, (∀ t, t ≠ 2 → t ≠ j → t ≠ c → W' t = W t) → wq (lw c) (W' c) (z / y) → wq (lw j) (W' j) (z % y) → (∃ v, wq (lw 2) (W' 2) v) → rt none (cC F A W'))
theorem SX1_divide_i {F : Nat → Int} {A W : Nat → Int → Int} {j b c : Nat} {z y : Int} {rt : Option eV → eM → Prop} (hj : j < 332) (hb : b < 332) (hc : c < 332) (j2 : j ≠ 2) (b2 : b ≠ 2) (c2 : c ≠ 2) (cj : c ≠ j) (cb : c ≠ b) (bj : b ≠ j) (hz : wq (lw j) (W j) z) (hy : wq (lw b) (W b) y) (z0 : 0 ≤ z) (y0 : 0 < y) (hlt : z < cB ^ 62) (hj64 : lw j = 64) (hzc : z < cB ^ lw c) (hv : ∃ v, wq (lw 2) (W 2) v) (h : ∀ W' : Nat → Int → Int, (∀ t, t ≠ 2 → t ≠ j → t ≠ c → W' t = W t) → wq (lw c) (W' c) (z / y) → wq (lw j) (W' j) (z % y) → (∃ v, wq (lw 2) (W' 2) v) → rt none (cC F A W')) : SX1_divide [eR (1, 2), eR (2, j), eR (2, b), eR (2, c)] (cC F A W) rt := ⟨F, A, W, j, b, c, z, y, rfl, rfl, hj, hb, hc, j2, b2, c2, cj, cb, bj, hz, hy, z0, y0, hlt, hj64, hzc, hv, h⟩
theorem SX1_divide_r : ∀ as M rt, SX1_divide as M rt → ∃ a r fs, as = eR a :: r ∧ M a = some (.inl (1, fs)) := by
  rintro as M rt ⟨F, A, W, j, b, c, z, y, rfl, rfl, -⟩
  exact ⟨_, _, _, rfl, rfl⟩
def kX1_divide : List (Nat × Jvm.ClassFile.Instr × Nat) := [(0, .aload_n 3, 1), (1, .lconst 0, 1), (2, .invokevirtual 59, 3), (5, .aload_n 2, 1), (6, .invokevirtual 47, 3), (9, .ifCond .ne 11, 3), (12, .aload_n 1, 1), (13, .aload_n 2, 1), (14, .invokevirtual 63, 3), (17, .ifCond .ge 4, 3), (20, .return_, 1), (21, .aload_n 3, 1), (22, .iconst 1, 1), (23, .putfield 67, 3), (26, .aload_n 2, 1), (27, .getfield 71, 3), (30, .iconst 1, 1), (31, .if_icmp .ne 40, 3), (34, .aload_n 2, 1), (35, .getfield 74, 3), (38, .arraylength, 1), (39, .ifCond .le 32, 3), (42, .aload_n 3, 1), (43, .aload_n 1, 1), (44, .getfield 71, 3), (47, .putfield 71, 3), (50, .aload_n 1, 1), (51, .aload_n 0, 1), (52, .aload_n 1, 1), (53, .aload_n 2, 1), (54, .getfield 74, 3), (57, .iconst 0, 1), (58, .iaload, 1), (59, .aload_n 3, 1), (60, .invokevirtual 78, 3), (63, .invokevirtual 59, 3), (66, .aload_n 3, 1), (67, .invokevirtual 82, 3), (70, .return_, 1), (71, .aload_n 2, 1), (72, .invokevirtual 85, 3), (75, .istore 4, 2), (77, .aload_n 0, 1), (78, .getfield 23, 3), (81, .aload_n 2, 1), (82, .invokevirtual 89, 3), (85, .aload_n 0, 1), (86, .getfield 23, 3), (89, .iload 4, 2), (91, .invokevirtual 93, 3), (94, .aload_n 1, 1), (95, .iload 4, 2), (97, .invokevirtual 93, 3), (100, .aload_n 3, 1), (101, .aload_n 1, 1), (102, .getfield 71, 3), (105, .aload_n 0, 1), (106, .getfield 23, 3), (109, .getfield 71, 3), (112, .isub, 1), (113, .iconst 1, 1), (114, .iadd, 1), (115, .putfield 71, 3), (118, .aload_n 1, 1), (119, .getfield 71, 3), (122, .aload_n 1, 1), (123, .getfield 74, 3), (126, .arraylength, 1), (127, .if_icmp .ge 13, 3), (130, .aload_n 1, 1), (131, .getfield 74, 3), (134, .aload_n 1, 1), (135, .getfield 71, 3), (138, .iconst 0, 1), (139, .iastore, 1), (140, .aload_n 3, 1), (141, .getfield 71, 3), (144, .iconst 1, 1), (145, .isub, 1), (146, .istore 5, 2), (148, .iload 5, 2), (150, .ifCond .lt 65, 3), (153, .iload 5, 2), (155, .aload_n 3, 1), (156, .getfield 74, 3), (159, .arraylength, 1), (160, .if_icmp .ge 55, 3), (163, .aload_n 0, 1), (164, .aload_n 1, 1), (165, .iload 5, 2), (167, .invokevirtual 96, 3), (170, .lstore 6, 2), (172, .aload_n 0, 1), (173, .aload_n 1, 1), (174, .iload 5, 2), (176, .lload 6, 2), (178, .invokevirtual 100, 3), (181, .lconst 0, 1), (182, .lcmp, 1), (183, .ifCond .ge 16, 3), (186, .lload 6, 2), (188, .lconst 1, 1), (189, .lsub, 1), (190, .lstore 6, 2), (192, .aload_n 0, 1), (193, .aload_n 1, 1), (194, .iload 5, 2), (196, .invokevirtual 104, 3), (199, .aload_n 3, 1), (200, .getfield 74, 3), (203, .iload 5, 2), (205, .lload 6, 2), (207, .l2i, 1), (208, .iastore, 1), (209, .iinc 5 (-1), 3), (212, .goto (-64), 3), (215, .aload_n 3, 1), (216, .invokevirtual 82, 3), (219, .aload_n 1, 1), (220, .aload_n 0, 1), (221, .getfield 23, 3), (224, .getfield 71, 3), (227, .putfield 71, 3), (230, .aload_n 1, 1), (231, .iload 4, 2), (233, .invokevirtual 107, 3), (236, .aload_n 1, 1), (237, .invokevirtual 82, 3), (240, .return_, 1)]
theorem kX1_divide_0 : cdOf kX1_divide 0 = some (.aload_n 3, 1) := by decide +kernel
theorem kX1_divide_1 : cdOf kX1_divide 1 = some (.lconst 0, 1) := by decide +kernel
theorem kX1_divide_2 : cdOf kX1_divide 2 = some (.invokevirtual 59, 3) := by decide +kernel
theorem kX1_divide_5 : cdOf kX1_divide 5 = some (.aload_n 2, 1) := by decide +kernel
theorem kX1_divide_6 : cdOf kX1_divide 6 = some (.invokevirtual 47, 3) := by decide +kernel
theorem kX1_divide_9 : cdOf kX1_divide 9 = some (.ifCond .ne 11, 3) := by decide +kernel
theorem kX1_divide_12 : cdOf kX1_divide 12 = some (.aload_n 1, 1) := by decide +kernel
theorem kX1_divide_13 : cdOf kX1_divide 13 = some (.aload_n 2, 1) := by decide +kernel
theorem kX1_divide_14 : cdOf kX1_divide 14 = some (.invokevirtual 63, 3) := by decide +kernel
theorem kX1_divide_17 : cdOf kX1_divide 17 = some (.ifCond .ge 4, 3) := by decide +kernel
theorem kX1_divide_20 : cdOf kX1_divide 20 = some (.return_, 1) := by decide +kernel
theorem kX1_divide_21 : cdOf kX1_divide 21 = some (.aload_n 3, 1) := by decide +kernel
theorem kX1_divide_22 : cdOf kX1_divide 22 = some (.iconst 1, 1) := by decide +kernel
theorem kX1_divide_23 : cdOf kX1_divide 23 = some (.putfield 67, 3) := by decide +kernel
theorem kX1_divide_26 : cdOf kX1_divide 26 = some (.aload_n 2, 1) := by decide +kernel
theorem kX1_divide_27 : cdOf kX1_divide 27 = some (.getfield 71, 3) := by decide +kernel
theorem kX1_divide_30 : cdOf kX1_divide 30 = some (.iconst 1, 1) := by decide +kernel
theorem kX1_divide_31 : cdOf kX1_divide 31 = some (.if_icmp .ne 40, 3) := by decide +kernel
theorem kX1_divide_34 : cdOf kX1_divide 34 = some (.aload_n 2, 1) := by decide +kernel
theorem kX1_divide_35 : cdOf kX1_divide 35 = some (.getfield 74, 3) := by decide +kernel
theorem kX1_divide_38 : cdOf kX1_divide 38 = some (.arraylength, 1) := by decide +kernel
theorem kX1_divide_39 : cdOf kX1_divide 39 = some (.ifCond .le 32, 3) := by decide +kernel
theorem kX1_divide_42 : cdOf kX1_divide 42 = some (.aload_n 3, 1) := by decide +kernel
theorem kX1_divide_43 : cdOf kX1_divide 43 = some (.aload_n 1, 1) := by decide +kernel
theorem kX1_divide_44 : cdOf kX1_divide 44 = some (.getfield 71, 3) := by decide +kernel
theorem kX1_divide_47 : cdOf kX1_divide 47 = some (.putfield 71, 3) := by decide +kernel
theorem kX1_divide_50 : cdOf kX1_divide 50 = some (.aload_n 1, 1) := by decide +kernel
theorem kX1_divide_51 : cdOf kX1_divide 51 = some (.aload_n 0, 1) := by decide +kernel
theorem kX1_divide_52 : cdOf kX1_divide 52 = some (.aload_n 1, 1) := by decide +kernel
theorem kX1_divide_53 : cdOf kX1_divide 53 = some (.aload_n 2, 1) := by decide +kernel
theorem kX1_divide_54 : cdOf kX1_divide 54 = some (.getfield 74, 3) := by decide +kernel
theorem kX1_divide_57 : cdOf kX1_divide 57 = some (.iconst 0, 1) := by decide +kernel
theorem kX1_divide_58 : cdOf kX1_divide 58 = some (.iaload, 1) := by decide +kernel
theorem kX1_divide_59 : cdOf kX1_divide 59 = some (.aload_n 3, 1) := by decide +kernel
theorem kX1_divide_60 : cdOf kX1_divide 60 = some (.invokevirtual 78, 3) := by decide +kernel
theorem kX1_divide_63 : cdOf kX1_divide 63 = some (.invokevirtual 59, 3) := by decide +kernel
theorem kX1_divide_66 : cdOf kX1_divide 66 = some (.aload_n 3, 1) := by decide +kernel
theorem kX1_divide_67 : cdOf kX1_divide 67 = some (.invokevirtual 82, 3) := by decide +kernel
theorem kX1_divide_70 : cdOf kX1_divide 70 = some (.return_, 1) := by decide +kernel
theorem kX1_divide_71 : cdOf kX1_divide 71 = some (.aload_n 2, 1) := by decide +kernel
theorem kX1_divide_72 : cdOf kX1_divide 72 = some (.invokevirtual 85, 3) := by decide +kernel
theorem kX1_divide_75 : cdOf kX1_divide 75 = some (.istore 4, 2) := by decide +kernel
theorem kX1_divide_77 : cdOf kX1_divide 77 = some (.aload_n 0, 1) := by decide +kernel
theorem kX1_divide_78 : cdOf kX1_divide 78 = some (.getfield 23, 3) := by decide +kernel
theorem kX1_divide_81 : cdOf kX1_divide 81 = some (.aload_n 2, 1) := by decide +kernel
theorem kX1_divide_82 : cdOf kX1_divide 82 = some (.invokevirtual 89, 3) := by decide +kernel
theorem kX1_divide_85 : cdOf kX1_divide 85 = some (.aload_n 0, 1) := by decide +kernel
theorem kX1_divide_86 : cdOf kX1_divide 86 = some (.getfield 23, 3) := by decide +kernel
theorem kX1_divide_89 : cdOf kX1_divide 89 = some (.iload 4, 2) := by decide +kernel
theorem kX1_divide_91 : cdOf kX1_divide 91 = some (.invokevirtual 93, 3) := by decide +kernel
theorem kX1_divide_94 : cdOf kX1_divide 94 = some (.aload_n 1, 1) := by decide +kernel
theorem kX1_divide_95 : cdOf kX1_divide 95 = some (.iload 4, 2) := by decide +kernel
theorem kX1_divide_97 : cdOf kX1_divide 97 = some (.invokevirtual 93, 3) := by decide +kernel
theorem kX1_divide_100 : cdOf kX1_divide 100 = some (.aload_n 3, 1) := by decide +kernel
theorem kX1_divide_101 : cdOf kX1_divide 101 = some (.aload_n 1, 1) := by decide +kernel
theorem kX1_divide_102 : cdOf kX1_divide 102 = some (.getfield 71, 3) := by decide +kernel
theorem kX1_divide_105 : cdOf kX1_divide 105 = some (.aload_n 0, 1) := by decide +kernel
theorem kX1_divide_106 : cdOf kX1_divide 106 = some (.getfield 23, 3) := by decide +kernel
theorem kX1_divide_109 : cdOf kX1_divide 109 = some (.getfield 71, 3) := by decide +kernel
theorem kX1_divide_112 : cdOf kX1_divide 112 = some (.isub, 1) := by decide +kernel
theorem kX1_divide_113 : cdOf kX1_divide 113 = some (.iconst 1, 1) := by decide +kernel
theorem kX1_divide_114 : cdOf kX1_divide 114 = some (.iadd, 1) := by decide +kernel
theorem kX1_divide_115 : cdOf kX1_divide 115 = some (.putfield 71, 3) := by decide +kernel
theorem kX1_divide_118 : cdOf kX1_divide 118 = some (.aload_n 1, 1) := by decide +kernel
theorem kX1_divide_119 : cdOf kX1_divide 119 = some (.getfield 71, 3) := by decide +kernel
theorem kX1_divide_122 : cdOf kX1_divide 122 = some (.aload_n 1, 1) := by decide +kernel
theorem kX1_divide_123 : cdOf kX1_divide 123 = some (.getfield 74, 3) := by decide +kernel
theorem kX1_divide_126 : cdOf kX1_divide 126 = some (.arraylength, 1) := by decide +kernel
theorem kX1_divide_127 : cdOf kX1_divide 127 = some (.if_icmp .ge 13, 3) := by decide +kernel
theorem kX1_divide_130 : cdOf kX1_divide 130 = some (.aload_n 1, 1) := by decide +kernel
theorem kX1_divide_131 : cdOf kX1_divide 131 = some (.getfield 74, 3) := by decide +kernel
theorem kX1_divide_134 : cdOf kX1_divide 134 = some (.aload_n 1, 1) := by decide +kernel
theorem kX1_divide_135 : cdOf kX1_divide 135 = some (.getfield 71, 3) := by decide +kernel
theorem kX1_divide_138 : cdOf kX1_divide 138 = some (.iconst 0, 1) := by decide +kernel
theorem kX1_divide_139 : cdOf kX1_divide 139 = some (.iastore, 1) := by decide +kernel
theorem kX1_divide_140 : cdOf kX1_divide 140 = some (.aload_n 3, 1) := by decide +kernel
theorem kX1_divide_141 : cdOf kX1_divide 141 = some (.getfield 71, 3) := by decide +kernel
theorem kX1_divide_144 : cdOf kX1_divide 144 = some (.iconst 1, 1) := by decide +kernel
theorem kX1_divide_145 : cdOf kX1_divide 145 = some (.isub, 1) := by decide +kernel
theorem kX1_divide_146 : cdOf kX1_divide 146 = some (.istore 5, 2) := by decide +kernel
theorem kX1_divide_148 : cdOf kX1_divide 148 = some (.iload 5, 2) := by decide +kernel
theorem kX1_divide_150 : cdOf kX1_divide 150 = some (.ifCond .lt 65, 3) := by decide +kernel
theorem kX1_divide_153 : cdOf kX1_divide 153 = some (.iload 5, 2) := by decide +kernel
theorem kX1_divide_155 : cdOf kX1_divide 155 = some (.aload_n 3, 1) := by decide +kernel
theorem kX1_divide_156 : cdOf kX1_divide 156 = some (.getfield 74, 3) := by decide +kernel
theorem kX1_divide_159 : cdOf kX1_divide 159 = some (.arraylength, 1) := by decide +kernel
theorem kX1_divide_160 : cdOf kX1_divide 160 = some (.if_icmp .ge 55, 3) := by decide +kernel
theorem kX1_divide_163 : cdOf kX1_divide 163 = some (.aload_n 0, 1) := by decide +kernel
theorem kX1_divide_164 : cdOf kX1_divide 164 = some (.aload_n 1, 1) := by decide +kernel
theorem kX1_divide_165 : cdOf kX1_divide 165 = some (.iload 5, 2) := by decide +kernel
theorem kX1_divide_167 : cdOf kX1_divide 167 = some (.invokevirtual 96, 3) := by decide +kernel
theorem kX1_divide_170 : cdOf kX1_divide 170 = some (.lstore 6, 2) := by decide +kernel
theorem kX1_divide_172 : cdOf kX1_divide 172 = some (.aload_n 0, 1) := by decide +kernel
theorem kX1_divide_173 : cdOf kX1_divide 173 = some (.aload_n 1, 1) := by decide +kernel
theorem kX1_divide_174 : cdOf kX1_divide 174 = some (.iload 5, 2) := by decide +kernel
theorem kX1_divide_176 : cdOf kX1_divide 176 = some (.lload 6, 2) := by decide +kernel
theorem kX1_divide_178 : cdOf kX1_divide 178 = some (.invokevirtual 100, 3) := by decide +kernel
theorem kX1_divide_181 : cdOf kX1_divide 181 = some (.lconst 0, 1) := by decide +kernel
theorem kX1_divide_182 : cdOf kX1_divide 182 = some (.lcmp, 1) := by decide +kernel
theorem kX1_divide_183 : cdOf kX1_divide 183 = some (.ifCond .ge 16, 3) := by decide +kernel
theorem kX1_divide_186 : cdOf kX1_divide 186 = some (.lload 6, 2) := by decide +kernel
theorem kX1_divide_188 : cdOf kX1_divide 188 = some (.lconst 1, 1) := by decide +kernel
theorem kX1_divide_189 : cdOf kX1_divide 189 = some (.lsub, 1) := by decide +kernel
theorem kX1_divide_190 : cdOf kX1_divide 190 = some (.lstore 6, 2) := by decide +kernel
theorem kX1_divide_192 : cdOf kX1_divide 192 = some (.aload_n 0, 1) := by decide +kernel
theorem kX1_divide_193 : cdOf kX1_divide 193 = some (.aload_n 1, 1) := by decide +kernel
theorem kX1_divide_194 : cdOf kX1_divide 194 = some (.iload 5, 2) := by decide +kernel
theorem kX1_divide_196 : cdOf kX1_divide 196 = some (.invokevirtual 104, 3) := by decide +kernel
theorem kX1_divide_199 : cdOf kX1_divide 199 = some (.aload_n 3, 1) := by decide +kernel
theorem kX1_divide_200 : cdOf kX1_divide 200 = some (.getfield 74, 3) := by decide +kernel
theorem kX1_divide_203 : cdOf kX1_divide 203 = some (.iload 5, 2) := by decide +kernel
theorem kX1_divide_205 : cdOf kX1_divide 205 = some (.lload 6, 2) := by decide +kernel
theorem kX1_divide_207 : cdOf kX1_divide 207 = some (.l2i, 1) := by decide +kernel
theorem kX1_divide_208 : cdOf kX1_divide 208 = some (.iastore, 1) := by decide +kernel
theorem kX1_divide_209 : cdOf kX1_divide 209 = some (.iinc 5 (-1), 3) := by decide +kernel
theorem kX1_divide_212 : cdOf kX1_divide 212 = some (.goto (-64), 3) := by decide +kernel
theorem kX1_divide_215 : cdOf kX1_divide 215 = some (.aload_n 3, 1) := by decide +kernel
theorem kX1_divide_216 : cdOf kX1_divide 216 = some (.invokevirtual 82, 3) := by decide +kernel
theorem kX1_divide_219 : cdOf kX1_divide 219 = some (.aload_n 1, 1) := by decide +kernel
theorem kX1_divide_220 : cdOf kX1_divide 220 = some (.aload_n 0, 1) := by decide +kernel
theorem kX1_divide_221 : cdOf kX1_divide 221 = some (.getfield 23, 3) := by decide +kernel
theorem kX1_divide_224 : cdOf kX1_divide 224 = some (.getfield 71, 3) := by decide +kernel
theorem kX1_divide_227 : cdOf kX1_divide 227 = some (.putfield 71, 3) := by decide +kernel
theorem kX1_divide_230 : cdOf kX1_divide 230 = some (.aload_n 1, 1) := by decide +kernel
theorem kX1_divide_231 : cdOf kX1_divide 231 = some (.iload 4, 2) := by decide +kernel
theorem kX1_divide_233 : cdOf kX1_divide 233 = some (.invokevirtual 107, 3) := by decide +kernel
theorem kX1_divide_236 : cdOf kX1_divide 236 = some (.aload_n 1, 1) := by decide +kernel
theorem kX1_divide_237 : cdOf kX1_divide 237 = some (.invokevirtual 82, 3) := by decide +kernel
theorem kX1_divide_240 : cdOf kX1_divide 240 = some (.return_, 1) := by decide +kernel
set_option maxRecDepth 20000 in
theorem kX1_divide_ok : ∀ pc i len, cdOf kX1_divide pc = some (i, len) → decode cX1_divide pc = .ok (i, len) ∧ stOK 8 i = true ∧ jOK pc i = true ∧ eLen i len = true := cdOf_ok cX1_divide 8 kX1_divide (by decide +kernel)
def vtX1_divide : Nat → Option (Nat × eSp) := fun k => match k with
  | 59 => some (2, SX8_set)
  | 47 => some (1, SX8_isZero)
  | 63 => some (2, SX8_compareSize)
  | 78 => some (4, SX1_divideShort)
  | 82 => some (1, SX8_trim)
  | 85 => some (1, SX8_slack)
  | 89 => some (2, SX8_copy)
  | 93 => some (2, SX8_shiftUp)
  | 96 => some (3, SX1_guess)
  | 100 => some (4, SX1_lessen)
  | 104 => some (3, SX1_restore)
  | 107 => some (2, SX8_shiftDown)
  | _ => none
theorem vtX1_divide_59 : vtX1_divide 59 = some (2, SX8_set) := rfl
theorem vtX1_divide_47 : vtX1_divide 47 = some (1, SX8_isZero) := rfl
theorem vtX1_divide_63 : vtX1_divide 63 = some (2, SX8_compareSize) := rfl
theorem vtX1_divide_78 : vtX1_divide 78 = some (4, SX1_divideShort) := rfl
theorem vtX1_divide_82 : vtX1_divide 82 = some (1, SX8_trim) := rfl
theorem vtX1_divide_85 : vtX1_divide 85 = some (1, SX8_slack) := rfl
theorem vtX1_divide_89 : vtX1_divide 89 = some (2, SX8_copy) := rfl
theorem vtX1_divide_93 : vtX1_divide 93 = some (2, SX8_shiftUp) := rfl
theorem vtX1_divide_96 : vtX1_divide 96 = some (3, SX1_guess) := rfl
theorem vtX1_divide_100 : vtX1_divide 100 = some (4, SX1_lessen) := rfl
theorem vtX1_divide_104 : vtX1_divide 104 = some (3, SX1_restore) := rfl
theorem vtX1_divide_107 : vtX1_divide 107 = some (2, SX8_shiftDown) := rfl
def stX1_divide : Nat → Option (Nat × eSp) := fun _ => none
abbrev TX1_divide : eT := (fl_RX1, cl_RX1, dl_RX1, vtX1_divide, stX1_divide)
set_option maxRecDepth 20000 in
theorem caX1_divide : eCalls RX1 { frames := 1, cells := 0, slots := 0, locals := 37 } TX1_divide := by
  refine ⟨fun k n sp h => ?_, fun k n sp h => ?_⟩
  · dsimp only [TX1_divide] at h
    unfold vtX1_divide at h
    split at h
    · cases h; exact eV_mk mX8_set wX8_set (by decide +kernel) (Or.inl (gW_at 465 (by decide +kernel) rfl))
    · cases h; exact eV_mk mX8_isZero wX8_isZero (by decide +kernel) (Or.inl (gW_at 456 (by decide +kernel) rfl))
    · cases h; exact eV_mk mX8_compareSize wX8_compareSize (by decide +kernel) (Or.inl (gW_at 470 (by decide +kernel) rfl))
    · cases h; exact eV_mk mX1_divideShort wX1_divideShort (by decide +kernel) (Or.inl (gW_at 474 (by decide +kernel) rfl))
    · cases h; exact eV_mk mX8_trim wX8_trim (by decide +kernel) (Or.inl (gW_at 478 (by decide +kernel) rfl))
    · cases h; exact eV_mk mX8_slack wX8_slack (by decide +kernel) (Or.inl (gW_at 482 (by decide +kernel) rfl))
    · cases h; exact eV_mk mX8_copy wX8_copy (by decide +kernel) (Or.inl (gW_at 443 (by decide +kernel) rfl))
    · cases h; exact eV_mk mX8_shiftUp wX8_shiftUp (by decide +kernel) (Or.inl (gW_at 487 (by decide +kernel) rfl))
    · cases h; exact eV_mk mX1_guess wX1_guess (by decide +kernel) (Or.inl (gW_at 492 (by decide +kernel) rfl))
    · cases h; exact eV_mk mX1_lessen wX1_lessen (by decide +kernel) (Or.inl (gW_at 497 (by decide +kernel) rfl))
    · cases h; exact eV_mk mX1_restore wX1_restore (by decide +kernel) (Or.inl (gW_at 502 (by decide +kernel) rfl))
    · cases h; exact eV_mk mX8_shiftDown wX8_shiftDown (by decide +kernel) (Or.inl (gW_at 506 (by decide +kernel) rfl))
    · cases h
  · cases h
set_option maxRecDepth 100000 in
set_option maxHeartbeats 4000000 in
theorem sX1_divide : eSafe TX1_divide (cdOf kX1_divide) 8 none SX1_divide := by
  intro K rt hK as M h
  obtain ⟨F, A, W, j, b, c, z, y, rfl, rfl, hj, hb, hc, j2, b2, c2, cj, cb, bj, hz, hy, z0, y0, hlt, hj64, hzc, hv, h⟩ := h
  refine ⟨by simp [eE], ?_⟩
  have az : zAbs z = z := zAbs_nn z0
  have ay : zAbs y = y := zAbs_nn (by omega)
  have hz' := hz
  have hy' := hy
  obtain ⟨nz, nz8, z80, zr, zt, ze, zs⟩ := hz'
  obtain ⟨nb, nb8, b80, br, bt, be, bs'⟩ := hy'
  have wz := wq_n zr zt ze
  have wb := wq_n br bt be
  have nb0 : 0 < nb := by
    rcases Nat.eq_zero_or_pos nb with q | q
    · have := wb.1.mpr q
      omega
    · exact q
  have tb : ∀ f, uA W c f b = W b := fun f => uA_n _ _ (fun q => cb q.symm)
  have tj : ∀ f, uA W c f j = W j := fun f => uA_n _ _ (fun q => cj q.symm)
  have t2 : ∀ f, uA W c f 2 = W 2 := fun f => uA_n _ _ (fun q => c2 q.symm)
  have tc : ∀ f, uA W c f c = f := fun f => uA_g _ _ _
  have zq : zZ y = 0 := zZ_0.mpr (by omega)
  have lb := lw_b b
  have lc := lw_b c
  have l2 := lw_d (k := 2) (by decide)
  have nzc : nz ≤ lw c := nl_le wz.2.2 (by omega)
  -- a divisor of one limb
  have one : ∀ f0, wq (lw c) f0 0 → nb = 1 → K 42 [some (eR (1, 2)), some (eR (2, j)), some (eR (2, b)), some (eR (2, c)), none, none, none, none] [] (cC F A (uA W c (uI f0 81 1))) := by
    intro f0 hf0 hnb
    subst hnb
    have e3 : y = W b 0 := by
      have : vL (W b) 1 = 0 + W b 0 * cB ^ 0 := rfl
      rw [Int.pow_zero] at this
      omega
    have r0 : 0 ≤ W b 0 ∧ W b 0 < 2147483648 := br 0 (by decide)
    have q0 := Int.ediv_nonneg z0 (show 0 ≤ y by omega)
    have m0 := Int.emod_nonneg z (show y ≠ 0 by omega)
    have m1 := Int.emod_lt_of_pos z y0
    refine x_aload_n hK kX1_divide_42 (q := 43) rfl rfl ?_
    refine x_aload_n hK kX1_divide_43 (q := 44) rfl rfl ?_
    refine x_getfield hK kX1_divide_44 (q := 47) rfl (gX1_71 ?_)
    rw [tj, z80]
    refine x_putfield hK kX1_divide_47 (q := 50) rfl (pX1_71 ?_)
    rw [tc, uA_u]
    refine x_aload_n hK kX1_divide_50 (q := 51) rfl rfl ?_
    refine x_aload_n hK kX1_divide_51 (q := 52) rfl rfl ?_
    refine x_aload_n hK kX1_divide_52 (q := 53) rfl rfl ?_
    refine x_aload_n hK kX1_divide_53 (q := 54) rfl rfl ?_
    refine x_getfield hK kX1_divide_54 (q := 57) rfl (gX1_74 ?_)
    refine x_iconst hK kX1_divide_57 (q := 58) rfl ?_
    refine x_iaload hK kX1_divide_58 (q := 59) rfl (aC7_0 (by refine ⟨?_, ?_⟩ <;> omega) ?_)
    rw [tb]
    refine x_aload_n hK kX1_divide_59 (q := 60) rfl rfl ?_
    refine x_cv4 hK kX1_divide_60 (q := 63) rfl (vtX1_divide_78) (Nat.le_of_ble_eq_true rfl) ?_
    refine SX1_divideShort_i (n := nz) hj hc cj nz8 nzc (by rw [tj]; exact z80) (by rw [tj]; exact zr) ⟨by omega, r0.2⟩ (fun f g80 g81 gr gv => ?_)
    rw [tj, ze, az, ← e3] at gv
    rw [tj, ze, az, ← e3]
    rw [tc] at g80 g81
    rw [uI_s] at g80
    rw [uI_n _ _ (by decide), uI_s] at g81
    rw [uA_u]
    refine x_cv2 hK kX1_divide_63 (q := 66) rfl (vtX1_divide_59) (Nat.le_of_ble_eq_true rfl) ?_
    refine SX8_set_i hj ⟨by omega, by omega⟩ (fun fr hfr => ?_)
    refine x_aload_n hK kX1_divide_66 (q := 67) rfl rfl ?_
    refine x_cv1 hK kX1_divide_67 (q := 70) rfl (vtX1_divide_82) (Nat.le_of_ble_eq_true rfl) ?_
    refine SX8_trim_i (z := z / y) hc ?_ (fun fq hfq => ?_)
    · rw [uA_n _ _ cj, tc]
      refine ⟨nz, nzc, g80, gr, by rw [gv, zAbs_nn q0], fun q => ?_⟩
      rw [g81]
      rcases zSg_c (z / y) with g | g | g <;> omega
    refine x_return_ hK kX1_divide_70 (by first | trivial | exact Or.inl rfl | exact Or.inr rfl) ?_
    refine h _ (fun t a b' c' => ?_) (by rw [uA_g]; exact hfq) ?_ ?_
    · rw [uA_n _ _ c', uA_n _ _ b', uA_n _ _ c']
    · rw [uA_n _ _ (fun q => cj q.symm), uA_g]
      exact hfr
    · rw [uA_n _ _ (fun q => c2 q.symm), uA_n _ _ (fun q => j2 q.symm), t2]
      exact hv
  -- the digits
  have many : ∀ (fs : Int → Int) (s N L m : Nat) (Z Y : Int), s ≤ 30 → Z = z * 2 ^ s → Y = y * 2 ^ s → wq (lw 2) fs Y → fs 80 = L → lR fs L → vL fs L = Y → 1073741824 ≤ fs ((L : Int) - 1) → 2 ≤ L → N < 64 → m + L = N + 1 → m ≤ lw c → 0 < Y →
      ∀ (i : Nat) (u q : Int → Int) (u6 : Option eV), i ≤ m → kN fs u q N L m i Z Y → K 148 [some (eR (1, 2)), some (eR (2, j)), some (eR (2, b)), some (eR (2, c)), some (eI s), some (eI ((i : Int) - 1)), u6, none] [] (cC F A (uA (uA (uA W 2 fs) j u) c q)) := by
    intro fs s N L m Z Y hs eZ eY hfs f80 fr fv ft L2 hN hm hmc Y0 i
    have p := p2_pos s
    have fL := vL_lt fr
    have w2 : ∀ u q, uA (uA (uA W 2 fs) j u) c q 2 = fs := fun u q => by rw [uA_n _ _ (fun g => c2 g.symm), uA_n _ _ (fun g => j2 g.symm), uA_g]
    have wj : ∀ u q, uA (uA (uA W 2 fs) j u) c q j = u := fun u q => by rw [uA_n _ _ (fun g => cj g.symm), uA_g]
    have wc : ∀ u q, uA (uA (uA W 2 fs) j u) c q c = q := fun u q => uA_g _ _ _
    have sj : ∀ u q f, uA (uA (uA (uA W 2 fs) j u) c q) j f = uA (uA (uA W 2 fs) j f) c q := fun u q f => by rw [uA_c _ _ _ (fun g => cj g.symm), uA_u]
    have sc : ∀ u q f, uA (uA (uA (uA W 2 fs) j u) c q) c f = uA (uA (uA W 2 fs) j u) c f := fun u q f => uA_u _ _ _ _
    induction i with
    | zero =>
      intro u q u6 hi hk
      obtain ⟨u80, u81, q80, q81, ur, hR, hZ, qr⟩ := hk
      rw [sf_0, sf_0, Int.pow_zero, Int.one_mul] at hZ
      have hZ2 : Z = vL u L + Y * vL q m := by
        have : vL u 0 = 0 := rfl
        rw [show m - 0 = m by omega] at hZ
        omega
      rw [sf_0] at hR
      have lr : lR u L := fun t ht => ur t (by omega)
      have lq : lR q m := fun t ht => qr t (by omega) ht
      have R0 := vL_nn lr
      have fin := kn_f p eZ eY y0 hZ2 R0 hR
      have q0 := vL_nn lq
      have r0 := Int.emod_nonneg z (show y ≠ 0 by omega)
      refine x_iload hK kX1_divide_148 (q := 150) rfl rfl ?_
      refine x_if_lt hK kX1_divide_150 (q := 153) rfl (tg := 215) rfl (by omega) (fun c150 => ?_) (fun c150 => ?_)
      · refine x_aload_n hK kX1_divide_215 (q := 216) rfl rfl ?_
        refine x_cv1 hK kX1_divide_216 (q := 219) rfl (vtX1_divide_82) (Nat.le_of_ble_eq_true rfl) ?_
        refine SX8_trim_i (z := z / y) hc ?_ (fun gq hgq => ?_)
        · rw [wc]
          refine ⟨m, by omega, q80, lq, by rw [fin.1, zAbs_nn q0], fun g => ?_⟩
          rw [q81, fin.1]
          rw [fin.1] at g
          rcases zSg_c (vL q m) with r | r | r <;> omega
        rw [sc]
        refine x_aload_n hK kX1_divide_219 (q := 220) rfl rfl ?_
        refine x_aload_n hK kX1_divide_220 (q := 221) rfl rfl ?_
        refine x_getfield hK kX1_divide_221 (q := 224) rfl (gX1_23 ?_)
        refine x_getfield hK kX1_divide_224 (q := 227) rfl (gX1_71 ?_)
        rw [w2, f80]
        refine x_putfield hK kX1_divide_227 (q := 230) rfl (pX1_71 ?_)
        rw [wj, sj]
        refine x_aload_n hK kX1_divide_230 (q := 231) rfl rfl ?_
        refine x_iload hK kX1_divide_231 (q := 233) rfl rfl ?_
        refine x_cv2 hK kX1_divide_233 (q := 236) rfl (vtX1_divide_107) (Nat.le_of_ble_eq_true rfl) ?_
        refine SX8_shiftDown_i (n := L) hj hs (by omega) (by rw [wj, uI_s]) (by rw [wj]; exact lR_cong lr (fun t ht => uI_n _ _ (by omega))) (fun f g80 g81 gr gv => ?_)
        rw [wj, vL_cong (f := u) (fun t ht => uI_n _ _ (by omega)), fin.2] at gv
        rw [wj, uI_n _ _ (by decide), u81] at g81
        rw [sj]
        refine x_aload_n hK kX1_divide_236 (q := 237) rfl rfl ?_
        refine x_cv1 hK kX1_divide_237 (q := 240) rfl (vtX1_divide_82) (Nat.le_of_ble_eq_true rfl) ?_
        refine SX8_trim_i (z := z % y) hj ?_ (fun gr hgr => ?_)
        · rw [wj]
          refine ⟨L, by omega, g80, gr, by rw [gv, zAbs_nn r0], fun g => ?_⟩
          rw [g81]
          rcases zSg_c (z % y) with r | r | r <;> omega
        rw [sj]
        refine x_return_ hK kX1_divide_240 (by first | trivial | exact Or.inl rfl | exact Or.inr rfl) ?_
        refine h _ (fun t a b' c' => ?_) (by rw [wc]; exact hgq) (by rw [wj]; exact hgr) ⟨Y, by rw [w2]; exact hfs⟩
        rw [uA_n _ _ c', uA_n _ _ b', uA_n _ _ a]
      · exfalso; omega
    | succ i ih =>
      intro u q u6 hi hk
      obtain ⟨ku2, kU, kU0, kg⟩ := kn_g (by omega) hm (by omega) L2 fr fv ft hk
      have hk2 := hk
      obtain ⟨u80, u81, q80, q81, ur, hR, hZ, qr⟩ := hk2
      have n1 : (i : Int) + L - 1 = ((i + L - 1 : Nat) : Int) := by omega
      have n2 : (i : Int) + L - 2 = ((i + L - 2 : Nat) : Int) := by omega
      have f1 : 0 ≤ fs ((L : Int) - 1) ∧ fs ((L : Int) - 1) < 2147483648 := by
        have := fr (L - 1) (by omega)
        rw [show ((L - 1 : Nat) : Int) = (L : Int) - 1 by omega] at this
        exact this
      have f2 : 0 ≤ fs ((L : Int) - 2) ∧ fs ((L : Int) - 2) < 2147483648 := by
        have := fr (L - 2) (by omega)
        rw [show ((L - 2 : Nat) : Int) = (L : Int) - 2 by omega] at this
        exact this
      have ei : ((i + 1 : Nat) : Int) - 1 = i := by omega
      have done : ∀ (f : Int → Int) (g : Int) (u6 : Option eV), 0 ≤ g → g < 2147483648 → (∀ t : Int, (t < i ∨ (i : Int) + L ≤ t) → f t = u t) → (∀ t : Nat, i ≤ t → t < i + L → 0 ≤ f t ∧ f t < 2147483648) → vL (sf f i) L = vL (sf u i) (L + 1) - g * Y → vL (sf f i) L < Y → K 148 [some (eR (1, 2)), some (eR (2, j)), some (eR (2, b)), some (eR (2, c)), some (eI s), some (eI ((i : Int) - 1)), u6, none] [] (cC F A (uA (uA (uA W 2 fs) j f) c (uI q i g))) := fun f g u6 g0 g1 a1 a2 a3 a4 => ih f (uI q i g) u6 (by omega) (kn_s hm (by omega) Y0 (by omega) hk g0 g1 a1 a2 a3 a4 (by omega))
      rw [ei]
      refine x_iload hK kX1_divide_148 (q := 150) rfl rfl ?_
      refine x_if_lt hK kX1_divide_150 (q := 153) rfl (tg := 215) rfl (by omega) (fun c150 => ?_) (fun c150 => ?_)
      · exfalso; omega
      · refine x_iload hK kX1_divide_153 (q := 155) rfl rfl ?_
        refine x_aload_n hK kX1_divide_155 (q := 156) rfl rfl ?_
        refine x_getfield hK kX1_divide_156 (q := 159) rfl (gX1_74 ?_)
        refine x_arraylength hK kX1_divide_159 (q := 160) rfl (nC7_0 ?_)
        refine x_icmp_ge hK kX1_divide_160 (q := 163) rfl (tg := 215) rfl (by refine ⟨?_, ?_⟩ <;> omega) (fun c160 => ?_) (fun c160 => ?_)
        · exfalso; omega
        · refine x_aload_n hK kX1_divide_163 (q := 164) rfl rfl ?_
          refine x_aload_n hK kX1_divide_164 (q := 165) rfl rfl ?_
          refine x_iload hK kX1_divide_165 (q := 167) rfl rfl ?_
          refine x_cv3 hK kX1_divide_167 (q := 170) rfl (vtX1_divide_96) (Nat.le_of_ble_eq_true rfl) ?_
          refine SX1_guess_i (L := L) hj (by rw [w2]; exact f80) L2 (by omega) (by omega) (by rw [w2]; exact ⟨ft, f1.2⟩) (by rw [w2]; exact f2) (by rw [w2, wj]; exact ku2) (by rw [wj, n1]; exact ur _ (by omega)) (by rw [wj, n2]; exact ur _ (by omega)) (fun g g0 g1 h1 h2 => ?_)
          rw [w2, wj] at h1 h2
          have gg := kg g g0 g1 h1 h2
          refine x_lstore hK kX1_divide_170 (q := 172) rfl ?_
          refine x_aload_n hK kX1_divide_172 (q := 173) rfl rfl ?_
          refine x_aload_n hK kX1_divide_173 (q := 174) rfl rfl ?_
          refine x_iload hK kX1_divide_174 (q := 176) rfl rfl ?_
          refine x_lload hK kX1_divide_176 (q := 178) rfl rfl ?_
          simp only [lS, lS2, clr_0, clr_I, clr_L, clr_R]
          refine x_cv4 hK kX1_divide_178 (q := 181) rfl (vtX1_divide_100) (Nat.le_of_ble_eq_true rfl) ?_
          refine SX1_lessen_i (L := L) hj j2 (by rw [w2]; exact f80) (by omega) (by omega) (by rw [w2]; exact fr) (fun t t0 t1 => by rw [wj]; exact ur t (by omega)) ⟨g0, g1⟩ (fun f gap a1 a2 a3 a5 => ?_)
          rw [wj, w2, fv] at a3
          rw [sj]
          have a1' : ∀ t : Int, (t < i ∨ (i : Int) + L ≤ t) → f t = u t := fun t ht => by have := a1 t ht; rw [wj] at this; exact this
          have lf : lR (sf f i) L := fun t ht => by
            have := a2 (i + t) (by omega) (by omega)
            rw [show ((i + t : Nat) : Int) = (i : Int) + t by omega] at this
            exact this
          have v0 := vL_nn lf
          have v1 := vL_lt lf
          have eg1 : (g - 1) * Y = g * Y - Y := by grind
          have eg2 : (g + 1) * Y = g * Y + Y := by grind
          rw [eg1, eg2] at gg
          refine x_lconst0 hK kX1_divide_181 (q := 182) rfl ?_
          refine x_lcmp hK kX1_divide_182 (q := 183) rfl (by refine ⟨a5, by decide⟩) ?_
          refine x_ifc_ge hK kX1_divide_183 (q := 186) rfl (tg := 199) rfl (fun c183 => ?_) (fun c183 => ?_)
          · have gp : gap = 0 := by
              rcases Int.lt_or_le 0 gap with r | r
              · have := Int.mul_le_mul_of_nonneg_right (show 1 ≤ gap by omega) (Int.le_of_lt (cB_pos L))
                omega
              · omega
            subst gp
            have dn := fun u6 => done f g u6 g0 g1 a1' a2 (by omega) (by omega)
            refine x_aload_n hK kX1_divide_199 (q := 200) rfl rfl ?_
            refine x_getfield hK kX1_divide_200 (q := 203) rfl (gX1_74 ?_)
            refine x_iload hK kX1_divide_203 (q := 205) rfl rfl ?_
            refine x_lload hK kX1_divide_205 (q := 207) rfl rfl ?_
            refine x_l2i hK kX1_divide_207 (q := 208) rfl ?_
            refine x_iastore hK kX1_divide_208 (q := 209) rfl (yC7_0 (by refine ⟨?_, ?_⟩ <;> omega) ?_)
            rw [wc, sc]
            refine x_iinc hK kX1_divide_209 (q := 212) rfl rfl ?_
            simp only [lS, lS2, clr_0, clr_I, clr_L, clr_R]
            refine x_goto hK kX1_divide_212 (tg := 148) rfl ?_
            rw [show (i : Int) + -1 = (i : Int) - 1 by omega]
            exact dn _
          · have gn : vL (sf u i) (L + 1) - g * Y < 0 := by
              have := Int.mul_le_mul_of_nonneg_right (show gap ≤ -1 by omega) (Int.le_of_lt (cB_pos L))
              omega
            have gp1 : 1 ≤ g := by
              rcases Int.lt_or_le 0 g with r | r
              · omega
              · have : g = 0 := by omega
                subst this
                omega
            refine x_lload hK kX1_divide_186 (q := 188) rfl rfl ?_
            refine x_lconst1 hK kX1_divide_188 (q := 189) rfl ?_
            refine x_lsub hK kX1_divide_189 (q := 190) rfl ?_
            refine x_lstore hK kX1_divide_190 (q := 192) rfl ?_
            refine x_aload_n hK kX1_divide_192 (q := 193) rfl rfl ?_
            refine x_aload_n hK kX1_divide_193 (q := 194) rfl rfl ?_
            refine x_iload hK kX1_divide_194 (q := 196) rfl rfl ?_
            simp only [lS, lS2, clr_0, clr_I, clr_L, clr_R]
            refine x_cv3 hK kX1_divide_196 (q := 199) rfl (vtX1_divide_104) (Nat.le_of_ble_eq_true rfl) ?_
            refine SX1_restore_i (L := L) hj j2 (by rw [w2]; exact f80) (by omega) (by omega) (by rw [w2]; exact fr) (fun t t0 t1 => by rw [wj]; exact a2 t t0 t1) (fun f' cc b1 b2 b3 => ?_)
            rw [wj, w2, fv] at b3
            rw [sj]
            have lf' : lR (sf f' i) L := fun t ht => by
              have := b2 (i + t) (by omega) (by omega)
              rw [show ((i + t : Nat) : Int) = (i : Int) + t by omega] at this
              exact this
            have v0' := vL_nn lf'
            have v1' := vL_lt lf'
            have tot : vL (sf f' i) L + (cc + gap) * cB ^ L = vL (sf u i) (L + 1) - g * Y + Y := by rw [Int.add_mul]; omega
            have cg : cc + gap = 0 := by
              rcases Int.lt_trichotomy (cc + gap) 0 with r | r | r
              · have := Int.mul_le_mul_of_nonneg_right (show cc + gap ≤ -1 by omega) (Int.le_of_lt (cB_pos L))
                omega
              · exact r
              · have := Int.mul_le_mul_of_nonneg_right (show 1 ≤ cc + gap by omega) (Int.le_of_lt (cB_pos L))
                omega
            rw [cg, Int.zero_mul] at tot
            have dn := fun u6 => done f' (g - 1) u6 (by omega) (by omega) (fun t ht => by have := b1 t ht; rw [wj] at this; rw [this]; exact a1' t ht) b2 (by rw [eg1]; omega) (by omega)
            refine x_aload_n hK kX1_divide_199 (q := 200) rfl rfl ?_
            refine x_getfield hK kX1_divide_200 (q := 203) rfl (gX1_74 ?_)
            refine x_iload hK kX1_divide_203 (q := 205) rfl rfl ?_
            refine x_lload hK kX1_divide_205 (q := 207) rfl rfl ?_
            refine x_l2i hK kX1_divide_207 (q := 208) rfl ?_
            refine x_iastore hK kX1_divide_208 (q := 209) rfl (yC7_0 (by refine ⟨?_, ?_⟩ <;> omega) ?_)
            rw [wc, sc]
            refine x_iinc hK kX1_divide_209 (q := 212) rfl rfl ?_
            simp only [lS, lS2, clr_0, clr_I, clr_L, clr_R]
            refine x_goto hK kX1_divide_212 (tg := 148) rfl ?_
            rw [show (i : Int) + -1 = (i : Int) - 1 by omega]
            exact dn _
  have ah : ∀ f0, wq (lw c) f0 0 → zAbs y ≤ zAbs z → nb ≠ 1 → K 71 [some (eR (1, 2)), some (eR (2, j)), some (eR (2, b)), some (eR (2, c)), none, none, none, none] [] (cC F A (uA W c (uI f0 81 1))) := by
    intro f0 hf0 hzy hnb
    obtain ⟨q1, hq1⟩ : ∃ q1, uI f0 81 1 = q1 := ⟨_, rfl⟩
    have q181 : q1 81 = 1 := by rw [← hq1, uI_s]
    rw [hq1]
    have top := wq_tp br be nb0
    have v2 : ∀ x, uA (uA W 2 x) c q1 2 = x := fun x => by rw [uA_n _ _ (fun g => c2 g.symm), uA_g]
    have vj : ∀ x, uA (uA W 2 x) c q1 j = W j := fun x => by rw [uA_n _ _ (fun g => cj g.symm), uA_n _ _ j2]
    have w2 : ∀ x u q, uA (uA (uA W 2 x) j u) c q 2 = x := fun x u q => by rw [uA_n _ _ (fun g => c2 g.symm), uA_n _ _ (fun g => j2 g.symm), uA_g]
    have wj : ∀ x u q, uA (uA (uA W 2 x) j u) c q j = u := fun x u q => by rw [uA_n _ _ (fun g => cj g.symm), uA_g]
    have wc : ∀ x u q, uA (uA (uA W 2 x) j u) c q c = q := fun x u q => uA_g _ _ _
    have sj : ∀ x u q f, uA (uA (uA (uA W 2 x) j u) c q) j f = uA (uA (uA W 2 x) j f) c q := fun x u q f => by rw [uA_c _ _ _ (fun g => cj g.symm), uA_u]
    have sc : ∀ x u q f, uA (uA (uA (uA W 2 x) j u) c q) c f = uA (uA (uA W 2 x) j u) c f := fun x u q f => uA_u _ _ _ _
    have tpos : 0 < W b ((nb : Int) - 1) ∧ W b ((nb : Int) - 1) < 2147483648 := by
      have h1 := br (nb - 1) (by omega)
      rw [show ((nb - 1 : Nat) : Int) = (nb : Int) - 1 by omega] at h1
      have := bt nb0
      have h2 : W b ((nb : Int) - 1) < 2147483648 := h1.2
      omega
    refine x_aload_n hK kX1_divide_71 (q := 72) rfl rfl ?_
    refine x_cv1 hK kX1_divide_72 (q := 75) rfl (vtX1_divide_85) (Nat.le_of_ble_eq_true rfl) ?_
    refine SX8_slack_i (n := nb) hb nb0 nb8 (by rw [tb]; exact b80) (by rw [tb]; exact tpos) (fun s hs s1 s2 => ?_)
    rw [tb] at s1 s2
    have p := p2_pos s
    have p30 := p2_30 hs
    obtain ⟨Y, eY⟩ : ∃ Y, Y = y * 2 ^ s := ⟨_, rfl⟩
    obtain ⟨Z, eZ⟩ : ∃ Z, Z = z * 2 ^ s := ⟨_, rfl⟩
    have kY := kn_0 nb0 (by rw [← ay]; exact top.1) (by rw [← ay]; exact top.2) s1 s2 hs eY
    have Y0 : 0 < Y := by
      rw [eY]
      exact Int.mul_pos y0 p
    have YZ : Y ≤ Z := by
      rw [eY, eZ]
      exact Int.mul_le_mul_of_nonneg_right (by omega) (by omega)
    have Z79 : Z < cB ^ 63 := by
      have a1 := Int.mul_lt_mul_of_pos_right hlt p
      have a2 := Int.mul_le_mul_of_nonneg_left p30 (Int.le_of_lt (cB_pos 62))
      have a3 : cB ^ 63 = cB ^ 62 * 2147483648 := cB_succ 62
      have a4 := cB_pos 62
      rw [eZ]
      omega
    have Z80 := cB_mono (show 63 ≤ 64 by decide)
    have aY : zAbs y * 2 ^ s = Y := by rw [ay, eY]
    have aZ : zAbs z * 2 ^ s = Z := by rw [az, eZ]
    have c1 := cB_pos (nb - 1)
    refine x_istore hK kX1_divide_75 (q := 77) rfl ?_
    refine x_aload_n hK kX1_divide_77 (q := 78) rfl rfl ?_
    refine x_getfield hK kX1_divide_78 (q := 81) rfl (gX1_23 ?_)
    refine x_aload_n hK kX1_divide_81 (q := 82) rfl rfl ?_
    simp only [lS, lS2, clr_0, clr_I, clr_L, clr_R]
    refine x_cv2 hK kX1_divide_82 (q := 85) rfl (vtX1_divide_89) (Nat.le_of_ble_eq_true rfl) ?_
    refine SX8_copy_i (by decide) hb b2 (by rw [tb]; exact hy) (by rw [l2]; exact wq_64 hy) (fun fs0 hfs0 => ?_)
    rw [uA_c _ _ _ (fun g => c2 g.symm)]
    refine x_aload_n hK kX1_divide_85 (q := 86) rfl rfl ?_
    refine x_getfield hK kX1_divide_86 (q := 89) rfl (gX1_23 ?_)
    refine x_iload hK kX1_divide_89 (q := 91) rfl rfl ?_
    refine x_cv2 hK kX1_divide_91 (q := 94) rfl (vtX1_divide_93) (Nat.le_of_ble_eq_true rfl) ?_
    refine SX8_shiftUp_i (z := y) (by decide) hs (by rw [v2]; exact hfs0) (by rw [aY, l2]; omega) (fun fs hfs => ?_)
    rw [uA_c _ _ _ (fun g => c2 g.symm), uA_u]
    rw [← eY] at hfs
    refine x_aload_n hK kX1_divide_94 (q := 95) rfl rfl ?_
    refine x_iload hK kX1_divide_95 (q := 97) rfl rfl ?_
    refine x_cv2 hK kX1_divide_97 (q := 100) rfl (vtX1_divide_93) (Nat.le_of_ble_eq_true rfl) ?_
    refine SX8_shiftUp_i (z := z) hj hs (by rw [vj]; exact hz) (by rw [aZ, hj64]; omega) (fun fu hfu => ?_)
    rw [uA_c _ _ _ (fun g => cj g.symm)]
    rw [← eZ] at hfu
    have hfs' := hfs
    have hfu' := hfu
    obtain ⟨L, L8, l80, lr, lt, le, ls⟩ := hfs'
    obtain ⟨N, N8, n80, nr, nt, ne, ns⟩ := hfu'
    have wL := wq_n lr lt le
    have wN := wq_n nr nt ne
    have aYY : zAbs Y = Y := zAbs_nn (by omega)
    have aZZ : zAbs Z = Z := zAbs_nn (by omega)
    rw [aYY] at wL le
    rw [aZZ] at wN
    have L0 : 0 < L := by
      rcases Nat.eq_zero_or_pos L with g | g
      · have := wL.1.mpr g
        omega
      · exact g
    have eL : L = nb := Nat.le_antisymm (nl_le (z := Y) (fun g => by rw [aYY]; exact wL.2.2 g) (by rw [aYY]; exact kY.2)) (nl_le (z := Y) (fun g => by rw [aYY]; omega) (by rw [aYY]; exact wL.2.1))
    have N79 : N ≤ 63 := nl_le (z := Z) (fun g => by rw [aZZ]; exact wN.2.2 g) (by rw [aZZ]; exact Z79)
    have LN : L ≤ N := nl_le (z := Y) (fun g => by rw [aYY]; exact wL.2.2 g) (by rw [aYY]; omega)
    have ft : 1073741824 ≤ fs ((L : Int) - 1) := by
      have t2 := (wq_tp lr (by rw [aYY]; exact le) L0).2
      rw [aYY] at t2
      rw [← eL] at kY
      have : (1073741824 : Int) < fs ((L : Int) - 1) + 1 := Int.lt_of_mul_lt_mul_right (Int.lt_of_le_of_lt kY.1 t2) (Int.le_of_lt (cB_pos (L - 1)))
      omega
    obtain ⟨m, hm⟩ : ∃ m : Nat, m + L = N + 1 := ⟨N + 1 - L, by omega⟩
    have Nz : N ≤ nz + 1 := nl_le (z := Z) (fun g => by rw [aZZ]; exact wN.2.2 g) (by
      have a1 := Int.mul_lt_mul_of_pos_right wz.2.1 p
      have a2 := Int.mul_le_mul_of_nonneg_left (show (2 : Int) ^ s ≤ 2147483648 by omega) (Int.le_of_lt (cB_pos nz))
      rw [aZZ, eZ, cB_succ]
      rw [az] at a1
      show z * 2 ^ s < cB ^ nz * 2147483648
      omega)
    refine x_aload_n hK kX1_divide_100 (q := 101) rfl rfl ?_
    refine x_aload_n hK kX1_divide_101 (q := 102) rfl rfl ?_
    refine x_getfield hK kX1_divide_102 (q := 105) rfl (gX1_71 ?_)
    refine x_aload_n hK kX1_divide_105 (q := 106) rfl rfl ?_
    refine x_getfield hK kX1_divide_106 (q := 109) rfl (gX1_23 ?_)
    refine x_getfield hK kX1_divide_109 (q := 112) rfl (gX1_71 ?_)
    refine x_isub hK kX1_divide_112 (q := 113) rfl ?_
    refine x_iconst hK kX1_divide_113 (q := 114) rfl ?_
    refine x_iadd hK kX1_divide_114 (q := 115) rfl ?_
    rw [wj, w2, n80, l80, show (N : Int) - L + 1 = (m : Int) by omega]
    refine x_putfield hK kX1_divide_115 (q := 118) rfl (pX1_71 ?_)
    rw [wc, sc]
    refine x_aload_n hK kX1_divide_118 (q := 119) rfl rfl ?_
    refine x_getfield hK kX1_divide_119 (q := 122) rfl (gX1_71 ?_)
    refine x_aload_n hK kX1_divide_122 (q := 123) rfl rfl ?_
    refine x_getfield hK kX1_divide_123 (q := 126) rfl (gX1_74 ?_)
    refine x_arraylength hK kX1_divide_126 (q := 127) rfl (nC7_0 ?_)
    rw [wj, n80]
    refine x_icmp_ge hK kX1_divide_127 (q := 130) rfl (tg := 140) rfl (by refine ⟨?_, ?_⟩ <;> omega) (fun c127 => ?_) (fun c127 => ?_)
    · exfalso; omega
    · refine x_aload_n hK kX1_divide_130 (q := 131) rfl rfl ?_
      refine x_getfield hK kX1_divide_131 (q := 134) rfl (gX1_74 ?_)
      refine x_aload_n hK kX1_divide_134 (q := 135) rfl rfl ?_
      refine x_getfield hK kX1_divide_135 (q := 138) rfl (gX1_71 ?_)
      rw [wj, n80]
      refine x_iconst hK kX1_divide_138 (q := 139) rfl ?_
      refine x_iastore hK kX1_divide_139 (q := 140) rfl (yC7_0 (by refine ⟨?_, ?_⟩ <;> omega) ?_)
      rw [wj, sj]
      refine x_aload_n hK kX1_divide_140 (q := 141) rfl rfl ?_
      refine x_getfield hK kX1_divide_141 (q := 144) rfl (gX1_71 ?_)
      rw [wc, uI_s]
      refine x_iconst hK kX1_divide_144 (q := 145) rfl ?_
      refine x_isub hK kX1_divide_145 (q := 146) rfl ?_
      refine x_istore hK kX1_divide_146 (q := 148) rfl ?_
      simp only [lS, lS2, clr_0, clr_I, clr_L, clr_R]
      exact many fs s N L m Z Y hs eZ eY hfs l80 lr le ft (by omega) (by omega) hm (by omega) Y0 m _ _ none (Nat.le_refl _) (kn_i (by omega) hm L0 hfu n80 (by omega) (uI_s _ _ _) (by rw [uI_n _ _ (by decide)]; exact q181) (wL.2.2 L0))
  simp only [eLoc, eE, List.length_cons, List.length_nil, List.replicate, List.cons_append, List.nil_append, Nat.reduceAdd, Nat.reduceSub]
  refine x_aload_n hK kX1_divide_0 (q := 1) rfl rfl ?_
  refine x_lconst0 hK kX1_divide_1 (q := 2) rfl ?_
  refine x_cv2 hK kX1_divide_2 (q := 5) rfl (vtX1_divide_59) (Nat.le_of_ble_eq_true rfl) ?_
  refine SX8_set_i hc (by decide) (fun f0 hf0 => ?_)
  refine x_aload_n hK kX1_divide_5 (q := 6) rfl rfl ?_
  refine x_cv1 hK kX1_divide_6 (q := 9) rfl (vtX1_divide_47) (Nat.le_of_ble_eq_true rfl) ?_
  refine SX8_isZero_i hb (by rw [tb]; exact hy) ?_
  rw [zq]
  refine x_if_ne hK kX1_divide_9 (q := 12) rfl (tg := 20) rfl (by omega) (fun c9 => ?_) (fun c9 => ?_)
  · exact absurd rfl c9
  · refine x_aload_n hK kX1_divide_12 (q := 13) rfl rfl ?_
    refine x_aload_n hK kX1_divide_13 (q := 14) rfl rfl ?_
    refine x_cv2 hK kX1_divide_14 (q := 17) rfl (vtX1_divide_63) (Nat.le_of_ble_eq_true rfl) ?_
    refine SX8_compareSize_i hj hb (by rw [tj]; exact hz) (by rw [tb]; exact hy) ?_
    refine x_if_ge hK kX1_divide_17 (q := 20) rfl (tg := 21) rfl (by exact (zCmp_w _ _).mpr trivial) (fun c17 => ?_) (fun c17 => ?_)
    · rw [zCmp_ge] at c17
      refine x_aload_n hK kX1_divide_21 (q := 22) rfl rfl ?_
      refine x_iconst hK kX1_divide_22 (q := 23) rfl ?_
      refine x_putfield hK kX1_divide_23 (q := 26) rfl (pX1_67 ?_)
      rw [tc, uA_u]
      refine x_aload_n hK kX1_divide_26 (q := 27) rfl rfl ?_
      refine x_getfield hK kX1_divide_27 (q := 30) rfl (gX1_71 ?_)
      refine x_iconst hK kX1_divide_30 (q := 31) rfl ?_
      rw [tb, b80]
      refine x_icmp_ne hK kX1_divide_31 (q := 34) rfl (tg := 71) rfl (by refine ⟨⟨by omega, by omega⟩, by decide⟩) (fun c31 => ?_) (fun c31 => ?_)
      · exact ah f0 hf0 c17 (by omega)
      · refine x_aload_n hK kX1_divide_34 (q := 35) rfl rfl ?_
        refine x_getfield hK kX1_divide_35 (q := 38) rfl (gX1_74 ?_)
        refine x_arraylength hK kX1_divide_38 (q := 39) rfl (nC7_0 ?_)
        refine x_if_le hK kX1_divide_39 (q := 42) rfl (tg := 71) rfl (by omega) (fun c39 => ?_) (fun c39 => ?_)
        · exfalso; omega
        · exact one f0 hf0 (by omega)
    · rw [zCmp_ge] at c17
      refine x_return_ hK kX1_divide_20 (by first | trivial | exact Or.inl rfl | exact Or.inr rfl) ?_
      refine h _ (fun t a b' c' => uA_n _ _ c') ?_ ?_ ⟨hv.choose, by rw [t2]; exact hv.choose_spec⟩
      · rw [uA_g, Int.ediv_eq_zero_of_lt z0 (by omega)]
        exact hf0
      · rw [tj, Int.emod_eq_of_lt z0 (by omega)]
        exact hz
set_option maxRecDepth 20000 in
theorem mX1_divide : eMet yX1_divide cX1_divide 8 none 1 37 SX1_divide := eMet_of (by decide +kernel) sX1_divide kX1_divide_ok caX1_divide tb_RX1
theorem wX1_divide : eWV yX1_divide cX1_divide 8 none 4 1 SX1_divide := ⟨(gW_at 469 (by decide +kernel) rfl), (gW_at 80 (by decide +kernel) rfl), (gW_at 468 (by decide +kernel) rfl), ⟨_, rfl, (gW_at 7 (by decide +kernel) rfl)⟩, by decide +kernel, SX1_divide_r⟩
