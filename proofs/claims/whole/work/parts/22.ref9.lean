/-! shift(a, by), less(a, b). -/
theorem vl_shift {v u : Int} (hv : 0 < v) (hvu : v * u = bB) : ∀ (m : Nat) (f g : Int → Int) (a b : Int), (∀ k : Nat, k < m → g (a + k) = f (b + k) / v + (if k + 1 < m then f (b + k + 1) else 0) % v * u) → vl g a m = vl f b m / v
  | 0, f, g, a, b, _ => by simp [vl]
  | m + 1, f, g, a, b, h => by
    have ih := vl_shift hv hvu m f g (a + 1) (b + 1) (fun k hk => by
      have h1 := h (k + 1) (by omega)
      rw [show a + ((k + 1 : Nat) : Int) = a + 1 + k by omega, show b + ((k + 1 : Nat) : Int) = b + 1 + k by omega] at h1
      rw [h1]
      congr 3
      by_cases c : k + 1 < m
      · rw [if_pos c, if_pos (by omega)]
      · rw [if_neg c, if_neg (by omega)])
    have h0 := h 0 (by omega)
    simp only [Int.natCast_zero, Int.add_zero] at h0
    rw [vl_low, vl_low, ih, h0]
    have hG : (if 0 + 1 < m + 1 then f (b + 1) else 0) % v = vl f (b + 1) m % v := by
      cases m with
      | zero => simp [vl]
      | succ m =>
        rw [if_pos (by omega), vl_low, ← hvu]
        rw [show f (b + 1) + vl f (b + 1 + 1) m * (v * u) = f (b + 1) + v * (vl f (b + 1 + 1) m * u) by grind]
        rw [Int.add_mul_emod_self_left]
    rw [hG]
    have e1 : f b + vl f (b + 1) m * bB = f b + v * (u * vl f (b + 1) m) := by rw [← hvu]; grind
    rw [e1, Int.add_mul_ediv_left _ _ (by omega)]
    have e2 := Int.emod_add_mul_ediv (vl f (b + 1) m) v
    have e3 : u * vl f (b + 1) m = vl f (b + 1) m % v * u + vl f (b + 1) m / v * bB := by
      rw [← hvu]
      have : u * (vl f (b + 1) m % v + v * (vl f (b + 1) m / v)) = u * vl f (b + 1) m := by rw [e2]
      rw [← this]
      grind
    omega
theorem zOr_comm (a b : Int) : zOr a b = zOr b a := by
  unfold zOr
  rw [show Int32.ofInt a ||| Int32.ofInt b = Int32.ofInt b ||| Int32.ofInt a from Int32.or_comm _ _]
theorem zShl_and (a m : Int) (n : Nat) (hn : n < 32) : zAnd (zShl a n) m = zAnd (a * 2 ^ n) m := by
  have e : (Int32.ofInt a <<< (Int32.ofInt (n : Int) &&& 31)) = Int32.ofInt (a * 2 ^ n) := by
    apply Int32.toBitVec_inj.mp
    apply BitVec.eq_of_toNat_eq
    rw [pk_shl _ _ n (zb_cnt n hn), zb_tn, zb_tn]
    apply Int.ofNat.inj
    show (((a % 4294967296).toNat * 2 ^ n % 2 ^ 32 : Nat) : Int) = ((a * 2 ^ n % 4294967296).toNat : Int)
    rw [Int.natCast_emod, Int.natCast_mul, zb_p2, zb_toNat (by decide), zb_toNat (by decide)]
    show a % 4294967296 * 2 ^ n % 4294967296 = _
    rw [Int.mul_emod, Int.emod_emod_of_dvd _ (Int.dvd_refl _), ← Int.mul_emod]
  unfold zAnd zShl
  rw [e, z_to]
/-- a limb of a shifted number -/
def shl_ (g : Int → Int) (n W P k : Nat) : Int := g (k + W : Nat) / 2 ^ P + (if k + W + 1 ≤ n then g (k + W + 1 : Nat) else 0) % 2 ^ P * 2 ^ (28 - P)
theorem shl_r {g : Int → Int} {n W P k : Nat} (hr : lr g 1 n) (h1 : 1 ≤ k) (h : k + W ≤ n) (hP : P < 28) : (0 ≤ g (k + W : Nat) / 2 ^ P ∧ g (k + W : Nat) / 2 ^ P < 2 ^ (28 - P)) ∧ (0 ≤ (if k + W + 1 ≤ n then g (k + W + 1 : Nat) else 0) % 2 ^ P ∧ (if k + W + 1 ≤ n then g (k + W + 1 : Nat) else 0) % 2 ^ P < 2 ^ P) ∧ 0 ≤ shl_ g n W P k ∧ shl_ g n W P k < 268435456 := by
  have w := hr (k + W - 1) (by omega)
  rw [show (1 : Int) + ((k + W - 1 : Nat) : Int) = ((k + W : Nat) : Int) by omega] at w
  have hp : (0 : Int) < 2 ^ P := Int.pow_pos (by decide)
  have hu : (0 : Int) < 2 ^ (28 - P) := Int.pow_pos (by decide)
  have hvu : (2 : Int) ^ P * 2 ^ (28 - P) = 268435456 := by rw [← Int.pow_add, show P + (28 - P) = 28 by omega]; rfl
  have b0 : bB = 268435456 := rfl
  have a1 : 0 ≤ g (k + W : Nat) / 2 ^ P := Int.ediv_nonneg w.1 (by omega)
  have a2 : g (k + W : Nat) / 2 ^ P < 2 ^ (28 - P) := Int.ediv_lt_of_lt_mul hp (by rw [Int.mul_comm, hvu]; omega)
  generalize hx : (if k + W + 1 ≤ n then g (k + W + 1 : Nat) else 0) = x
  have a3 := Int.emod_nonneg x (b := 2 ^ P) (by omega)
  have a4 := Int.emod_lt_of_pos x hp
  have e : shl_ g n W P k = g (k + W : Nat) / 2 ^ P + x % 2 ^ P * 2 ^ (28 - P) := by unfold shl_; rw [hx]
  rw [e]
  have a5 := Int.mul_nonneg a3 (Int.le_of_lt hu)
  have a6 := Int.mul_le_mul_of_nonneg_right (show x % 2 ^ P ≤ 2 ^ P - 1 by omega) (Int.le_of_lt hu)
  rw [Int.sub_mul, Int.one_mul, hvu] at a6
  exact ⟨⟨a1, a2⟩, ⟨a3, a4⟩, by omega, by omega⟩
theorem shl_v {g g' : Int → Int} {n W P : Nat} {z : Int} (hr : lr g 1 n) (hW : W ≤ n) (hP : P < 28) (hz : z = vl g 1 n) (h : ∀ k : Nat, 1 ≤ k → k + W ≤ n → g' k = shl_ g n W P k) : vl g' 1 (n - W) = z / 2 ^ (28 * W + P) := by
  have hvu : (2 : Int) ^ P * 2 ^ (28 - P) = bB := by rw [← Int.pow_add, show P + (28 - P) = 28 by omega]; rfl
  have h1 := vl_shift (v := 2 ^ P) (u := 2 ^ (28 - P)) (Int.pow_pos (by decide)) hvu (n - W) g g' 1 (1 + W) (fun k hk => by
    rw [show (1 : Int) + (k : Int) = ((k + 1 : Nat) : Int) by omega, h (k + 1) (by omega) (by omega)]
    unfold shl_
    rw [show (1 : Int) + (W : Int) + k = ((k + 1 + W : Nat) : Int) by omega, show ((k + 1 + W : Nat) : Int) + 1 = ((k + 1 + W + 1 : Nat) : Int) by omega]
    congr 3
    by_cases c : k + 1 < n - W
    · rw [if_pos c, if_pos (by omega)]
    · rw [if_neg c, if_neg (by omega)])
  rw [h1, hz]
  have h2 := vl_split (f := g) (o := 1) W (n - W)
  rw [show W + (n - W) = n by omega] at h2
  rw [h2, Int.pow_add, ← bB_pow, ← Int.ediv_ediv_of_nonneg (Int.le_of_lt (bB_pos W))]
  congr 1
  have h3 := vl_nn (hr.sub hW)
  have h4 := vl_lt (hr.sub hW)
  rw [Int.add_mul_ediv_right _ _ (by have := bB_pos W; omega), Int.ediv_eq_zero_of_lt h3 h4]
  omega
/-- dropping the zeros above -/
theorem rw_mk {g : Int → Int} {n : Nat} (hn : n ≤ 600) (hr : lr g 1 n) (h0 : g 0 = tk g 1 n) : rw_ g (vl g 1 n) := by
  have h1 := tk_le g 1 n
  refine ⟨tk g 1 n, by omega, h0, hr.sub h1, fun q => ?_, (tk_lv g 1 n).symm⟩
  have := tk_top g 1 n q
  rw [show (1 : Int) + (tk g 1 n : Int) - 1 = (tk g 1 n : Int) by omega] at this
  exact this
def SX10_shift : eSp := fun as M rt => ∃ (F : Nat → Int) (A : Nat → Int → Int) (t e : Nat) (z : Int), as = [eR (1, t), eI e] ∧ M = cR F A ∧ (t = 2 ∨ t = 3) ∧ rw_ (A t) z ∧ 2 ^ e ≤ z ∧ e < 16800 ∧ ∀ g, rw_ g (z / 2 ^ e) → rt none (cR F (uA A t g))
theorem SX10_shift_i {F : Nat → Int} {A : Nat → Int → Int} {t e : Nat} {rt : Option eV → eM → Prop} (z : Int) (ht : t = 2 ∨ t = 3) (h0 : rw_ (A t) z) (h1 : 2 ^ e ≤ z) (h2 : e < 16800) (h : ∀ g, rw_ g (z / 2 ^ e) → rt none (cR F (uA A t g))) : SX10_shift [eR (1, t), eI e] (cR F A) rt := ⟨F, A, t, e, z, rfl, rfl, ht, h0, h1, h2, h⟩
def kX10_shift : List (Nat × Jvm.ClassFile.Instr × Nat) := [(0, .iload_n 1, 1), (1, .bipush 28, 2), (3, .idiv, 1), (4, .istore_n 2, 1), (5, .iload_n 1, 1), (6, .bipush 28, 2), (8, .irem, 1), (9, .istore_n 3, 1), (10, .aload_n 0, 1), (11, .iconst 0, 1), (12, .iaload, 1), (13, .istore 4, 2), (15, .iconst 1, 1), (16, .istore 5, 2), (18, .iload 5, 2), (20, .iload_n 2, 1), (21, .iadd, 1), (22, .iload 4, 2), (24, .if_icmp .gt 74, 3), (27, .aload_n 0, 1), (28, .iload 5, 2), (30, .iload_n 2, 1), (31, .iadd, 1), (32, .iaload, 1), (33, .iload_n 3, 1), (34, .iushr, 1), (35, .istore 6, 2), (37, .iload 5, 2), (39, .iload_n 2, 1), (40, .iadd, 1), (41, .iconst 1, 1), (42, .iadd, 1), (43, .iload 4, 2), (45, .if_icmp .gt 22, 3), (48, .aload_n 0, 1), (49, .iload 5, 2), (51, .iload_n 2, 1), (52, .iadd, 1), (53, .iconst 1, 1), (54, .iadd, 1), (55, .iaload, 1), (56, .bipush 28, 2), (58, .iload_n 3, 1), (59, .isub, 1), (60, .ishl, 1), (61, .ldc 98, 2), (63, .iand, 1), (64, .goto 4, 3), (67, .iconst 0, 1), (68, .istore 7, 2), (70, .aload_n 0, 1), (71, .iload 5, 2), (73, .iload_n 3, 1), (74, .ifCond .ne 12, 3), (77, .aload_n 0, 1), (78, .iload 5, 2), (80, .iload_n 2, 1), (81, .iadd, 1), (82, .iaload, 1), (83, .goto 8, 3), (86, .iload 6, 2), (88, .iload 7, 2), (90, .ior, 1), (91, .iastore, 1), (92, .iinc 5 1, 3), (95, .goto (-77), 3), (98, .aload_n 0, 1), (99, .iconst 0, 1), (100, .iload 4, 2), (102, .iload_n 2, 1), (103, .isub, 1), (104, .iastore, 1), (105, .aload_n 0, 1), (106, .iconst 0, 1), (107, .iaload, 1), (108, .ifCond .le 21, 3), (111, .aload_n 0, 1), (112, .aload_n 0, 1), (113, .iconst 0, 1), (114, .iaload, 1), (115, .iaload, 1), (116, .ifCond .ne 13, 3), (119, .aload_n 0, 1), (120, .iconst 0, 1), (121, .dup2, 1), (122, .iaload, 1), (123, .iconst 1, 1), (124, .isub, 1), (125, .iastore, 1), (126, .goto (-21), 3), (129, .return_, 1)]
theorem kX10_shift_0 : cdOf kX10_shift 0 = some (.iload_n 1, 1) := by decide +kernel
theorem kX10_shift_1 : cdOf kX10_shift 1 = some (.bipush 28, 2) := by decide +kernel
theorem kX10_shift_3 : cdOf kX10_shift 3 = some (.idiv, 1) := by decide +kernel
theorem kX10_shift_4 : cdOf kX10_shift 4 = some (.istore_n 2, 1) := by decide +kernel
theorem kX10_shift_5 : cdOf kX10_shift 5 = some (.iload_n 1, 1) := by decide +kernel
theorem kX10_shift_6 : cdOf kX10_shift 6 = some (.bipush 28, 2) := by decide +kernel
theorem kX10_shift_8 : cdOf kX10_shift 8 = some (.irem, 1) := by decide +kernel
theorem kX10_shift_9 : cdOf kX10_shift 9 = some (.istore_n 3, 1) := by decide +kernel
theorem kX10_shift_10 : cdOf kX10_shift 10 = some (.aload_n 0, 1) := by decide +kernel
theorem kX10_shift_11 : cdOf kX10_shift 11 = some (.iconst 0, 1) := by decide +kernel
theorem kX10_shift_12 : cdOf kX10_shift 12 = some (.iaload, 1) := by decide +kernel
theorem kX10_shift_13 : cdOf kX10_shift 13 = some (.istore 4, 2) := by decide +kernel
theorem kX10_shift_15 : cdOf kX10_shift 15 = some (.iconst 1, 1) := by decide +kernel
theorem kX10_shift_16 : cdOf kX10_shift 16 = some (.istore 5, 2) := by decide +kernel
theorem kX10_shift_18 : cdOf kX10_shift 18 = some (.iload 5, 2) := by decide +kernel
theorem kX10_shift_20 : cdOf kX10_shift 20 = some (.iload_n 2, 1) := by decide +kernel
theorem kX10_shift_21 : cdOf kX10_shift 21 = some (.iadd, 1) := by decide +kernel
theorem kX10_shift_22 : cdOf kX10_shift 22 = some (.iload 4, 2) := by decide +kernel
theorem kX10_shift_24 : cdOf kX10_shift 24 = some (.if_icmp .gt 74, 3) := by decide +kernel
theorem kX10_shift_27 : cdOf kX10_shift 27 = some (.aload_n 0, 1) := by decide +kernel
theorem kX10_shift_28 : cdOf kX10_shift 28 = some (.iload 5, 2) := by decide +kernel
theorem kX10_shift_30 : cdOf kX10_shift 30 = some (.iload_n 2, 1) := by decide +kernel
theorem kX10_shift_31 : cdOf kX10_shift 31 = some (.iadd, 1) := by decide +kernel
theorem kX10_shift_32 : cdOf kX10_shift 32 = some (.iaload, 1) := by decide +kernel
theorem kX10_shift_33 : cdOf kX10_shift 33 = some (.iload_n 3, 1) := by decide +kernel
theorem kX10_shift_34 : cdOf kX10_shift 34 = some (.iushr, 1) := by decide +kernel
theorem kX10_shift_35 : cdOf kX10_shift 35 = some (.istore 6, 2) := by decide +kernel
theorem kX10_shift_37 : cdOf kX10_shift 37 = some (.iload 5, 2) := by decide +kernel
theorem kX10_shift_39 : cdOf kX10_shift 39 = some (.iload_n 2, 1) := by decide +kernel
theorem kX10_shift_40 : cdOf kX10_shift 40 = some (.iadd, 1) := by decide +kernel
theorem kX10_shift_41 : cdOf kX10_shift 41 = some (.iconst 1, 1) := by decide +kernel
theorem kX10_shift_42 : cdOf kX10_shift 42 = some (.iadd, 1) := by decide +kernel
theorem kX10_shift_43 : cdOf kX10_shift 43 = some (.iload 4, 2) := by decide +kernel
theorem kX10_shift_45 : cdOf kX10_shift 45 = some (.if_icmp .gt 22, 3) := by decide +kernel
theorem kX10_shift_48 : cdOf kX10_shift 48 = some (.aload_n 0, 1) := by decide +kernel
theorem kX10_shift_49 : cdOf kX10_shift 49 = some (.iload 5, 2) := by decide +kernel
theorem kX10_shift_51 : cdOf kX10_shift 51 = some (.iload_n 2, 1) := by decide +kernel
theorem kX10_shift_52 : cdOf kX10_shift 52 = some (.iadd, 1) := by decide +kernel
theorem kX10_shift_53 : cdOf kX10_shift 53 = some (.iconst 1, 1) := by decide +kernel
theorem kX10_shift_54 : cdOf kX10_shift 54 = some (.iadd, 1) := by decide +kernel
theorem kX10_shift_55 : cdOf kX10_shift 55 = some (.iaload, 1) := by decide +kernel
theorem kX10_shift_56 : cdOf kX10_shift 56 = some (.bipush 28, 2) := by decide +kernel
theorem kX10_shift_58 : cdOf kX10_shift 58 = some (.iload_n 3, 1) := by decide +kernel
theorem kX10_shift_59 : cdOf kX10_shift 59 = some (.isub, 1) := by decide +kernel
theorem kX10_shift_60 : cdOf kX10_shift 60 = some (.ishl, 1) := by decide +kernel
theorem kX10_shift_61 : cdOf kX10_shift 61 = some (.ldc 98, 2) := by decide +kernel
theorem kX10_shift_63 : cdOf kX10_shift 63 = some (.iand, 1) := by decide +kernel
theorem kX10_shift_64 : cdOf kX10_shift 64 = some (.goto 4, 3) := by decide +kernel
theorem kX10_shift_67 : cdOf kX10_shift 67 = some (.iconst 0, 1) := by decide +kernel
theorem kX10_shift_68 : cdOf kX10_shift 68 = some (.istore 7, 2) := by decide +kernel
theorem kX10_shift_70 : cdOf kX10_shift 70 = some (.aload_n 0, 1) := by decide +kernel
theorem kX10_shift_71 : cdOf kX10_shift 71 = some (.iload 5, 2) := by decide +kernel
theorem kX10_shift_73 : cdOf kX10_shift 73 = some (.iload_n 3, 1) := by decide +kernel
theorem kX10_shift_74 : cdOf kX10_shift 74 = some (.ifCond .ne 12, 3) := by decide +kernel
theorem kX10_shift_77 : cdOf kX10_shift 77 = some (.aload_n 0, 1) := by decide +kernel
theorem kX10_shift_78 : cdOf kX10_shift 78 = some (.iload 5, 2) := by decide +kernel
theorem kX10_shift_80 : cdOf kX10_shift 80 = some (.iload_n 2, 1) := by decide +kernel
theorem kX10_shift_81 : cdOf kX10_shift 81 = some (.iadd, 1) := by decide +kernel
theorem kX10_shift_82 : cdOf kX10_shift 82 = some (.iaload, 1) := by decide +kernel
theorem kX10_shift_83 : cdOf kX10_shift 83 = some (.goto 8, 3) := by decide +kernel
theorem kX10_shift_86 : cdOf kX10_shift 86 = some (.iload 6, 2) := by decide +kernel
theorem kX10_shift_88 : cdOf kX10_shift 88 = some (.iload 7, 2) := by decide +kernel
theorem kX10_shift_90 : cdOf kX10_shift 90 = some (.ior, 1) := by decide +kernel
theorem kX10_shift_91 : cdOf kX10_shift 91 = some (.iastore, 1) := by decide +kernel
theorem kX10_shift_92 : cdOf kX10_shift 92 = some (.iinc 5 1, 3) := by decide +kernel
theorem kX10_shift_95 : cdOf kX10_shift 95 = some (.goto (-77), 3) := by decide +kernel
theorem kX10_shift_98 : cdOf kX10_shift 98 = some (.aload_n 0, 1) := by decide +kernel
theorem kX10_shift_99 : cdOf kX10_shift 99 = some (.iconst 0, 1) := by decide +kernel
theorem kX10_shift_100 : cdOf kX10_shift 100 = some (.iload 4, 2) := by decide +kernel
theorem kX10_shift_102 : cdOf kX10_shift 102 = some (.iload_n 2, 1) := by decide +kernel
theorem kX10_shift_103 : cdOf kX10_shift 103 = some (.isub, 1) := by decide +kernel
theorem kX10_shift_104 : cdOf kX10_shift 104 = some (.iastore, 1) := by decide +kernel
theorem kX10_shift_105 : cdOf kX10_shift 105 = some (.aload_n 0, 1) := by decide +kernel
theorem kX10_shift_106 : cdOf kX10_shift 106 = some (.iconst 0, 1) := by decide +kernel
theorem kX10_shift_107 : cdOf kX10_shift 107 = some (.iaload, 1) := by decide +kernel
theorem kX10_shift_108 : cdOf kX10_shift 108 = some (.ifCond .le 21, 3) := by decide +kernel
theorem kX10_shift_111 : cdOf kX10_shift 111 = some (.aload_n 0, 1) := by decide +kernel
theorem kX10_shift_112 : cdOf kX10_shift 112 = some (.aload_n 0, 1) := by decide +kernel
theorem kX10_shift_113 : cdOf kX10_shift 113 = some (.iconst 0, 1) := by decide +kernel
theorem kX10_shift_114 : cdOf kX10_shift 114 = some (.iaload, 1) := by decide +kernel
theorem kX10_shift_115 : cdOf kX10_shift 115 = some (.iaload, 1) := by decide +kernel
theorem kX10_shift_116 : cdOf kX10_shift 116 = some (.ifCond .ne 13, 3) := by decide +kernel
theorem kX10_shift_119 : cdOf kX10_shift 119 = some (.aload_n 0, 1) := by decide +kernel
theorem kX10_shift_120 : cdOf kX10_shift 120 = some (.iconst 0, 1) := by decide +kernel
theorem kX10_shift_121 : cdOf kX10_shift 121 = some (.dup2, 1) := by decide +kernel
theorem kX10_shift_122 : cdOf kX10_shift 122 = some (.iaload, 1) := by decide +kernel
theorem kX10_shift_123 : cdOf kX10_shift 123 = some (.iconst 1, 1) := by decide +kernel
theorem kX10_shift_124 : cdOf kX10_shift 124 = some (.isub, 1) := by decide +kernel
theorem kX10_shift_125 : cdOf kX10_shift 125 = some (.iastore, 1) := by decide +kernel
theorem kX10_shift_126 : cdOf kX10_shift 126 = some (.goto (-21), 3) := by decide +kernel
theorem kX10_shift_129 : cdOf kX10_shift 129 = some (.return_, 1) := by decide +kernel
set_option maxRecDepth 20000 in
theorem kX10_shift_ok : ∀ pc i len, cdOf kX10_shift pc = some (i, len) → decode cX10_shift pc = .ok (i, len) ∧ stOK 8 i = true ∧ jOK pc i = true ∧ eLen i len = true := cdOf_ok cX10_shift 8 kX10_shift (by decide +kernel)
def vtX10_shift : Nat → Option (Nat × eSp) := fun _ => none
def stX10_shift : Nat → Option (Nat × eSp) := fun _ => none
abbrev TX10_shift : eT := (fl_RX10, cl_RX10, dl_RX10, vtX10_shift, stX10_shift)
set_option maxRecDepth 20000 in
theorem caX10_shift : eCalls RX10 { frames := 0, cells := 0, slots := 0, locals := 0 } TX10_shift := by
  refine ⟨fun k n sp h => ?_, fun k n sp h => ?_⟩
  · cases h
  · cases h
set_option maxRecDepth 100000 in
set_option maxHeartbeats 4000000 in
theorem sX10_shift : eSafe TX10_shift (cdOf kX10_shift) 8 none SX10_shift := by
  intro K rt hK as M h
  obtain ⟨F, A, t, e, z, rfl, rfl, ht, h2, h1, he, h⟩ := h
  obtain ⟨n, hn, hg, hr, htop, hav, -, hz0, hge, hlt⟩ := rw_h h2
  obtain ⟨W, P, hP, hWP⟩ : ∃ W P : Nat, P < 28 ∧ e = 28 * W + P := ⟨e / 28, e % 28, by omega, by omega⟩
  have hW : W ≤ n := by
    rcases Nat.lt_or_ge n W with q | q
    · have a1 := bB_mono (show n ≤ W by omega)
      rw [bB_pow W] at a1
      have a2 : (2 : Int) ^ (28 * W) ≤ 2 ^ e := zb_ple (by omega)
      omega
    · exact q
  refine ⟨by simp [eE], ?_⟩
  have tail : ∀ (k : Nat) (g : Int → Int) (u v w : Option eV), k ≤ 600 → g 0 = k → lr g 1 k → vl g 1 k = z / 2 ^ e → K 105 [some (eR (1, t)), some (eI e), some (eI W), some (eI P), some (eI n), u, v, w] [] (cR F (uA A t g)) := by
    intro k
    induction k with
    | zero =>
      intro g u v w hk hg0 hr0 hv
      refine x_aload_n hK kX10_shift_105 (q := 106) rfl rfl ?_
      refine x_iconst hK kX10_shift_106 (q := 107) rfl ?_
      refine x_iaload hK kX10_shift_107 (q := 108) rfl (aX10_P ht (by refine ⟨?_, ?_⟩ <;> omega) ?_)
      rw [uA_g, hg0]
      refine x_if_le hK kX10_shift_108 (q := 111) rfl (tg := 129) rfl (by omega) (fun c108 => ?_) (fun c108 => ?_)
      · refine x_return_ hK kX10_shift_129 (by first | trivial | exact Or.inl rfl | exact Or.inr rfl) ?_
        refine h g ?_
        rw [← hv]
        exact rw_mk (by omega) hr0 (by rw [hg0]; rfl)
      · exact absurd c108 (by omega)
    | succ k ih =>
      intro g u v w hk hg0 hr0 hv
      have w0 := hr0 k (by omega)
      have e1 : (1 : Int) + k = ((k + 1 : Nat) : Int) := by omega
      rw [e1] at w0
      have b0 : bB = 268435456 := rfl
      refine x_aload_n hK kX10_shift_105 (q := 106) rfl rfl ?_
      refine x_iconst hK kX10_shift_106 (q := 107) rfl ?_
      refine x_iaload hK kX10_shift_107 (q := 108) rfl (aX10_P ht (by refine ⟨?_, ?_⟩ <;> omega) ?_)
      rw [uA_g, hg0]
      refine x_if_le hK kX10_shift_108 (q := 111) rfl (tg := 129) rfl (by omega) (fun c108 => ?_) (fun c108 => ?_)
      · exact absurd c108 (by omega)
      · refine x_aload_n hK kX10_shift_111 (q := 112) rfl rfl ?_
        refine x_aload_n hK kX10_shift_112 (q := 113) rfl rfl ?_
        refine x_iconst hK kX10_shift_113 (q := 114) rfl ?_
        refine x_iaload hK kX10_shift_114 (q := 115) rfl (aX10_P ht (by refine ⟨?_, ?_⟩ <;> omega) ?_)
        rw [uA_g, hg0]
        refine x_iaload hK kX10_shift_115 (q := 116) rfl (aX10_P ht (by omega) ?_)
        rw [uA_g]
        refine x_if_ne hK kX10_shift_116 (q := 119) rfl (tg := 129) rfl (by omega) (fun c116 => ?_) (fun c116 => ?_)
        · refine x_return_ hK kX10_shift_129 (by first | trivial | exact Or.inl rfl | exact Or.inr rfl) ?_
          refine h g ?_
          rw [← hv]
          refine rw_mk (by omega) hr0 ?_
          rw [hg0, tk, if_neg (by rw [e1]; exact c116)]
        · refine x_aload_n hK kX10_shift_119 (q := 120) rfl rfl ?_
          refine x_iconst hK kX10_shift_120 (q := 121) rfl ?_
          refine x_dup2 hK kX10_shift_121 (q := 122) rfl ?_
          refine x_iaload hK kX10_shift_122 (q := 123) rfl (aX10_P ht (by refine ⟨?_, ?_⟩ <;> omega) ?_)
          rw [uA_g, hg0]
          refine x_iconst hK kX10_shift_123 (q := 124) rfl ?_
          refine x_isub hK kX10_shift_124 (q := 125) rfl ?_
          refine x_iastore hK kX10_shift_125 (q := 126) rfl (yX10_P ht (by refine ⟨?_, ?_⟩ <;> omega) ?_)
          refine x_goto hK kX10_shift_126 (tg := 105) rfl ?_
          rw [uA_g, uA_u]
          have hz2 : vl g 1 (k + 1) = vl g 1 k := by rw [vl, e1, show g ((k + 1 : Nat) : Int) = 0 by omega]; simp
          refine ih _ _ _ _ (by omega) (by rw [uI_s]; omega) (lr_cong (hr0.sub (Nat.le_succ k)) (fun j hj => uI_n _ _ (by omega))) ?_
          rw [vl_cong (f := g) (fun j hj => uI_n _ _ (by omega)), ← hz2]
          exact hv
  have loop : ∀ (d k : Nat) (g : Int → Int) (u v : Option eV), k + W + d = n + 1 → 1 ≤ k → (∀ j : Nat, 1 ≤ j → j < k → g j = shl_ (A t) n W P j) → (∀ j : Nat, k ≤ j → g j = A t j) → K 18 [some (eR (1, t)), some (eI e), some (eI W), some (eI P), some (eI n), some (eI k), u, v] [] (cR F (uA A t g)) := by
    intro d
    induction d with
    | zero =>
      intro k g u v hk k1 hlo hhi
      refine x_iload hK kX10_shift_18 (q := 20) rfl rfl ?_
      refine x_iload_n hK kX10_shift_20 (q := 21) rfl rfl ?_
      refine x_iadd hK kX10_shift_21 (q := 22) rfl ?_
      refine x_iload hK kX10_shift_22 (q := 24) rfl rfl ?_
      refine x_icmp_gt hK kX10_shift_24 (q := 27) rfl (tg := 98) rfl (by refine ⟨?_, ?_⟩ <;> omega) (fun c24 => ?_) (fun c24 => ?_)
      · refine x_aload_n hK kX10_shift_98 (q := 99) rfl rfl ?_
        refine x_iconst hK kX10_shift_99 (q := 100) rfl ?_
        refine x_iload hK kX10_shift_100 (q := 102) rfl rfl ?_
        refine x_iload_n hK kX10_shift_102 (q := 103) rfl rfl ?_
        refine x_isub hK kX10_shift_103 (q := 104) rfl ?_
        refine x_iastore hK kX10_shift_104 (q := 105) rfl (yX10_P ht (by refine ⟨?_, ?_⟩ <;> omega) ?_)
        rw [uA_g, uA_u, show (n : Int) - W = ((n - W : Nat) : Int) by omega]
        have hl2 : ∀ j : Nat, 1 ≤ j → j + W ≤ n → uI g 0 ((n - W : Nat) : Int) j = shl_ (A t) n W P j := fun j a b => by rw [uI_n _ _ (by omega)]; exact hlo j a (by omega)
        refine tail (n - W) _ _ _ _ (by omega) (by rw [uI_s]) (fun j hj => ?_) ?_
        · rw [show (1 : Int) + (j : Int) = ((j + 1 : Nat) : Int) by omega, hl2 (j + 1) (by omega) (by omega)]
          have := (shl_r (g := A t) (n := n) (W := W) (P := P) (k := j + 1) hr (by omega) (by omega) hP).2.2
          exact this
        · rw [hWP]
          exact shl_v hr hW hP hav hl2
      · exact absurd c24 (by omega)
    | succ d ih =>
      intro k g u v hk k1 hlo hhi
      have b0 : bB = 268435456 := rfl
      obtain ⟨q1, q2, q3⟩ := shl_r (g := A t) (n := n) (W := W) (P := P) (k := k) hr k1 (by omega) hP
      have w0 := hr (k + W - 1) (by omega)
      rw [show (1 : Int) + ((k + W - 1 : Nat) : Int) = ((k + W : Nat) : Int) by omega] at w0
      have ek : (k : Int) + W = ((k + W : Nat) : Int) := by omega
      have ek1 : (k : Int) + W + 1 = ((k + W + 1 : Nat) : Int) := by omega
      have hlow : zUshr (A t ((k + W : Nat) : Int)) (P : Int) = A t ((k + W : Nat) : Int) / 2 ^ P := zUshr_n _ w0.1 (by omega) P (by omega)
      have next : ∀ (u v : Option eV), K 18 [some (eR (1, t)), some (eI e), some (eI W), some (eI P), some (eI n), some (eI (k + 1)), u, v] [] (cR F (uA A t (uI g k (shl_ (A t) n W P k)))) := by
        intro u v
        refine ih (k + 1) _ u v (by omega) (by omega) (fun j a b => ?_) (fun j a => ?_)
        · rcases Nat.lt_or_ge j k with c | c
          · rw [uI_n _ _ (by omega)]; exact hlo j a c
          · rw [show j = k by omega, uI_s]
        · rw [uI_n _ _ (by omega)]; exact hhi j (by omega)
      have val_a : ¬ k + W + 1 ≤ n → zOr 0 (A t ((k + W : Nat) : Int) / 2 ^ P) = shl_ (A t) n W P k := fun c => by
        unfold shl_ at q3 ⊢
        rw [if_neg c] at q3 ⊢
        rw [Int.zero_emod, Int.zero_mul, Int.add_zero] at q3 ⊢
        rw [zOr_0 _ (by constructor <;> omega)]
      have val_b : P = 0 → A t ((k + W : Nat) : Int) = shl_ (A t) n W P k := fun c => by
        unfold shl_
        rw [c]
        simp
      have val_c : k + W + 1 ≤ n → P ≠ 0 → zOr (A t ((k + W + 1 : Nat) : Int) * 2 ^ (28 - P) % 2 ^ 28) (A t ((k + W : Nat) : Int) / 2 ^ P) = shl_ (A t) n W P k := fun c c0 => by
        unfold shl_ at q3 ⊢
        rw [if_pos c] at q2 q3 ⊢
        have hvu : (2 : Int) ^ 28 = 2 ^ (28 - P) * 2 ^ P := by rw [← Int.pow_add, show 28 - P + P = 28 by omega]
        have e0 : A t ((k + W + 1 : Nat) : Int) * 2 ^ (28 - P) % 2 ^ 28 = A t ((k + W + 1 : Nat) : Int) % 2 ^ P * 2 ^ (28 - P) := by
          rw [hvu, Int.mul_comm (A t _), Int.mul_emod_mul_of_pos _ _ (Int.pow_pos (by decide)), Int.mul_comm]
        rw [e0, zOr_s _ _ (28 - P) (by omega) q2.1 q1.1 q1.2 (by omega)]
        omega
      refine x_iload hK kX10_shift_18 (q := 20) rfl rfl ?_
      refine x_iload_n hK kX10_shift_20 (q := 21) rfl rfl ?_
      refine x_iadd hK kX10_shift_21 (q := 22) rfl ?_
      refine x_iload hK kX10_shift_22 (q := 24) rfl rfl ?_
      refine x_icmp_gt hK kX10_shift_24 (q := 27) rfl (tg := 98) rfl (by refine ⟨?_, ?_⟩ <;> omega) (fun c24 => ?_) (fun c24 => ?_)
      · exact absurd c24 (by omega)
      · refine x_aload_n hK kX10_shift_27 (q := 28) rfl rfl ?_
        refine x_iload hK kX10_shift_28 (q := 30) rfl rfl ?_
        refine x_iload_n hK kX10_shift_30 (q := 31) rfl rfl ?_
        refine x_iadd hK kX10_shift_31 (q := 32) rfl ?_
        refine x_iaload hK kX10_shift_32 (q := 33) rfl (aX10_P ht (by refine ⟨?_, ?_⟩ <;> omega) ?_)
        rw [uA_g, ek, hhi _ (by omega)]
        refine x_iload_n hK kX10_shift_33 (q := 34) rfl rfl ?_
        refine x_iushr hK kX10_shift_34 (q := 35) rfl ?_
        rw [hlow]
        refine x_istore hK kX10_shift_35 (q := 37) rfl ?_
        refine x_iload hK kX10_shift_37 (q := 39) rfl rfl ?_
        refine x_iload_n hK kX10_shift_39 (q := 40) rfl rfl ?_
        refine x_iadd hK kX10_shift_40 (q := 41) rfl ?_
        refine x_iconst hK kX10_shift_41 (q := 42) rfl ?_
        refine x_iadd hK kX10_shift_42 (q := 43) rfl ?_
        refine x_iload hK kX10_shift_43 (q := 45) rfl rfl ?_
        simp only [lS, lS2, clr_0, clr_I, clr_L, clr_R]
        refine x_icmp_gt hK kX10_shift_45 (q := 48) rfl (tg := 67) rfl (by refine ⟨?_, ?_⟩ <;> omega) (fun c45 => ?_) (fun c45 => ?_)
        · have hn1 : ¬ k + W + 1 ≤ n := by omega
          refine x_iconst hK kX10_shift_67 (q := 68) rfl ?_
          refine x_istore hK kX10_shift_68 (q := 70) rfl ?_
          refine x_aload_n hK kX10_shift_70 (q := 71) rfl rfl ?_
          refine x_iload hK kX10_shift_71 (q := 73) rfl rfl ?_
          refine x_iload_n hK kX10_shift_73 (q := 74) rfl rfl ?_
          simp only [lS, lS2, clr_0, clr_I, clr_L, clr_R]
          refine x_if_ne hK kX10_shift_74 (q := 77) rfl (tg := 86) rfl (by omega) (fun c74 => ?_) (fun c74 => ?_)
          · have hP0 : P ≠ 0 := by omega
            refine x_iload hK kX10_shift_86 (q := 88) rfl rfl ?_
            refine x_iload hK kX10_shift_88 (q := 90) rfl rfl ?_
            refine x_ior hK kX10_shift_90 (q := 91) rfl ?_
            try rw [zOr_comm]
            refine x_iastore hK kX10_shift_91 (q := 92) rfl (yX10_P ht (by refine ⟨?_, ?_⟩ <;> omega) ?_)
            refine x_iinc hK kX10_shift_92 (q := 95) rfl rfl ?_
            simp only [lS, lS2, clr_0, clr_I, clr_L, clr_R]
            refine x_goto hK kX10_shift_95 (tg := 18) rfl ?_
            rw [uA_g, uA_u]
            first
              | (rw [val_a hn1]; exact next _ _)
              | (rw [val_c hn1 hP0]; exact next _ _)
              | (rw [val_b hP0]; exact next _ _)
          · have hP0 : P = 0 := by omega
            refine x_aload_n hK kX10_shift_77 (q := 78) rfl rfl ?_
            refine x_iload hK kX10_shift_78 (q := 80) rfl rfl ?_
            refine x_iload_n hK kX10_shift_80 (q := 81) rfl rfl ?_
            refine x_iadd hK kX10_shift_81 (q := 82) rfl ?_
            refine x_iaload hK kX10_shift_82 (q := 83) rfl (aX10_P ht (by refine ⟨?_, ?_⟩ <;> omega) ?_)
            rw [uA_g, ek, hhi _ (by omega)]
            refine x_goto hK kX10_shift_83 (tg := 91) rfl ?_
            try rw [zOr_comm]
            refine x_iastore hK kX10_shift_91 (q := 92) rfl (yX10_P ht (by refine ⟨?_, ?_⟩ <;> omega) ?_)
            refine x_iinc hK kX10_shift_92 (q := 95) rfl rfl ?_
            simp only [lS, lS2, clr_0, clr_I, clr_L, clr_R]
            refine x_goto hK kX10_shift_95 (tg := 18) rfl ?_
            rw [uA_g, uA_u]
            first
              | (rw [val_a hn1]; exact next _ _)
              | (rw [val_c hn1 hP0]; exact next _ _)
              | (rw [val_b hP0]; exact next _ _)
        · have hn1 : k + W + 1 ≤ n := by omega
          have w1 := hr (k + W) (by omega)
          rw [show (1 : Int) + ((k + W : Nat) : Int) = ((k + W + 1 : Nat) : Int) by omega] at w1
          refine x_aload_n hK kX10_shift_48 (q := 49) rfl rfl ?_
          refine x_iload hK kX10_shift_49 (q := 51) rfl rfl ?_
          refine x_iload_n hK kX10_shift_51 (q := 52) rfl rfl ?_
          refine x_iadd hK kX10_shift_52 (q := 53) rfl ?_
          refine x_iconst hK kX10_shift_53 (q := 54) rfl ?_
          refine x_iadd hK kX10_shift_54 (q := 55) rfl ?_
          refine x_iaload hK kX10_shift_55 (q := 56) rfl (aX10_P ht (by refine ⟨?_, ?_⟩ <;> omega) ?_)
          rw [uA_g, ek1, hhi _ (by omega)]
          refine x_bipush hK kX10_shift_56 (q := 58) rfl (by decide) ?_
          refine x_iload_n hK kX10_shift_58 (q := 59) rfl rfl ?_
          refine x_isub hK kX10_shift_59 (q := 60) rfl ?_
          refine x_ishl hK kX10_shift_60 (q := 61) rfl ?_
          refine x_ldc hK kX10_shift_61 (q := 63) rfl lc_RX10_98 ?_
          refine x_iand hK kX10_shift_63 (q := 64) rfl ?_
          rw [show (28 : Int) - P = ((28 - P : Nat) : Int) by omega, zShl_and _ _ _ (by omega), zAnd_m _ _ 28 (by decide) (by decide)]
          refine x_goto hK kX10_shift_64 (tg := 68) rfl ?_
          refine x_istore hK kX10_shift_68 (q := 70) rfl ?_
          refine x_aload_n hK kX10_shift_70 (q := 71) rfl rfl ?_
          refine x_iload hK kX10_shift_71 (q := 73) rfl rfl ?_
          refine x_iload_n hK kX10_shift_73 (q := 74) rfl rfl ?_
          simp only [lS, lS2, clr_0, clr_I, clr_L, clr_R]
          refine x_if_ne hK kX10_shift_74 (q := 77) rfl (tg := 86) rfl (by omega) (fun c74 => ?_) (fun c74 => ?_)
          · have hP0 : P ≠ 0 := by omega
            refine x_iload hK kX10_shift_86 (q := 88) rfl rfl ?_
            refine x_iload hK kX10_shift_88 (q := 90) rfl rfl ?_
            refine x_ior hK kX10_shift_90 (q := 91) rfl ?_
            try rw [zOr_comm]
            refine x_iastore hK kX10_shift_91 (q := 92) rfl (yX10_P ht (by refine ⟨?_, ?_⟩ <;> omega) ?_)
            refine x_iinc hK kX10_shift_92 (q := 95) rfl rfl ?_
            simp only [lS, lS2, clr_0, clr_I, clr_L, clr_R]
            refine x_goto hK kX10_shift_95 (tg := 18) rfl ?_
            rw [uA_g, uA_u]
            first
              | (rw [val_a hn1]; exact next _ _)
              | (rw [val_c hn1 hP0]; exact next _ _)
              | (rw [val_b hP0]; exact next _ _)
          · have hP0 : P = 0 := by omega
            refine x_aload_n hK kX10_shift_77 (q := 78) rfl rfl ?_
            refine x_iload hK kX10_shift_78 (q := 80) rfl rfl ?_
            refine x_iload_n hK kX10_shift_80 (q := 81) rfl rfl ?_
            refine x_iadd hK kX10_shift_81 (q := 82) rfl ?_
            refine x_iaload hK kX10_shift_82 (q := 83) rfl (aX10_P ht (by refine ⟨?_, ?_⟩ <;> omega) ?_)
            rw [uA_g, ek, hhi _ (by omega)]
            refine x_goto hK kX10_shift_83 (tg := 91) rfl ?_
            try rw [zOr_comm]
            refine x_iastore hK kX10_shift_91 (q := 92) rfl (yX10_P ht (by refine ⟨?_, ?_⟩ <;> omega) ?_)
            refine x_iinc hK kX10_shift_92 (q := 95) rfl rfl ?_
            simp only [lS, lS2, clr_0, clr_I, clr_L, clr_R]
            refine x_goto hK kX10_shift_95 (tg := 18) rfl ?_
            rw [uA_g, uA_u]
            first
              | (rw [val_a hn1]; exact next _ _)
              | (rw [val_c hn1 hP0]; exact next _ _)
              | (rw [val_b hP0]; exact next _ _)
  simp only [eLoc, eE, List.length_cons, List.length_nil, List.replicate, List.cons_append, List.nil_append, Nat.reduceAdd, Nat.reduceSub]
  refine x_iload_n hK kX10_shift_0 (q := 1) rfl rfl ?_
  refine x_bipush hK kX10_shift_1 (q := 3) rfl (by decide) ?_
  refine x_idiv hK kX10_shift_3 (q := 4) rfl (by refine ⟨?_, ?_, ?_⟩ <;> omega) ?_
  rw [Int.tdiv_eq_ediv_of_nonneg (by omega), show (e : Int) / 28 = (W : Int) by omega]
  refine x_istore_n hK kX10_shift_4 (q := 5) (jn := 2) rfl rfl ?_
  refine x_iload_n hK kX10_shift_5 (q := 6) rfl rfl ?_
  refine x_bipush hK kX10_shift_6 (q := 8) rfl (by decide) ?_
  refine x_irem hK kX10_shift_8 (q := 9) rfl (by refine ⟨?_, ?_, ?_⟩ <;> omega) ?_
  simp only [lS, lS2, clr_0, clr_I, clr_L, clr_R]
  rw [Int.tmod_eq_emod_of_nonneg (by omega), show (e : Int) % 28 = (P : Int) by omega]
  refine x_istore_n hK kX10_shift_9 (q := 10) (jn := 3) rfl rfl ?_
  refine x_aload_n hK kX10_shift_10 (q := 11) rfl rfl ?_
  refine x_iconst hK kX10_shift_11 (q := 12) rfl ?_
  refine x_iaload hK kX10_shift_12 (q := 13) rfl (aX10_P ht (by refine ⟨?_, ?_⟩ <;> omega) ?_)
  simp only [lS, lS2, clr_0, clr_I, clr_L, clr_R]
  rw [hg]
  refine x_istore hK kX10_shift_13 (q := 15) rfl ?_
  refine x_iconst hK kX10_shift_15 (q := 16) rfl ?_
  refine x_istore hK kX10_shift_16 (q := 18) rfl ?_
  simp only [lS, lS2, clr_0, clr_I, clr_L, clr_R]
  refine x_to (loop (n - W) 1 (A t) _ _ (by omega) (by omega) (fun j a b => absurd a (by omega)) (fun j a => rfl)) rfl rfl (by rw [uA_s])
set_option maxRecDepth 20000 in
theorem mX10_shift : eMet yX10_shift cX10_shift 8 none 0 0 SX10_shift := eMet_of (by decide +kernel) sX10_shift kX10_shift_ok caX10_shift tb_RX10
theorem wX10_shift : eWS yX10_shift cX10_shift 8 none 2 := ⟨(gW_at 1115 (by decide +kernel) rfl), (gW_at 89 (by decide +kernel) rfl), (gW_at 1114 (by decide +kernel) rfl), by decide +kernel⟩
