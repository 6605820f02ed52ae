/-! Wholes: widen, setGap, add. -/
/-- limbs, and 0 above -/
def gx (f : Int → Int) (n : Nat) : Int → Int := fun i : Int => if i < (n : Int) then f i else 0
theorem gx_v {f : Int → Int} {n m : Nat} (h : n ≤ m) : vL (gx f n) m = vL f n := vL_x h
theorem gx_r {f : Int → Int} {n : Nat} (h : lR f n) (i : Nat) : 0 ≤ gx f n i ∧ gx f n i < 2147483648 := by
  unfold gx
  split
  · exact h i (by omega)
  · decide
theorem gx_a {f : Int → Int} {n : Nat} {i : Int} (h : i < n) : gx f n i = f i := if_pos h
theorem gx_b {f : Int → Int} {n : Nat} {i : Int} (h : ¬ i < n) : gx f n i = 0 := if_neg h
theorem m31 (a : Int) : zAndL a 2147483647 = a % 2147483648 := zAndL_m a 2147483647 31 (by decide) (by decide)
theorem s31 {a : Int} (h : w64 a) : zShrL a 31 = a / 2147483648 := zShrL_n a h 31 (by decide)
theorem vL_up {f : Int → Int} {n : Nat} (x : Int) : vL (uI f n x) (n + 1) = vL f n + x * cB ^ n := by
  rw [vL, uI_s, vL_cong (f := f) (fun k hk => uI_n _ _ (by omega))]
theorem lR_up {f : Int → Int} {n : Nat} {x : Int} (h : lR f n) (hx : 0 ≤ x ∧ x < 2147483648) : lR (uI f n x) (n + 1) := fun k hk => by
  rcases Nat.lt_or_ge k n with q | q
  · rw [uI_n _ _ (by omega)]; exact h k q
  · rw [show k = n by omega, uI_s]; exact hx
theorem vL_top {f : Int → Int} {n : Nat} (h : lR f (n + 1)) (hv : cB ^ n ≤ vL f (n + 1)) : f n ≠ 0 := fun q => by
  have h1 := vL_lt (h.sub (Nat.le_succ n))
  have e : vL f (n + 1) = vL f n + f n * cB ^ n := rfl
  rw [q] at e
  omega
theorem zSg_mul {s x : Int} (hs : s = 1 ∨ s = -1) (hx : 0 < x) : zSg (s * x) = s ∧ zAbs (s * x) = x := by
  rcases hs with rfl | rfl
  · rw [Int.one_mul]
    rcases zSg_c x with g | g | g <;> omega
  · rw [show -1 * x = -x by omega]
    rcases zSg_c (-x) with g | g | g <;> omega
-- widen
def SX8_widen : eSp := fun as M rt => ∃ (F : Nat → Int) (A W : Nat → Int → Int) (k j : Nat) (z y : Int), as = [eR (2, k), eR (2, j)] ∧ M = cC F A W ∧ (k < 332) ∧ (j < 332) ∧ (j ≠ k) ∧ (wq (lw k) (W k) z) ∧ (wq (lw j) (W j) y) ∧ (z ≠ 0) ∧ (zAbs z + zAbs y < cB ^ lw k) ∧ (∀ f, wq (lw k) f (zSg z * (zAbs z + zAbs y)) → rt none (cC F A (uA W k f)))
theorem SX8_widen_i {F : Nat → Int} {A W : Nat → Int → Int} {k j : Nat} {z y : Int} {rt : Option eV → eM → Prop} (hk : k < 332) (hj : j < 332) (hn : j ≠ k) (hz : wq (lw k) (W k) z) (hy : wq (lw j) (W j) y) (h0 : z ≠ 0) (hb : zAbs z + zAbs y < cB ^ lw k) (h : ∀ f, wq (lw k) f (zSg z * (zAbs z + zAbs y)) → rt none (cC F A (uA W k f))) : SX8_widen [eR (2, k), eR (2, j)] (cC F A W) rt := ⟨F, A, W, k, j, z, y, rfl, rfl, hk, hj, hn, hz, hy, h0, hb, h⟩
theorem SX8_widen_r : ∀ as M rt, SX8_widen as M rt → ∃ a r fs, as = eR a :: r ∧ M a = some (.inl (7, fs)) := by
  rintro as M rt ⟨F, A, W, k, j, z, y, rfl, rfl, hk, -⟩
  exact ⟨_, _, _, rfl, cC_2 hk⟩
def kX8_widen : List (Nat × Jvm.ClassFile.Instr × Nat) := [(0, .aload_n 0, 1), (1, .getfield 9, 3), (4, .aload_n 1, 1), (5, .getfield 9, 3), (8, .if_icmp .ge 10, 3), (11, .aload_n 1, 1), (12, .getfield 9, 3), (15, .goto 7, 3), (18, .aload_n 0, 1), (19, .getfield 9, 3), (22, .istore_n 2, 1), (23, .iload_n 2, 1), (24, .aload_n 0, 1), (25, .getfield 22, 3), (28, .arraylength, 1), (29, .if_icmp .ge 7, 3), (32, .iload_n 2, 1), (33, .goto 8, 3), (36, .aload_n 0, 1), (37, .getfield 22, 3), (40, .arraylength, 1), (41, .istore_n 3, 1), (42, .lconst 0, 1), (43, .lstore 4, 2), (45, .iconst 0, 1), (46, .istore 6, 2), (48, .iload 6, 2), (50, .iload_n 3, 1), (51, .if_icmp .ge 106, 3), (54, .iload 6, 2), (56, .aload_n 0, 1), (57, .getfield 22, 3), (60, .arraylength, 1), (61, .if_icmp .ge 96, 3), (64, .iload 6, 2), (66, .aload_n 0, 1), (67, .getfield 9, 3), (70, .if_icmp .ge 14, 3), (73, .aload_n 0, 1), (74, .getfield 22, 3), (77, .iload 6, 2), (79, .iaload, 1), (80, .i2l, 1), (81, .goto 4, 3), (84, .lconst 0, 1), (85, .lstore 7, 2), (87, .iload 6, 2), (89, .aload_n 1, 1), (90, .getfield 9, 3), (93, .if_icmp .ge 24, 3), (96, .iload 6, 2), (98, .aload_n 1, 1), (99, .getfield 22, 3), (102, .arraylength, 1), (103, .if_icmp .ge 14, 3), (106, .aload_n 1, 1), (107, .getfield 22, 3), (110, .iload 6, 2), (112, .iaload, 1), (113, .i2l, 1), (114, .goto 4, 3), (117, .lconst 0, 1), (118, .lstore 9, 2), (120, .lload 7, 2), (122, .lload 9, 2), (124, .ladd, 1), (125, .lload 4, 2), (127, .ladd, 1), (128, .lstore 11, 2), (130, .aload_n 0, 1), (131, .getfield 22, 3), (134, .iload 6, 2), (136, .lload 11, 2), (138, .ldc2_w 43, 3), (141, .land, 1), (142, .l2i, 1), (143, .iastore, 1), (144, .lload 11, 2), (146, .bipush 31, 2), (148, .lshr, 1), (149, .lstore 4, 2), (151, .iinc 6 1, 3), (154, .goto (-106), 3), (157, .lload 4, 2), (159, .lconst 0, 1), (160, .lcmp, 1), (161, .ifCond .eq 24, 3), (164, .iload_n 3, 1), (165, .aload_n 0, 1), (166, .getfield 22, 3), (169, .arraylength, 1), (170, .if_icmp .ge 15, 3), (173, .aload_n 0, 1), (174, .getfield 22, 3), (177, .iload_n 3, 1), (178, .lload 4, 2), (180, .l2i, 1), (181, .iastore, 1), (182, .iinc 3 1, 3), (185, .aload_n 0, 1), (186, .iload_n 3, 1), (187, .putfield 9, 3), (190, .return_, 1)]
theorem kX8_widen_0 : cdOf kX8_widen 0 = some (.aload_n 0, 1) := by decide +kernel
theorem kX8_widen_1 : cdOf kX8_widen 1 = some (.getfield 9, 3) := by decide +kernel
theorem kX8_widen_4 : cdOf kX8_widen 4 = some (.aload_n 1, 1) := by decide +kernel
theorem kX8_widen_5 : cdOf kX8_widen 5 = some (.getfield 9, 3) := by decide +kernel
theorem kX8_widen_8 : cdOf kX8_widen 8 = some (.if_icmp .ge 10, 3) := by decide +kernel
theorem kX8_widen_11 : cdOf kX8_widen 11 = some (.aload_n 1, 1) := by decide +kernel
theorem kX8_widen_12 : cdOf kX8_widen 12 = some (.getfield 9, 3) := by decide +kernel
theorem kX8_widen_15 : cdOf kX8_widen 15 = some (.goto 7, 3) := by decide +kernel
theorem kX8_widen_18 : cdOf kX8_widen 18 = some (.aload_n 0, 1) := by decide +kernel
theorem kX8_widen_19 : cdOf kX8_widen 19 = some (.getfield 9, 3) := by decide +kernel
theorem kX8_widen_22 : cdOf kX8_widen 22 = some (.istore_n 2, 1) := by decide +kernel
theorem kX8_widen_23 : cdOf kX8_widen 23 = some (.iload_n 2, 1) := by decide +kernel
theorem kX8_widen_24 : cdOf kX8_widen 24 = some (.aload_n 0, 1) := by decide +kernel
theorem kX8_widen_25 : cdOf kX8_widen 25 = some (.getfield 22, 3) := by decide +kernel
theorem kX8_widen_28 : cdOf kX8_widen 28 = some (.arraylength, 1) := by decide +kernel
theorem kX8_widen_29 : cdOf kX8_widen 29 = some (.if_icmp .ge 7, 3) := by decide +kernel
theorem kX8_widen_32 : cdOf kX8_widen 32 = some (.iload_n 2, 1) := by decide +kernel
theorem kX8_widen_33 : cdOf kX8_widen 33 = some (.goto 8, 3) := by decide +kernel
theorem kX8_widen_36 : cdOf kX8_widen 36 = some (.aload_n 0, 1) := by decide +kernel
theorem kX8_widen_37 : cdOf kX8_widen 37 = some (.getfield 22, 3) := by decide +kernel
theorem kX8_widen_40 : cdOf kX8_widen 40 = some (.arraylength, 1) := by decide +kernel
theorem kX8_widen_41 : cdOf kX8_widen 41 = some (.istore_n 3, 1) := by decide +kernel
theorem kX8_widen_42 : cdOf kX8_widen 42 = some (.lconst 0, 1) := by decide +kernel
theorem kX8_widen_43 : cdOf kX8_widen 43 = some (.lstore 4, 2) := by decide +kernel
theorem kX8_widen_45 : cdOf kX8_widen 45 = some (.iconst 0, 1) := by decide +kernel
theorem kX8_widen_46 : cdOf kX8_widen 46 = some (.istore 6, 2) := by decide +kernel
theorem kX8_widen_48 : cdOf kX8_widen 48 = some (.iload 6, 2) := by decide +kernel
theorem kX8_widen_50 : cdOf kX8_widen 50 = some (.iload_n 3, 1) := by decide +kernel
theorem kX8_widen_51 : cdOf kX8_widen 51 = some (.if_icmp .ge 106, 3) := by decide +kernel
theorem kX8_widen_54 : cdOf kX8_widen 54 = some (.iload 6, 2) := by decide +kernel
theorem kX8_widen_56 : cdOf kX8_widen 56 = some (.aload_n 0, 1) := by decide +kernel
theorem kX8_widen_57 : cdOf kX8_widen 57 = some (.getfield 22, 3) := by decide +kernel
theorem kX8_widen_60 : cdOf kX8_widen 60 = some (.arraylength, 1) := by decide +kernel
theorem kX8_widen_61 : cdOf kX8_widen 61 = some (.if_icmp .ge 96, 3) := by decide +kernel
theorem kX8_widen_64 : cdOf kX8_widen 64 = some (.iload 6, 2) := by decide +kernel
theorem kX8_widen_66 : cdOf kX8_widen 66 = some (.aload_n 0, 1) := by decide +kernel
theorem kX8_widen_67 : cdOf kX8_widen 67 = some (.getfield 9, 3) := by decide +kernel
theorem kX8_widen_70 : cdOf kX8_widen 70 = some (.if_icmp .ge 14, 3) := by decide +kernel
theorem kX8_widen_73 : cdOf kX8_widen 73 = some (.aload_n 0, 1) := by decide +kernel
theorem kX8_widen_74 : cdOf kX8_widen 74 = some (.getfield 22, 3) := by decide +kernel
theorem kX8_widen_77 : cdOf kX8_widen 77 = some (.iload 6, 2) := by decide +kernel
theorem kX8_widen_79 : cdOf kX8_widen 79 = some (.iaload, 1) := by decide +kernel
theorem kX8_widen_80 : cdOf kX8_widen 80 = some (.i2l, 1) := by decide +kernel
theorem kX8_widen_81 : cdOf kX8_widen 81 = some (.goto 4, 3) := by decide +kernel
theorem kX8_widen_84 : cdOf kX8_widen 84 = some (.lconst 0, 1) := by decide +kernel
theorem kX8_widen_85 : cdOf kX8_widen 85 = some (.lstore 7, 2) := by decide +kernel
theorem kX8_widen_87 : cdOf kX8_widen 87 = some (.iload 6, 2) := by decide +kernel
theorem kX8_widen_89 : cdOf kX8_widen 89 = some (.aload_n 1, 1) := by decide +kernel
theorem kX8_widen_90 : cdOf kX8_widen 90 = some (.getfield 9, 3) := by decide +kernel
theorem kX8_widen_93 : cdOf kX8_widen 93 = some (.if_icmp .ge 24, 3) := by decide +kernel
theorem kX8_widen_96 : cdOf kX8_widen 96 = some (.iload 6, 2) := by decide +kernel
theorem kX8_widen_98 : cdOf kX8_widen 98 = some (.aload_n 1, 1) := by decide +kernel
theorem kX8_widen_99 : cdOf kX8_widen 99 = some (.getfield 22, 3) := by decide +kernel
theorem kX8_widen_102 : cdOf kX8_widen 102 = some (.arraylength, 1) := by decide +kernel
theorem kX8_widen_103 : cdOf kX8_widen 103 = some (.if_icmp .ge 14, 3) := by decide +kernel
theorem kX8_widen_106 : cdOf kX8_widen 106 = some (.aload_n 1, 1) := by decide +kernel
theorem kX8_widen_107 : cdOf kX8_widen 107 = some (.getfield 22, 3) := by decide +kernel
theorem kX8_widen_110 : cdOf kX8_widen 110 = some (.iload 6, 2) := by decide +kernel
theorem kX8_widen_112 : cdOf kX8_widen 112 = some (.iaload, 1) := by decide +kernel
theorem kX8_widen_113 : cdOf kX8_widen 113 = some (.i2l, 1) := by decide +kernel
theorem kX8_widen_114 : cdOf kX8_widen 114 = some (.goto 4, 3) := by decide +kernel
theorem kX8_widen_117 : cdOf kX8_widen 117 = some (.lconst 0, 1) := by decide +kernel
theorem kX8_widen_118 : cdOf kX8_widen 118 = some (.lstore 9, 2) := by decide +kernel
theorem kX8_widen_120 : cdOf kX8_widen 120 = some (.lload 7, 2) := by decide +kernel
theorem kX8_widen_122 : cdOf kX8_widen 122 = some (.lload 9, 2) := by decide +kernel
theorem kX8_widen_124 : cdOf kX8_widen 124 = some (.ladd, 1) := by decide +kernel
theorem kX8_widen_125 : cdOf kX8_widen 125 = some (.lload 4, 2) := by decide +kernel
theorem kX8_widen_127 : cdOf kX8_widen 127 = some (.ladd, 1) := by decide +kernel
theorem kX8_widen_128 : cdOf kX8_widen 128 = some (.lstore 11, 2) := by decide +kernel
theorem kX8_widen_130 : cdOf kX8_widen 130 = some (.aload_n 0, 1) := by decide +kernel
theorem kX8_widen_131 : cdOf kX8_widen 131 = some (.getfield 22, 3) := by decide +kernel
theorem kX8_widen_134 : cdOf kX8_widen 134 = some (.iload 6, 2) := by decide +kernel
theorem kX8_widen_136 : cdOf kX8_widen 136 = some (.lload 11, 2) := by decide +kernel
theorem kX8_widen_138 : cdOf kX8_widen 138 = some (.ldc2_w 43, 3) := by decide +kernel
theorem kX8_widen_141 : cdOf kX8_widen 141 = some (.land, 1) := by decide +kernel
theorem kX8_widen_142 : cdOf kX8_widen 142 = some (.l2i, 1) := by decide +kernel
theorem kX8_widen_143 : cdOf kX8_widen 143 = some (.iastore, 1) := by decide +kernel
theorem kX8_widen_144 : cdOf kX8_widen 144 = some (.lload 11, 2) := by decide +kernel
theorem kX8_widen_146 : cdOf kX8_widen 146 = some (.bipush 31, 2) := by decide +kernel
theorem kX8_widen_148 : cdOf kX8_widen 148 = some (.lshr, 1) := by decide +kernel
theorem kX8_widen_149 : cdOf kX8_widen 149 = some (.lstore 4, 2) := by decide +kernel
theorem kX8_widen_151 : cdOf kX8_widen 151 = some (.iinc 6 1, 3) := by decide +kernel
theorem kX8_widen_154 : cdOf kX8_widen 154 = some (.goto (-106), 3) := by decide +kernel
theorem kX8_widen_157 : cdOf kX8_widen 157 = some (.lload 4, 2) := by decide +kernel
theorem kX8_widen_159 : cdOf kX8_widen 159 = some (.lconst 0, 1) := by decide +kernel
theorem kX8_widen_160 : cdOf kX8_widen 160 = some (.lcmp, 1) := by decide +kernel
theorem kX8_widen_161 : cdOf kX8_widen 161 = some (.ifCond .eq 24, 3) := by decide +kernel
theorem kX8_widen_164 : cdOf kX8_widen 164 = some (.iload_n 3, 1) := by decide +kernel
theorem kX8_widen_165 : cdOf kX8_widen 165 = some (.aload_n 0, 1) := by decide +kernel
theorem kX8_widen_166 : cdOf kX8_widen 166 = some (.getfield 22, 3) := by decide +kernel
theorem kX8_widen_169 : cdOf kX8_widen 169 = some (.arraylength, 1) := by decide +kernel
theorem kX8_widen_170 : cdOf kX8_widen 170 = some (.if_icmp .ge 15, 3) := by decide +kernel
theorem kX8_widen_173 : cdOf kX8_widen 173 = some (.aload_n 0, 1) := by decide +kernel
theorem kX8_widen_174 : cdOf kX8_widen 174 = some (.getfield 22, 3) := by decide +kernel
theorem kX8_widen_177 : cdOf kX8_widen 177 = some (.iload_n 3, 1) := by decide +kernel
theorem kX8_widen_178 : cdOf kX8_widen 178 = some (.lload 4, 2) := by decide +kernel
theorem kX8_widen_180 : cdOf kX8_widen 180 = some (.l2i, 1) := by decide +kernel
theorem kX8_widen_181 : cdOf kX8_widen 181 = some (.iastore, 1) := by decide +kernel
theorem kX8_widen_182 : cdOf kX8_widen 182 = some (.iinc 3 1, 3) := by decide +kernel
theorem kX8_widen_185 : cdOf kX8_widen 185 = some (.aload_n 0, 1) := by decide +kernel
theorem kX8_widen_186 : cdOf kX8_widen 186 = some (.iload_n 3, 1) := by decide +kernel
theorem kX8_widen_187 : cdOf kX8_widen 187 = some (.putfield 9, 3) := by decide +kernel
theorem kX8_widen_190 : cdOf kX8_widen 190 = some (.return_, 1) := by decide +kernel
set_option maxRecDepth 20000 in
theorem kX8_widen_ok : ∀ pc i len, cdOf kX8_widen pc = some (i, len) → decode cX8_widen pc = .ok (i, len) ∧ stOK 13 i = true ∧ jOK pc i = true ∧ eLen i len = true := cdOf_ok cX8_widen 13 kX8_widen (by decide +kernel)
def vtX8_widen : Nat → Option (Nat × eSp) := fun _ => none
def stX8_widen : Nat → Option (Nat × eSp) := fun _ => none
abbrev TX8_widen : eT := (fl_RX8, cl_RX8, dl_RX8, vtX8_widen, stX8_widen)
set_option maxRecDepth 20000 in
theorem caX8_widen : eCalls RX8 { frames := 0, cells := 0, slots := 0, locals := 0 } TX8_widen := by
  refine ⟨fun k n sp h => ?_, fun k n sp h => ?_⟩
  · cases h
  · cases h
set_option maxRecDepth 100000 in
set_option maxHeartbeats 4000000 in
theorem sX8_widen : eSafe TX8_widen (cdOf kX8_widen) 13 none SX8_widen := by
  intro K rt hK as M h
  obtain ⟨F, A, W, k, j, z, y, rfl, rfl, hk, hj, hn, hz, hy, h0, hb, h⟩ := h
  refine ⟨by simp [eE], ?_⟩
  obtain ⟨n, a, b, c, d, e1, e2⟩ := hz
  obtain ⟨m, a', b', c', d', f1, f2⟩ := hy
  have hn' := wq_n c d e1
  have hm := wq_n c' d' f1
  have lk := lw_b k
  have lj := lw_b j
  have ya := zAbs_0 y
  have mk : m ≤ lw k := nl_le hm.2.2 (by have := zAbs_0 z; omega)
  have at_ : ∀ f, uA W k f j = W j := fun f => uA_n _ _ hn
  have sg : zSg z = 1 ∨ zSg z = -1 := by rcases zSg_c z with g | g | g <;> omega
  have za : 0 < zAbs z := by rcases zSg_c z with g | g | g <;> omega
  obtain ⟨L, hL⟩ : ∃ L : Nat, max n m = L := ⟨_, rfl⟩
  have Ln : n ≤ L ∧ m ≤ L ∧ L ≤ lw k ∧ (L = n ∨ L = m) := by omega
  have n0 : 0 < n := by
    rcases Nat.eq_zero_or_pos n with q | q
    · exact absurd (hn'.1.mpr q) h0
    · exact q
  have big : cB ^ (L - 1) ≤ zAbs z + zAbs y := by
    rcases Ln.2.2.2 with q | q
    · rw [q]
      have := hn'.2.2 n0
      omega
    · rw [q]
      have := hm.2.2 (by omega)
      omega
  have sgm := zSg_mul sg (show 0 < zAbs z + zAbs y by omega)
  have gz := gx_v (f := W k) Ln.1
  have gy := gx_v (f := W j) Ln.2.1
  have loop : ∀ (d i : Nat) (f : Int → Int) (cr : Int) (u2 u7 u9 u11 : Option eV), i + d = L → (∀ t : Int, i ≤ t → f t = W k t) → lR f i → (cr = 0 ∨ cr = 1) → vL f i + cr * cB ^ i = vL (gx (W k) n) i + vL (gx (W j) m) i →
      K 48 [some (eR (2, k)), some (eR (2, j)), u2, some (eI L), some (eL cr), none, some (eI i), u7, none, u9, none, u11, none] [] (cC F A (uA W k f)) := by
    intro d
    induction d with
    | zero =>
      intro i f cr u2 u7 u9 u11 hd he hr hc hv
      have : i = L := by omega
      subst this
      rw [gz, gy, e1, f1] at hv
      have f81 : f 81 = zSg z := by rw [he 81 (by omega)]; exact e2
      have fin0 : cr = 0 → rt none (cC F A (uA W k (uI f 80 i))) := fun cr0 => by
        subst cr0
        refine h _ ⟨i, Ln.2.2.1, uI_s _ _ _, lR_cong hr (fun t ht => uI_n _ _ (by omega)), fun q => ?_, ?_, ?_⟩
        · rw [uI_n _ _ (by omega)]
          obtain ⟨i', rfl⟩ : ∃ i', i = i' + 1 := ⟨i - 1, by omega⟩
          rw [show ((i' + 1 : Nat) : Int) - 1 = i' by omega]
          exact vL_top hr (by rw [show i' + 1 - 1 = i' by omega] at big; omega)
        · rw [vL_cong (f := f) (fun t ht => uI_n _ _ (by omega)), sgm.2]
          omega
        · rw [uI_n _ _ (by decide), f81, sgm.1]
      have i80 : cr = 1 → i < lw k := fun c1 => by
        subst c1
        have := vL_nn hr
        rcases Nat.lt_or_ge i (lw k) with q | q
        · exact q
        · have i80 : i = lw k := by omega
          subst i80
          omega
      have fin1 : cr = 1 → rt none (cC F A (uA W k (uI (uI f i cr) 80 (i + 1)))) := fun cr1 => by
        have i80 := i80 cr1
        subst cr1
        refine h _ ⟨i + 1, by omega, by rw [uI_s]; rfl, lR_cong (lR_up hr ⟨by decide, by decide⟩) (fun t ht => uI_n _ _ (by omega)), fun q => ?_, ?_, ?_⟩
        · rw [uI_n _ _ (by omega), show ((i + 1 : Nat) : Int) - 1 = i by omega, uI_s]
          decide
        · rw [vL_cong (f := uI f i 1) (fun t ht => uI_n _ _ (by omega)), vL_up, sgm.2]
          omega
        · rw [uI_n _ _ (by decide), uI_n _ _ (by omega), f81, sgm.1]
      refine x_iload hK kX8_widen_48 (q := 50) rfl rfl ?_
      refine x_iload_n hK kX8_widen_50 (q := 51) rfl rfl ?_
      refine x_icmp_ge hK kX8_widen_51 (q := 54) rfl (tg := 157) rfl (by refine ⟨?_, ?_⟩ <;> omega) (fun c51 => ?_) (fun c51 => ?_)
      · refine x_lload hK kX8_widen_157 (q := 159) rfl rfl ?_
        refine x_lconst0 hK kX8_widen_159 (q := 160) rfl ?_
        refine x_lcmp hK kX8_widen_160 (q := 161) rfl (by refine ⟨⟨by omega, by omega⟩, by decide⟩) ?_
        refine x_ifc_eq hK kX8_widen_161 (q := 164) rfl (tg := 185) rfl (fun c161 => ?_) (fun c161 => ?_)
        · refine x_aload_n hK kX8_widen_185 (q := 186) rfl rfl ?_
          refine x_iload_n hK kX8_widen_186 (q := 187) rfl rfl ?_
          refine x_putfield hK kX8_widen_187 (q := 190) rfl (pX8_9 ?_)
          rw [uA_g]
          first | rw [uA_u] | skip
          refine x_return_ hK kX8_widen_190 (by first | trivial | exact Or.inl rfl | exact Or.inr rfl) ?_
          first | exact fin0 (by omega) | exact fin1 (by omega)
        · refine x_iload_n hK kX8_widen_164 (q := 165) rfl rfl ?_
          refine x_aload_n hK kX8_widen_165 (q := 166) rfl rfl ?_
          refine x_getfield hK kX8_widen_166 (q := 169) rfl (gX8_22 ?_)
          refine x_arraylength hK kX8_widen_169 (q := 170) rfl (nC7_0 ?_)
          refine x_icmp_ge hK kX8_widen_170 (q := 173) rfl (tg := 185) rfl (by refine ⟨?_, ?_⟩ <;> omega) (fun c170 => ?_) (fun c170 => ?_)
          · exfalso; have := i80 (by omega); omega
          · refine x_aload_n hK kX8_widen_173 (q := 174) rfl rfl ?_
            refine x_getfield hK kX8_widen_174 (q := 177) rfl (gX8_22 ?_)
            refine x_iload_n hK kX8_widen_177 (q := 178) rfl rfl ?_
            refine x_lload hK kX8_widen_178 (q := 180) rfl rfl ?_
            refine x_l2i hK kX8_widen_180 (q := 181) rfl ?_
            refine x_iastore hK kX8_widen_181 (q := 182) rfl (yC7_0 (by refine ⟨?_, ?_⟩ <;> omega) ?_)
            rw [uA_g, uA_u]
            refine x_iinc hK kX8_widen_182 (q := 185) rfl rfl ?_
            refine x_aload_n hK kX8_widen_185 (q := 186) rfl rfl ?_
            refine x_iload_n hK kX8_widen_186 (q := 187) rfl rfl ?_
            refine x_putfield hK kX8_widen_187 (q := 190) rfl (pX8_9 ?_)
            simp only [lS, lS2, clr_0, clr_I, clr_L, clr_R]
            rw [uA_g]
            first | rw [uA_u] | skip
            refine x_return_ hK kX8_widen_190 (by first | trivial | exact Or.inl rfl | exact Or.inr rfl) ?_
            first | exact fin0 (by omega) | exact fin1 (by omega)
      · exfalso; omega
    | succ d ih =>
      intro i f cr u2 u7 u9 u11 hd he hr hc hv
      have r1 := gx_r c i
      have r2 := gx_r c' i
      have f80 : f 80 = n := by rw [he 80 (by omega)]; exact b
      have fi : f i = W k i := he i (by omega)
      have stp : ∀ (u7 u9 u11 : Option eV), K 48 [some (eR (2, k)), some (eR (2, j)), u2, some (eI L), some (eL ((gx (W k) n i + gx (W j) m i + cr) / 2147483648)), none, some (eI ((i + 1 : Nat) : Int)), u7, none, u9, none, u11, none] [] (cC F A (uA W k (uI f i ((gx (W k) n i + gx (W j) m i + cr) % 2147483648)))) := fun u7 u9 u11 => by
        refine ih (i + 1) _ _ u2 u7 u9 u11 (by omega) (fun t ht => by rw [uI_n _ _ (by omega)]; exact he t (by omega)) (lR_up hr (by omega)) (by omega) ?_
        have q1 : vL (gx (W k) n) (i + 1) = vL (gx (W k) n) i + gx (W k) n i * cB ^ i := rfl
        have q2 : vL (gx (W j) m) (i + 1) = vL (gx (W j) m) i + gx (W j) m i * cB ^ i := rfl
        rw [vL_up, q1, q2, cB_succ]
        have q3 : gx (W k) n i + gx (W j) m i + cr = (gx (W k) n i + gx (W j) m i + cr) / 2147483648 * 2147483648 + (gx (W k) n i + gx (W j) m i + cr) % 2147483648 := by omega
        generalize gx (W k) n i = X at *
        generalize gx (W j) m i = Y at *
        generalize (X + Y + cr) / 2147483648 = Q at *
        generalize (X + Y + cr) % 2147483648 = R at *
        generalize cB ^ i = P at *
        show vL f i + R * P + Q * (P * 2147483648) = _
        have : cr = Q * 2147483648 + R - X - Y := by omega
        subst this
        grind
      refine x_iload hK kX8_widen_48 (q := 50) rfl rfl ?_
      refine x_iload_n hK kX8_widen_50 (q := 51) rfl rfl ?_
      refine x_icmp_ge hK kX8_widen_51 (q := 54) rfl (tg := 157) rfl (by refine ⟨?_, ?_⟩ <;> omega) (fun c51 => ?_) (fun c51 => ?_)
      · exfalso; omega
      · refine x_iload hK kX8_widen_54 (q := 56) rfl rfl ?_
        refine x_aload_n hK kX8_widen_56 (q := 57) rfl rfl ?_
        refine x_getfield hK kX8_widen_57 (q := 60) rfl (gX8_22 ?_)
        refine x_arraylength hK kX8_widen_60 (q := 61) rfl (nC7_0 ?_)
        refine x_icmp_ge hK kX8_widen_61 (q := 64) rfl (tg := 157) rfl (by refine ⟨?_, ?_⟩ <;> omega) (fun c61 => ?_) (fun c61 => ?_)
        · exfalso; omega
        · refine x_iload hK kX8_widen_64 (q := 66) rfl rfl ?_
          refine x_aload_n hK kX8_widen_66 (q := 67) rfl rfl ?_
          refine x_getfield hK kX8_widen_67 (q := 70) rfl (gX8_9 ?_)
          rw [uA_g, f80]
          refine x_icmp_ge hK kX8_widen_70 (q := 73) rfl (tg := 84) rfl (by refine ⟨?_, ?_⟩ <;> omega) (fun c70 => ?_) (fun c70 => ?_)
          · have z1 : gx (W k) n i = 0 := gx_b (by omega)
            refine x_lconst0 hK kX8_widen_84 (q := 85) rfl ?_
            first | skip | (rw [← z1])
            refine x_lstore hK kX8_widen_85 (q := 87) rfl ?_
            refine x_iload hK kX8_widen_87 (q := 89) rfl rfl ?_
            refine x_aload_n hK kX8_widen_89 (q := 90) rfl rfl ?_
            refine x_getfield hK kX8_widen_90 (q := 93) rfl (gX8_9 ?_)
            simp only [lS, lS2, clr_0, clr_I, clr_L, clr_R]
            rw [at_, b']
            refine x_icmp_ge hK kX8_widen_93 (q := 96) rfl (tg := 117) rfl (by refine ⟨?_, ?_⟩ <;> omega) (fun c93 => ?_) (fun c93 => ?_)
            · have z2 : gx (W j) m i = 0 := gx_b (by omega)
              refine x_lconst0 hK kX8_widen_117 (q := 118) rfl ?_
              refine x_lstore hK kX8_widen_118 (q := 120) rfl ?_
              refine x_lload hK kX8_widen_120 (q := 122) rfl rfl ?_
              refine x_lload hK kX8_widen_122 (q := 124) rfl rfl ?_
              refine x_ladd hK kX8_widen_124 (q := 125) rfl ?_
              refine x_lload hK kX8_widen_125 (q := 127) rfl rfl ?_
              refine x_ladd hK kX8_widen_127 (q := 128) rfl ?_
              refine x_lstore hK kX8_widen_128 (q := 130) rfl ?_
              refine x_aload_n hK kX8_widen_130 (q := 131) rfl rfl ?_
              refine x_getfield hK kX8_widen_131 (q := 134) rfl (gX8_22 ?_)
              refine x_iload hK kX8_widen_134 (q := 136) rfl rfl ?_
              refine x_lload hK kX8_widen_136 (q := 138) rfl rfl ?_
              refine x_ldc2_w hK kX8_widen_138 (q := 141) rfl lc2_RX8_43 ?_
              refine x_land hK kX8_widen_141 (q := 142) rfl ?_
              simp only [lS, lS2, clr_0, clr_I, clr_L, clr_R]
              rw [m31]
              refine x_l2i hK kX8_widen_142 (q := 143) rfl ?_
              refine x_iastore hK kX8_widen_143 (q := 144) rfl (yC7_0 (by refine ⟨?_, ?_⟩ <;> omega) ?_)
              refine x_lload hK kX8_widen_144 (q := 146) rfl rfl ?_
              refine x_bipush hK kX8_widen_146 (q := 148) rfl (by decide) ?_
              refine x_lshr hK kX8_widen_148 (q := 149) rfl ?_
              rw [s31 ⟨by omega, by omega⟩]
              refine x_lstore hK kX8_widen_149 (q := 151) rfl ?_
              simp only [lS, lS2, clr_0, clr_I, clr_L, clr_R]
              rw [uA_g, uA_u]
              refine x_iinc hK kX8_widen_151 (q := 154) rfl rfl ?_
              simp only [lS, lS2, clr_0, clr_I, clr_L, clr_R]
              refine x_goto hK kX8_widen_154 (tg := 48) rfl ?_
              first | exact x_to (stp _ _ _) rfl rfl rfl | (rw [z2] at stp; exact x_to (stp _ _ _) rfl rfl rfl) | (rw [z1] at stp; exact x_to (stp _ _ _) rfl rfl rfl) | (rw [z1, z2] at stp; exact x_to (stp _ _ _) rfl rfl rfl)
            · refine x_iload hK kX8_widen_96 (q := 98) rfl rfl ?_
              refine x_aload_n hK kX8_widen_98 (q := 99) rfl rfl ?_
              refine x_getfield hK kX8_widen_99 (q := 102) rfl (gX8_22 ?_)
              refine x_arraylength hK kX8_widen_102 (q := 103) rfl (nC7_0 ?_)
              refine x_icmp_ge hK kX8_widen_103 (q := 106) rfl (tg := 117) rfl (by refine ⟨?_, ?_⟩ <;> omega) (fun c103 => ?_) (fun c103 => ?_)
              · exfalso; omega
              · refine x_aload_n hK kX8_widen_106 (q := 107) rfl rfl ?_
                refine x_getfield hK kX8_widen_107 (q := 110) rfl (gX8_22 ?_)
                refine x_iload hK kX8_widen_110 (q := 112) rfl rfl ?_
                refine x_iaload hK kX8_widen_112 (q := 113) rfl (aC7_0 (by refine ⟨?_, ?_⟩ <;> omega) ?_)
                rw [at_, ← gx_a (f := W j) (n := m) (show (i : Int) < m by omega)]
                refine x_i2l hK kX8_widen_113 (q := 114) rfl (by omega) ?_
                refine x_goto hK kX8_widen_114 (tg := 118) rfl ?_
                refine x_lstore hK kX8_widen_118 (q := 120) rfl ?_
                refine x_lload hK kX8_widen_120 (q := 122) rfl rfl ?_
                refine x_lload hK kX8_widen_122 (q := 124) rfl rfl ?_
                refine x_ladd hK kX8_widen_124 (q := 125) rfl ?_
                refine x_lload hK kX8_widen_125 (q := 127) rfl rfl ?_
                refine x_ladd hK kX8_widen_127 (q := 128) rfl ?_
                refine x_lstore hK kX8_widen_128 (q := 130) rfl ?_
                refine x_aload_n hK kX8_widen_130 (q := 131) rfl rfl ?_
                refine x_getfield hK kX8_widen_131 (q := 134) rfl (gX8_22 ?_)
                refine x_iload hK kX8_widen_134 (q := 136) rfl rfl ?_
                refine x_lload hK kX8_widen_136 (q := 138) rfl rfl ?_
                refine x_ldc2_w hK kX8_widen_138 (q := 141) rfl lc2_RX8_43 ?_
                refine x_land hK kX8_widen_141 (q := 142) rfl ?_
                simp only [lS, lS2, clr_0, clr_I, clr_L, clr_R]
                rw [m31]
                refine x_l2i hK kX8_widen_142 (q := 143) rfl ?_
                refine x_iastore hK kX8_widen_143 (q := 144) rfl (yC7_0 (by refine ⟨?_, ?_⟩ <;> omega) ?_)
                refine x_lload hK kX8_widen_144 (q := 146) rfl rfl ?_
                refine x_bipush hK kX8_widen_146 (q := 148) rfl (by decide) ?_
                refine x_lshr hK kX8_widen_148 (q := 149) rfl ?_
                rw [s31 ⟨by omega, by omega⟩]
                refine x_lstore hK kX8_widen_149 (q := 151) rfl ?_
                simp only [lS, lS2, clr_0, clr_I, clr_L, clr_R]
                rw [uA_g, uA_u]
                refine x_iinc hK kX8_widen_151 (q := 154) rfl rfl ?_
                simp only [lS, lS2, clr_0, clr_I, clr_L, clr_R]
                refine x_goto hK kX8_widen_154 (tg := 48) rfl ?_
                first | exact x_to (stp _ _ _) rfl rfl rfl | (rw [z2] at stp; exact x_to (stp _ _ _) rfl rfl rfl) | (rw [z1] at stp; exact x_to (stp _ _ _) rfl rfl rfl) | (rw [z1, z2] at stp; exact x_to (stp _ _ _) rfl rfl rfl)
          · refine x_aload_n hK kX8_widen_73 (q := 74) rfl rfl ?_
            refine x_getfield hK kX8_widen_74 (q := 77) rfl (gX8_22 ?_)
            refine x_iload hK kX8_widen_77 (q := 79) rfl rfl ?_
            refine x_iaload hK kX8_widen_79 (q := 80) rfl (aC7_0 (by refine ⟨?_, ?_⟩ <;> omega) ?_)
            rw [uA_g, fi, ← gx_a (f := W k) (n := n) (show (i : Int) < n by omega)]
            refine x_i2l hK kX8_widen_80 (q := 81) rfl (by omega) ?_
            refine x_goto hK kX8_widen_81 (tg := 85) rfl ?_
            first | skip | (rw [← z1])
            refine x_lstore hK kX8_widen_85 (q := 87) rfl ?_
            refine x_iload hK kX8_widen_87 (q := 89) rfl rfl ?_
            refine x_aload_n hK kX8_widen_89 (q := 90) rfl rfl ?_
            refine x_getfield hK kX8_widen_90 (q := 93) rfl (gX8_9 ?_)
            simp only [lS, lS2, clr_0, clr_I, clr_L, clr_R]
            rw [at_, b']
            refine x_icmp_ge hK kX8_widen_93 (q := 96) rfl (tg := 117) rfl (by refine ⟨?_, ?_⟩ <;> omega) (fun c93 => ?_) (fun c93 => ?_)
            · have z2 : gx (W j) m i = 0 := gx_b (by omega)
              refine x_lconst0 hK kX8_widen_117 (q := 118) rfl ?_
              refine x_lstore hK kX8_widen_118 (q := 120) rfl ?_
              refine x_lload hK kX8_widen_120 (q := 122) rfl rfl ?_
              refine x_lload hK kX8_widen_122 (q := 124) rfl rfl ?_
              refine x_ladd hK kX8_widen_124 (q := 125) rfl ?_
              refine x_lload hK kX8_widen_125 (q := 127) rfl rfl ?_
              refine x_ladd hK kX8_widen_127 (q := 128) rfl ?_
              refine x_lstore hK kX8_widen_128 (q := 130) rfl ?_
              refine x_aload_n hK kX8_widen_130 (q := 131) rfl rfl ?_
              refine x_getfield hK kX8_widen_131 (q := 134) rfl (gX8_22 ?_)
              refine x_iload hK kX8_widen_134 (q := 136) rfl rfl ?_
              refine x_lload hK kX8_widen_136 (q := 138) rfl rfl ?_
              refine x_ldc2_w hK kX8_widen_138 (q := 141) rfl lc2_RX8_43 ?_
              refine x_land hK kX8_widen_141 (q := 142) rfl ?_
              simp only [lS, lS2, clr_0, clr_I, clr_L, clr_R]
              rw [m31]
              refine x_l2i hK kX8_widen_142 (q := 143) rfl ?_
              refine x_iastore hK kX8_widen_143 (q := 144) rfl (yC7_0 (by refine ⟨?_, ?_⟩ <;> omega) ?_)
              refine x_lload hK kX8_widen_144 (q := 146) rfl rfl ?_
              refine x_bipush hK kX8_widen_146 (q := 148) rfl (by decide) ?_
              refine x_lshr hK kX8_widen_148 (q := 149) rfl ?_
              rw [s31 ⟨by omega, by omega⟩]
              refine x_lstore hK kX8_widen_149 (q := 151) rfl ?_
              simp only [lS, lS2, clr_0, clr_I, clr_L, clr_R]
              rw [uA_g, uA_u]
              refine x_iinc hK kX8_widen_151 (q := 154) rfl rfl ?_
              simp only [lS, lS2, clr_0, clr_I, clr_L, clr_R]
              refine x_goto hK kX8_widen_154 (tg := 48) rfl ?_
              first | exact x_to (stp _ _ _) rfl rfl rfl | (rw [z2] at stp; exact x_to (stp _ _ _) rfl rfl rfl) | (rw [z1] at stp; exact x_to (stp _ _ _) rfl rfl rfl) | (rw [z1, z2] at stp; exact x_to (stp _ _ _) rfl rfl rfl)
            · refine x_iload hK kX8_widen_96 (q := 98) rfl rfl ?_
              refine x_aload_n hK kX8_widen_98 (q := 99) rfl rfl ?_
              refine x_getfield hK kX8_widen_99 (q := 102) rfl (gX8_22 ?_)
              refine x_arraylength hK kX8_widen_102 (q := 103) rfl (nC7_0 ?_)
              refine x_icmp_ge hK kX8_widen_103 (q := 106) rfl (tg := 117) rfl (by refine ⟨?_, ?_⟩ <;> omega) (fun c103 => ?_) (fun c103 => ?_)
              · exfalso; omega
              · refine x_aload_n hK kX8_widen_106 (q := 107) rfl rfl ?_
                refine x_getfield hK kX8_widen_107 (q := 110) rfl (gX8_22 ?_)
                refine x_iload hK kX8_widen_110 (q := 112) rfl rfl ?_
                refine x_iaload hK kX8_widen_112 (q := 113) rfl (aC7_0 (by refine ⟨?_, ?_⟩ <;> omega) ?_)
                rw [at_, ← gx_a (f := W j) (n := m) (show (i : Int) < m by omega)]
                refine x_i2l hK kX8_widen_113 (q := 114) rfl (by omega) ?_
                refine x_goto hK kX8_widen_114 (tg := 118) rfl ?_
                refine x_lstore hK kX8_widen_118 (q := 120) rfl ?_
                refine x_lload hK kX8_widen_120 (q := 122) rfl rfl ?_
                refine x_lload hK kX8_widen_122 (q := 124) rfl rfl ?_
                refine x_ladd hK kX8_widen_124 (q := 125) rfl ?_
                refine x_lload hK kX8_widen_125 (q := 127) rfl rfl ?_
                refine x_ladd hK kX8_widen_127 (q := 128) rfl ?_
                refine x_lstore hK kX8_widen_128 (q := 130) rfl ?_
                refine x_aload_n hK kX8_widen_130 (q := 131) rfl rfl ?_
                refine x_getfield hK kX8_widen_131 (q := 134) rfl (gX8_22 ?_)
                refine x_iload hK kX8_widen_134 (q := 136) rfl rfl ?_
                refine x_lload hK kX8_widen_136 (q := 138) rfl rfl ?_
                refine x_ldc2_w hK kX8_widen_138 (q := 141) rfl lc2_RX8_43 ?_
                refine x_land hK kX8_widen_141 (q := 142) rfl ?_
                simp only [lS, lS2, clr_0, clr_I, clr_L, clr_R]
                rw [m31]
                refine x_l2i hK kX8_widen_142 (q := 143) rfl ?_
                refine x_iastore hK kX8_widen_143 (q := 144) rfl (yC7_0 (by refine ⟨?_, ?_⟩ <;> omega) ?_)
                refine x_lload hK kX8_widen_144 (q := 146) rfl rfl ?_
                refine x_bipush hK kX8_widen_146 (q := 148) rfl (by decide) ?_
                refine x_lshr hK kX8_widen_148 (q := 149) rfl ?_
                rw [s31 ⟨by omega, by omega⟩]
                refine x_lstore hK kX8_widen_149 (q := 151) rfl ?_
                simp only [lS, lS2, clr_0, clr_I, clr_L, clr_R]
                rw [uA_g, uA_u]
                refine x_iinc hK kX8_widen_151 (q := 154) rfl rfl ?_
                simp only [lS, lS2, clr_0, clr_I, clr_L, clr_R]
                refine x_goto hK kX8_widen_154 (tg := 48) rfl ?_
                first | exact x_to (stp _ _ _) rfl rfl rfl | (rw [z2] at stp; exact x_to (stp _ _ _) rfl rfl rfl) | (rw [z1] at stp; exact x_to (stp _ _ _) rfl rfl rfl) | (rw [z1, z2] at stp; exact x_to (stp _ _ _) rfl rfl rfl)
  simp only [eLoc, eE, List.length_cons, List.length_nil, List.replicate, List.cons_append, List.nil_append, Nat.reduceAdd, Nat.reduceSub]
  refine x_aload_n hK kX8_widen_0 (q := 1) rfl rfl ?_
  refine x_getfield hK kX8_widen_1 (q := 4) rfl (gX8_9 ?_)
  refine x_aload_n hK kX8_widen_4 (q := 5) rfl rfl ?_
  refine x_getfield hK kX8_widen_5 (q := 8) rfl (gX8_9 ?_)
  refine x_icmp_ge hK kX8_widen_8 (q := 11) rfl (tg := 18) rfl (by refine ⟨⟨by omega, by omega⟩, ⟨by omega, by omega⟩⟩) (fun c8 => ?_) (fun c8 => ?_)
  · refine x_aload_n hK kX8_widen_18 (q := 19) rfl rfl ?_
    refine x_getfield hK kX8_widen_19 (q := 22) rfl (gX8_9 ?_)
    refine x_istore_n hK kX8_widen_22 (q := 23) (jn := 2) rfl rfl ?_
    refine x_iload_n hK kX8_widen_23 (q := 24) rfl rfl ?_
    refine x_aload_n hK kX8_widen_24 (q := 25) rfl rfl ?_
    refine x_getfield hK kX8_widen_25 (q := 28) rfl (gX8_22 ?_)
    refine x_arraylength hK kX8_widen_28 (q := 29) rfl (nC7_0 ?_)
    simp only [lS, lS2, clr_0, clr_I, clr_L, clr_R]
    refine x_icmp_ge hK kX8_widen_29 (q := 32) rfl (tg := 36) rfl (by refine ⟨?_, ?_⟩ <;> omega) (fun c29 => ?_) (fun c29 => ?_)
    · refine x_aload_n hK kX8_widen_36 (q := 37) rfl rfl ?_
      refine x_getfield hK kX8_widen_37 (q := 40) rfl (gX8_22 ?_)
      refine x_arraylength hK kX8_widen_40 (q := 41) rfl (nC7_0 ?_)
      first | rw [show (lw k : Int) = L by omega] | rw [show W j 80 = L by omega] | rw [show W k 80 = L by omega]
      refine x_istore_n hK kX8_widen_41 (q := 42) (jn := 3) rfl rfl ?_
      refine x_lconst0 hK kX8_widen_42 (q := 43) rfl ?_
      refine x_lstore hK kX8_widen_43 (q := 45) rfl ?_
      refine x_iconst hK kX8_widen_45 (q := 46) rfl ?_
      refine x_istore hK kX8_widen_46 (q := 48) rfl ?_
      simp only [lS, lS2, clr_0, clr_I, clr_L, clr_R]
      exact x_to (loop L 0 (W k) 0 _ none none none (by omega) (fun t ht => rfl) (fun i hi => absurd hi (by omega)) (Or.inl rfl) rfl) rfl rfl (by rw [uA_s])
    · refine x_iload_n hK kX8_widen_32 (q := 33) rfl rfl ?_
      refine x_goto hK kX8_widen_33 (tg := 41) rfl ?_
      first | rw [show (lw k : Int) = L by omega] | rw [show W j 80 = L by omega] | rw [show W k 80 = L by omega]
      refine x_istore_n hK kX8_widen_41 (q := 42) (jn := 3) rfl rfl ?_
      refine x_lconst0 hK kX8_widen_42 (q := 43) rfl ?_
      refine x_lstore hK kX8_widen_43 (q := 45) rfl ?_
      refine x_iconst hK kX8_widen_45 (q := 46) rfl ?_
      refine x_istore hK kX8_widen_46 (q := 48) rfl ?_
      simp only [lS, lS2, clr_0, clr_I, clr_L, clr_R]
      exact x_to (loop L 0 (W k) 0 _ none none none (by omega) (fun t ht => rfl) (fun i hi => absurd hi (by omega)) (Or.inl rfl) rfl) rfl rfl (by rw [uA_s])
  · refine x_aload_n hK kX8_widen_11 (q := 12) rfl rfl ?_
    refine x_getfield hK kX8_widen_12 (q := 15) rfl (gX8_9 ?_)
    refine x_goto hK kX8_widen_15 (tg := 22) rfl ?_
    refine x_istore_n hK kX8_widen_22 (q := 23) (jn := 2) rfl rfl ?_
    refine x_iload_n hK kX8_widen_23 (q := 24) rfl rfl ?_
    refine x_aload_n hK kX8_widen_24 (q := 25) rfl rfl ?_
    refine x_getfield hK kX8_widen_25 (q := 28) rfl (gX8_22 ?_)
    refine x_arraylength hK kX8_widen_28 (q := 29) rfl (nC7_0 ?_)
    simp only [lS, lS2, clr_0, clr_I, clr_L, clr_R]
    refine x_icmp_ge hK kX8_widen_29 (q := 32) rfl (tg := 36) rfl (by refine ⟨?_, ?_⟩ <;> omega) (fun c29 => ?_) (fun c29 => ?_)
    · refine x_aload_n hK kX8_widen_36 (q := 37) rfl rfl ?_
      refine x_getfield hK kX8_widen_37 (q := 40) rfl (gX8_22 ?_)
      refine x_arraylength hK kX8_widen_40 (q := 41) rfl (nC7_0 ?_)
      first | rw [show (lw k : Int) = L by omega] | rw [show W j 80 = L by omega] | rw [show W k 80 = L by omega]
      refine x_istore_n hK kX8_widen_41 (q := 42) (jn := 3) rfl rfl ?_
      refine x_lconst0 hK kX8_widen_42 (q := 43) rfl ?_
      refine x_lstore hK kX8_widen_43 (q := 45) rfl ?_
      refine x_iconst hK kX8_widen_45 (q := 46) rfl ?_
      refine x_istore hK kX8_widen_46 (q := 48) rfl ?_
      simp only [lS, lS2, clr_0, clr_I, clr_L, clr_R]
      exact x_to (loop L 0 (W k) 0 _ none none none (by omega) (fun t ht => rfl) (fun i hi => absurd hi (by omega)) (Or.inl rfl) rfl) rfl rfl (by rw [uA_s])
    · refine x_iload_n hK kX8_widen_32 (q := 33) rfl rfl ?_
      refine x_goto hK kX8_widen_33 (tg := 41) rfl ?_
      first | rw [show (lw k : Int) = L by omega] | rw [show W j 80 = L by omega] | rw [show W k 80 = L by omega]
      refine x_istore_n hK kX8_widen_41 (q := 42) (jn := 3) rfl rfl ?_
      refine x_lconst0 hK kX8_widen_42 (q := 43) rfl ?_
      refine x_lstore hK kX8_widen_43 (q := 45) rfl ?_
      refine x_iconst hK kX8_widen_45 (q := 46) rfl ?_
      refine x_istore hK kX8_widen_46 (q := 48) rfl ?_
      simp only [lS, lS2, clr_0, clr_I, clr_L, clr_R]
      exact x_to (loop L 0 (W k) 0 _ none none none (by omega) (fun t ht => rfl) (fun i hi => absurd hi (by omega)) (Or.inl rfl) rfl) rfl rfl (by rw [uA_s])
set_option maxRecDepth 20000 in
theorem mX8_widen : eMet yX8_widen cX8_widen 13 none 0 0 SX8_widen := eMet_of (by decide +kernel) sX8_widen kX8_widen_ok caX8_widen tb_RX8
theorem wX8_widen : eWV yX8_widen cX8_widen 13 none 2 7 SX8_widen := ⟨(gW_at 542 (by decide +kernel) rfl), (gW_at 81 (by decide +kernel) rfl), (gW_at 541 (by decide +kernel) rfl), ⟨_, rfl, (gW_at 13 (by decide +kernel) rfl)⟩, by decide +kernel, SX8_widen_r⟩
