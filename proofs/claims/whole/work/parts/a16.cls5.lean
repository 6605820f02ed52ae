/-! Wholes: setGap, add. -/
def wu (L : Nat) (f : Int → Int) (d s : Int) : Prop := ∃ n : Nat, n ≤ L ∧ f 80 = n ∧ lR f n ∧ (0 < n → f ((n : Int) - 1) ≠ 0) ∧ vL f n = d ∧ f 81 = (if n = 0 then 0 else s)
theorem wu_wq {L : Nat} {f : Int → Int} {d s z : Int} (h : wu L f d s) (hd : zAbs z = d) (hs : z ≠ 0 → zSg z = s) : wq L f z := by
  obtain ⟨n, a, b, c, e, e1, e2⟩ := h
  have hn := wq_n (z := z) c e (by rw [e1, hd])
  refine ⟨n, a, b, c, e, by rw [e1, hd], ?_⟩
  rw [e2]
  rcases Nat.eq_zero_or_pos n with q | q
  · rw [if_pos q, hn.1.mpr q]
    rfl
  · rw [if_neg (by omega), hs (fun g => by have := hn.1.mp g; omega)]
def SX8_setGap : eSp := fun as M rt => ∃ (F : Nat → Int) (A W : Nat → Int → Int) (k a b : Nat) (z y : Int), as = [eR (2, k), eR (2, a), eR (2, b)] ∧ M = cC F A W ∧ (k < 332) ∧ (a < 332) ∧ (b < 332) ∧ (wq (lw a) (W a) z) ∧ (wq (lw b) (W b) y) ∧ (zAbs z < cB ^ lw k) ∧ (zAbs y ≤ zAbs z) ∧ (w32 (W k 81)) ∧ (∀ f, wu (lw k) f (zAbs z - zAbs y) (W k 81) → rt none (cC F A (uA W k f)))
theorem SX8_setGap_i {F : Nat → Int} {A W : Nat → Int → Int} {k a b : Nat} {z y : Int} {rt : Option eV → eM → Prop} (hk : k < 332) (ha : a < 332) (hb : b < 332) (hz : wq (lw a) (W a) z) (hy : wq (lw b) (W b) y) (hfit : zAbs z < cB ^ lw k) (hle : zAbs y ≤ zAbs z) (h8 : w32 (W k 81)) (h : ∀ f, wu (lw k) f (zAbs z - zAbs y) (W k 81) → rt none (cC F A (uA W k f))) : SX8_setGap [eR (2, k), eR (2, a), eR (2, b)] (cC F A W) rt := ⟨F, A, W, k, a, b, z, y, rfl, rfl, hk, ha, hb, hz, hy, hfit, hle, h8, h⟩
theorem SX8_setGap_r : ∀ as M rt, SX8_setGap as M rt → ∃ a r fs, as = eR a :: r ∧ M a = some (.inl (7, fs)) := by
  rintro as M rt ⟨F, A, W, k, a, b, z, y, rfl, rfl, hk, -⟩
  exact ⟨_, _, _, rfl, cC_2 hk⟩
def kX8_setGap : List (Nat × Jvm.ClassFile.Instr × Nat) := [(0, .aload_n 1, 1), (1, .getfield 9, 3), (4, .aload_n 0, 1), (5, .getfield 22, 3), (8, .arraylength, 1), (9, .if_icmp .ge 10, 3), (12, .aload_n 1, 1), (13, .getfield 9, 3), (16, .goto 8, 3), (19, .aload_n 0, 1), (20, .getfield 22, 3), (23, .arraylength, 1), (24, .istore_n 3, 1), (25, .aload_n 2, 1), (26, .getfield 9, 3), (29, .aload_n 2, 1), (30, .getfield 22, 3), (33, .arraylength, 1), (34, .if_icmp .ge 10, 3), (37, .aload_n 2, 1), (38, .getfield 9, 3), (41, .goto 8, 3), (44, .aload_n 2, 1), (45, .getfield 22, 3), (48, .arraylength, 1), (49, .istore 4, 2), (51, .lconst 0, 1), (52, .lstore 5, 2), (54, .iconst 0, 1), (55, .istore 7, 2), (57, .iload 7, 2), (59, .iload_n 3, 1), (60, .if_icmp .ge 90, 3), (63, .iload 7, 2), (65, .aload_n 0, 1), (66, .getfield 22, 3), (69, .arraylength, 1), (70, .if_icmp .ge 80, 3), (73, .iload 7, 2), (75, .aload_n 1, 1), (76, .getfield 22, 3), (79, .arraylength, 1), (80, .if_icmp .ge 70, 3), (83, .aload_n 1, 1), (84, .getfield 22, 3), (87, .iload 7, 2), (89, .iaload, 1), (90, .i2l, 1), (91, .iload 7, 2), (93, .iload 4, 2), (95, .if_icmp .ge 13, 3), (98, .aload_n 2, 1), (99, .getfield 22, 3), (102, .iload 7, 2), (104, .iaload, 1), (105, .goto 4, 3), (108, .iconst 0, 1), (109, .i2l, 1), (110, .lsub, 1), (111, .lload 5, 2), (113, .lsub, 1), (114, .lstore 8, 2), (116, .lload 8, 2), (118, .lconst 0, 1), (119, .lcmp, 1), (120, .ifCond .ge 7, 3), (123, .lconst 1, 1), (124, .goto 4, 3), (127, .lconst 0, 1), (128, .lstore 5, 2), (130, .aload_n 0, 1), (131, .getfield 22, 3), (134, .iload 7, 2), (136, .lload 8, 2), (138, .ldc2_w 43, 3), (141, .land, 1), (142, .l2i, 1), (143, .iastore, 1), (144, .iinc 7 1, 3), (147, .goto (-90), 3), (150, .iload_n 3, 1), (151, .ifCond .le 29, 3), (154, .iload_n 3, 1), (155, .aload_n 0, 1), (156, .getfield 22, 3), (159, .arraylength, 1), (160, .if_icmp .gt 20, 3), (163, .aload_n 0, 1), (164, .getfield 22, 3), (167, .iload_n 3, 1), (168, .iconst 1, 1), (169, .isub, 1), (170, .iaload, 1), (171, .ifCond .ne 9, 3), (174, .iinc 3 (-1), 3), (177, .goto (-27), 3), (180, .aload_n 0, 1), (181, .iload_n 3, 1), (182, .putfield 9, 3), (185, .aload_n 0, 1), (186, .iload_n 3, 1), (187, .ifCond .ne 7, 3), (190, .iconst 0, 1), (191, .goto 7, 3), (194, .aload_n 0, 1), (195, .getfield 13, 3), (198, .putfield 13, 3), (201, .return_, 1)]
theorem kX8_setGap_0 : cdOf kX8_setGap 0 = some (.aload_n 1, 1) := by decide +kernel
theorem kX8_setGap_1 : cdOf kX8_setGap 1 = some (.getfield 9, 3) := by decide +kernel
theorem kX8_setGap_4 : cdOf kX8_setGap 4 = some (.aload_n 0, 1) := by decide +kernel
theorem kX8_setGap_5 : cdOf kX8_setGap 5 = some (.getfield 22, 3) := by decide +kernel
theorem kX8_setGap_8 : cdOf kX8_setGap 8 = some (.arraylength, 1) := by decide +kernel
theorem kX8_setGap_9 : cdOf kX8_setGap 9 = some (.if_icmp .ge 10, 3) := by decide +kernel
theorem kX8_setGap_12 : cdOf kX8_setGap 12 = some (.aload_n 1, 1) := by decide +kernel
theorem kX8_setGap_13 : cdOf kX8_setGap 13 = some (.getfield 9, 3) := by decide +kernel
theorem kX8_setGap_16 : cdOf kX8_setGap 16 = some (.goto 8, 3) := by decide +kernel
theorem kX8_setGap_19 : cdOf kX8_setGap 19 = some (.aload_n 0, 1) := by decide +kernel
theorem kX8_setGap_20 : cdOf kX8_setGap 20 = some (.getfield 22, 3) := by decide +kernel
theorem kX8_setGap_23 : cdOf kX8_setGap 23 = some (.arraylength, 1) := by decide +kernel
theorem kX8_setGap_24 : cdOf kX8_setGap 24 = some (.istore_n 3, 1) := by decide +kernel
theorem kX8_setGap_25 : cdOf kX8_setGap 25 = some (.aload_n 2, 1) := by decide +kernel
theorem kX8_setGap_26 : cdOf kX8_setGap 26 = some (.getfield 9, 3) := by decide +kernel
theorem kX8_setGap_29 : cdOf kX8_setGap 29 = some (.aload_n 2, 1) := by decide +kernel
theorem kX8_setGap_30 : cdOf kX8_setGap 30 = some (.getfield 22, 3) := by decide +kernel
theorem kX8_setGap_33 : cdOf kX8_setGap 33 = some (.arraylength, 1) := by decide +kernel
theorem kX8_setGap_34 : cdOf kX8_setGap 34 = some (.if_icmp .ge 10, 3) := by decide +kernel
theorem kX8_setGap_37 : cdOf kX8_setGap 37 = some (.aload_n 2, 1) := by decide +kernel
theorem kX8_setGap_38 : cdOf kX8_setGap 38 = some (.getfield 9, 3) := by decide +kernel
theorem kX8_setGap_41 : cdOf kX8_setGap 41 = some (.goto 8, 3) := by decide +kernel
theorem kX8_setGap_44 : cdOf kX8_setGap 44 = some (.aload_n 2, 1) := by decide +kernel
theorem kX8_setGap_45 : cdOf kX8_setGap 45 = some (.getfield 22, 3) := by decide +kernel
theorem kX8_setGap_48 : cdOf kX8_setGap 48 = some (.arraylength, 1) := by decide +kernel
theorem kX8_setGap_49 : cdOf kX8_setGap 49 = some (.istore 4, 2) := by decide +kernel
theorem kX8_setGap_51 : cdOf kX8_setGap 51 = some (.lconst 0, 1) := by decide +kernel
theorem kX8_setGap_52 : cdOf kX8_setGap 52 = some (.lstore 5, 2) := by decide +kernel
theorem kX8_setGap_54 : cdOf kX8_setGap 54 = some (.iconst 0, 1) := by decide +kernel
theorem kX8_setGap_55 : cdOf kX8_setGap 55 = some (.istore 7, 2) := by decide +kernel
theorem kX8_setGap_57 : cdOf kX8_setGap 57 = some (.iload 7, 2) := by decide +kernel
theorem kX8_setGap_59 : cdOf kX8_setGap 59 = some (.iload_n 3, 1) := by decide +kernel
theorem kX8_setGap_60 : cdOf kX8_setGap 60 = some (.if_icmp .ge 90, 3) := by decide +kernel
theorem kX8_setGap_63 : cdOf kX8_setGap 63 = some (.iload 7, 2) := by decide +kernel
theorem kX8_setGap_65 : cdOf kX8_setGap 65 = some (.aload_n 0, 1) := by decide +kernel
theorem kX8_setGap_66 : cdOf kX8_setGap 66 = some (.getfield 22, 3) := by decide +kernel
theorem kX8_setGap_69 : cdOf kX8_setGap 69 = some (.arraylength, 1) := by decide +kernel
theorem kX8_setGap_70 : cdOf kX8_setGap 70 = some (.if_icmp .ge 80, 3) := by decide +kernel
theorem kX8_setGap_73 : cdOf kX8_setGap 73 = some (.iload 7, 2) := by decide +kernel
theorem kX8_setGap_75 : cdOf kX8_setGap 75 = some (.aload_n 1, 1) := by decide +kernel
theorem kX8_setGap_76 : cdOf kX8_setGap 76 = some (.getfield 22, 3) := by decide +kernel
theorem kX8_setGap_79 : cdOf kX8_setGap 79 = some (.arraylength, 1) := by decide +kernel
theorem kX8_setGap_80 : cdOf kX8_setGap 80 = some (.if_icmp .ge 70, 3) := by decide +kernel
theorem kX8_setGap_83 : cdOf kX8_setGap 83 = some (.aload_n 1, 1) := by decide +kernel
theorem kX8_setGap_84 : cdOf kX8_setGap 84 = some (.getfield 22, 3) := by decide +kernel
theorem kX8_setGap_87 : cdOf kX8_setGap 87 = some (.iload 7, 2) := by decide +kernel
theorem kX8_setGap_89 : cdOf kX8_setGap 89 = some (.iaload, 1) := by decide +kernel
theorem kX8_setGap_90 : cdOf kX8_setGap 90 = some (.i2l, 1) := by decide +kernel
theorem kX8_setGap_91 : cdOf kX8_setGap 91 = some (.iload 7, 2) := by decide +kernel
theorem kX8_setGap_93 : cdOf kX8_setGap 93 = some (.iload 4, 2) := by decide +kernel
theorem kX8_setGap_95 : cdOf kX8_setGap 95 = some (.if_icmp .ge 13, 3) := by decide +kernel
theorem kX8_setGap_98 : cdOf kX8_setGap 98 = some (.aload_n 2, 1) := by decide +kernel
theorem kX8_setGap_99 : cdOf kX8_setGap 99 = some (.getfield 22, 3) := by decide +kernel
theorem kX8_setGap_102 : cdOf kX8_setGap 102 = some (.iload 7, 2) := by decide +kernel
theorem kX8_setGap_104 : cdOf kX8_setGap 104 = some (.iaload, 1) := by decide +kernel
theorem kX8_setGap_105 : cdOf kX8_setGap 105 = some (.goto 4, 3) := by decide +kernel
theorem kX8_setGap_108 : cdOf kX8_setGap 108 = some (.iconst 0, 1) := by decide +kernel
theorem kX8_setGap_109 : cdOf kX8_setGap 109 = some (.i2l, 1) := by decide +kernel
theorem kX8_setGap_110 : cdOf kX8_setGap 110 = some (.lsub, 1) := by decide +kernel
theorem kX8_setGap_111 : cdOf kX8_setGap 111 = some (.lload 5, 2) := by decide +kernel
theorem kX8_setGap_113 : cdOf kX8_setGap 113 = some (.lsub, 1) := by decide +kernel
theorem kX8_setGap_114 : cdOf kX8_setGap 114 = some (.lstore 8, 2) := by decide +kernel
theorem kX8_setGap_116 : cdOf kX8_setGap 116 = some (.lload 8, 2) := by decide +kernel
theorem kX8_setGap_118 : cdOf kX8_setGap 118 = some (.lconst 0, 1) := by decide +kernel
theorem kX8_setGap_119 : cdOf kX8_setGap 119 = some (.lcmp, 1) := by decide +kernel
theorem kX8_setGap_120 : cdOf kX8_setGap 120 = some (.ifCond .ge 7, 3) := by decide +kernel
theorem kX8_setGap_123 : cdOf kX8_setGap 123 = some (.lconst 1, 1) := by decide +kernel
theorem kX8_setGap_124 : cdOf kX8_setGap 124 = some (.goto 4, 3) := by decide +kernel
theorem kX8_setGap_127 : cdOf kX8_setGap 127 = some (.lconst 0, 1) := by decide +kernel
theorem kX8_setGap_128 : cdOf kX8_setGap 128 = some (.lstore 5, 2) := by decide +kernel
theorem kX8_setGap_130 : cdOf kX8_setGap 130 = some (.aload_n 0, 1) := by decide +kernel
theorem kX8_setGap_131 : cdOf kX8_setGap 131 = some (.getfield 22, 3) := by decide +kernel
theorem kX8_setGap_134 : cdOf kX8_setGap 134 = some (.iload 7, 2) := by decide +kernel
theorem kX8_setGap_136 : cdOf kX8_setGap 136 = some (.lload 8, 2) := by decide +kernel
theorem kX8_setGap_138 : cdOf kX8_setGap 138 = some (.ldc2_w 43, 3) := by decide +kernel
theorem kX8_setGap_141 : cdOf kX8_setGap 141 = some (.land, 1) := by decide +kernel
theorem kX8_setGap_142 : cdOf kX8_setGap 142 = some (.l2i, 1) := by decide +kernel
theorem kX8_setGap_143 : cdOf kX8_setGap 143 = some (.iastore, 1) := by decide +kernel
theorem kX8_setGap_144 : cdOf kX8_setGap 144 = some (.iinc 7 1, 3) := by decide +kernel
theorem kX8_setGap_147 : cdOf kX8_setGap 147 = some (.goto (-90), 3) := by decide +kernel
theorem kX8_setGap_150 : cdOf kX8_setGap 150 = some (.iload_n 3, 1) := by decide +kernel
theorem kX8_setGap_151 : cdOf kX8_setGap 151 = some (.ifCond .le 29, 3) := by decide +kernel
theorem kX8_setGap_154 : cdOf kX8_setGap 154 = some (.iload_n 3, 1) := by decide +kernel
theorem kX8_setGap_155 : cdOf kX8_setGap 155 = some (.aload_n 0, 1) := by decide +kernel
theorem kX8_setGap_156 : cdOf kX8_setGap 156 = some (.getfield 22, 3) := by decide +kernel
theorem kX8_setGap_159 : cdOf kX8_setGap 159 = some (.arraylength, 1) := by decide +kernel
theorem kX8_setGap_160 : cdOf kX8_setGap 160 = some (.if_icmp .gt 20, 3) := by decide +kernel
theorem kX8_setGap_163 : cdOf kX8_setGap 163 = some (.aload_n 0, 1) := by decide +kernel
theorem kX8_setGap_164 : cdOf kX8_setGap 164 = some (.getfield 22, 3) := by decide +kernel
theorem kX8_setGap_167 : cdOf kX8_setGap 167 = some (.iload_n 3, 1) := by decide +kernel
theorem kX8_setGap_168 : cdOf kX8_setGap 168 = some (.iconst 1, 1) := by decide +kernel
theorem kX8_setGap_169 : cdOf kX8_setGap 169 = some (.isub, 1) := by decide +kernel
theorem kX8_setGap_170 : cdOf kX8_setGap 170 = some (.iaload, 1) := by decide +kernel
theorem kX8_setGap_171 : cdOf kX8_setGap 171 = some (.ifCond .ne 9, 3) := by decide +kernel
theorem kX8_setGap_174 : cdOf kX8_setGap 174 = some (.iinc 3 (-1), 3) := by decide +kernel
theorem kX8_setGap_177 : cdOf kX8_setGap 177 = some (.goto (-27), 3) := by decide +kernel
theorem kX8_setGap_180 : cdOf kX8_setGap 180 = some (.aload_n 0, 1) := by decide +kernel
theorem kX8_setGap_181 : cdOf kX8_setGap 181 = some (.iload_n 3, 1) := by decide +kernel
theorem kX8_setGap_182 : cdOf kX8_setGap 182 = some (.putfield 9, 3) := by decide +kernel
theorem kX8_setGap_185 : cdOf kX8_setGap 185 = some (.aload_n 0, 1) := by decide +kernel
theorem kX8_setGap_186 : cdOf kX8_setGap 186 = some (.iload_n 3, 1) := by decide +kernel
theorem kX8_setGap_187 : cdOf kX8_setGap 187 = some (.ifCond .ne 7, 3) := by decide +kernel
theorem kX8_setGap_190 : cdOf kX8_setGap 190 = some (.iconst 0, 1) := by decide +kernel
theorem kX8_setGap_191 : cdOf kX8_setGap 191 = some (.goto 7, 3) := by decide +kernel
theorem kX8_setGap_194 : cdOf kX8_setGap 194 = some (.aload_n 0, 1) := by decide +kernel
theorem kX8_setGap_195 : cdOf kX8_setGap 195 = some (.getfield 13, 3) := by decide +kernel
theorem kX8_setGap_198 : cdOf kX8_setGap 198 = some (.putfield 13, 3) := by decide +kernel
theorem kX8_setGap_201 : cdOf kX8_setGap 201 = some (.return_, 1) := by decide +kernel
set_option maxRecDepth 20000 in
theorem kX8_setGap_ok : ∀ pc i len, cdOf kX8_setGap pc = some (i, len) → decode cX8_setGap pc = .ok (i, len) ∧ stOK 10 i = true ∧ jOK pc i = true ∧ eLen i len = true := cdOf_ok cX8_setGap 10 kX8_setGap (by decide +kernel)
def vtX8_setGap : Nat → Option (Nat × eSp) := fun _ => none
def stX8_setGap : Nat → Option (Nat × eSp) := fun _ => none
abbrev TX8_setGap : eT := (fl_RX8, cl_RX8, dl_RX8, vtX8_setGap, stX8_setGap)
set_option maxRecDepth 20000 in
theorem caX8_setGap : eCalls RX8 { frames := 0, cells := 0, slots := 0, locals := 0 } TX8_setGap := by
  refine ⟨fun k n sp h => ?_, fun k n sp h => ?_⟩
  · cases h
  · cases h
set_option maxRecDepth 100000 in
set_option maxHeartbeats 4000000 in
theorem sX8_setGap : eSafe TX8_setGap (cdOf kX8_setGap) 10 none SX8_setGap := by
  intro K rt hK as M h
  obtain ⟨F, A, W, k, a, b, z, y, rfl, rfl, hk, ha, hb, hz, hy, hfit, hle, h8, h⟩ := h
  refine ⟨by simp [eE], ?_⟩
  obtain ⟨n, n8, b1, c, d, e1, e2⟩ := hz
  obtain ⟨m, m8, b1', c', d', f1, f2⟩ := hy
  have hn' := wq_n c d e1
  have hm := wq_n c' d' f1
  have lk := lw_b k
  have la := lw_b a
  have lb := lw_b b
  have nk : n ≤ lw k := nl_le hn'.2.2 hfit
  have mn : m ≤ n := by
    rcases Nat.eq_zero_or_pos m with q | q
    · omega
    · have h1 := hm.2.2 q
      rcases Nat.lt_or_ge n m with g | g
      · have := cB_mono (show n ≤ m - 1 by omega)
        omega
      · exact g
  have gy := gx_v (f := W b) mn
  have rd : ∀ (f : Int → Int) (i : Int), f i = W k i → ∀ t, uA W k f t i = W t i := fun f i he t => by
    rcases Decidable.em (t = k) with q | q
    · rw [q, uA_g]; exact he
    · rw [uA_n _ _ q]
  -- the zeros above go
  have tail : ∀ (l : Nat) (f : Int → Int) (u4 u5 u7 u8 : Option eV), l ≤ n → f 81 = W k 81 → lR f l → vL f l = zAbs z - zAbs y →
      K 150 [some (eR (2, k)), some (eR (2, a)), some (eR (2, b)), some (eI l), u4, u5, none, u7, u8, none] [] (cC F A (uA W k f)) := by
    intro l
    induction l with
    | zero =>
      intro f u4 u5 u7 u8 hl h81 hr hv
      refine x_iload_n hK kX8_setGap_150 (q := 151) rfl rfl ?_
      refine x_if_le hK kX8_setGap_151 (q := 154) rfl (tg := 180) rfl (by omega) (fun c151 => ?_) (fun c151 => ?_)
      · refine x_aload_n hK kX8_setGap_180 (q := 181) rfl rfl ?_
        refine x_iload_n hK kX8_setGap_181 (q := 182) rfl rfl ?_
        refine x_putfield hK kX8_setGap_182 (q := 185) rfl (pX8_9 ?_)
        rw [uA_g, uA_u]
        refine x_aload_n hK kX8_setGap_185 (q := 186) rfl rfl ?_
        refine x_iload_n hK kX8_setGap_186 (q := 187) rfl rfl ?_
        refine x_if_ne hK kX8_setGap_187 (q := 190) rfl (tg := 194) rfl (by omega) (fun c187 => ?_) (fun c187 => ?_)
        · exact absurd rfl c187
        · refine x_iconst hK kX8_setGap_190 (q := 191) rfl ?_
          refine x_goto hK kX8_setGap_191 (tg := 198) rfl ?_
          refine x_putfield hK kX8_setGap_198 (q := 201) rfl (pX8_13 ?_)
          rw [uA_g, uA_u]
          refine x_return_ hK kX8_setGap_201 (by first | trivial | exact Or.inl rfl | exact Or.inr rfl) ?_
          exact h _ ⟨0, by omega, by rw [uI_n _ _ (by decide), uI_s], fun i hi => absurd hi (by omega), fun q => absurd q (by omega), hv, by rw [uI_s]; rfl⟩
      · exfalso; omega
    | succ l ih =>
      intro f u4 u5 u7 u8 hl h81 hr hv
      have hc : 0 ≤ f l ∧ f l < 2147483648 := hr l (by omega)
      have el : ((l + 1 : Nat) : Int) - 1 = l := by omega
      refine x_iload_n hK kX8_setGap_150 (q := 151) rfl rfl ?_
      refine x_if_le hK kX8_setGap_151 (q := 154) rfl (tg := 180) rfl (by omega) (fun c151 => ?_) (fun c151 => ?_)
      · exfalso; omega
      · refine x_iload_n hK kX8_setGap_154 (q := 155) rfl rfl ?_
        refine x_aload_n hK kX8_setGap_155 (q := 156) rfl rfl ?_
        refine x_getfield hK kX8_setGap_156 (q := 159) rfl (gX8_22 ?_)
        refine x_arraylength hK kX8_setGap_159 (q := 160) rfl (nC7_0 ?_)
        refine x_icmp_gt hK kX8_setGap_160 (q := 163) rfl (tg := 180) rfl (by refine ⟨?_, ?_⟩ <;> omega) (fun c160 => ?_) (fun c160 => ?_)
        · exfalso; omega
        · refine x_aload_n hK kX8_setGap_163 (q := 164) rfl rfl ?_
          refine x_getfield hK kX8_setGap_164 (q := 167) rfl (gX8_22 ?_)
          refine x_iload_n hK kX8_setGap_167 (q := 168) rfl rfl ?_
          refine x_iconst hK kX8_setGap_168 (q := 169) rfl ?_
          refine x_isub hK kX8_setGap_169 (q := 170) rfl ?_
          rw [el]
          refine x_iaload hK kX8_setGap_170 (q := 171) rfl (aC7_0 (by refine ⟨?_, ?_⟩ <;> omega) ?_)
          rw [uA_g]
          refine x_if_ne hK kX8_setGap_171 (q := 174) rfl (tg := 180) rfl (by omega) (fun c171 => ?_) (fun c171 => ?_)
          · refine x_aload_n hK kX8_setGap_180 (q := 181) rfl rfl ?_
            refine x_iload_n hK kX8_setGap_181 (q := 182) rfl rfl ?_
            refine x_putfield hK kX8_setGap_182 (q := 185) rfl (pX8_9 ?_)
            rw [uA_g, uA_u]
            refine x_aload_n hK kX8_setGap_185 (q := 186) rfl rfl ?_
            refine x_iload_n hK kX8_setGap_186 (q := 187) rfl rfl ?_
            refine x_if_ne hK kX8_setGap_187 (q := 190) rfl (tg := 194) rfl (by omega) (fun c187 => ?_) (fun c187 => ?_)
            · refine x_aload_n hK kX8_setGap_194 (q := 195) rfl rfl ?_
              refine x_getfield hK kX8_setGap_195 (q := 198) rfl (gX8_13 ?_)
              rw [uA_g]
              refine x_putfield hK kX8_setGap_198 (q := 201) rfl (pX8_13 ?_)
              rw [uA_g, uA_u]
              refine x_return_ hK kX8_setGap_201 (by first | trivial | exact Or.inl rfl | exact Or.inr rfl) ?_
              refine h _ ⟨l + 1, by omega, by rw [uI_n _ _ (by decide), uI_s], lR_cong hr (fun t ht => by rw [uI_n _ _ (by omega), uI_n _ _ (by omega)]), fun _ => ?_, ?_, ?_⟩
              · rw [el, uI_n _ _ (by omega), uI_n _ _ (by omega)]; exact c171
              · rw [vL_cong (f := f) (fun t ht => by rw [uI_n _ _ (by omega), uI_n _ _ (by omega)])]; exact hv
              · rw [uI_s, uI_n _ _ (by decide), if_neg (by omega)]; exact h81
            · exfalso; omega
          · refine x_iinc hK kX8_setGap_174 (q := 177) rfl rfl ?_
            simp only [lS, lS2, clr_0, clr_I, clr_L, clr_R]
            refine x_goto hK kX8_setGap_177 (tg := 150) rfl ?_
            rw [show ((l + 1 : Nat) : Int) + -1 = l by omega]
            refine ih f _ _ _ _ (by omega) h81 (hr.sub (Nat.le_succ l)) ?_
            rw [← hv, vL, Decidable.not_not.mp c171]
            omega
  have loop : ∀ (d i : Nat) (f : Int → Int) (cr : Int) (u8 : Option eV), i + d = n → (∀ t : Int, i ≤ t → f t = W k t) → lR f i → (cr = 0 ∨ cr = 1) → vL f i - cr * cB ^ i = vL (W a) i - vL (gx (W b) m) i →
      K 57 [some (eR (2, k)), some (eR (2, a)), some (eR (2, b)), some (eI n), some (eI m), some (eL cr), none, some (eI i), u8, none] [] (cC F A (uA W k f)) := by
    intro d
    induction d with
    | zero =>
      intro i f cr u8 hd he hr hc hv
      have : i = n := by omega
      subst this
      rw [gy, e1, f1] at hv
      have cr0 : cr = 0 := by
        rcases hc with q | q
        · exact q
        · subst q
          have := vL_lt hr
          omega
      subst cr0
      refine x_iload hK kX8_setGap_57 (q := 59) rfl rfl ?_
      refine x_iload_n hK kX8_setGap_59 (q := 60) rfl rfl ?_
      refine x_icmp_ge hK kX8_setGap_60 (q := 63) rfl (tg := 150) rfl (by refine ⟨?_, ?_⟩ <;> omega) (fun c60 => ?_) (fun c60 => ?_)
      · exact tail i f _ _ _ _ (Nat.le_refl _) (he 81 (by omega)) hr (by omega)
      · exfalso; omega
    | succ d ih =>
      intro i f cr u8 hd he hr hc hv
      have r1 : 0 ≤ W a i ∧ W a i < 2147483648 := c i (by omega)
      have r2 := gx_r c' i
      have fi : f i = W k i := he i (by omega)
      have stp : ∀ (u8 : Option eV) (cr' : Int), ((W a i - gx (W b) m i - cr < 0 ∧ cr' = 1) ∨ (0 ≤ W a i - gx (W b) m i - cr ∧ cr' = 0)) → K 57 [some (eR (2, k)), some (eR (2, a)), some (eR (2, b)), some (eI n), some (eI m), some (eL cr'), none, some (eI ((i + 1 : Nat) : Int)), u8, none] [] (cC F A (uA W k (uI f i ((W a i - gx (W b) m i - cr) % 2147483648)))) := fun u8 cr' hcr => by
        refine ih (i + 1) _ cr' u8 (by omega) (fun t ht => by rw [uI_n _ _ (by omega)]; exact he t (by omega)) (lR_up hr (by omega)) (by omega) ?_
        have q1 : vL (W a) (i + 1) = vL (W a) i + W a i * cB ^ i := rfl
        have q2 : vL (gx (W b) m) (i + 1) = vL (gx (W b) m) i + gx (W b) m i * cB ^ i := rfl
        rw [vL_up, q1, q2, cB_succ]
        have q3 : W a i - gx (W b) m i - cr = -cr' * 2147483648 + (W a i - gx (W b) m i - cr) % 2147483648 := by omega
        generalize W a i = X at *
        generalize gx (W b) m i = Y at *
        generalize (X - Y - cr) % 2147483648 = R at *
        generalize cB ^ i = P at *
        show vL f i + R * P - cr' * (P * 2147483648) = _
        have : cr = X - Y + cr' * 2147483648 - R := by omega
        subst this
        grind
      refine x_iload hK kX8_setGap_57 (q := 59) rfl rfl ?_
      refine x_iload_n hK kX8_setGap_59 (q := 60) rfl rfl ?_
      refine x_icmp_ge hK kX8_setGap_60 (q := 63) rfl (tg := 150) rfl (by refine ⟨?_, ?_⟩ <;> omega) (fun c60 => ?_) (fun c60 => ?_)
      · exfalso; omega
      · refine x_iload hK kX8_setGap_63 (q := 65) rfl rfl ?_
        refine x_aload_n hK kX8_setGap_65 (q := 66) rfl rfl ?_
        refine x_getfield hK kX8_setGap_66 (q := 69) rfl (gX8_22 ?_)
        refine x_arraylength hK kX8_setGap_69 (q := 70) rfl (nC7_0 ?_)
        refine x_icmp_ge hK kX8_setGap_70 (q := 73) rfl (tg := 150) rfl (by refine ⟨?_, ?_⟩ <;> omega) (fun c70 => ?_) (fun c70 => ?_)
        · exfalso; omega
        · refine x_iload hK kX8_setGap_73 (q := 75) rfl rfl ?_
          refine x_aload_n hK kX8_setGap_75 (q := 76) rfl rfl ?_
          refine x_getfield hK kX8_setGap_76 (q := 79) rfl (gX8_22 ?_)
          refine x_arraylength hK kX8_setGap_79 (q := 80) rfl (nC7_0 ?_)
          refine x_icmp_ge hK kX8_setGap_80 (q := 83) rfl (tg := 150) rfl (by refine ⟨?_, ?_⟩ <;> omega) (fun c80 => ?_) (fun c80 => ?_)
          · exfalso; omega
          · refine x_aload_n hK kX8_setGap_83 (q := 84) rfl rfl ?_
            refine x_getfield hK kX8_setGap_84 (q := 87) rfl (gX8_22 ?_)
            refine x_iload hK kX8_setGap_87 (q := 89) rfl rfl ?_
            refine x_iaload hK kX8_setGap_89 (q := 90) rfl (aC7_0 (by refine ⟨?_, ?_⟩ <;> omega) ?_)
            rw [rd f i fi]
            refine x_i2l hK kX8_setGap_90 (q := 91) rfl (by omega) ?_
            refine x_iload hK kX8_setGap_91 (q := 93) rfl rfl ?_
            refine x_iload hK kX8_setGap_93 (q := 95) rfl rfl ?_
            refine x_icmp_ge hK kX8_setGap_95 (q := 98) rfl (tg := 108) rfl (by refine ⟨?_, ?_⟩ <;> omega) (fun c95 => ?_) (fun c95 => ?_)
            · have z1 : gx (W b) m i = 0 := gx_b (by omega)
              refine x_iconst hK kX8_setGap_108 (q := 109) rfl ?_
              first | skip | rw [← z1]
              refine x_i2l hK kX8_setGap_109 (q := 110) rfl (by omega) ?_
              refine x_lsub hK kX8_setGap_110 (q := 111) rfl ?_
              refine x_lload hK kX8_setGap_111 (q := 113) rfl rfl ?_
              refine x_lsub hK kX8_setGap_113 (q := 114) rfl ?_
              refine x_lstore hK kX8_setGap_114 (q := 116) rfl ?_
              refine x_lload hK kX8_setGap_116 (q := 118) rfl rfl ?_
              refine x_lconst0 hK kX8_setGap_118 (q := 119) rfl ?_
              refine x_lcmp hK kX8_setGap_119 (q := 120) rfl (by refine ⟨⟨by omega, by omega⟩, by decide⟩) ?_
              simp only [lS, lS2, clr_0, clr_I, clr_L, clr_R]
              refine x_ifc_ge hK kX8_setGap_120 (q := 123) rfl (tg := 127) rfl (fun c120 => ?_) (fun c120 => ?_)
              · refine x_lconst0 hK kX8_setGap_127 (q := 128) rfl ?_
                refine x_lstore hK kX8_setGap_128 (q := 130) rfl ?_
                refine x_aload_n hK kX8_setGap_130 (q := 131) rfl rfl ?_
                refine x_getfield hK kX8_setGap_131 (q := 134) rfl (gX8_22 ?_)
                refine x_iload hK kX8_setGap_134 (q := 136) rfl rfl ?_
                refine x_lload hK kX8_setGap_136 (q := 138) rfl rfl ?_
                refine x_ldc2_w hK kX8_setGap_138 (q := 141) rfl lc2_RX8_43 ?_
                refine x_land hK kX8_setGap_141 (q := 142) rfl ?_
                simp only [lS, lS2, clr_0, clr_I, clr_L, clr_R]
                rw [m31]
                refine x_l2i hK kX8_setGap_142 (q := 143) rfl ?_
                refine x_iastore hK kX8_setGap_143 (q := 144) rfl (yC7_0 (by refine ⟨?_, ?_⟩ <;> omega) ?_)
                rw [uA_g, uA_u]
                refine x_iinc hK kX8_setGap_144 (q := 147) rfl rfl ?_
                simp only [lS, lS2, clr_0, clr_I, clr_L, clr_R]
                refine x_goto hK kX8_setGap_147 (tg := 57) rfl ?_
                first | exact x_to (stp _ _ (by omega)) rfl rfl rfl | (rw [z1] at stp; exact x_to (stp _ _ (by omega)) rfl rfl rfl)
              · refine x_lconst1 hK kX8_setGap_123 (q := 124) rfl ?_
                refine x_goto hK kX8_setGap_124 (tg := 128) rfl ?_
                refine x_lstore hK kX8_setGap_128 (q := 130) rfl ?_
                refine x_aload_n hK kX8_setGap_130 (q := 131) rfl rfl ?_
                refine x_getfield hK kX8_setGap_131 (q := 134) rfl (gX8_22 ?_)
                refine x_iload hK kX8_setGap_134 (q := 136) rfl rfl ?_
                refine x_lload hK kX8_setGap_136 (q := 138) rfl rfl ?_
                refine x_ldc2_w hK kX8_setGap_138 (q := 141) rfl lc2_RX8_43 ?_
                refine x_land hK kX8_setGap_141 (q := 142) rfl ?_
                simp only [lS, lS2, clr_0, clr_I, clr_L, clr_R]
                rw [m31]
                refine x_l2i hK kX8_setGap_142 (q := 143) rfl ?_
                refine x_iastore hK kX8_setGap_143 (q := 144) rfl (yC7_0 (by refine ⟨?_, ?_⟩ <;> omega) ?_)
                rw [uA_g, uA_u]
                refine x_iinc hK kX8_setGap_144 (q := 147) rfl rfl ?_
                simp only [lS, lS2, clr_0, clr_I, clr_L, clr_R]
                refine x_goto hK kX8_setGap_147 (tg := 57) rfl ?_
                first | exact x_to (stp _ _ (by omega)) rfl rfl rfl | (rw [z1] at stp; exact x_to (stp _ _ (by omega)) rfl rfl rfl)
            · refine x_aload_n hK kX8_setGap_98 (q := 99) rfl rfl ?_
              refine x_getfield hK kX8_setGap_99 (q := 102) rfl (gX8_22 ?_)
              refine x_iload hK kX8_setGap_102 (q := 104) rfl rfl ?_
              refine x_iaload hK kX8_setGap_104 (q := 105) rfl (aC7_0 (by refine ⟨?_, ?_⟩ <;> omega) ?_)
              rw [rd f i fi, ← gx_a (f := W b) (n := m) (show (i : Int) < m by omega)]
              refine x_goto hK kX8_setGap_105 (tg := 109) rfl ?_
              first | skip | rw [← z1]
              refine x_i2l hK kX8_setGap_109 (q := 110) rfl (by omega) ?_
              refine x_lsub hK kX8_setGap_110 (q := 111) rfl ?_
              refine x_lload hK kX8_setGap_111 (q := 113) rfl rfl ?_
              refine x_lsub hK kX8_setGap_113 (q := 114) rfl ?_
              refine x_lstore hK kX8_setGap_114 (q := 116) rfl ?_
              refine x_lload hK kX8_setGap_116 (q := 118) rfl rfl ?_
              refine x_lconst0 hK kX8_setGap_118 (q := 119) rfl ?_
              refine x_lcmp hK kX8_setGap_119 (q := 120) rfl (by refine ⟨⟨by omega, by omega⟩, by decide⟩) ?_
              simp only [lS, lS2, clr_0, clr_I, clr_L, clr_R]
              refine x_ifc_ge hK kX8_setGap_120 (q := 123) rfl (tg := 127) rfl (fun c120 => ?_) (fun c120 => ?_)
              · refine x_lconst0 hK kX8_setGap_127 (q := 128) rfl ?_
                refine x_lstore hK kX8_setGap_128 (q := 130) rfl ?_
                refine x_aload_n hK kX8_setGap_130 (q := 131) rfl rfl ?_
                refine x_getfield hK kX8_setGap_131 (q := 134) rfl (gX8_22 ?_)
                refine x_iload hK kX8_setGap_134 (q := 136) rfl rfl ?_
                refine x_lload hK kX8_setGap_136 (q := 138) rfl rfl ?_
                refine x_ldc2_w hK kX8_setGap_138 (q := 141) rfl lc2_RX8_43 ?_
                refine x_land hK kX8_setGap_141 (q := 142) rfl ?_
                simp only [lS, lS2, clr_0, clr_I, clr_L, clr_R]
                rw [m31]
                refine x_l2i hK kX8_setGap_142 (q := 143) rfl ?_
                refine x_iastore hK kX8_setGap_143 (q := 144) rfl (yC7_0 (by refine ⟨?_, ?_⟩ <;> omega) ?_)
                rw [uA_g, uA_u]
                refine x_iinc hK kX8_setGap_144 (q := 147) rfl rfl ?_
                simp only [lS, lS2, clr_0, clr_I, clr_L, clr_R]
                refine x_goto hK kX8_setGap_147 (tg := 57) rfl ?_
                first | exact x_to (stp _ _ (by omega)) rfl rfl rfl | (rw [z1] at stp; exact x_to (stp _ _ (by omega)) rfl rfl rfl)
              · refine x_lconst1 hK kX8_setGap_123 (q := 124) rfl ?_
                refine x_goto hK kX8_setGap_124 (tg := 128) rfl ?_
                refine x_lstore hK kX8_setGap_128 (q := 130) rfl ?_
                refine x_aload_n hK kX8_setGap_130 (q := 131) rfl rfl ?_
                refine x_getfield hK kX8_setGap_131 (q := 134) rfl (gX8_22 ?_)
                refine x_iload hK kX8_setGap_134 (q := 136) rfl rfl ?_
                refine x_lload hK kX8_setGap_136 (q := 138) rfl rfl ?_
                refine x_ldc2_w hK kX8_setGap_138 (q := 141) rfl lc2_RX8_43 ?_
                refine x_land hK kX8_setGap_141 (q := 142) rfl ?_
                simp only [lS, lS2, clr_0, clr_I, clr_L, clr_R]
                rw [m31]
                refine x_l2i hK kX8_setGap_142 (q := 143) rfl ?_
                refine x_iastore hK kX8_setGap_143 (q := 144) rfl (yC7_0 (by refine ⟨?_, ?_⟩ <;> omega) ?_)
                rw [uA_g, uA_u]
                refine x_iinc hK kX8_setGap_144 (q := 147) rfl rfl ?_
                simp only [lS, lS2, clr_0, clr_I, clr_L, clr_R]
                refine x_goto hK kX8_setGap_147 (tg := 57) rfl ?_
                first | exact x_to (stp _ _ (by omega)) rfl rfl rfl | (rw [z1] at stp; exact x_to (stp _ _ (by omega)) rfl rfl rfl)
  simp only [eLoc, eE, List.length_cons, List.length_nil, List.replicate, List.cons_append, List.nil_append, Nat.reduceAdd, Nat.reduceSub]
  refine x_aload_n hK kX8_setGap_0 (q := 1) rfl rfl ?_
  refine x_getfield hK kX8_setGap_1 (q := 4) rfl (gX8_9 ?_)
  refine x_aload_n hK kX8_setGap_4 (q := 5) rfl rfl ?_
  refine x_getfield hK kX8_setGap_5 (q := 8) rfl (gX8_22 ?_)
  refine x_arraylength hK kX8_setGap_8 (q := 9) rfl (nC7_0 ?_)
  refine x_icmp_ge hK kX8_setGap_9 (q := 12) rfl (tg := 19) rfl (by refine ⟨?_, ?_⟩ <;> omega) (fun c9 => ?_) (fun c9 => ?_)
  · refine x_aload_n hK kX8_setGap_19 (q := 20) rfl rfl ?_
    refine x_getfield hK kX8_setGap_20 (q := 23) rfl (gX8_22 ?_)
    refine x_arraylength hK kX8_setGap_23 (q := 24) rfl (nC7_0 ?_)
    first | rw [show (lw k : Int) = W a 80 by omega] | skip
    refine x_istore_n hK kX8_setGap_24 (q := 25) (jn := 3) rfl rfl ?_
    refine x_aload_n hK kX8_setGap_25 (q := 26) rfl rfl ?_
    refine x_getfield hK kX8_setGap_26 (q := 29) rfl (gX8_9 ?_)
    refine x_aload_n hK kX8_setGap_29 (q := 30) rfl rfl ?_
    refine x_getfield hK kX8_setGap_30 (q := 33) rfl (gX8_22 ?_)
    refine x_arraylength hK kX8_setGap_33 (q := 34) rfl (nC7_0 ?_)
    simp only [lS, lS2, clr_0, clr_I, clr_L, clr_R]
    refine x_icmp_ge hK kX8_setGap_34 (q := 37) rfl (tg := 44) rfl (by refine ⟨?_, ?_⟩ <;> omega) (fun c34 => ?_) (fun c34 => ?_)
    · refine x_aload_n hK kX8_setGap_44 (q := 45) rfl rfl ?_
      refine x_getfield hK kX8_setGap_45 (q := 48) rfl (gX8_22 ?_)
      refine x_arraylength hK kX8_setGap_48 (q := 49) rfl (nC7_0 ?_)
      first | rw [show (lw b : Int) = W b 80 by omega] | skip
      refine x_istore hK kX8_setGap_49 (q := 51) rfl ?_
      refine x_lconst0 hK kX8_setGap_51 (q := 52) rfl ?_
      refine x_lstore hK kX8_setGap_52 (q := 54) rfl ?_
      refine x_iconst hK kX8_setGap_54 (q := 55) rfl ?_
      refine x_istore hK kX8_setGap_55 (q := 57) rfl ?_
      simp only [lS, lS2, clr_0, clr_I, clr_L, clr_R]
      refine x_to (loop n 0 (W k) 0 none (by omega) (fun t ht => rfl) (fun i hi => absurd hi (by omega)) (Or.inl rfl) rfl) ?_ rfl (by rw [uA_s])
      rw [b1, b1']
      rfl
    · refine x_aload_n hK kX8_setGap_37 (q := 38) rfl rfl ?_
      refine x_getfield hK kX8_setGap_38 (q := 41) rfl (gX8_9 ?_)
      refine x_goto hK kX8_setGap_41 (tg := 49) rfl ?_
      first | rw [show (lw b : Int) = W b 80 by omega] | skip
      refine x_istore hK kX8_setGap_49 (q := 51) rfl ?_
      refine x_lconst0 hK kX8_setGap_51 (q := 52) rfl ?_
      refine x_lstore hK kX8_setGap_52 (q := 54) rfl ?_
      refine x_iconst hK kX8_setGap_54 (q := 55) rfl ?_
      refine x_istore hK kX8_setGap_55 (q := 57) rfl ?_
      simp only [lS, lS2, clr_0, clr_I, clr_L, clr_R]
      refine x_to (loop n 0 (W k) 0 none (by omega) (fun t ht => rfl) (fun i hi => absurd hi (by omega)) (Or.inl rfl) rfl) ?_ rfl (by rw [uA_s])
      rw [b1, b1']
      rfl
  · refine x_aload_n hK kX8_setGap_12 (q := 13) rfl rfl ?_
    refine x_getfield hK kX8_setGap_13 (q := 16) rfl (gX8_9 ?_)
    refine x_goto hK kX8_setGap_16 (tg := 24) rfl ?_
    first | rw [show (lw k : Int) = W a 80 by omega] | skip
    refine x_istore_n hK kX8_setGap_24 (q := 25) (jn := 3) rfl rfl ?_
    refine x_aload_n hK kX8_setGap_25 (q := 26) rfl rfl ?_
    refine x_getfield hK kX8_setGap_26 (q := 29) rfl (gX8_9 ?_)
    refine x_aload_n hK kX8_setGap_29 (q := 30) rfl rfl ?_
    refine x_getfield hK kX8_setGap_30 (q := 33) rfl (gX8_22 ?_)
    refine x_arraylength hK kX8_setGap_33 (q := 34) rfl (nC7_0 ?_)
    simp only [lS, lS2, clr_0, clr_I, clr_L, clr_R]
    refine x_icmp_ge hK kX8_setGap_34 (q := 37) rfl (tg := 44) rfl (by refine ⟨?_, ?_⟩ <;> omega) (fun c34 => ?_) (fun c34 => ?_)
    · refine x_aload_n hK kX8_setGap_44 (q := 45) rfl rfl ?_
      refine x_getfield hK kX8_setGap_45 (q := 48) rfl (gX8_22 ?_)
      refine x_arraylength hK kX8_setGap_48 (q := 49) rfl (nC7_0 ?_)
      first | rw [show (lw b : Int) = W b 80 by omega] | skip
      refine x_istore hK kX8_setGap_49 (q := 51) rfl ?_
      refine x_lconst0 hK kX8_setGap_51 (q := 52) rfl ?_
      refine x_lstore hK kX8_setGap_52 (q := 54) rfl ?_
      refine x_iconst hK kX8_setGap_54 (q := 55) rfl ?_
      refine x_istore hK kX8_setGap_55 (q := 57) rfl ?_
      simp only [lS, lS2, clr_0, clr_I, clr_L, clr_R]
      refine x_to (loop n 0 (W k) 0 none (by omega) (fun t ht => rfl) (fun i hi => absurd hi (by omega)) (Or.inl rfl) rfl) ?_ rfl (by rw [uA_s])
      rw [b1, b1']
      rfl
    · refine x_aload_n hK kX8_setGap_37 (q := 38) rfl rfl ?_
      refine x_getfield hK kX8_setGap_38 (q := 41) rfl (gX8_9 ?_)
      refine x_goto hK kX8_setGap_41 (tg := 49) rfl ?_
      first | rw [show (lw b : Int) = W b 80 by omega] | skip
      refine x_istore hK kX8_setGap_49 (q := 51) rfl ?_
      refine x_lconst0 hK kX8_setGap_51 (q := 52) rfl ?_
      refine x_lstore hK kX8_setGap_52 (q := 54) rfl ?_
      refine x_iconst hK kX8_setGap_54 (q := 55) rfl ?_
      refine x_istore hK kX8_setGap_55 (q := 57) rfl ?_
      simp only [lS, lS2, clr_0, clr_I, clr_L, clr_R]
      refine x_to (loop n 0 (W k) 0 none (by omega) (fun t ht => rfl) (fun i hi => absurd hi (by omega)) (Or.inl rfl) rfl) ?_ rfl (by rw [uA_s])
      rw [b1, b1']
      rfl
set_option maxRecDepth 20000 in
theorem mX8_setGap : eMet yX8_setGap cX8_setGap 10 none 0 0 SX8_setGap := eMet_of (by decide +kernel) sX8_setGap kX8_setGap_ok caX8_setGap tb_RX8
theorem wX8_setGap : eWV yX8_setGap cX8_setGap 10 none 3 7 SX8_setGap := ⟨(gW_at 547 (by decide +kernel) rfl), (gW_at 81 (by decide +kernel) rfl), (gW_at 546 (by decide +kernel) rfl), ⟨_, rfl, (gW_at 14 (by decide +kernel) rfl)⟩, by decide +kernel, SX8_setGap_r⟩
-- add
theorem wq_sg {L : Nat} {f : Int → Int} {y v : Int} (hL : L ≤ 64) (h : wq L f y) (hv : zAbs v = zAbs y) : wq L (uI f 81 (zSg v)) v := by
  obtain ⟨n, a, b, c, d, e1, e2⟩ := h
  exact ⟨n, a, by rw [uI_n _ _ (by decide)]; exact b, lR_cong c (fun t ht => uI_n _ _ (by omega)), fun q => by rw [uI_n _ _ (by omega)]; exact d q, by rw [vL_cong (f := f) (fun t ht => uI_n _ _ (by omega)), e1, hv], uI_s _ _ _⟩
theorem wu_sg {L : Nat} {f : Int → Int} {d s r : Int} (hL : L ≤ 64) (h : wu L f d s) (hr : zAbs r = d) : wq L (uI f 81 (zSg r)) r := by
  obtain ⟨n, a, b, c, e, e1, e2⟩ := h
  exact ⟨n, a, by rw [uI_n _ _ (by decide)]; exact b, lR_cong c (fun t ht => uI_n _ _ (by omega)), fun q => by rw [uI_n _ _ (by omega)]; exact e q, by rw [vL_cong (f := f) (fun t ht => uI_n _ _ (by omega)), e1, hr], uI_s _ _ _⟩
def SX8_add : eSp := fun as M rt => ∃ (F : Nat → Int) (A W : Nat → Int → Int) (k j : Nat) (z y w : Int), as = [eR (2, k), eR (2, j), eI w] ∧ M = cC F A W ∧ (k < 332) ∧ (j < 332) ∧ (j ≠ k) ∧ (w = 1 ∨ w = -1) ∧ (wq (lw k) (W k) z) ∧ (wq (lw j) (W j) y) ∧ (zAbs z + zAbs y < cB ^ lw k) ∧ (∀ f, wq (lw k) f (z + w * y) → rt none (cC F A (uA W k f)))
theorem SX8_add_i {F : Nat → Int} {A W : Nat → Int → Int} {k j : Nat} {z y w : Int} {rt : Option eV → eM → Prop} (hk : k < 332) (hj : j < 332) (hn : j ≠ k) (hw : w = 1 ∨ w = -1) (hz : wq (lw k) (W k) z) (hy : wq (lw j) (W j) y) (hb : zAbs z + zAbs y < cB ^ lw k) (h : ∀ f, wq (lw k) f (z + w * y) → rt none (cC F A (uA W k f))) : SX8_add [eR (2, k), eR (2, j), eI w] (cC F A W) rt := ⟨F, A, W, k, j, z, y, w, rfl, rfl, hk, hj, hn, hw, hz, hy, hb, h⟩
theorem SX8_add_r : ∀ as M rt, SX8_add as M rt → ∃ a r fs, as = eR a :: r ∧ M a = some (.inl (7, fs)) := by
  rintro as M rt ⟨F, A, W, k, j, z, y, w, rfl, rfl, hk, -⟩
  exact ⟨_, _, _, rfl, cC_2 hk⟩
def kX8_add : List (Nat × Jvm.ClassFile.Instr × Nat) := [(0, .iload_n 2, 1), (1, .ifCond .ge 11, 3), (4, .aload_n 1, 1), (5, .getfield 13, 3), (8, .ineg, 1), (9, .goto 7, 3), (12, .aload_n 1, 1), (13, .getfield 13, 3), (16, .istore_n 3, 1), (17, .iload_n 3, 1), (18, .ifCond .ne 4, 3), (21, .return_, 1), (22, .aload_n 0, 1), (23, .getfield 13, 3), (26, .ifCond .ne 16, 3), (29, .aload_n 0, 1), (30, .aload_n 1, 1), (31, .invokevirtual 28, 3), (34, .aload_n 0, 1), (35, .iload_n 3, 1), (36, .putfield 13, 3), (39, .goto 47, 3), (42, .aload_n 0, 1), (43, .getfield 13, 3), (46, .iload_n 3, 1), (47, .if_icmp .ne 11, 3), (50, .aload_n 0, 1), (51, .aload_n 1, 1), (52, .invokevirtual 32, 3), (55, .goto 31, 3), (58, .aload_n 0, 1), (59, .aload_n 1, 1), (60, .invokevirtual 35, 3), (63, .ifCond .lt 12, 3), (66, .aload_n 0, 1), (67, .aload_n 0, 1), (68, .aload_n 1, 1), (69, .invokevirtual 39, 3), (72, .goto 14, 3), (75, .aload_n 0, 1), (76, .aload_n 1, 1), (77, .aload_n 0, 1), (78, .invokevirtual 39, 3), (81, .aload_n 0, 1), (82, .iload_n 3, 1), (83, .putfield 13, 3), (86, .return_, 1)]
theorem kX8_add_0 : cdOf kX8_add 0 = some (.iload_n 2, 1) := by decide +kernel
theorem kX8_add_1 : cdOf kX8_add 1 = some (.ifCond .ge 11, 3) := by decide +kernel
theorem kX8_add_4 : cdOf kX8_add 4 = some (.aload_n 1, 1) := by decide +kernel
theorem kX8_add_5 : cdOf kX8_add 5 = some (.getfield 13, 3) := by decide +kernel
theorem kX8_add_8 : cdOf kX8_add 8 = some (.ineg, 1) := by decide +kernel
theorem kX8_add_9 : cdOf kX8_add 9 = some (.goto 7, 3) := by decide +kernel
theorem kX8_add_12 : cdOf kX8_add 12 = some (.aload_n 1, 1) := by decide +kernel
theorem kX8_add_13 : cdOf kX8_add 13 = some (.getfield 13, 3) := by decide +kernel
theorem kX8_add_16 : cdOf kX8_add 16 = some (.istore_n 3, 1) := by decide +kernel
theorem kX8_add_17 : cdOf kX8_add 17 = some (.iload_n 3, 1) := by decide +kernel
theorem kX8_add_18 : cdOf kX8_add 18 = some (.ifCond .ne 4, 3) := by decide +kernel
theorem kX8_add_21 : cdOf kX8_add 21 = some (.return_, 1) := by decide +kernel
theorem kX8_add_22 : cdOf kX8_add 22 = some (.aload_n 0, 1) := by decide +kernel
theorem kX8_add_23 : cdOf kX8_add 23 = some (.getfield 13, 3) := by decide +kernel
theorem kX8_add_26 : cdOf kX8_add 26 = some (.ifCond .ne 16, 3) := by decide +kernel
theorem kX8_add_29 : cdOf kX8_add 29 = some (.aload_n 0, 1) := by decide +kernel
theorem kX8_add_30 : cdOf kX8_add 30 = some (.aload_n 1, 1) := by decide +kernel
theorem kX8_add_31 : cdOf kX8_add 31 = some (.invokevirtual 28, 3) := by decide +kernel
theorem kX8_add_34 : cdOf kX8_add 34 = some (.aload_n 0, 1) := by decide +kernel
theorem kX8_add_35 : cdOf kX8_add 35 = some (.iload_n 3, 1) := by decide +kernel
theorem kX8_add_36 : cdOf kX8_add 36 = some (.putfield 13, 3) := by decide +kernel
theorem kX8_add_39 : cdOf kX8_add 39 = some (.goto 47, 3) := by decide +kernel
theorem kX8_add_42 : cdOf kX8_add 42 = some (.aload_n 0, 1) := by decide +kernel
theorem kX8_add_43 : cdOf kX8_add 43 = some (.getfield 13, 3) := by decide +kernel
theorem kX8_add_46 : cdOf kX8_add 46 = some (.iload_n 3, 1) := by decide +kernel
theorem kX8_add_47 : cdOf kX8_add 47 = some (.if_icmp .ne 11, 3) := by decide +kernel
theorem kX8_add_50 : cdOf kX8_add 50 = some (.aload_n 0, 1) := by decide +kernel
theorem kX8_add_51 : cdOf kX8_add 51 = some (.aload_n 1, 1) := by decide +kernel
theorem kX8_add_52 : cdOf kX8_add 52 = some (.invokevirtual 32, 3) := by decide +kernel
theorem kX8_add_55 : cdOf kX8_add 55 = some (.goto 31, 3) := by decide +kernel
theorem kX8_add_58 : cdOf kX8_add 58 = some (.aload_n 0, 1) := by decide +kernel
theorem kX8_add_59 : cdOf kX8_add 59 = some (.aload_n 1, 1) := by decide +kernel
theorem kX8_add_60 : cdOf kX8_add 60 = some (.invokevirtual 35, 3) := by decide +kernel
theorem kX8_add_63 : cdOf kX8_add 63 = some (.ifCond .lt 12, 3) := by decide +kernel
theorem kX8_add_66 : cdOf kX8_add 66 = some (.aload_n 0, 1) := by decide +kernel
theorem kX8_add_67 : cdOf kX8_add 67 = some (.aload_n 0, 1) := by decide +kernel
theorem kX8_add_68 : cdOf kX8_add 68 = some (.aload_n 1, 1) := by decide +kernel
theorem kX8_add_69 : cdOf kX8_add 69 = some (.invokevirtual 39, 3) := by decide +kernel
theorem kX8_add_72 : cdOf kX8_add 72 = some (.goto 14, 3) := by decide +kernel
theorem kX8_add_75 : cdOf kX8_add 75 = some (.aload_n 0, 1) := by decide +kernel
theorem kX8_add_76 : cdOf kX8_add 76 = some (.aload_n 1, 1) := by decide +kernel
theorem kX8_add_77 : cdOf kX8_add 77 = some (.aload_n 0, 1) := by decide +kernel
theorem kX8_add_78 : cdOf kX8_add 78 = some (.invokevirtual 39, 3) := by decide +kernel
theorem kX8_add_81 : cdOf kX8_add 81 = some (.aload_n 0, 1) := by decide +kernel
theorem kX8_add_82 : cdOf kX8_add 82 = some (.iload_n 3, 1) := by decide +kernel
theorem kX8_add_83 : cdOf kX8_add 83 = some (.putfield 13, 3) := by decide +kernel
theorem kX8_add_86 : cdOf kX8_add 86 = some (.return_, 1) := by decide +kernel
set_option maxRecDepth 20000 in
theorem kX8_add_ok : ∀ pc i len, cdOf kX8_add pc = some (i, len) → decode cX8_add pc = .ok (i, len) ∧ stOK 4 i = true ∧ jOK pc i = true ∧ eLen i len = true := cdOf_ok cX8_add 4 kX8_add (by decide +kernel)
def vtX8_add : Nat → Option (Nat × eSp) := fun k => match k with
  | 28 => some (2, SX8_copy)
  | 32 => some (2, SX8_widen)
  | 35 => some (2, SX8_compareSize)
  | 39 => some (3, SX8_setGap)
  | _ => none
theorem vtX8_add_28 : vtX8_add 28 = some (2, SX8_copy) := rfl
theorem vtX8_add_32 : vtX8_add 32 = some (2, SX8_widen) := rfl
theorem vtX8_add_35 : vtX8_add 35 = some (2, SX8_compareSize) := rfl
theorem vtX8_add_39 : vtX8_add 39 = some (3, SX8_setGap) := rfl
def stX8_add : Nat → Option (Nat × eSp) := fun _ => none
abbrev TX8_add : eT := (fl_RX8, cl_RX8, dl_RX8, vtX8_add, stX8_add)
set_option maxRecDepth 20000 in
theorem caX8_add : eCalls RX8 { frames := 1, cells := 0, slots := 0, locals := 32 } TX8_add := by
  refine ⟨fun k n sp h => ?_, fun k n sp h => ?_⟩
  · dsimp only [TX8_add] at h
    unfold vtX8_add at h
    split at h
    · cases h; exact eV_mk mX8_copy wX8_copy (by decide +kernel) (Or.inl (gW_at 538 (by decide +kernel) rfl))
    · cases h; exact eV_mk mX8_widen wX8_widen (by decide +kernel) (Or.inl (gW_at 539 (by decide +kernel) rfl))
    · cases h; exact eV_mk mX8_compareSize wX8_compareSize (by decide +kernel) (Or.inl (gW_at 543 (by decide +kernel) rfl))
    · cases h; exact eV_mk mX8_setGap wX8_setGap (by decide +kernel) (Or.inl (gW_at 544 (by decide +kernel) rfl))
    · cases h
  · cases h
set_option maxRecDepth 100000 in
set_option maxHeartbeats 4000000 in
theorem sX8_add : eSafe TX8_add (cdOf kX8_add) 4 none SX8_add := by
  intro K rt hK as M h
  obtain ⟨F, A, W, k, j, z, y, w, rfl, rfl, hk, hj, hn, hw, hz, hy, hb, h⟩ := h
  refine ⟨by simp [eE], ?_⟩
  have hs := wq_s hz
  have hs' := wq_s hy
  obtain ⟨v, hv⟩ : ∃ v, w * y = v := ⟨_, rfl⟩
  rw [hv] at h
  have av : (w = 1 ∧ v = y) ∨ (w = -1 ∧ v = -y) := by
    rw [← hv]
    rcases hw with rfl | rfl
    · exact Or.inl ⟨rfl, Int.one_mul y⟩
    · exact Or.inr ⟨rfl, by omega⟩
  have cz := zSg_c z
  have cy := zSg_c y
  have cv := zSg_c v
  have ab : zAbs v = zAbs y := by omega
  have za := zAbs_0 z
  have ya := zAbs_0 y
  have lk64 : lw k ≤ 64 := by rcases lw_b k with q | q <;> omega
  have go : K 17 [some (eR (2, k)), some (eR (2, j)), some (eI w), some (eI (zSg v))] [] (cC F A W) := by
    refine x_iload_n hK kX8_add_17 (q := 18) rfl rfl ?_
    refine x_if_ne hK kX8_add_18 (q := 21) rfl (tg := 22) rfl (by exact zSg_w v) (fun c18 => ?_) (fun c18 => ?_)
    · refine x_aload_n hK kX8_add_22 (q := 23) rfl rfl ?_
      refine x_getfield hK kX8_add_23 (q := 26) rfl (gX8_13 ?_)
      refine x_if_ne hK kX8_add_26 (q := 29) rfl (tg := 42) rfl (by rw [hs]; exact zSg_w z) (fun c26 => ?_) (fun c26 => ?_)
      · refine x_aload_n hK kX8_add_42 (q := 43) rfl rfl ?_
        refine x_getfield hK kX8_add_43 (q := 46) rfl (gX8_13 ?_)
        refine x_iload_n hK kX8_add_46 (q := 47) rfl rfl ?_
        rw [hs]
        refine x_icmp_ne hK kX8_add_47 (q := 50) rfl (tg := 58) rfl (by refine ⟨zSg_w z, zSg_w v⟩) (fun c47 => ?_) (fun c47 => ?_)
        · refine x_aload_n hK kX8_add_58 (q := 59) rfl rfl ?_
          refine x_aload_n hK kX8_add_59 (q := 60) rfl rfl ?_
          refine x_cv2 hK kX8_add_60 (q := 63) rfl (vtX8_add_35) (Nat.le_of_ble_eq_true rfl) ?_
          refine SX8_compareSize_i hk hj hz hy ?_
          refine x_if_lt hK kX8_add_63 (q := 66) rfl (tg := 75) rfl (by exact (zCmp_w _ _).mpr trivial) (fun c63 => ?_) (fun c63 => ?_)
          · rw [zCmp_lt] at c63
            refine x_aload_n hK kX8_add_75 (q := 76) rfl rfl ?_
            refine x_aload_n hK kX8_add_76 (q := 77) rfl rfl ?_
            refine x_aload_n hK kX8_add_77 (q := 78) rfl rfl ?_
            refine x_cv3 hK kX8_add_78 (q := 81) rfl (vtX8_add_39) (Nat.le_of_ble_eq_true rfl) ?_
            refine SX8_setGap_i hk hj hk hy hz (by omega) (by omega) (by rw [hs]; exact zSg_w z) (fun f hf => ?_)
            have hfin := h _ (wu_sg lk64 (r := z + v) hf (by rw [hs] at c26; unfold zAbs at *; omega))
            have esg : zSg (z + v) = zSg v := by rw [hs] at c26; have := zSg_c (z + v); unfold zAbs at *; omega
            rw [esg] at hfin
            refine x_aload_n hK kX8_add_81 (q := 82) rfl rfl ?_
            refine x_iload_n hK kX8_add_82 (q := 83) rfl rfl ?_
            refine x_putfield hK kX8_add_83 (q := 86) rfl (pX8_13 ?_)
            refine x_return_ hK kX8_add_86 (by first | trivial | exact Or.inl rfl | exact Or.inr rfl) ?_
            first | exact hfin | (rw [uA_g, uA_u]; exact hfin)
          · rw [zCmp_lt] at c63
            refine x_aload_n hK kX8_add_66 (q := 67) rfl rfl ?_
            refine x_aload_n hK kX8_add_67 (q := 68) rfl rfl ?_
            refine x_aload_n hK kX8_add_68 (q := 69) rfl rfl ?_
            refine x_cv3 hK kX8_add_69 (q := 72) rfl (vtX8_add_39) (Nat.le_of_ble_eq_true rfl) ?_
            refine SX8_setGap_i hk hk hj hz hy (by omega) (by omega) (by rw [hs]; exact zSg_w z) (fun f hf => ?_)
            have hfin := h f (wu_wq hf (by rw [hs] at c26; unfold zAbs at *; omega) (fun q => by rw [hs] at c26 ⊢; have := zSg_c (z + v); unfold zAbs at *; omega))
            refine x_goto hK kX8_add_72 (tg := 86) rfl ?_
            refine x_return_ hK kX8_add_86 (by first | trivial | exact Or.inl rfl | exact Or.inr rfl) ?_
            first | exact hfin | (rw [uA_g, uA_u]; exact hfin)
        · refine x_aload_n hK kX8_add_50 (q := 51) rfl rfl ?_
          refine x_aload_n hK kX8_add_51 (q := 52) rfl rfl ?_
          refine x_cv2 hK kX8_add_52 (q := 55) rfl (vtX8_add_32) (Nat.le_of_ble_eq_true rfl) ?_
          refine SX8_widen_i hk hj hn hz hy ?_ hb (fun f hf => ?_)
          · rw [hs] at c26; omega
          have hfin := h f (by
            have e : zSg z * (zAbs z + zAbs y) = z + v := by
              rw [hs] at c26
              rcases cz with g | g | g
              · rw [g.2.1]; omega
              · omega
              · rw [g.2.1]; omega
            rw [e] at hf
            exact hf)
          refine x_goto hK kX8_add_55 (tg := 86) rfl ?_
          refine x_return_ hK kX8_add_86 (by first | trivial | exact Or.inl rfl | exact Or.inr rfl) ?_
          first | exact hfin | (rw [uA_g, uA_u]; exact hfin)
      · refine x_aload_n hK kX8_add_29 (q := 30) rfl rfl ?_
        refine x_aload_n hK kX8_add_30 (q := 31) rfl rfl ?_
        refine x_cv2 hK kX8_add_31 (q := 34) rfl (vtX8_add_28) (Nat.le_of_ble_eq_true rfl) ?_
        refine SX8_copy_i hk hj hn hy (by omega) (fun f hf => ?_)
        have z0 : z = 0 := by rw [hs] at c26; omega
        rw [z0, Int.zero_add] at h
        have hfin := h _ (wq_sg lk64 hf ab)
        refine x_aload_n hK kX8_add_34 (q := 35) rfl rfl ?_
        refine x_iload_n hK kX8_add_35 (q := 36) rfl rfl ?_
        refine x_putfield hK kX8_add_36 (q := 39) rfl (pX8_13 ?_)
        refine x_goto hK kX8_add_39 (tg := 86) rfl ?_
        refine x_return_ hK kX8_add_86 (by first | trivial | exact Or.inl rfl | exact Or.inr rfl) ?_
        first | exact hfin | (rw [uA_g, uA_u]; exact hfin)
    · refine x_return_ hK kX8_add_21 (by first | trivial | exact Or.inl rfl | exact Or.inr rfl) ?_
      have v0 : v = 0 := by omega
      rw [v0, Int.add_zero] at h
      have := h _ hz
      rw [uA_s] at this
      exact this
  simp only [eLoc, eE, List.length_cons, List.length_nil, List.replicate, List.cons_append, List.nil_append, Nat.reduceAdd, Nat.reduceSub]
  refine x_iload_n hK kX8_add_0 (q := 1) rfl rfl ?_
  refine x_if_ge hK kX8_add_1 (q := 4) rfl (tg := 12) rfl (by rcases hw with rfl | rfl <;> decide) (fun c1 => ?_) (fun c1 => ?_)
  · refine x_aload_n hK kX8_add_12 (q := 13) rfl rfl ?_
    refine x_getfield hK kX8_add_13 (q := 16) rfl (gX8_13 ?_)
    skip
    refine x_istore_n hK kX8_add_16 (q := 17) (jn := 3) rfl rfl ?_
    simp only [lS, lS2, clr_0, clr_I, clr_L, clr_R]
    refine x_to go ?_ rfl rfl
    rw [hs']
    have e : (if w < 0 then -zSg y else zSg y) = zSg v := by
      rcases hw with rfl | rfl
      · rw [if_neg (by decide)]; omega
      · rw [if_pos (by decide)]; omega
    first | (rw [if_pos (by omega)] at e; rw [e]) | (rw [if_neg (by omega)] at e; rw [e])
  · refine x_aload_n hK kX8_add_4 (q := 5) rfl rfl ?_
    refine x_getfield hK kX8_add_5 (q := 8) rfl (gX8_13 ?_)
    refine x_ineg hK kX8_add_8 (q := 9) rfl ?_
    refine x_goto hK kX8_add_9 (tg := 16) rfl ?_
    skip
    refine x_istore_n hK kX8_add_16 (q := 17) (jn := 3) rfl rfl ?_
    simp only [lS, lS2, clr_0, clr_I, clr_L, clr_R]
    refine x_to go ?_ rfl rfl
    rw [hs']
    have e : (if w < 0 then -zSg y else zSg y) = zSg v := by
      rcases hw with rfl | rfl
      · rw [if_neg (by decide)]; omega
      · rw [if_pos (by decide)]; omega
    first | (rw [if_pos (by omega)] at e; rw [e]) | (rw [if_neg (by omega)] at e; rw [e])
set_option maxRecDepth 20000 in
theorem mX8_add : eMet yX8_add cX8_add 4 none 1 32 SX8_add := eMet_of (by decide +kernel) sX8_add kX8_add_ok caX8_add tb_RX8
theorem wX8_add : eWV yX8_add cX8_add 4 none 3 7 SX8_add := ⟨(gW_at 537 (by decide +kernel) rfl), (gW_at 81 (by decide +kernel) rfl), (gW_at 535 (by decide +kernel) rfl), ⟨_, rfl, (gW_at 536 (by decide +kernel) rfl)⟩, by decide +kernel, SX8_add_r⟩
