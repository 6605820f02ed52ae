/-! The algebra: weigh. -/
theorem rb_w : rb 11 = 121 ∧ rb 12 = 125 ∧ rb 13 = 129 ∧ rl 11 = 4 ∧ rl 12 = 4 ∧ rl 13 = 4 := by decide
def w0F (V : Nat → Int) (n : Nat) : Nat → Int := fun k => if k < n then dS (fun j => V (gb (3 + k) + (4 * j + j))) n else 0
def w1F (V : Nat → Int) (n : Nat) (v : Nat → Int) : Nat → Int := fun j => if j < n then dS (fun i => v i * V (gb 2 + (4 * i + j))) n else 0
def wgV (V : Nat → Int) (n : Nat) : Nat → Int := vG8 (vG8 (vG8 V (rb 11) 4 (w0F V n)) (rb 12) 4 (w1F V n (w0F V n))) (rb 13) 4 (w1F V n (w1F V n (w0F V n)))
def SX0_weigh : eSp := fun as M rt => ∃ (F : Nat → Int) (A W : Nat → Int → Int) (V : Nat → Int) (n a b : Nat), as = [eR (1, 4)] ∧ M = cC F A W ∧ (aR W V) ∧ (F 5 = n) ∧ (n ≤ 4) ∧ (∀ k j, k < n → j < n → zAbs (V (gb (3 + k) + (4 * j + j))) ≤ 2 ^ a) ∧ (∀ i j, i < n → j < n → zAbs (V (gb 2 + (4 * i + j))) ≤ 2 ^ b) ∧ (a + 2 * b + 8 ≤ 930) ∧ (∀ W', aR W' (wgV V n) → rt none (cC F A W'))
theorem SX0_weigh_i {F : Nat → Int} {A W : Nat → Int → Int} {V : Nat → Int} {n a b : Nat} {rt : Option eV → eM → Prop} (hV : aR W V) (hn : F 5 = n) (n4 : n ≤ 4) (ha : ∀ k j, k < n → j < n → zAbs (V (gb (3 + k) + (4 * j + j))) ≤ 2 ^ a) (hb : ∀ i j, i < n → j < n → zAbs (V (gb 2 + (4 * i + j))) ≤ 2 ^ b) (hab : a + 2 * b + 8 ≤ 930) (h : ∀ W', aR W' (wgV V n) → rt none (cC F A W')) : SX0_weigh [eR (1, 4)] (cC F A W) rt := ⟨F, A, W, V, n, a, b, rfl, rfl, hV, hn, n4, ha, hb, hab, h⟩
theorem SX0_weigh_r : ∀ as M rt, SX0_weigh as M rt → ∃ a r fs, as = eR a :: r ∧ M a = some (.inl (0, fs)) := by
  rintro as M rt ⟨F, A, W, V, n, a, b, rfl, rfl, -⟩
  exact ⟨_, _, _, rfl, rfl⟩
def kX0_weigh : List (Nat × Jvm.ClassFile.Instr × Nat) := [(0, .aload_n 0, 1), (1, .getfield 33, 3), (4, .iconst 0, 1), (5, .aaload, 1), (6, .invokevirtual 176, 3), (9, .iconst 0, 1), (10, .istore_n 1, 1), (11, .iload_n 1, 1), (12, .aload_n 0, 1), (13, .getfield 17, 3), (16, .if_icmp .ge 56, 3), (19, .iload_n 1, 1), (20, .iconst 4, 1), (21, .if_icmp .ge 51, 3), (24, .iconst 0, 1), (25, .istore_n 2, 1), (26, .iload_n 2, 1), (27, .aload_n 0, 1), (28, .getfield 17, 3), (31, .if_icmp .ge 35, 3), (34, .aload_n 0, 1), (35, .getfield 33, 3), (38, .iconst 0, 1), (39, .aaload, 1), (40, .getfield 177, 3), (43, .iload_n 1, 1), (44, .aaload, 1), (45, .aload_n 0, 1), (46, .getfield 25, 3), (49, .iload_n 1, 1), (50, .aaload, 1), (51, .iload_n 2, 1), (52, .iload_n 2, 1), (53, .invokevirtual 160, 3), (56, .iconst 1, 1), (57, .invokevirtual 201, 3), (60, .iinc 2 1, 3), (63, .goto (-37), 3), (66, .iinc 1 1, 3), (69, .goto (-58), 3), (72, .iconst 1, 1), (73, .istore_n 1, 1), (74, .iload_n 1, 1), (75, .iconst 3, 1), (76, .if_icmp .ge 107, 3), (79, .aload_n 0, 1), (80, .getfield 33, 3), (83, .iload_n 1, 1), (84, .aaload, 1), (85, .invokevirtual 176, 3), (88, .iconst 0, 1), (89, .istore_n 2, 1), (90, .iload_n 2, 1), (91, .aload_n 0, 1), (92, .getfield 17, 3), (95, .if_icmp .ge 82, 3), (98, .iload_n 2, 1), (99, .iconst 4, 1), (100, .if_icmp .ge 77, 3), (103, .iconst 0, 1), (104, .istore_n 3, 1), (105, .iload_n 3, 1), (106, .aload_n 0, 1), (107, .getfield 17, 3), (110, .if_icmp .ge 61, 3), (113, .iload_n 3, 1), (114, .iconst 4, 1), (115, .if_icmp .ge 56, 3), (118, .aload_n 0, 1), (119, .getfield 21, 3), (122, .iconst 2, 1), (123, .aaload, 1), (124, .iload_n 2, 1), (125, .iload_n 3, 1), (126, .invokevirtual 160, 3), (129, .astore 4, 2), (131, .aload_n 0, 1), (132, .getfield 63, 3), (135, .aload_n 0, 1), (136, .getfield 33, 3), (139, .iload_n 1, 1), (140, .aaload, 1), (141, .getfield 177, 3), (144, .iload_n 3, 1), (145, .aaload, 1), (146, .aload_n 0, 1), (147, .getfield 33, 3), (150, .iload_n 1, 1), (151, .iconst 1, 1), (152, .isub, 1), (153, .aaload, 1), (154, .getfield 177, 3), (157, .iload_n 2, 1), (158, .aaload, 1), (159, .aload 4, 2), (161, .iconst 1, 1), (162, .invokevirtual 189, 3), (165, .iinc 3 1, 3), (168, .goto (-63), 3), (171, .iinc 2 1, 3), (174, .goto (-84), 3), (177, .iinc 1 1, 3), (180, .goto (-106), 3), (183, .return_, 1)]
theorem kX0_weigh_0 : cdOf kX0_weigh 0 = some (.aload_n 0, 1) := by decide +kernel
theorem kX0_weigh_1 : cdOf kX0_weigh 1 = some (.getfield 33, 3) := by decide +kernel
theorem kX0_weigh_4 : cdOf kX0_weigh 4 = some (.iconst 0, 1) := by decide +kernel
theorem kX0_weigh_5 : cdOf kX0_weigh 5 = some (.aaload, 1) := by decide +kernel
theorem kX0_weigh_6 : cdOf kX0_weigh 6 = some (.invokevirtual 176, 3) := by decide +kernel
theorem kX0_weigh_9 : cdOf kX0_weigh 9 = some (.iconst 0, 1) := by decide +kernel
theorem kX0_weigh_10 : cdOf kX0_weigh 10 = some (.istore_n 1, 1) := by decide +kernel
theorem kX0_weigh_11 : cdOf kX0_weigh 11 = some (.iload_n 1, 1) := by decide +kernel
theorem kX0_weigh_12 : cdOf kX0_weigh 12 = some (.aload_n 0, 1) := by decide +kernel
theorem kX0_weigh_13 : cdOf kX0_weigh 13 = some (.getfield 17, 3) := by decide +kernel
theorem kX0_weigh_16 : cdOf kX0_weigh 16 = some (.if_icmp .ge 56, 3) := by decide +kernel
theorem kX0_weigh_19 : cdOf kX0_weigh 19 = some (.iload_n 1, 1) := by decide +kernel
theorem kX0_weigh_20 : cdOf kX0_weigh 20 = some (.iconst 4, 1) := by decide +kernel
theorem kX0_weigh_21 : cdOf kX0_weigh 21 = some (.if_icmp .ge 51, 3) := by decide +kernel
theorem kX0_weigh_24 : cdOf kX0_weigh 24 = some (.iconst 0, 1) := by decide +kernel
theorem kX0_weigh_25 : cdOf kX0_weigh 25 = some (.istore_n 2, 1) := by decide +kernel
theorem kX0_weigh_26 : cdOf kX0_weigh 26 = some (.iload_n 2, 1) := by decide +kernel
theorem kX0_weigh_27 : cdOf kX0_weigh 27 = some (.aload_n 0, 1) := by decide +kernel
theorem kX0_weigh_28 : cdOf kX0_weigh 28 = some (.getfield 17, 3) := by decide +kernel
theorem kX0_weigh_31 : cdOf kX0_weigh 31 = some (.if_icmp .ge 35, 3) := by decide +kernel
theorem kX0_weigh_34 : cdOf kX0_weigh 34 = some (.aload_n 0, 1) := by decide +kernel
theorem kX0_weigh_35 : cdOf kX0_weigh 35 = some (.getfield 33, 3) := by decide +kernel
theorem kX0_weigh_38 : cdOf kX0_weigh 38 = some (.iconst 0, 1) := by decide +kernel
theorem kX0_weigh_39 : cdOf kX0_weigh 39 = some (.aaload, 1) := by decide +kernel
theorem kX0_weigh_40 : cdOf kX0_weigh 40 = some (.getfield 177, 3) := by decide +kernel
theorem kX0_weigh_43 : cdOf kX0_weigh 43 = some (.iload_n 1, 1) := by decide +kernel
theorem kX0_weigh_44 : cdOf kX0_weigh 44 = some (.aaload, 1) := by decide +kernel
theorem kX0_weigh_45 : cdOf kX0_weigh 45 = some (.aload_n 0, 1) := by decide +kernel
theorem kX0_weigh_46 : cdOf kX0_weigh 46 = some (.getfield 25, 3) := by decide +kernel
theorem kX0_weigh_49 : cdOf kX0_weigh 49 = some (.iload_n 1, 1) := by decide +kernel
theorem kX0_weigh_50 : cdOf kX0_weigh 50 = some (.aaload, 1) := by decide +kernel
theorem kX0_weigh_51 : cdOf kX0_weigh 51 = some (.iload_n 2, 1) := by decide +kernel
theorem kX0_weigh_52 : cdOf kX0_weigh 52 = some (.iload_n 2, 1) := by decide +kernel
theorem kX0_weigh_53 : cdOf kX0_weigh 53 = some (.invokevirtual 160, 3) := by decide +kernel
theorem kX0_weigh_56 : cdOf kX0_weigh 56 = some (.iconst 1, 1) := by decide +kernel
theorem kX0_weigh_57 : cdOf kX0_weigh 57 = some (.invokevirtual 201, 3) := by decide +kernel
theorem kX0_weigh_60 : cdOf kX0_weigh 60 = some (.iinc 2 1, 3) := by decide +kernel
theorem kX0_weigh_63 : cdOf kX0_weigh 63 = some (.goto (-37), 3) := by decide +kernel
theorem kX0_weigh_66 : cdOf kX0_weigh 66 = some (.iinc 1 1, 3) := by decide +kernel
theorem kX0_weigh_69 : cdOf kX0_weigh 69 = some (.goto (-58), 3) := by decide +kernel
theorem kX0_weigh_72 : cdOf kX0_weigh 72 = some (.iconst 1, 1) := by decide +kernel
theorem kX0_weigh_73 : cdOf kX0_weigh 73 = some (.istore_n 1, 1) := by decide +kernel
theorem kX0_weigh_74 : cdOf kX0_weigh 74 = some (.iload_n 1, 1) := by decide +kernel
theorem kX0_weigh_75 : cdOf kX0_weigh 75 = some (.iconst 3, 1) := by decide +kernel
theorem kX0_weigh_76 : cdOf kX0_weigh 76 = some (.if_icmp .ge 107, 3) := by decide +kernel
theorem kX0_weigh_79 : cdOf kX0_weigh 79 = some (.aload_n 0, 1) := by decide +kernel
theorem kX0_weigh_80 : cdOf kX0_weigh 80 = some (.getfield 33, 3) := by decide +kernel
theorem kX0_weigh_83 : cdOf kX0_weigh 83 = some (.iload_n 1, 1) := by decide +kernel
theorem kX0_weigh_84 : cdOf kX0_weigh 84 = some (.aaload, 1) := by decide +kernel
theorem kX0_weigh_85 : cdOf kX0_weigh 85 = some (.invokevirtual 176, 3) := by decide +kernel
theorem kX0_weigh_88 : cdOf kX0_weigh 88 = some (.iconst 0, 1) := by decide +kernel
theorem kX0_weigh_89 : cdOf kX0_weigh 89 = some (.istore_n 2, 1) := by decide +kernel
theorem kX0_weigh_90 : cdOf kX0_weigh 90 = some (.iload_n 2, 1) := by decide +kernel
theorem kX0_weigh_91 : cdOf kX0_weigh 91 = some (.aload_n 0, 1) := by decide +kernel
theorem kX0_weigh_92 : cdOf kX0_weigh 92 = some (.getfield 17, 3) := by decide +kernel
theorem kX0_weigh_95 : cdOf kX0_weigh 95 = some (.if_icmp .ge 82, 3) := by decide +kernel
theorem kX0_weigh_98 : cdOf kX0_weigh 98 = some (.iload_n 2, 1) := by decide +kernel
theorem kX0_weigh_99 : cdOf kX0_weigh 99 = some (.iconst 4, 1) := by decide +kernel
theorem kX0_weigh_100 : cdOf kX0_weigh 100 = some (.if_icmp .ge 77, 3) := by decide +kernel
theorem kX0_weigh_103 : cdOf kX0_weigh 103 = some (.iconst 0, 1) := by decide +kernel
theorem kX0_weigh_104 : cdOf kX0_weigh 104 = some (.istore_n 3, 1) := by decide +kernel
theorem kX0_weigh_105 : cdOf kX0_weigh 105 = some (.iload_n 3, 1) := by decide +kernel
theorem kX0_weigh_106 : cdOf kX0_weigh 106 = some (.aload_n 0, 1) := by decide +kernel
theorem kX0_weigh_107 : cdOf kX0_weigh 107 = some (.getfield 17, 3) := by decide +kernel
theorem kX0_weigh_110 : cdOf kX0_weigh 110 = some (.if_icmp .ge 61, 3) := by decide +kernel
theorem kX0_weigh_113 : cdOf kX0_weigh 113 = some (.iload_n 3, 1) := by decide +kernel
theorem kX0_weigh_114 : cdOf kX0_weigh 114 = some (.iconst 4, 1) := by decide +kernel
theorem kX0_weigh_115 : cdOf kX0_weigh 115 = some (.if_icmp .ge 56, 3) := by decide +kernel
theorem kX0_weigh_118 : cdOf kX0_weigh 118 = some (.aload_n 0, 1) := by decide +kernel
theorem kX0_weigh_119 : cdOf kX0_weigh 119 = some (.getfield 21, 3) := by decide +kernel
theorem kX0_weigh_122 : cdOf kX0_weigh 122 = some (.iconst 2, 1) := by decide +kernel
theorem kX0_weigh_123 : cdOf kX0_weigh 123 = some (.aaload, 1) := by decide +kernel
theorem kX0_weigh_124 : cdOf kX0_weigh 124 = some (.iload_n 2, 1) := by decide +kernel
theorem kX0_weigh_125 : cdOf kX0_weigh 125 = some (.iload_n 3, 1) := by decide +kernel
theorem kX0_weigh_126 : cdOf kX0_weigh 126 = some (.invokevirtual 160, 3) := by decide +kernel
theorem kX0_weigh_129 : cdOf kX0_weigh 129 = some (.astore 4, 2) := by decide +kernel
theorem kX0_weigh_131 : cdOf kX0_weigh 131 = some (.aload_n 0, 1) := by decide +kernel
theorem kX0_weigh_132 : cdOf kX0_weigh 132 = some (.getfield 63, 3) := by decide +kernel
theorem kX0_weigh_135 : cdOf kX0_weigh 135 = some (.aload_n 0, 1) := by decide +kernel
theorem kX0_weigh_136 : cdOf kX0_weigh 136 = some (.getfield 33, 3) := by decide +kernel
theorem kX0_weigh_139 : cdOf kX0_weigh 139 = some (.iload_n 1, 1) := by decide +kernel
theorem kX0_weigh_140 : cdOf kX0_weigh 140 = some (.aaload, 1) := by decide +kernel
theorem kX0_weigh_141 : cdOf kX0_weigh 141 = some (.getfield 177, 3) := by decide +kernel
theorem kX0_weigh_144 : cdOf kX0_weigh 144 = some (.iload_n 3, 1) := by decide +kernel
theorem kX0_weigh_145 : cdOf kX0_weigh 145 = some (.aaload, 1) := by decide +kernel
theorem kX0_weigh_146 : cdOf kX0_weigh 146 = some (.aload_n 0, 1) := by decide +kernel
theorem kX0_weigh_147 : cdOf kX0_weigh 147 = some (.getfield 33, 3) := by decide +kernel
theorem kX0_weigh_150 : cdOf kX0_weigh 150 = some (.iload_n 1, 1) := by decide +kernel
theorem kX0_weigh_151 : cdOf kX0_weigh 151 = some (.iconst 1, 1) := by decide +kernel
theorem kX0_weigh_152 : cdOf kX0_weigh 152 = some (.isub, 1) := by decide +kernel
theorem kX0_weigh_153 : cdOf kX0_weigh 153 = some (.aaload, 1) := by decide +kernel
theorem kX0_weigh_154 : cdOf kX0_weigh 154 = some (.getfield 177, 3) := by decide +kernel
theorem kX0_weigh_157 : cdOf kX0_weigh 157 = some (.iload_n 2, 1) := by decide +kernel
theorem kX0_weigh_158 : cdOf kX0_weigh 158 = some (.aaload, 1) := by decide +kernel
theorem kX0_weigh_159 : cdOf kX0_weigh 159 = some (.aload 4, 2) := by decide +kernel
theorem kX0_weigh_161 : cdOf kX0_weigh 161 = some (.iconst 1, 1) := by decide +kernel
theorem kX0_weigh_162 : cdOf kX0_weigh 162 = some (.invokevirtual 189, 3) := by decide +kernel
theorem kX0_weigh_165 : cdOf kX0_weigh 165 = some (.iinc 3 1, 3) := by decide +kernel
theorem kX0_weigh_168 : cdOf kX0_weigh 168 = some (.goto (-63), 3) := by decide +kernel
theorem kX0_weigh_171 : cdOf kX0_weigh 171 = some (.iinc 2 1, 3) := by decide +kernel
theorem kX0_weigh_174 : cdOf kX0_weigh 174 = some (.goto (-84), 3) := by decide +kernel
theorem kX0_weigh_177 : cdOf kX0_weigh 177 = some (.iinc 1 1, 3) := by decide +kernel
theorem kX0_weigh_180 : cdOf kX0_weigh 180 = some (.goto (-106), 3) := by decide +kernel
theorem kX0_weigh_183 : cdOf kX0_weigh 183 = some (.return_, 1) := by decide +kernel
set_option maxRecDepth 20000 in
theorem kX0_weigh_ok : ∀ pc i len, cdOf kX0_weigh pc = some (i, len) → decode cX0_weigh pc = .ok (i, len) ∧ stOK 5 i = true ∧ jOK pc i = true ∧ eLen i len = true := cdOf_ok cX0_weigh 5 kX0_weigh (by decide +kernel)
def vtX0_weigh : Nat → Option (Nat × eSp) := fun k => match k with
  | 176 => some (1, SX7_wipe)
  | 160 => some (3, SX2_read)
  | 201 => some (3, SX8_add)
  | 189 => some (5, SX1_addProduct)
  | _ => none
theorem vtX0_weigh_176 : vtX0_weigh 176 = some (1, SX7_wipe) := rfl
theorem vtX0_weigh_160 : vtX0_weigh 160 = some (3, SX2_read) := rfl
theorem vtX0_weigh_201 : vtX0_weigh 201 = some (3, SX8_add) := rfl
theorem vtX0_weigh_189 : vtX0_weigh 189 = some (5, SX1_addProduct) := rfl
def stX0_weigh : Nat → Option (Nat × eSp) := fun _ => none
abbrev TX0_weigh : eT := (fl_RX0, cl_RX0, dl_RX0, vtX0_weigh, stX0_weigh)
set_option maxRecDepth 20000 in
theorem caX0_weigh : eCalls RX0 { frames := 3, cells := 0, slots := 0, locals := 79 } TX0_weigh := by
  refine ⟨fun k n sp h => ?_, fun k n sp h => ?_⟩
  · dsimp only [TX0_weigh] at h
    unfold vtX0_weigh at h
    split at h
    · cases h; exact eV_mk mX7_wipe wX7_wipe (by decide +kernel) (Or.inl (gW_at 662 (by decide +kernel) rfl))
    · cases h; exact eV_mk mX2_read wX2_read (by decide +kernel) (Or.inl (gW_at 638 (by decide +kernel) rfl))
    · cases h; exact eV_mk mX8_add wX8_add (by decide +kernel) (Or.inl (gW_at 678 (by decide +kernel) rfl))
    · cases h; exact eV_mk mX1_addProduct wX1_addProduct (by decide +kernel) (Or.inl (gW_at 668 (by decide +kernel) rfl))
    · cases h
  · cases h
set_option maxRecDepth 100000 in
set_option maxHeartbeats 4000000 in
theorem sX0_weigh : eSafe TX0_weigh (cdOf kX0_weigh) 5 none SX0_weigh := by
  intro K rt hK as M h
  obtain ⟨F, A, W, V, n, a, b, rfl, rfl, hV, hn, n4, ha, hb, hab, h⟩ := h
  refine ⟨by simp [eE], ?_⟩
  obtain ⟨e11, e12, e13, l11, l12, l13⟩ := rb_w
  have g2 : gb 2 = 175 := rfl
  have z0 : zAbs 0 = 0 := rfl
  have b0 : ∀ k, k < n → ∀ m, m ≤ n → zAbs (dS (fun j => V (gb (3 + k) + (4 * j + j))) m) ≤ 2 ^ (a + 2) := fun k hk m hm => dS_le (by omega) (fun x hx => ha k x hk (by omega))
  have B0 : ∀ k, k < n → zAbs (w0F V n k) ≤ 2 ^ (a + 2) := fun k hk => by unfold w0F; rw [if_pos hk]; exact b0 k hk n (Nat.le_refl _)
  have bw : ∀ (v : Nat → Int) (c : Nat), (∀ i, i < n → zAbs (v i) ≤ 2 ^ c) → ∀ j, j < n → ∀ m, m ≤ n → zAbs (dS (fun i => v i * V (gb 2 + (4 * i + j))) m) ≤ 2 ^ (c + b + 2) := fun v c hv j hj m hm => dS_le (by omega) (fun x hx => two_le (hv x (by omega)) (hb x j (by omega) hj))
  have B1 : ∀ j, j < n → zAbs (w1F V n (w0F V n) j) ≤ 2 ^ (a + 2 + b + 2) := fun j hj => by unfold w1F; rw [if_pos hj]; exact bw _ _ B0 j hj n (Nat.le_refl _)
  -- one more row of weights
  obtain ⟨P, hP⟩ : ∃ P : (Nat → Int) → Nat → Nat → Nat → Int, P = fun v i j c => if c < n then dS (fun i => v i * V (gb 2 + (4 * i + c))) (if c < j then i + 1 else i) else 0 := ⟨_, rfl⟩
  have row : ∀ (e r : Nat) (Vk v : Nat → Int) (c : Nat), (e = 1 ∨ e = 2) → rb (11 + e) = r → (∀ t, (133 ≤ t) → Vk t = V t) → (∀ i, i < n → Vk (rb (10 + e) + i) = v i) → (∀ i, i < n → zAbs (v i) ≤ 2 ^ c) → c + b + 2 ≤ 930 → (∀ (W1 : Nat → Int → Int) (u2 u3 u4 : Option eV), aR W1 (vG8 Vk r 4 (w1F V n v)) → K 74 [some (eR (1, 4)), some (eI ((e + 1 : Nat) : Int)), u2, u3, u4] [] (cC F A W1)) →
      ∀ (W1 : Nat → Int → Int) (u2 u3 u4 : Option eV), aR W1 Vk → K 74 [some (eR (1, 4)), some (eI e), u2, u3, u4] [] (cC F A W1) := by
    intro e r Vk v c he hr hVk hv hvb hcb cont
    have re : rb (10 + e) + 4 = r ∧ r + 4 ≤ 133 ∧ 121 ≤ rb (10 + e) ∧ rl (11 + e) = 4 := by
      rcases he with rfl | rfl <;> (rw [← hr]; decide)
    have re2 : rl (10 + e) = 4 ∧ 11 + (e - 1) = 10 + e := by
      rcases he with rfl | rfl <;> decide
    have inner : ∀ (i : Nat), i < n → (∀ (W1 : Nat → Int → Int) (u3 u4 : Option eV), aR W1 (vG8 Vk r 4 (P v (i + 1) 0)) → K 90 [some (eR (1, 4)), some (eI e), some (eI ((i + 1 : Nat) : Int)), u3, u4] [] (cC F A W1)) → ∀ (d j : Nat) (W1 : Nat → Int → Int) (u4 : Option eV), j + d = n → aR W1 (vG8 Vk r 4 (P v i j)) → K 105 [some (eR (1, 4)), some (eI e), some (eI i), some (eI j), u4] [] (cC F A W1) := by
      intro i hi cont2 d
      induction d with
      | zero =>
        intro j W1 u4 hj h1
        have : j = n := by omega
        subst this
        refine x_iload_n hK kX0_weigh_105 (q := 106) rfl rfl ?_
        refine x_aload_n hK kX0_weigh_106 (q := 107) rfl rfl ?_
        refine x_getfield hK kX0_weigh_107 (q := 110) rfl (gX0_17 ?_)
        rw [hn]
        refine x_icmp_ge hK kX0_weigh_110 (q := 113) rfl (tg := 171) rfl (by refine ⟨?_, ?_⟩ <;> omega) (fun c110 => ?_) (fun c110 => ?_)
        · refine x_iinc hK kX0_weigh_171 (q := 174) rfl rfl ?_
          simp only [lS, lS2, clr_0, clr_I, clr_L, clr_R]
          refine x_goto hK kX0_weigh_174 (tg := 90) rfl ?_
          rw [show (i : Int) + 1 = ((i + 1 : Nat) : Int) by omega]
          refine cont2 W1 _ _ (aR_c h1 (fun t _ _ => ?_))
          unfold vG8
          split
          · rw [hP]
            dsimp only
            by_cases g : t - r < j
            · rw [if_pos g, if_pos g, if_neg (by omega), if_pos g]
            · rw [if_neg g, if_neg g]
          · rfl
        · exfalso; omega
      | succ d ih =>
        intro j W1 u4 hj h1
        have cj : vG8 Vk r 4 (P v i j) (r + j) = dS (fun i => v i * V (gb 2 + (4 * i + j))) i := by
          rw [vG8_i _ _ (by omega), hP]
          dsimp only
          rw [if_pos (by omega), if_neg (by omega)]
        have b1 := bw v c hvb j (by omega) i (by omega)
        have b2 := p2_m hcb
        refine x_iload_n hK kX0_weigh_105 (q := 106) rfl rfl ?_
        refine x_aload_n hK kX0_weigh_106 (q := 107) rfl rfl ?_
        refine x_getfield hK kX0_weigh_107 (q := 110) rfl (gX0_17 ?_)
        rw [hn]
        refine x_icmp_ge hK kX0_weigh_110 (q := 113) rfl (tg := 171) rfl (by refine ⟨?_, ?_⟩ <;> omega) (fun c110 => ?_) (fun c110 => ?_)
        · exfalso; omega
        · refine x_iload_n hK kX0_weigh_113 (q := 114) rfl rfl ?_
          refine x_iconst hK kX0_weigh_114 (q := 115) rfl ?_
          refine x_icmp_ge hK kX0_weigh_115 (q := 118) rfl (tg := 171) rfl (by refine ⟨?_, ?_⟩ <;> omega) (fun c115 => ?_) (fun c115 => ?_)
          · exfalso; omega
          · refine x_aload_n hK kX0_weigh_118 (q := 119) rfl rfl ?_
            refine x_getfield hK kX0_weigh_119 (q := 122) rfl (gX0_21 ?_)
            refine x_iconst hK kX0_weigh_122 (q := 123) rfl ?_
            refine x_aaload hK kX0_weigh_123 (q := 124) rfl (aC0_4 (q := 2) (by omega) ?_)
            refine x_iload_n hK kX0_weigh_124 (q := 125) rfl rfl ?_
            refine x_iload_n hK kX0_weigh_125 (q := 126) rfl rfl ?_
            refine x_cv3 hK kX0_weigh_126 (q := 129) rfl (vtX0_weigh_160) (Nat.le_of_ble_eq_true rfl) ?_
            refine SX2_read_i (g := 2) (i := i) (j := j) (by decide) (by omega) (by omega) ?_
            refine x_astore hK kX0_weigh_129 (q := 131) rfl ?_
            refine x_aload_n hK kX0_weigh_131 (q := 132) rfl rfl ?_
            refine x_getfield hK kX0_weigh_132 (q := 135) rfl (gX0_63 ?_)
            refine x_aload_n hK kX0_weigh_135 (q := 136) rfl rfl ?_
            refine x_getfield hK kX0_weigh_136 (q := 139) rfl (gX0_33 ?_)
            refine x_iload_n hK kX0_weigh_139 (q := 140) rfl rfl ?_
            refine x_aaload hK kX0_weigh_140 (q := 141) rfl (aC0_7 (by omega) ?_)
            refine x_getfield hK kX0_weigh_141 (q := 144) rfl (gX0_177 ?_)
            refine x_iload_n hK kX0_weigh_144 (q := 145) rfl rfl ?_
            refine x_aaload hK kX0_weigh_145 (q := 146) rfl (wa_a wa_6 (by rw [re.2.2.2]; omega) ?_)
            refine x_aload_n hK kX0_weigh_146 (q := 147) rfl rfl ?_
            refine x_getfield hK kX0_weigh_147 (q := 150) rfl (gX0_33 ?_)
            refine x_iload_n hK kX0_weigh_150 (q := 151) rfl rfl ?_
            refine x_iconst hK kX0_weigh_151 (q := 152) rfl ?_
            refine x_isub hK kX0_weigh_152 (q := 153) rfl ?_
            simp only [lS, lS2, clr_0, clr_I, clr_L, clr_R]
            rw [show (e : Int) - 1 = ((e - 1 : Nat) : Int) by omega]
            refine x_aaload hK kX0_weigh_153 (q := 154) rfl (aC0_7 (by omega) ?_)
            refine x_getfield hK kX0_weigh_154 (q := 157) rfl (gX0_177 ?_)
            rw [re2.2]
            refine x_iload_n hK kX0_weigh_157 (q := 158) rfl rfl ?_
            refine x_aaload hK kX0_weigh_158 (q := 159) rfl (wa_a wa_6 (by rw [re2.1]; omega) ?_)
            refine x_aload hK kX0_weigh_159 (q := 161) rfl rfl ?_
            refine x_iconst hK kX0_weigh_161 (q := 162) rfl ?_
            refine x_cv5 hK kX0_weigh_162 (q := 165) rfl (vtX0_weigh_189) (Nat.le_of_ble_eq_true rfl) ?_
            refine addP_a (k := rb (11 + e) + j) (a := rb (10 + e) + i) (b := gb 2 + (4 * i + j)) (m := c) (n := b) h1 (by omega) (by omega) (by omega) (by omega) (by omega) (by omega) (Or.inl rfl) (by rw [vG8_o _ _ (by omega), hv i hi]; exact hvb i hi) (by rw [vG8_o _ _ (by omega), hVk _ (by omega)]; exact hb i j hi (by omega)) (by omega) (by rw [hr, cj]; omega) (fun W2 h2 => ?_)
            rw [hr, cj, vG8_o _ _ (by omega), hv i hi, vG8_o _ _ (by omega), hVk _ (by omega), Int.one_mul] at h2
            refine x_iinc hK kX0_weigh_165 (q := 168) rfl rfl ?_
            simp only [lS, lS2, clr_0, clr_I, clr_L, clr_R]
            refine x_goto hK kX0_weigh_168 (tg := 105) rfl ?_
            rw [show (j : Int) + 1 = ((j + 1 : Nat) : Int) by omega]
            refine ih (j + 1) W2 _ (by omega) (aR_c h2 (fun t _ _ => ?_))
            unfold vU vG8
            by_cases g1 : t = r + j
            · rw [if_pos g1, if_pos (by omega), hP]
              dsimp only
              rw [show t - r = j by omega, if_pos (by omega), if_pos (by omega)]
              rfl
            · rw [if_neg g1]
              split
              · rw [hP]
                dsimp only
                by_cases g2 : t - r < n
                · rw [if_pos g2, if_pos g2]
                  by_cases g3 : t - r < j
                  · rw [if_pos (by omega), if_pos g3]
                  · rw [if_neg (by omega), if_neg g3]
                · rw [if_neg g2, if_neg g2]
              · rfl
    have outer : ∀ (d i : Nat) (W1 : Nat → Int → Int) (u3 u4 : Option eV), i + d = n → aR W1 (vG8 Vk r 4 (P v i 0)) → K 90 [some (eR (1, 4)), some (eI e), some (eI i), u3, u4] [] (cC F A W1) := by
      intro d
      induction d with
      | zero =>
        intro i W1 u3 u4 hi h1
        have : i = n := by omega
        subst this
        refine x_iload_n hK kX0_weigh_90 (q := 91) rfl rfl ?_
        refine x_aload_n hK kX0_weigh_91 (q := 92) rfl rfl ?_
        refine x_getfield hK kX0_weigh_92 (q := 95) rfl (gX0_17 ?_)
        rw [hn]
        refine x_icmp_ge hK kX0_weigh_95 (q := 98) rfl (tg := 177) rfl (by refine ⟨?_, ?_⟩ <;> omega) (fun c95 => ?_) (fun c95 => ?_)
        · refine x_iinc hK kX0_weigh_177 (q := 180) rfl rfl ?_
          simp only [lS, lS2, clr_0, clr_I, clr_L, clr_R]
          refine x_goto hK kX0_weigh_180 (tg := 74) rfl ?_
          rw [show (e : Int) + 1 = ((e + 1 : Nat) : Int) by omega]
          refine cont W1 _ _ _ (aR_c h1 (fun t _ _ => ?_))
          unfold vG8
          split
          · rw [hP]
            unfold w1F
            dsimp only
            split
            · rw [if_neg (by omega)]
            · rfl
          · rfl
        · exfalso; omega
      | succ d ih =>
        intro i W1 u3 u4 hi h1
        refine x_iload_n hK kX0_weigh_90 (q := 91) rfl rfl ?_
        refine x_aload_n hK kX0_weigh_91 (q := 92) rfl rfl ?_
        refine x_getfield hK kX0_weigh_92 (q := 95) rfl (gX0_17 ?_)
        rw [hn]
        refine x_icmp_ge hK kX0_weigh_95 (q := 98) rfl (tg := 177) rfl (by refine ⟨?_, ?_⟩ <;> omega) (fun c95 => ?_) (fun c95 => ?_)
        · exfalso; omega
        · refine x_iload_n hK kX0_weigh_98 (q := 99) rfl rfl ?_
          refine x_iconst hK kX0_weigh_99 (q := 100) rfl ?_
          refine x_icmp_ge hK kX0_weigh_100 (q := 103) rfl (tg := 177) rfl (by refine ⟨?_, ?_⟩ <;> omega) (fun c100 => ?_) (fun c100 => ?_)
          · exfalso; omega
          · refine x_iconst hK kX0_weigh_103 (q := 104) rfl ?_
            refine x_istore_n hK kX0_weigh_104 (q := 105) (jn := 3) rfl rfl ?_
            simp only [lS, lS2, clr_0, clr_I, clr_L, clr_R]
            exact inner i (by omega) (fun W2 u3 u4 h2 => ih (i + 1) W2 u3 u4 (by omega) h2) n 0 W1 _ (by omega) h1
    intro W1 u2 u3 u4 h1
    refine x_iload_n hK kX0_weigh_74 (q := 75) rfl rfl ?_
    refine x_iconst hK kX0_weigh_75 (q := 76) rfl ?_
    refine x_icmp_ge hK kX0_weigh_76 (q := 79) rfl (tg := 183) rfl (by refine ⟨?_, ?_⟩ <;> omega) (fun c76 => ?_) (fun c76 => ?_)
    · exfalso; omega
    · refine x_aload_n hK kX0_weigh_79 (q := 80) rfl rfl ?_
      refine x_getfield hK kX0_weigh_80 (q := 83) rfl (gX0_33 ?_)
      refine x_iload_n hK kX0_weigh_83 (q := 84) rfl rfl ?_
      refine x_aaload hK kX0_weigh_84 (q := 85) rfl (aC0_7 (by omega) ?_)
      refine x_cv1 hK kX0_weigh_85 (q := 88) rfl (vtX0_weigh_176) (Nat.le_of_ble_eq_true rfl) ?_
      refine rwipe_a (r := 11 + e) h1 (by omega) (fun W2 h2 => ?_)
      rw [re.2.2.2, hr] at h2
      refine x_iconst hK kX0_weigh_88 (q := 89) rfl ?_
      refine x_istore_n hK kX0_weigh_89 (q := 90) (jn := 2) rfl rfl ?_
      simp only [lS, lS2, clr_0, clr_I, clr_L, clr_R]
      refine outer n 0 W2 _ _ (by omega) (aR_c h2 (fun t _ _ => ?_))
      unfold vG8
      split
      · rw [hP]
        dsimp only
        split
        · rw [if_neg (by omega)]
          rfl
        · rfl
      · rfl
  -- the end
  have s3 : ∀ (W1 : Nat → Int → Int) (u2 u3 u4 : Option eV), aR W1 (wgV V n) → K 74 [some (eR (1, 4)), some (eI 3), u2, u3, u4] [] (cC F A W1) := by
    intro W1 u2 u3 u4 h1
    refine x_iload_n hK kX0_weigh_74 (q := 75) rfl rfl ?_
    refine x_iconst hK kX0_weigh_75 (q := 76) rfl ?_
    refine x_icmp_ge hK kX0_weigh_76 (q := 79) rfl (tg := 183) rfl (by refine ⟨?_, ?_⟩ <;> omega) (fun c76 => ?_) (fun c76 => ?_)
    · refine x_return_ hK kX0_weigh_183 (by first | trivial | exact Or.inl rfl | exact Or.inr rfl) ?_
      exact h W1 h1
    · exfalso; omega
  have s2 := row 2 (rb 13) (vG8 (vG8 V (rb 11) 4 (w0F V n)) (rb 12) 4 (w1F V n (w0F V n))) (w1F V n (w0F V n)) (a + 2 + b + 2) (Or.inr rfl) rfl (fun t ht => by rw [vG8_o _ _ (by omega), vG8_o _ _ (by omega)]) (fun i hi => by rw [vG8_i _ _ (by omega)]) B1 (by omega) s3
  have s1 := row 1 (rb 12) (vG8 V (rb 11) 4 (w0F V n)) (w0F V n) (a + 2) (Or.inl rfl) rfl (fun t ht => by rw [vG8_o _ _ (by omega)]) (fun i hi => by rw [vG8_i _ _ (by omega)]) B0 (by omega) s2
  -- the first
  obtain ⟨P0, hP0⟩ : ∃ P0 : Nat → Nat → Nat → Int, P0 = fun k j c => if c < k then w0F V n c else if c = k then dS (fun j => V (gb (3 + c) + (4 * j + j))) j else 0 := ⟨_, rfl⟩
  have in0 : ∀ (k : Nat), k < n → (∀ (W1 : Nat → Int → Int) (u2 : Option eV), aR W1 (vG8 V (rb 11) 4 (P0 (k + 1) 0)) → K 11 [some (eR (1, 4)), some (eI ((k + 1 : Nat) : Int)), u2, none, none] [] (cC F A W1)) → ∀ (d j : Nat) (W1 : Nat → Int → Int), j + d = n → aR W1 (vG8 V (rb 11) 4 (P0 k j)) → K 26 [some (eR (1, 4)), some (eI k), some (eI j), none, none] [] (cC F A W1) := by
    intro k hk cont d
    have gk : gb (3 + k) = 141 + 17 * (3 + k) := rfl
    induction d with
    | zero =>
      intro j W1 hj h1
      have : j = n := by omega
      subst this
      refine x_iload_n hK kX0_weigh_26 (q := 27) rfl rfl ?_
      refine x_aload_n hK kX0_weigh_27 (q := 28) rfl rfl ?_
      refine x_getfield hK kX0_weigh_28 (q := 31) rfl (gX0_17 ?_)
      rw [hn]
      refine x_icmp_ge hK kX0_weigh_31 (q := 34) rfl (tg := 66) rfl (by refine ⟨?_, ?_⟩ <;> omega) (fun c31 => ?_) (fun c31 => ?_)
      · refine x_iinc hK kX0_weigh_66 (q := 69) rfl rfl ?_
        simp only [lS, lS2, clr_0, clr_I, clr_L, clr_R]
        refine x_goto hK kX0_weigh_69 (tg := 11) rfl ?_
        rw [show (k : Int) + 1 = ((k + 1 : Nat) : Int) by omega]
        refine cont W1 _ (aR_c h1 (fun t _ _ => ?_))
        unfold vG8
        split
        · rw [hP0]
          dsimp only
          by_cases g1 : t - rb 11 < k
          · rw [if_pos (by omega), if_pos g1]
          · by_cases g2 : t - rb 11 = k
            · rw [if_pos (by omega), if_neg g1, if_pos g2]
              unfold w0F
              rw [if_pos (by omega)]
            · rw [if_neg (by omega), if_neg g1, if_neg g2]
              split <;> rfl
        · rfl
      · exfalso; omega
    | succ d ih =>
      intro j W1 hj h1
      have ck : vG8 V (rb 11) 4 (P0 k j) (rb 11 + k) = dS (fun j => V (gb (3 + k) + (4 * j + j))) j := by
        rw [vG8_i _ _ (by omega), hP0]
        dsimp only
        rw [if_neg (by omega), if_pos rfl]
      have b1 := b0 k hk j (by omega)
      have b2 := p2_m (show a + 2 ≤ 930 by omega)
      have b3 := ha k j hk (by omega)
      have b4 := p2_m (show a ≤ 930 by omega)
      refine x_iload_n hK kX0_weigh_26 (q := 27) rfl rfl ?_
      refine x_aload_n hK kX0_weigh_27 (q := 28) rfl rfl ?_
      refine x_getfield hK kX0_weigh_28 (q := 31) rfl (gX0_17 ?_)
      rw [hn]
      refine x_icmp_ge hK kX0_weigh_31 (q := 34) rfl (tg := 66) rfl (by refine ⟨?_, ?_⟩ <;> omega) (fun c31 => ?_) (fun c31 => ?_)
      · exfalso; omega
      · refine x_aload_n hK kX0_weigh_34 (q := 35) rfl rfl ?_
        refine x_getfield hK kX0_weigh_35 (q := 38) rfl (gX0_33 ?_)
        refine x_iconst hK kX0_weigh_38 (q := 39) rfl ?_
        refine x_aaload hK kX0_weigh_39 (q := 40) rfl (aC0_7 (q := 0) (by omega) ?_)
        refine x_getfield hK kX0_weigh_40 (q := 43) rfl (gX0_177 ?_)
        refine x_iload_n hK kX0_weigh_43 (q := 44) rfl rfl ?_
        refine x_aaload hK kX0_weigh_44 (q := 45) rfl (wa_a wa_6 (by show k < rl 11; rw [l11]; omega) ?_)
        refine x_aload_n hK kX0_weigh_45 (q := 46) rfl rfl ?_
        refine x_getfield hK kX0_weigh_46 (q := 49) rfl (gX0_25 ?_)
        refine x_iload_n hK kX0_weigh_49 (q := 50) rfl rfl ?_
        refine x_aaload hK kX0_weigh_50 (q := 51) rfl (aC0_5 (by omega) ?_)
        refine x_iload_n hK kX0_weigh_51 (q := 52) rfl rfl ?_
        refine x_iload_n hK kX0_weigh_52 (q := 53) rfl rfl ?_
        refine x_cv3 hK kX0_weigh_53 (q := 56) rfl (vtX0_weigh_160) (Nat.le_of_ble_eq_true rfl) ?_
        refine SX2_read_i (g := 3 + k) (i := j) (j := j) (by omega) (by omega) (by omega) ?_
        refine x_iconst hK kX0_weigh_56 (q := 57) rfl ?_
        refine x_cv3 hK kX0_weigh_57 (q := 60) rfl (vtX0_weigh_201) (Nat.le_of_ble_eq_true rfl) ?_
        refine add_a (k := rb 11 + k) (j := gb (3 + k) + (4 * j + j)) h1 (by omega) (by omega) (by omega) (by omega) (by omega) (Or.inl rfl) (by rw [ck]; omega) (by rw [vG8_o _ _ (by omega)]; omega) (fun W2 h2 => ?_)
        rw [ck, vG8_o _ _ (by omega), Int.one_mul] at h2
        refine x_iinc hK kX0_weigh_60 (q := 63) rfl rfl ?_
        simp only [lS, lS2, clr_0, clr_I, clr_L, clr_R]
        refine x_goto hK kX0_weigh_63 (tg := 26) rfl ?_
        rw [show (j : Int) + 1 = ((j + 1 : Nat) : Int) by omega]
        refine ih (j + 1) W2 (by omega) (aR_c h2 (fun t _ _ => ?_))
        unfold vU vG8
        by_cases g1 : t = rb 11 + k
        · rw [if_pos g1, if_pos (by omega), hP0]
          dsimp only
          rw [show t - rb 11 = k by omega, if_neg (by omega), if_pos rfl]
          rfl
        · rw [if_neg g1]
          split
          · rw [hP0]
            dsimp only
            by_cases g2 : t - rb 11 < k
            · rw [if_pos g2, if_pos g2]
            · rw [if_neg g2, if_neg g2, if_neg (by omega), if_neg (by omega)]
          · rfl
  have out0 : ∀ (d k : Nat) (W1 : Nat → Int → Int) (u2 : Option eV), k + d = n → aR W1 (vG8 V (rb 11) 4 (P0 k 0)) → K 11 [some (eR (1, 4)), some (eI k), u2, none, none] [] (cC F A W1) := by
    intro d
    induction d with
    | zero =>
      intro k W1 u2 hk h1
      have : k = n := by omega
      subst this
      refine x_iload_n hK kX0_weigh_11 (q := 12) rfl rfl ?_
      refine x_aload_n hK kX0_weigh_12 (q := 13) rfl rfl ?_
      refine x_getfield hK kX0_weigh_13 (q := 16) rfl (gX0_17 ?_)
      rw [hn]
      refine x_icmp_ge hK kX0_weigh_16 (q := 19) rfl (tg := 72) rfl (by refine ⟨?_, ?_⟩ <;> omega) (fun c16 => ?_) (fun c16 => ?_)
      · refine x_iconst hK kX0_weigh_72 (q := 73) rfl ?_
        refine x_istore_n hK kX0_weigh_73 (q := 74) (jn := 1) rfl rfl ?_
        simp only [lS, lS2, clr_0, clr_I, clr_L, clr_R]
        refine s1 W1 _ _ _ (aR_c h1 (fun t _ _ => ?_))
        unfold vG8
        split
        · rw [hP0]
          dsimp only
          by_cases g1 : t - rb 11 < k
          · rw [if_pos g1]
          · rw [if_neg g1]
            unfold w0F
            rw [if_neg g1]
            split <;> rfl
        · rfl
      · exfalso; omega
    | succ d ih =>
      intro k W1 u2 hk h1
      refine x_iload_n hK kX0_weigh_11 (q := 12) rfl rfl ?_
      refine x_aload_n hK kX0_weigh_12 (q := 13) rfl rfl ?_
      refine x_getfield hK kX0_weigh_13 (q := 16) rfl (gX0_17 ?_)
      rw [hn]
      refine x_icmp_ge hK kX0_weigh_16 (q := 19) rfl (tg := 72) rfl (by refine ⟨?_, ?_⟩ <;> omega) (fun c16 => ?_) (fun c16 => ?_)
      · exfalso; omega
      · refine x_iload_n hK kX0_weigh_19 (q := 20) rfl rfl ?_
        refine x_iconst hK kX0_weigh_20 (q := 21) rfl ?_
        refine x_icmp_ge hK kX0_weigh_21 (q := 24) rfl (tg := 72) rfl (by refine ⟨?_, ?_⟩ <;> omega) (fun c21 => ?_) (fun c21 => ?_)
        · exfalso; omega
        · refine x_iconst hK kX0_weigh_24 (q := 25) rfl ?_
          refine x_istore_n hK kX0_weigh_25 (q := 26) (jn := 2) rfl rfl ?_
          simp only [lS, lS2, clr_0, clr_I, clr_L, clr_R]
          exact in0 k (by omega) (fun W2 u2 h2 => ih (k + 1) W2 u2 (by omega) h2) n 0 W1 (by omega) h1
  simp only [eLoc, eE, List.length_cons, List.length_nil, List.replicate, List.cons_append, List.nil_append, Nat.reduceAdd, Nat.reduceSub]
  refine x_aload_n hK kX0_weigh_0 (q := 1) rfl rfl ?_
  refine x_getfield hK kX0_weigh_1 (q := 4) rfl (gX0_33 ?_)
  refine x_iconst hK kX0_weigh_4 (q := 5) rfl ?_
  refine x_aaload hK kX0_weigh_5 (q := 6) rfl (aC0_7 (q := 0) (by omega) ?_)
  refine x_cv1 hK kX0_weigh_6 (q := 9) rfl (vtX0_weigh_176) (Nat.le_of_ble_eq_true rfl) ?_
  refine rwipe_a (r := 11) hV (by decide) (fun W1 h1 => ?_)
  rw [l11] at h1
  refine x_iconst hK kX0_weigh_9 (q := 10) rfl ?_
  refine x_istore_n hK kX0_weigh_10 (q := 11) (jn := 1) rfl rfl ?_
  simp only [lS, lS2, clr_0, clr_I, clr_L, clr_R]
  refine out0 n 0 W1 _ (by omega) (aR_c h1 (fun t _ _ => ?_))
  unfold vG8
  split
  · rw [hP0]
    dsimp only
    rw [if_neg (by omega)]
    split <;> rfl
  · rfl
set_option maxRecDepth 20000 in
theorem mX0_weigh : eMet yX0_weigh cX0_weigh 5 none 3 79 SX0_weigh := eMet_of (by decide +kernel) sX0_weigh kX0_weigh_ok caX0_weigh tb_RX0
theorem wX0_weigh : eWV yX0_weigh cX0_weigh 5 none 1 0 SX0_weigh := ⟨(gW_at 677 (by decide +kernel) rfl), (gW_at 86 (by decide +kernel) rfl), (gW_at 676 (by decide +kernel) rfl), ⟨_, rfl, (gW_at 25 (by decide +kernel) rfl)⟩, by decide +kernel, SX0_weigh_r⟩
