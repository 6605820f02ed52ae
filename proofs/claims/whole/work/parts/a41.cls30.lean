/-! The algebra: fillTrace. -/
def ftG (V : Nat → Int) (e n i j : Nat) : Nat → Int := fun m => dS (fun k => V (rb (11 + e) + k) * V (gb (3 + i) + (4 * k + j))) m
/-- entry i, j of a form, in whatever order -/
def ftF (V : Nat → Int) (e n i j : Nat) : Int := if i ≤ j then ftG V e n i j n else ftG V e n j i n
def ftX (V : Nat → Int) (e n : Nat) : Nat → Int := vU (vG8 V (gb (7 + e)) 16 (fun c => if c / 4 < n ∧ c % 4 < n then ftF V e n (c / 4) (c % 4) else 0)) (gb (7 + e) + 16) (V 329 ^ (e + 2))
def SX0_fillTrace : eSp := fun as M rt => ∃ (F : Nat → Int) (A W : Nat → Int → Int) (V : Nat → Int) (n e a b m : Nat), as = [eR (1, 4), eI e] ∧ M = cC F A W ∧ (aR W V) ∧ (F 5 = n) ∧ (n ≤ 4) ∧ (e < 3) ∧ (∀ k, k < n → zAbs (V (rb (11 + e) + k)) ≤ 2 ^ a) ∧ (∀ i k j, i < n → k < n → j < n → zAbs (V (gb (3 + i) + (4 * k + j))) ≤ 2 ^ b) ∧ (a + b + 2 ≤ 930) ∧ (zAbs (V 329) ≤ 2 ^ m) ∧ (5 * m ≤ 930) ∧ (∀ W', aR W' (ftX V e n) → rt none (cC F A W'))
theorem SX0_fillTrace_i {F : Nat → Int} {A W : Nat → Int → Int} {V : Nat → Int} {n e a b m : Nat} {rt : Option eV → eM → Prop} (hV : aR W V) (hn : F 5 = n) (n4 : n ≤ 4) (he : e < 3) (ha : ∀ k, k < n → zAbs (V (rb (11 + e) + k)) ≤ 2 ^ a) (hb : ∀ i k j, i < n → k < n → j < n → zAbs (V (gb (3 + i) + (4 * k + j))) ≤ 2 ^ b) (hab : a + b + 2 ≤ 930) (hm : zAbs (V 329) ≤ 2 ^ m) (hm5 : 5 * m ≤ 930) (h : ∀ W', aR W' (ftX V e n) → rt none (cC F A W')) : SX0_fillTrace [eR (1, 4), eI e] (cC F A W) rt := ⟨F, A, W, V, n, e, a, b, m, rfl, rfl, hV, hn, n4, he, ha, hb, hab, hm, hm5, h⟩
theorem SX0_fillTrace_r : ∀ as M rt, SX0_fillTrace as M rt → ∃ a r fs, as = eR a :: r ∧ M a = some (.inl (0, fs)) := by
  rintro as M rt ⟨F, A, W, V, n, e, a, b, m, rfl, rfl, -⟩
  exact ⟨_, _, _, rfl, rfl⟩
def kX0_fillTrace : List (Nat × Jvm.ClassFile.Instr × Nat) := [(0, .aload_n 0, 1), (1, .getfield 28, 3), (4, .iload_n 1, 1), (5, .aaload, 1), (6, .astore_n 2, 1), (7, .aload_n 2, 1), (8, .invokevirtual 150, 3), (11, .iconst 0, 1), (12, .istore_n 3, 1), (13, .iload_n 3, 1), (14, .aload_n 0, 1), (15, .getfield 17, 3), (18, .if_icmp .ge 125, 3), (21, .iload_n 3, 1), (22, .iconst 4, 1), (23, .if_icmp .ge 120, 3), (26, .iload_n 3, 1), (27, .istore 4, 2), (29, .iload 4, 2), (31, .aload_n 0, 1), (32, .getfield 17, 3), (35, .if_icmp .ge 102, 3), (38, .iload 4, 2), (40, .iconst 4, 1), (41, .if_icmp .ge 96, 3), (44, .iconst 0, 1), (45, .istore 5, 2), (47, .iload 5, 2), (49, .aload_n 0, 1), (50, .getfield 17, 3), (53, .if_icmp .ge 55, 3), (56, .iload 5, 2), (58, .iconst 4, 1), (59, .if_icmp .ge 49, 3), (62, .aload_n 0, 1), (63, .getfield 63, 3), (66, .aload_n 2, 1), (67, .iload_n 3, 1), (68, .iload 4, 2), (70, .invokevirtual 160, 3), (73, .aload_n 0, 1), (74, .getfield 33, 3), (77, .iload_n 1, 1), (78, .aaload, 1), (79, .getfield 177, 3), (82, .iload 5, 2), (84, .aaload, 1), (85, .aload_n 0, 1), (86, .getfield 25, 3), (89, .iload_n 3, 1), (90, .aaload, 1), (91, .iload 5, 2), (93, .iload 4, 2), (95, .invokevirtual 160, 3), (98, .iconst 1, 1), (99, .invokevirtual 189, 3), (102, .iinc 5 1, 3), (105, .goto (-58), 3), (108, .iload_n 3, 1), (109, .iload 4, 2), (111, .if_icmp .ge 20, 3), (114, .aload_n 2, 1), (115, .iload 4, 2), (117, .iload_n 3, 1), (118, .invokevirtual 160, 3), (121, .aload_n 2, 1), (122, .iload_n 3, 1), (123, .iload 4, 2), (125, .invokevirtual 160, 3), (128, .invokevirtual 156, 3), (131, .iinc 4 1, 3), (134, .goto (-105), 3), (137, .iinc 3 1, 3), (140, .goto (-127), 3), (143, .aload_n 2, 1), (144, .getfield 153, 3), (147, .lconst 1, 1), (148, .invokevirtual 129, 3), (151, .iconst 0, 1), (152, .istore_n 3, 1), (153, .iload_n 3, 1), (154, .iload_n 1, 1), (155, .iconst 2, 1), (156, .iadd, 1), (157, .if_icmp .ge 24, 3), (160, .aload_n 0, 1), (161, .getfield 63, 3), (164, .aload_n 2, 1), (165, .getfield 153, 3), (168, .aload_n 0, 1), (169, .getfield 54, 3), (172, .invokevirtual 205, 3), (175, .iinc 3 1, 3), (178, .goto (-25), 3), (181, .return_, 1)]
theorem kX0_fillTrace_0 : cdOf kX0_fillTrace 0 = some (.aload_n 0, 1) := by decide +kernel
theorem kX0_fillTrace_1 : cdOf kX0_fillTrace 1 = some (.getfield 28, 3) := by decide +kernel
theorem kX0_fillTrace_4 : cdOf kX0_fillTrace 4 = some (.iload_n 1, 1) := by decide +kernel
theorem kX0_fillTrace_5 : cdOf kX0_fillTrace 5 = some (.aaload, 1) := by decide +kernel
theorem kX0_fillTrace_6 : cdOf kX0_fillTrace 6 = some (.astore_n 2, 1) := by decide +kernel
theorem kX0_fillTrace_7 : cdOf kX0_fillTrace 7 = some (.aload_n 2, 1) := by decide +kernel
theorem kX0_fillTrace_8 : cdOf kX0_fillTrace 8 = some (.invokevirtual 150, 3) := by decide +kernel
theorem kX0_fillTrace_11 : cdOf kX0_fillTrace 11 = some (.iconst 0, 1) := by decide +kernel
theorem kX0_fillTrace_12 : cdOf kX0_fillTrace 12 = some (.istore_n 3, 1) := by decide +kernel
theorem kX0_fillTrace_13 : cdOf kX0_fillTrace 13 = some (.iload_n 3, 1) := by decide +kernel
theorem kX0_fillTrace_14 : cdOf kX0_fillTrace 14 = some (.aload_n 0, 1) := by decide +kernel
theorem kX0_fillTrace_15 : cdOf kX0_fillTrace 15 = some (.getfield 17, 3) := by decide +kernel
theorem kX0_fillTrace_18 : cdOf kX0_fillTrace 18 = some (.if_icmp .ge 125, 3) := by decide +kernel
theorem kX0_fillTrace_21 : cdOf kX0_fillTrace 21 = some (.iload_n 3, 1) := by decide +kernel
theorem kX0_fillTrace_22 : cdOf kX0_fillTrace 22 = some (.iconst 4, 1) := by decide +kernel
theorem kX0_fillTrace_23 : cdOf kX0_fillTrace 23 = some (.if_icmp .ge 120, 3) := by decide +kernel
theorem kX0_fillTrace_26 : cdOf kX0_fillTrace 26 = some (.iload_n 3, 1) := by decide +kernel
theorem kX0_fillTrace_27 : cdOf kX0_fillTrace 27 = some (.istore 4, 2) := by decide +kernel
theorem kX0_fillTrace_29 : cdOf kX0_fillTrace 29 = some (.iload 4, 2) := by decide +kernel
theorem kX0_fillTrace_31 : cdOf kX0_fillTrace 31 = some (.aload_n 0, 1) := by decide +kernel
theorem kX0_fillTrace_32 : cdOf kX0_fillTrace 32 = some (.getfield 17, 3) := by decide +kernel
theorem kX0_fillTrace_35 : cdOf kX0_fillTrace 35 = some (.if_icmp .ge 102, 3) := by decide +kernel
theorem kX0_fillTrace_38 : cdOf kX0_fillTrace 38 = some (.iload 4, 2) := by decide +kernel
theorem kX0_fillTrace_40 : cdOf kX0_fillTrace 40 = some (.iconst 4, 1) := by decide +kernel
theorem kX0_fillTrace_41 : cdOf kX0_fillTrace 41 = some (.if_icmp .ge 96, 3) := by decide +kernel
theorem kX0_fillTrace_44 : cdOf kX0_fillTrace 44 = some (.iconst 0, 1) := by decide +kernel
theorem kX0_fillTrace_45 : cdOf kX0_fillTrace 45 = some (.istore 5, 2) := by decide +kernel
theorem kX0_fillTrace_47 : cdOf kX0_fillTrace 47 = some (.iload 5, 2) := by decide +kernel
theorem kX0_fillTrace_49 : cdOf kX0_fillTrace 49 = some (.aload_n 0, 1) := by decide +kernel
theorem kX0_fillTrace_50 : cdOf kX0_fillTrace 50 = some (.getfield 17, 3) := by decide +kernel
theorem kX0_fillTrace_53 : cdOf kX0_fillTrace 53 = some (.if_icmp .ge 55, 3) := by decide +kernel
theorem kX0_fillTrace_56 : cdOf kX0_fillTrace 56 = some (.iload 5, 2) := by decide +kernel
theorem kX0_fillTrace_58 : cdOf kX0_fillTrace 58 = some (.iconst 4, 1) := by decide +kernel
theorem kX0_fillTrace_59 : cdOf kX0_fillTrace 59 = some (.if_icmp .ge 49, 3) := by decide +kernel
theorem kX0_fillTrace_62 : cdOf kX0_fillTrace 62 = some (.aload_n 0, 1) := by decide +kernel
theorem kX0_fillTrace_63 : cdOf kX0_fillTrace 63 = some (.getfield 63, 3) := by decide +kernel
theorem kX0_fillTrace_66 : cdOf kX0_fillTrace 66 = some (.aload_n 2, 1) := by decide +kernel
theorem kX0_fillTrace_67 : cdOf kX0_fillTrace 67 = some (.iload_n 3, 1) := by decide +kernel
theorem kX0_fillTrace_68 : cdOf kX0_fillTrace 68 = some (.iload 4, 2) := by decide +kernel
theorem kX0_fillTrace_70 : cdOf kX0_fillTrace 70 = some (.invokevirtual 160, 3) := by decide +kernel
theorem kX0_fillTrace_73 : cdOf kX0_fillTrace 73 = some (.aload_n 0, 1) := by decide +kernel
theorem kX0_fillTrace_74 : cdOf kX0_fillTrace 74 = some (.getfield 33, 3) := by decide +kernel
theorem kX0_fillTrace_77 : cdOf kX0_fillTrace 77 = some (.iload_n 1, 1) := by decide +kernel
theorem kX0_fillTrace_78 : cdOf kX0_fillTrace 78 = some (.aaload, 1) := by decide +kernel
theorem kX0_fillTrace_79 : cdOf kX0_fillTrace 79 = some (.getfield 177, 3) := by decide +kernel
theorem kX0_fillTrace_82 : cdOf kX0_fillTrace 82 = some (.iload 5, 2) := by decide +kernel
theorem kX0_fillTrace_84 : cdOf kX0_fillTrace 84 = some (.aaload, 1) := by decide +kernel
theorem kX0_fillTrace_85 : cdOf kX0_fillTrace 85 = some (.aload_n 0, 1) := by decide +kernel
theorem kX0_fillTrace_86 : cdOf kX0_fillTrace 86 = some (.getfield 25, 3) := by decide +kernel
theorem kX0_fillTrace_89 : cdOf kX0_fillTrace 89 = some (.iload_n 3, 1) := by decide +kernel
theorem kX0_fillTrace_90 : cdOf kX0_fillTrace 90 = some (.aaload, 1) := by decide +kernel
theorem kX0_fillTrace_91 : cdOf kX0_fillTrace 91 = some (.iload 5, 2) := by decide +kernel
theorem kX0_fillTrace_93 : cdOf kX0_fillTrace 93 = some (.iload 4, 2) := by decide +kernel
theorem kX0_fillTrace_95 : cdOf kX0_fillTrace 95 = some (.invokevirtual 160, 3) := by decide +kernel
theorem kX0_fillTrace_98 : cdOf kX0_fillTrace 98 = some (.iconst 1, 1) := by decide +kernel
theorem kX0_fillTrace_99 : cdOf kX0_fillTrace 99 = some (.invokevirtual 189, 3) := by decide +kernel
theorem kX0_fillTrace_102 : cdOf kX0_fillTrace 102 = some (.iinc 5 1, 3) := by decide +kernel
theorem kX0_fillTrace_105 : cdOf kX0_fillTrace 105 = some (.goto (-58), 3) := by decide +kernel
theorem kX0_fillTrace_108 : cdOf kX0_fillTrace 108 = some (.iload_n 3, 1) := by decide +kernel
theorem kX0_fillTrace_109 : cdOf kX0_fillTrace 109 = some (.iload 4, 2) := by decide +kernel
theorem kX0_fillTrace_111 : cdOf kX0_fillTrace 111 = some (.if_icmp .ge 20, 3) := by decide +kernel
theorem kX0_fillTrace_114 : cdOf kX0_fillTrace 114 = some (.aload_n 2, 1) := by decide +kernel
theorem kX0_fillTrace_115 : cdOf kX0_fillTrace 115 = some (.iload 4, 2) := by decide +kernel
theorem kX0_fillTrace_117 : cdOf kX0_fillTrace 117 = some (.iload_n 3, 1) := by decide +kernel
theorem kX0_fillTrace_118 : cdOf kX0_fillTrace 118 = some (.invokevirtual 160, 3) := by decide +kernel
theorem kX0_fillTrace_121 : cdOf kX0_fillTrace 121 = some (.aload_n 2, 1) := by decide +kernel
theorem kX0_fillTrace_122 : cdOf kX0_fillTrace 122 = some (.iload_n 3, 1) := by decide +kernel
theorem kX0_fillTrace_123 : cdOf kX0_fillTrace 123 = some (.iload 4, 2) := by decide +kernel
theorem kX0_fillTrace_125 : cdOf kX0_fillTrace 125 = some (.invokevirtual 160, 3) := by decide +kernel
theorem kX0_fillTrace_128 : cdOf kX0_fillTrace 128 = some (.invokevirtual 156, 3) := by decide +kernel
theorem kX0_fillTrace_131 : cdOf kX0_fillTrace 131 = some (.iinc 4 1, 3) := by decide +kernel
theorem kX0_fillTrace_134 : cdOf kX0_fillTrace 134 = some (.goto (-105), 3) := by decide +kernel
theorem kX0_fillTrace_137 : cdOf kX0_fillTrace 137 = some (.iinc 3 1, 3) := by decide +kernel
theorem kX0_fillTrace_140 : cdOf kX0_fillTrace 140 = some (.goto (-127), 3) := by decide +kernel
theorem kX0_fillTrace_143 : cdOf kX0_fillTrace 143 = some (.aload_n 2, 1) := by decide +kernel
theorem kX0_fillTrace_144 : cdOf kX0_fillTrace 144 = some (.getfield 153, 3) := by decide +kernel
theorem kX0_fillTrace_147 : cdOf kX0_fillTrace 147 = some (.lconst 1, 1) := by decide +kernel
theorem kX0_fillTrace_148 : cdOf kX0_fillTrace 148 = some (.invokevirtual 129, 3) := by decide +kernel
theorem kX0_fillTrace_151 : cdOf kX0_fillTrace 151 = some (.iconst 0, 1) := by decide +kernel
theorem kX0_fillTrace_152 : cdOf kX0_fillTrace 152 = some (.istore_n 3, 1) := by decide +kernel
theorem kX0_fillTrace_153 : cdOf kX0_fillTrace 153 = some (.iload_n 3, 1) := by decide +kernel
theorem kX0_fillTrace_154 : cdOf kX0_fillTrace 154 = some (.iload_n 1, 1) := by decide +kernel
theorem kX0_fillTrace_155 : cdOf kX0_fillTrace 155 = some (.iconst 2, 1) := by decide +kernel
theorem kX0_fillTrace_156 : cdOf kX0_fillTrace 156 = some (.iadd, 1) := by decide +kernel
theorem kX0_fillTrace_157 : cdOf kX0_fillTrace 157 = some (.if_icmp .ge 24, 3) := by decide +kernel
theorem kX0_fillTrace_160 : cdOf kX0_fillTrace 160 = some (.aload_n 0, 1) := by decide +kernel
theorem kX0_fillTrace_161 : cdOf kX0_fillTrace 161 = some (.getfield 63, 3) := by decide +kernel
theorem kX0_fillTrace_164 : cdOf kX0_fillTrace 164 = some (.aload_n 2, 1) := by decide +kernel
theorem kX0_fillTrace_165 : cdOf kX0_fillTrace 165 = some (.getfield 153, 3) := by decide +kernel
theorem kX0_fillTrace_168 : cdOf kX0_fillTrace 168 = some (.aload_n 0, 1) := by decide +kernel
theorem kX0_fillTrace_169 : cdOf kX0_fillTrace 169 = some (.getfield 54, 3) := by decide +kernel
theorem kX0_fillTrace_172 : cdOf kX0_fillTrace 172 = some (.invokevirtual 205, 3) := by decide +kernel
theorem kX0_fillTrace_175 : cdOf kX0_fillTrace 175 = some (.iinc 3 1, 3) := by decide +kernel
theorem kX0_fillTrace_178 : cdOf kX0_fillTrace 178 = some (.goto (-25), 3) := by decide +kernel
theorem kX0_fillTrace_181 : cdOf kX0_fillTrace 181 = some (.return_, 1) := by decide +kernel
set_option maxRecDepth 20000 in
theorem kX0_fillTrace_ok : ∀ pc i len, cdOf kX0_fillTrace pc = some (i, len) → decode cX0_fillTrace pc = .ok (i, len) ∧ stOK 6 i = true ∧ jOK pc i = true ∧ eLen i len = true := cdOf_ok cX0_fillTrace 6 kX0_fillTrace (by decide +kernel)
def vtX0_fillTrace : Nat → Option (Nat × eSp) := fun k => match k with
  | 150 => some (1, SX2_wipe)
  | 160 => some (3, SX2_read)
  | 189 => some (5, SX1_addProduct)
  | 156 => some (2, SX8_copy)
  | 129 => some (2, SX8_set)
  | 205 => some (3, SX1_multiply)
  | _ => none
theorem vtX0_fillTrace_150 : vtX0_fillTrace 150 = some (1, SX2_wipe) := rfl
theorem vtX0_fillTrace_160 : vtX0_fillTrace 160 = some (3, SX2_read) := rfl
theorem vtX0_fillTrace_189 : vtX0_fillTrace 189 = some (5, SX1_addProduct) := rfl
theorem vtX0_fillTrace_156 : vtX0_fillTrace 156 = some (2, SX8_copy) := rfl
theorem vtX0_fillTrace_129 : vtX0_fillTrace 129 = some (2, SX8_set) := rfl
theorem vtX0_fillTrace_205 : vtX0_fillTrace 205 = some (3, SX1_multiply) := rfl
def stX0_fillTrace : Nat → Option (Nat × eSp) := fun _ => none
abbrev TX0_fillTrace : eT := (fl_RX0, cl_RX0, dl_RX0, vtX0_fillTrace, stX0_fillTrace)
set_option maxRecDepth 20000 in
theorem caX0_fillTrace : eCalls RX0 { frames := 3, cells := 0, slots := 0, locals := 79 } TX0_fillTrace := by
  refine ⟨fun k n sp h => ?_, fun k n sp h => ?_⟩
  · dsimp only [TX0_fillTrace] at h
    unfold vtX0_fillTrace at h
    split at h
    · cases h; exact eV_mk mX2_wipe wX2_wipe (by decide +kernel) (Or.inl (gW_at 633 (by decide +kernel) rfl))
    · cases h; exact eV_mk mX2_read wX2_read (by decide +kernel) (Or.inl (gW_at 638 (by decide +kernel) rfl))
    · cases h; exact eV_mk mX1_addProduct wX1_addProduct (by decide +kernel) (Or.inl (gW_at 668 (by decide +kernel) rfl))
    · cases h; exact eV_mk mX8_copy wX8_copy (by decide +kernel) (Or.inl (gW_at 637 (by decide +kernel) rfl))
    · cases h; exact eV_mk mX8_set wX8_set (by decide +kernel) (Or.inl (gW_at 605 (by decide +kernel) rfl))
    · cases h; exact eV_mk mX1_multiply wX1_multiply (by decide +kernel) (Or.inl (gW_at 683 (by decide +kernel) rfl))
    · cases h
  · cases h
set_option maxRecDepth 100000 in
set_option maxHeartbeats 4000000 in
theorem sX0_fillTrace : eSafe TX0_fillTrace (cdOf kX0_fillTrace) 6 none SX0_fillTrace := by
  intro K rt hK as M h
  obtain ⟨F, A, W, V, n, e, a, b, m, rfl, rfl, hV, hn, n4, he, ha, hb, hab, hm, hm5, h⟩ := h
  refine ⟨by simp [eE], ?_⟩
  have gT : gb (7 + e) = 141 + 17 * (7 + e) := rfl
  have re : rl (11 + e) = 4 ∧ 121 ≤ rb (11 + e) ∧ rb (11 + e) + 4 ≤ 133 := by
    have he' : e = 0 ∨ e = 1 ∨ e = 2 := by omega
    rcases he' with rfl | rfl | rfl <;> decide
  have gp : ∀ i, i < n → gb (3 + i) = 141 + 17 * (3 + i) := fun i _ => rfl
  -- the cells: those of rows before i, of row i before j, and j itself up to x
  obtain ⟨P, hP⟩ : ∃ P : Nat → Nat → Nat → Int, P = fun i j c => if c / 4 < n ∧ c % 4 < n ∧ (min (c / 4) (c % 4) < i ∨ (min (c / 4) (c % 4) = i ∧ max (c / 4) (c % 4) < j)) then ftF V e n (c / 4) (c % 4) else 0 := ⟨_, rfl⟩
  have oP : ∀ i j t, (t < gb (7 + e) ∨ gb (7 + e) + 16 ≤ t) → vG8 V (gb (7 + e)) 16 (P i j) t = V t := fun i j t ht => vG8_o _ _ (by omega)
  have cell : ∀ (i j x : Nat) (V1 : Nat → Int), i < n → i ≤ j → j < n → (∀ W1 : Nat → Int → Int, ∀ u5, aR W1 (vU (vG8 V (gb (7 + e)) 16 (P i j)) (gb (7 + e) + (4 * i + j)) (ftG V e n i j n)) → K 108 [some (eR (1, 4)), some (eI e), some (eR (9, 7 + e)), some (eI i), some (eI j), u5] [] (cC F A W1)) →
      ∀ (d k : Nat) (W1 : Nat → Int → Int), k + d = n → aR W1 (vU (vG8 V (gb (7 + e)) 16 (P i j)) (gb (7 + e) + (4 * i + j)) (ftG V e n i j k)) → K 47 [some (eR (1, 4)), some (eI e), some (eR (9, 7 + e)), some (eI i), some (eI j), some (eI k)] [] (cC F A W1) := by
    intro i j x V1 hi hij hj cont d
    have gi := gp i hi
    induction d with
    | zero =>
      intro k W1 hk h1
      have : k = n := by omega
      subst this
      refine x_iload hK kX0_fillTrace_47 (q := 49) rfl rfl ?_
      refine x_aload_n hK kX0_fillTrace_49 (q := 50) rfl rfl ?_
      refine x_getfield hK kX0_fillTrace_50 (q := 53) rfl (gX0_17 ?_)
      rw [hn]
      refine x_icmp_ge hK kX0_fillTrace_53 (q := 56) rfl (tg := 108) rfl (by refine ⟨?_, ?_⟩ <;> omega) (fun c53 => ?_) (fun c53 => ?_)
      · exact cont W1 _ h1
      · exfalso; omega
    | succ d ih =>
      intro k W1 hk h1
      have bG : zAbs (ftG V e n i j k) ≤ 2 ^ (a + b + 2) := dS_le (by omega) (fun y hy => two_le (ha y (by omega)) (hb i y j hi (by omega) hj))
      have b2 := p2_m hab
      refine x_iload hK kX0_fillTrace_47 (q := 49) rfl rfl ?_
      refine x_aload_n hK kX0_fillTrace_49 (q := 50) rfl rfl ?_
      refine x_getfield hK kX0_fillTrace_50 (q := 53) rfl (gX0_17 ?_)
      rw [hn]
      refine x_icmp_ge hK kX0_fillTrace_53 (q := 56) rfl (tg := 108) rfl (by refine ⟨?_, ?_⟩ <;> omega) (fun c53 => ?_) (fun c53 => ?_)
      · exfalso; omega
      · refine x_iload hK kX0_fillTrace_56 (q := 58) rfl rfl ?_
        refine x_iconst hK kX0_fillTrace_58 (q := 59) rfl ?_
        refine x_icmp_ge hK kX0_fillTrace_59 (q := 62) rfl (tg := 108) rfl (by refine ⟨?_, ?_⟩ <;> omega) (fun c59 => ?_) (fun c59 => ?_)
        · exfalso; omega
        · refine x_aload_n hK kX0_fillTrace_62 (q := 63) rfl rfl ?_
          refine x_getfield hK kX0_fillTrace_63 (q := 66) rfl (gX0_63 ?_)
          refine x_aload_n hK kX0_fillTrace_66 (q := 67) rfl rfl ?_
          refine x_iload_n hK kX0_fillTrace_67 (q := 68) rfl rfl ?_
          refine x_iload hK kX0_fillTrace_68 (q := 70) rfl rfl ?_
          refine x_cv3 hK kX0_fillTrace_70 (q := 73) rfl (vtX0_fillTrace_160) (Nat.le_of_ble_eq_true rfl) ?_
          refine SX2_read_i (g := 7 + e) (i := i) (j := j) (by omega) (by omega) (by omega) ?_
          refine x_aload_n hK kX0_fillTrace_73 (q := 74) rfl rfl ?_
          refine x_getfield hK kX0_fillTrace_74 (q := 77) rfl (gX0_33 ?_)
          refine x_iload_n hK kX0_fillTrace_77 (q := 78) rfl rfl ?_
          refine x_aaload hK kX0_fillTrace_78 (q := 79) rfl (aC0_7 (by omega) ?_)
          refine x_getfield hK kX0_fillTrace_79 (q := 82) rfl (gX0_177 ?_)
          refine x_iload hK kX0_fillTrace_82 (q := 84) rfl rfl ?_
          refine x_aaload hK kX0_fillTrace_84 (q := 85) rfl (wa_a wa_6 (by rw [re.1]; omega) ?_)
          refine x_aload_n hK kX0_fillTrace_85 (q := 86) rfl rfl ?_
          refine x_getfield hK kX0_fillTrace_86 (q := 89) rfl (gX0_25 ?_)
          refine x_iload_n hK kX0_fillTrace_89 (q := 90) rfl rfl ?_
          refine x_aaload hK kX0_fillTrace_90 (q := 91) rfl (aC0_5 (by omega) ?_)
          refine x_iload hK kX0_fillTrace_91 (q := 93) rfl rfl ?_
          refine x_iload hK kX0_fillTrace_93 (q := 95) rfl rfl ?_
          refine x_cv3 hK kX0_fillTrace_95 (q := 98) rfl (vtX0_fillTrace_160) (Nat.le_of_ble_eq_true rfl) ?_
          refine SX2_read_i (g := 3 + i) (i := k) (j := j) (by omega) (by omega) (by omega) ?_
          refine x_iconst hK kX0_fillTrace_98 (q := 99) rfl ?_
          refine x_cv5 hK kX0_fillTrace_99 (q := 102) rfl (vtX0_fillTrace_189) (Nat.le_of_ble_eq_true rfl) ?_
          refine addP_a (k := gb (7 + e) + (4 * i + j)) (a := rb (11 + e) + k) (b := gb (3 + i) + (4 * k + j)) (m := a) (n := b) h1 (by omega) (by omega) (by omega) (by omega) (by omega) (by omega) (Or.inl rfl) (by rw [vU_n _ _ (by omega), oP _ _ _ (by omega)]; exact ha k (by omega)) (by rw [vU_n _ _ (by omega), oP _ _ _ (by omega)]; exact hb i k j hi (by omega) hj) (by omega) (by rw [vU_s]; omega) (fun W2 h2 => ?_)
          rw [vU_s, vU_n _ _ (show rb (11 + e) + k ≠ gb (7 + e) + (4 * i + j) by omega), oP _ _ _ (show rb (11 + e) + k < gb (7 + e) ∨ _ by omega), vU_n _ _ (show gb (3 + i) + (4 * k + j) ≠ gb (7 + e) + (4 * i + j) by omega), oP _ _ _ (show gb (3 + i) + (4 * k + j) < gb (7 + e) ∨ _ by omega), Int.one_mul] at h2
          refine x_iinc hK kX0_fillTrace_102 (q := 105) rfl rfl ?_
          simp only [lS, lS2, clr_0, clr_I, clr_L, clr_R]
          refine x_goto hK kX0_fillTrace_105 (tg := 47) rfl ?_
          rw [show (k : Int) + 1 = ((k + 1 : Nat) : Int) by omega]
          exact ih (k + 1) W2 (by omega) (aR_c h2 (fun t _ _ => by unfold vU; split <;> rfl))
  have mid : ∀ (i : Nat), i < n → (∀ (W1 : Nat → Int → Int) (u4 u5 : Option eV), aR W1 (vG8 V (gb (7 + e)) 16 (P (i + 1) (i + 1))) → K 13 [some (eR (1, 4)), some (eI e), some (eR (9, 7 + e)), some (eI ((i + 1 : Nat) : Int)), u4, u5] [] (cC F A W1)) →
      ∀ (d j : Nat) (W1 : Nat → Int → Int) (u5 : Option eV), j + d = n → i ≤ j → aR W1 (vG8 V (gb (7 + e)) 16 (P i j)) → K 29 [some (eR (1, 4)), some (eI e), some (eR (9, 7 + e)), some (eI i), some (eI j), u5] [] (cC F A W1) := by
    intro i hi cont d
    induction d with
    | zero =>
      intro j W1 u5 hj hij h1
      have : j = n := by omega
      subst this
      refine x_iload hK kX0_fillTrace_29 (q := 31) rfl rfl ?_
      refine x_aload_n hK kX0_fillTrace_31 (q := 32) rfl rfl ?_
      refine x_getfield hK kX0_fillTrace_32 (q := 35) rfl (gX0_17 ?_)
      rw [hn]
      refine x_icmp_ge hK kX0_fillTrace_35 (q := 38) rfl (tg := 137) rfl (by refine ⟨?_, ?_⟩ <;> omega) (fun c35 => ?_) (fun c35 => ?_)
      · refine x_iinc hK kX0_fillTrace_137 (q := 140) rfl rfl ?_
        simp only [lS, lS2, clr_0, clr_I, clr_L, clr_R]
        refine x_goto hK kX0_fillTrace_140 (tg := 13) rfl ?_
        rw [show (i : Int) + 1 = ((i + 1 : Nat) : Int) by omega]
        refine cont W1 _ _ (aR_c h1 (fun t _ _ => ?_))
        unfold vG8
        split
        · rw [hP]
          dsimp only
          by_cases g : (t - gb (7 + e)) / 4 < j ∧ (t - gb (7 + e)) % 4 < j ∧ min ((t - gb (7 + e)) / 4) ((t - gb (7 + e)) % 4) ≤ i
          · rw [if_pos (by omega), if_pos (by omega)]
          · rw [if_neg (by omega), if_neg (by omega)]
        · rfl
      · exfalso; omega
    | succ d ih =>
      intro j W1 u5 hj hij h1
      have c0 : vG8 V (gb (7 + e)) 16 (P i j) (gb (7 + e) + (4 * i + j)) = 0 := by
        rw [vG8_i _ _ (by omega), hP]
        dsimp only
        rw [show (4 * i + j) / 4 = i by omega, show (4 * i + j) % 4 = j by omega, if_neg (by omega)]
      have eF : ftF V e n i j = ftG V e n i j n := by unfold ftF; rw [if_pos hij]
      have eF2 : ftF V e n j i = ftG V e n i j n := by
        unfold ftF
        rcases Decidable.em (j ≤ i) with q | q
        · have : i = j := by omega
          subst this
          rw [if_pos q]
        · rw [if_neg q]
      have behind : ∀ (W1 : Nat → Int → Int) (u5 : Option eV), aR W1 (vU (vG8 V (gb (7 + e)) 16 (P i j)) (gb (7 + e) + (4 * i + j)) (ftG V e n i j n)) → K 108 [some (eR (1, 4)), some (eI e), some (eR (9, 7 + e)), some (eI i), some (eI j), u5] [] (cC F A W1) := by
        intro W1 u5 h1
        have nx : ∀ (W2 : Nat → Int → Int) (u5 : Option eV), aR W2 (vU (vU (vG8 V (gb (7 + e)) 16 (P i j)) (gb (7 + e) + (4 * i + j)) (ftG V e n i j n)) (gb (7 + e) + (4 * j + i)) (ftG V e n i j n)) → K 29 [some (eR (1, 4)), some (eI e), some (eR (9, 7 + e)), some (eI i), some (eI ((j + 1 : Nat) : Int)), u5] [] (cC F A W2) := fun W2 u5 h2 => ih (j + 1) W2 u5 (by omega) (by omega) (aR_c h2 (fun t _ _ => by
          unfold vU vG8
          by_cases g1 : t = gb (7 + e) + (4 * j + i)
          · rw [if_pos g1, if_pos (by omega), hP]
            dsimp only
            rw [show t - gb (7 + e) = 4 * j + i by omega, show (4 * j + i) / 4 = j by omega, show (4 * j + i) % 4 = i by omega, if_pos (by omega), eF2]
          · rw [if_neg g1]
            by_cases g2 : t = gb (7 + e) + (4 * i + j)
            · rw [if_pos g2, if_pos (by omega), hP]
              dsimp only
              rw [show t - gb (7 + e) = 4 * i + j by omega, show (4 * i + j) / 4 = i by omega, show (4 * i + j) % 4 = j by omega, if_pos (by omega), eF]
            · rw [if_neg g2]
              split
              · rw [hP]
                dsimp only
                by_cases g : (t - gb (7 + e)) / 4 < n ∧ (t - gb (7 + e)) % 4 < n ∧ (min ((t - gb (7 + e)) / 4) ((t - gb (7 + e)) % 4) < i ∨ (min ((t - gb (7 + e)) / 4) ((t - gb (7 + e)) % 4) = i ∧ max ((t - gb (7 + e)) / 4) ((t - gb (7 + e)) % 4) < j))
                · rw [if_pos (by omega), if_pos g]
                · rw [if_neg (by omega), if_neg g]
              · rfl))
        refine x_iload_n hK kX0_fillTrace_108 (q := 109) rfl rfl ?_
        refine x_iload hK kX0_fillTrace_109 (q := 111) rfl rfl ?_
        refine x_icmp_ge hK kX0_fillTrace_111 (q := 114) rfl (tg := 131) rfl (by refine ⟨?_, ?_⟩ <;> omega) (fun c111 => ?_) (fun c111 => ?_)
        · have hij2 : i = j := by omega
          have hfin := fun u5 => nx W1 u5 (aR_c h1 (fun t _ _ => by
            subst hij2
            unfold vU
            split
            · rfl
            · rfl))
          refine x_iinc hK kX0_fillTrace_131 (q := 134) rfl rfl ?_
          simp only [lS, lS2, clr_0, clr_I, clr_L, clr_R]
          refine x_goto hK kX0_fillTrace_134 (tg := 29) rfl ?_
          rw [show (j : Int) + 1 = ((j + 1 : Nat) : Int) by omega]
          exact hfin _
        · refine x_aload_n hK kX0_fillTrace_114 (q := 115) rfl rfl ?_
          refine x_iload hK kX0_fillTrace_115 (q := 117) rfl rfl ?_
          refine x_iload_n hK kX0_fillTrace_117 (q := 118) rfl rfl ?_
          refine x_cv3 hK kX0_fillTrace_118 (q := 121) rfl (vtX0_fillTrace_160) (Nat.le_of_ble_eq_true rfl) ?_
          refine SX2_read_i (g := 7 + e) (i := j) (j := i) (by omega) (by omega) (by omega) ?_
          refine x_aload_n hK kX0_fillTrace_121 (q := 122) rfl rfl ?_
          refine x_iload_n hK kX0_fillTrace_122 (q := 123) rfl rfl ?_
          refine x_iload hK kX0_fillTrace_123 (q := 125) rfl rfl ?_
          refine x_cv3 hK kX0_fillTrace_125 (q := 128) rfl (vtX0_fillTrace_160) (Nat.le_of_ble_eq_true rfl) ?_
          refine SX2_read_i (g := 7 + e) (i := i) (j := j) (by omega) (by omega) (by omega) ?_
          refine x_cv2 hK kX0_fillTrace_128 (q := 131) rfl (vtX0_fillTrace_156) (Nat.le_of_ble_eq_true rfl) ?_
          refine copy_a (k := gb (7 + e) + (4 * j + i)) (j := gb (7 + e) + (4 * i + j)) h1 (by omega) (by omega) (by omega) (by omega) (by omega) (fun W2 h2 => ?_)
          rw [vU_s] at h2
          have hfin := fun u5 => nx W2 u5 h2
          refine x_iinc hK kX0_fillTrace_131 (q := 134) rfl rfl ?_
          simp only [lS, lS2, clr_0, clr_I, clr_L, clr_R]
          refine x_goto hK kX0_fillTrace_134 (tg := 29) rfl ?_
          rw [show (j : Int) + 1 = ((j + 1 : Nat) : Int) by omega]
          exact hfin _
      refine x_iload hK kX0_fillTrace_29 (q := 31) rfl rfl ?_
      refine x_aload_n hK kX0_fillTrace_31 (q := 32) rfl rfl ?_
      refine x_getfield hK kX0_fillTrace_32 (q := 35) rfl (gX0_17 ?_)
      rw [hn]
      refine x_icmp_ge hK kX0_fillTrace_35 (q := 38) rfl (tg := 137) rfl (by refine ⟨?_, ?_⟩ <;> omega) (fun c35 => ?_) (fun c35 => ?_)
      · exfalso; omega
      · refine x_iload hK kX0_fillTrace_38 (q := 40) rfl rfl ?_
        refine x_iconst hK kX0_fillTrace_40 (q := 41) rfl ?_
        refine x_icmp_ge hK kX0_fillTrace_41 (q := 44) rfl (tg := 137) rfl (by refine ⟨?_, ?_⟩ <;> omega) (fun c41 => ?_) (fun c41 => ?_)
        · exfalso; omega
        · refine x_iconst hK kX0_fillTrace_44 (q := 45) rfl ?_
          refine x_istore hK kX0_fillTrace_45 (q := 47) rfl ?_
          simp only [lS, lS2, clr_0, clr_I, clr_L, clr_R]
          refine cell i j 0 V hi hij (by omega) behind n 0 W1 (by omega) (aR_c h1 (fun t _ _ => ?_))
          unfold vU
          split
          · rename_i g
            rw [g, c0]
            rfl
          · rfl
  -- the denominator
  have und : ∀ (d f : Nat) (W1 : Nat → Int → Int) (u4 u5 : Option eV), f + d = e + 2 → aR W1 (vU (vG8 V (gb (7 + e)) 16 (P n n)) (gb (7 + e) + 16) (V 329 ^ f)) → K 153 [some (eR (1, 4)), some (eI e), some (eR (9, 7 + e)), some (eI f), u4, u5] [] (cC F A W1) := by
    intro d
    induction d with
    | zero =>
      intro f W1 u4 u5 hf h1
      have : f = e + 2 := by omega
      subst this
      have fin := h W1 (aR_c h1 (fun t _ _ => by
        unfold ftX vU vG8
        split
        · rfl
        · split
          · rw [hP]
            dsimp only
            by_cases g : (t - gb (7 + e)) / 4 < n ∧ (t - gb (7 + e)) % 4 < n
            · rw [if_pos g, if_pos (by omega)]
            · rw [if_neg g, if_neg (by omega)]
          · rfl))
      refine x_iload_n hK kX0_fillTrace_153 (q := 154) rfl rfl ?_
      refine x_iload_n hK kX0_fillTrace_154 (q := 155) rfl rfl ?_
      refine x_iconst hK kX0_fillTrace_155 (q := 156) rfl ?_
      refine x_iadd hK kX0_fillTrace_156 (q := 157) rfl ?_
      refine x_icmp_ge hK kX0_fillTrace_157 (q := 160) rfl (tg := 181) rfl (by refine ⟨?_, ?_⟩ <;> omega) (fun c157 => ?_) (fun c157 => ?_)
      · refine x_return_ hK kX0_fillTrace_181 (by first | trivial | exact Or.inl rfl | exact Or.inr rfl) ?_
        exact fin
      · exfalso; omega
    | succ d ih =>
      intro f W1 u4 u5 hf h1
      have pb : ∀ f, zAbs (V 329 ^ f) ≤ 2 ^ (f * m) := fun f => by
        induction f with
        | zero => rw [Int.pow_zero, Nat.zero_mul]; decide
        | succ f ih =>
          rw [Int.pow_succ, Nat.succ_mul]
          exact two_le ih hm
      have f4 : f * m ≤ 4 * m := Nat.mul_le_mul_right m (by omega)
      refine x_iload_n hK kX0_fillTrace_153 (q := 154) rfl rfl ?_
      refine x_iload_n hK kX0_fillTrace_154 (q := 155) rfl rfl ?_
      refine x_iconst hK kX0_fillTrace_155 (q := 156) rfl ?_
      refine x_iadd hK kX0_fillTrace_156 (q := 157) rfl ?_
      refine x_icmp_ge hK kX0_fillTrace_157 (q := 160) rfl (tg := 181) rfl (by refine ⟨?_, ?_⟩ <;> omega) (fun c157 => ?_) (fun c157 => ?_)
      · exfalso; omega
      · refine x_aload_n hK kX0_fillTrace_160 (q := 161) rfl rfl ?_
        refine x_getfield hK kX0_fillTrace_161 (q := 164) rfl (gX0_63 ?_)
        refine x_aload_n hK kX0_fillTrace_164 (q := 165) rfl rfl ?_
        refine x_getfield hK kX0_fillTrace_165 (q := 168) rfl (gX0_153 ?_)
        refine x_aload_n hK kX0_fillTrace_168 (q := 169) rfl rfl ?_
        refine x_getfield hK kX0_fillTrace_169 (q := 172) rfl (gX0_54 ?_)
        refine x_cv3 hK kX0_fillTrace_172 (q := 175) rfl (vtX0_fillTrace_205) (Nat.le_of_ble_eq_true rfl) ?_
        refine mult_a (k := gb (7 + e) + 16) (b := 329) (m := f * m) (n := m) h1 (by omega) (by omega) (by decide) (by decide) (by rw [vU_s]; exact pb f) (by rw [vU_n _ _ (by omega), oP _ _ _ (by omega)]; exact hm) (by omega) (fun W2 h2 => ?_)
        rw [vU_s, vU_n _ _ (show (329 : Nat) ≠ gb (7 + e) + 16 by omega), oP _ _ _ (show 329 < gb (7 + e) ∨ gb (7 + e) + 16 ≤ 329 by omega)] at h2
        refine x_iinc hK kX0_fillTrace_175 (q := 178) rfl rfl ?_
        simp only [lS, lS2, clr_0, clr_I, clr_L, clr_R]
        refine x_goto hK kX0_fillTrace_178 (tg := 153) rfl ?_
        rw [show (f : Int) + 1 = ((f + 1 : Nat) : Int) by omega]
        exact ih (f + 1) W2 _ _ (by omega) (aR_c h2 (fun t _ _ => by
          unfold vU
          split
          · rw [Int.pow_succ]
          · rfl))
  have outer : ∀ (d i : Nat) (W1 : Nat → Int → Int) (u4 u5 : Option eV), i + d = n → aR W1 (vG8 V (gb (7 + e)) 16 (P i i)) → K 13 [some (eR (1, 4)), some (eI e), some (eR (9, 7 + e)), some (eI i), u4, u5] [] (cC F A W1) := by
    intro d
    induction d with
    | zero =>
      intro i W1 u4 u5 hi h1
      have : i = n := by omega
      subst this
      refine x_iload_n hK kX0_fillTrace_13 (q := 14) rfl rfl ?_
      refine x_aload_n hK kX0_fillTrace_14 (q := 15) rfl rfl ?_
      refine x_getfield hK kX0_fillTrace_15 (q := 18) rfl (gX0_17 ?_)
      rw [hn]
      refine x_icmp_ge hK kX0_fillTrace_18 (q := 21) rfl (tg := 143) rfl (by refine ⟨?_, ?_⟩ <;> omega) (fun c18 => ?_) (fun c18 => ?_)
      · refine x_aload_n hK kX0_fillTrace_143 (q := 144) rfl rfl ?_
        refine x_getfield hK kX0_fillTrace_144 (q := 147) rfl (gX0_153 ?_)
        refine x_lconst1 hK kX0_fillTrace_147 (q := 148) rfl ?_
        refine x_cv2 hK kX0_fillTrace_148 (q := 151) rfl (vtX0_fillTrace_129) (Nat.le_of_ble_eq_true rfl) ?_
        refine set_a (k := gb (7 + e) + 16) h1 (by omega) (by omega) (by decide) (fun W2 h2 => ?_)
        refine x_iconst hK kX0_fillTrace_151 (q := 152) rfl ?_
        refine x_istore_n hK kX0_fillTrace_152 (q := 153) (jn := 3) rfl rfl ?_
        simp only [lS, lS2, clr_0, clr_I, clr_L, clr_R]
        exact und (e + 2) 0 W2 _ _ (by omega) (by rw [Int.pow_zero]; exact h2)
      · exfalso; omega
    | succ d ih =>
      intro i W1 u4 u5 hi h1
      refine x_iload_n hK kX0_fillTrace_13 (q := 14) rfl rfl ?_
      refine x_aload_n hK kX0_fillTrace_14 (q := 15) rfl rfl ?_
      refine x_getfield hK kX0_fillTrace_15 (q := 18) rfl (gX0_17 ?_)
      rw [hn]
      refine x_icmp_ge hK kX0_fillTrace_18 (q := 21) rfl (tg := 143) rfl (by refine ⟨?_, ?_⟩ <;> omega) (fun c18 => ?_) (fun c18 => ?_)
      · exfalso; omega
      · refine x_iload_n hK kX0_fillTrace_21 (q := 22) rfl rfl ?_
        refine x_iconst hK kX0_fillTrace_22 (q := 23) rfl ?_
        refine x_icmp_ge hK kX0_fillTrace_23 (q := 26) rfl (tg := 143) rfl (by refine ⟨?_, ?_⟩ <;> omega) (fun c23 => ?_) (fun c23 => ?_)
        · exfalso; omega
        · refine x_iload_n hK kX0_fillTrace_26 (q := 27) rfl rfl ?_
          refine x_istore hK kX0_fillTrace_27 (q := 29) rfl ?_
          simp only [lS, lS2, clr_0, clr_I, clr_L, clr_R]
          exact mid i (by omega) (fun W2 u4 u5 h2 => ih (i + 1) W2 u4 u5 (by omega) h2) (n - i) i W1 _ (by omega) (Nat.le_refl _) h1
  simp only [eLoc, eE, List.length_cons, List.length_nil, List.replicate, List.cons_append, List.nil_append, Nat.reduceAdd, Nat.reduceSub]
  refine x_aload_n hK kX0_fillTrace_0 (q := 1) rfl rfl ?_
  refine x_getfield hK kX0_fillTrace_1 (q := 4) rfl (gX0_28 ?_)
  refine x_iload_n hK kX0_fillTrace_4 (q := 5) rfl rfl ?_
  refine x_aaload hK kX0_fillTrace_5 (q := 6) rfl (aC0_6 (by omega) ?_)
  refine x_astore_n hK kX0_fillTrace_6 (q := 7) (jn := 2) rfl rfl ?_
  refine x_aload_n hK kX0_fillTrace_7 (q := 8) rfl rfl ?_
  simp only [lS, lS2, clr_0, clr_I, clr_L, clr_R]
  refine x_cv1 hK kX0_fillTrace_8 (q := 11) rfl (vtX0_fillTrace_150) (Nat.le_of_ble_eq_true rfl) ?_
  refine gwipe_a (g := 7 + e) hV (by omega) (fun W1 h1 => ?_)
  refine x_iconst hK kX0_fillTrace_11 (q := 12) rfl ?_
  refine x_istore_n hK kX0_fillTrace_12 (q := 13) (jn := 3) rfl rfl ?_
  simp only [lS, lS2, clr_0, clr_I, clr_L, clr_R]
  refine outer n 0 W1 _ _ (by omega) (aR_c h1 (fun t _ _ => ?_))
  unfold vG8
  split
  · rw [hP]
    dsimp only
    rw [if_neg (by omega)]
  · rfl
set_option maxRecDepth 20000 in
theorem mX0_fillTrace : eMet yX0_fillTrace cX0_fillTrace 6 none 3 79 SX0_fillTrace := eMet_of (by decide +kernel) sX0_fillTrace kX0_fillTrace_ok caX0_fillTrace tb_RX0
theorem wX0_fillTrace : eWV yX0_fillTrace cX0_fillTrace 6 none 2 0 SX0_fillTrace := ⟨(gW_at 682 (by decide +kernel) rfl), (gW_at 86 (by decide +kernel) rfl), (gW_at 681 (by decide +kernel) rfl), ⟨_, rfl, (gW_at 26 (by decide +kernel) rfl)⟩, by decide +kernel, SX0_fillTrace_r⟩
