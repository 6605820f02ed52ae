/-! The algebra: multiplyByVariable, times, carry. -/
theorem vG8_v (V : Nat → Int) {a n t : Nat} (f : Nat → Int) (h : a ≤ t ∧ t < a + n) : vG8 V a n f t = f (t - a) := if_pos h
def mvF (V : Nat → Int) (L st : Int → Int) (of i j : Nat) : Int :=
  if ldb L (prP (st j) of) = true then -(V (rb (prP (st j) of).toNat + (st i).toNat) * (V 328 / V (rb (prP (st j) of).toNat + (prP (st j) of).toNat)))
  else if prP (st j) of = st i then V 328 else 0
def mvV (V : Nat → Int) (L st : Int → Int) (of n : Nat) : Nat → Int := vU (vG8 V (gb of) 16 (fun c => if c / 4 < n ∧ c % 4 < n then mvF V L st of (c / 4) (c % 4) else 0)) (gb of + 16) (V 328)
def SX0_multiplyByVariable : eSp := fun as M rt => ∃ (F : Nat → Int) (A W : Nat → Int → Int) (V : Nat → Int) (n of : Nat), as = [eR (1, 4), eR (1, 3), eI of] ∧ M = cC F A W ∧ (aR W V) ∧ (∀ i : Int, 0 ≤ i → i < 10 → A 2 i = 0 ∨ A 2 i = 1) ∧ (F 5 = n) ∧ (n ≤ 4) ∧ (of < 2) ∧ (∀ j : Nat, j < n → 0 ≤ A 4 j ∧ A 4 j < 6) ∧ (∀ j : Nat, j < n → ldb (A 2) (prP (A 4 j) of) = true → 0 < V (rb (prP (A 4 j) of).toNat + (prP (A 4 j) of).toNat) ∧ V (rb (prP (A 4 j) of).toNat + (prP (A 4 j) of).toNat) ∣ V 328 ∧ ∀ i : Nat, i < n → zAbs (V (rb (prP (A 4 j) of).toNat + (A 4 i).toNat)) ≤ 2 ^ 400) ∧ (zAbs (V 328) ≤ 2 ^ 400) ∧ (∀ W', aR W' (mvV V (A 2) (A 4) of n) → rt none (cC F A W'))
theorem SX0_multiplyByVariable_i {F : Nat → Int} {A W : Nat → Int → Int} {V : Nat → Int} {n of : Nat} {rt : Option eV → eM → Prop} (hV : aR W V) (hL : ∀ i : Int, 0 ≤ i → i < 10 → A 2 i = 0 ∨ A 2 i = 1) (hn : F 5 = n) (n4 : n ≤ 4) (ho : of < 2) (hst : ∀ j : Nat, j < n → 0 ≤ A 4 j ∧ A 4 j < 6) (hd : ∀ j : Nat, j < n → ldb (A 2) (prP (A 4 j) of) = true → 0 < V (rb (prP (A 4 j) of).toNat + (prP (A 4 j) of).toNat) ∧ V (rb (prP (A 4 j) of).toNat + (prP (A 4 j) of).toNat) ∣ V 328 ∧ ∀ i : Nat, i < n → zAbs (V (rb (prP (A 4 j) of).toNat + (A 4 i).toNat)) ≤ 2 ^ 400) (hD : zAbs (V 328) ≤ 2 ^ 400) (h : ∀ W', aR W' (mvV V (A 2) (A 4) of n) → rt none (cC F A W')) : SX0_multiplyByVariable [eR (1, 4), eR (1, 3), eI of] (cC F A W) rt := ⟨F, A, W, V, n, of, rfl, rfl, hV, hL, hn, n4, ho, hst, hd, hD, h⟩
theorem SX0_multiplyByVariable_r : ∀ as M rt, SX0_multiplyByVariable as M rt → ∃ a r fs, as = eR a :: r ∧ M a = some (.inl (0, fs)) := by
  rintro as M rt ⟨F, A, W, V, n, of, rfl, rfl, -⟩
  exact ⟨_, _, _, rfl, rfl⟩
def kX0_multiplyByVariable : List (Nat × Jvm.ClassFile.Instr × Nat) := [(0, .aload_n 0, 1), (1, .getfield 21, 3), (4, .iload_n 2, 1), (5, .aaload, 1), (6, .astore_n 3, 1), (7, .aload_n 3, 1), (8, .invokevirtual 150, 3), (11, .aload_n 3, 1), (12, .getfield 153, 3), (15, .aload_n 0, 1), (16, .getfield 50, 3), (19, .invokevirtual 156, 3), (22, .iconst 0, 1), (23, .istore 4, 2), (25, .iload 4, 2), (27, .aload_n 0, 1), (28, .getfield 17, 3), (31, .if_icmp .ge 116, 3), (34, .aload_n 0, 1), (35, .iload_n 2, 1), (36, .iload 4, 2), (38, .invokevirtual 133, 3), (41, .istore 5, 2), (43, .iconst 0, 1), (44, .istore 6, 2), (46, .iload 6, 2), (48, .aload_n 0, 1), (49, .getfield 17, 3), (52, .if_icmp .ge 89, 3), (55, .aload_n 3, 1), (56, .iload 6, 2), (58, .iload 4, 2), (60, .invokevirtual 160, 3), (63, .astore 7, 2), (65, .aload_n 1, 1), (66, .iload 5, 2), (68, .invokevirtual 113, 3), (71, .ifCond .eq 44, 3), (74, .aload_n 0, 1), (75, .getfield 63, 3), (78, .aload 7, 2), (80, .aload_n 1, 1), (81, .iload 5, 2), (83, .aload_n 0, 1), (84, .iload 6, 2), (86, .invokevirtual 119, 3), (89, .invokevirtual 137, 3), (92, .aload_n 1, 1), (93, .iload 5, 2), (95, .iload 5, 2), (97, .invokevirtual 137, 3), (100, .aload_n 0, 1), (101, .getfield 50, 3), (104, .invokevirtual 163, 3), (107, .aload 7, 2), (109, .invokevirtual 167, 3), (112, .goto 23, 3), (115, .iload 5, 2), (117, .aload_n 0, 1), (118, .iload 6, 2), (120, .invokevirtual 119, 3), (123, .if_icmp .ne 12, 3), (126, .aload 7, 2), (128, .aload_n 0, 1), (129, .getfield 50, 3), (132, .invokevirtual 156, 3), (135, .iinc 6 1, 3), (138, .goto (-92), 3), (141, .iinc 4 1, 3), (144, .goto (-119), 3), (147, .return_, 1)]
theorem kX0_multiplyByVariable_0 : cdOf kX0_multiplyByVariable 0 = some (.aload_n 0, 1) := by decide +kernel
theorem kX0_multiplyByVariable_1 : cdOf kX0_multiplyByVariable 1 = some (.getfield 21, 3) := by decide +kernel
theorem kX0_multiplyByVariable_4 : cdOf kX0_multiplyByVariable 4 = some (.iload_n 2, 1) := by decide +kernel
theorem kX0_multiplyByVariable_5 : cdOf kX0_multiplyByVariable 5 = some (.aaload, 1) := by decide +kernel
theorem kX0_multiplyByVariable_6 : cdOf kX0_multiplyByVariable 6 = some (.astore_n 3, 1) := by decide +kernel
theorem kX0_multiplyByVariable_7 : cdOf kX0_multiplyByVariable 7 = some (.aload_n 3, 1) := by decide +kernel
theorem kX0_multiplyByVariable_8 : cdOf kX0_multiplyByVariable 8 = some (.invokevirtual 150, 3) := by decide +kernel
theorem kX0_multiplyByVariable_11 : cdOf kX0_multiplyByVariable 11 = some (.aload_n 3, 1) := by decide +kernel
theorem kX0_multiplyByVariable_12 : cdOf kX0_multiplyByVariable 12 = some (.getfield 153, 3) := by decide +kernel
theorem kX0_multiplyByVariable_15 : cdOf kX0_multiplyByVariable 15 = some (.aload_n 0, 1) := by decide +kernel
theorem kX0_multiplyByVariable_16 : cdOf kX0_multiplyByVariable 16 = some (.getfield 50, 3) := by decide +kernel
theorem kX0_multiplyByVariable_19 : cdOf kX0_multiplyByVariable 19 = some (.invokevirtual 156, 3) := by decide +kernel
theorem kX0_multiplyByVariable_22 : cdOf kX0_multiplyByVariable 22 = some (.iconst 0, 1) := by decide +kernel
theorem kX0_multiplyByVariable_23 : cdOf kX0_multiplyByVariable 23 = some (.istore 4, 2) := by decide +kernel
theorem kX0_multiplyByVariable_25 : cdOf kX0_multiplyByVariable 25 = some (.iload 4, 2) := by decide +kernel
theorem kX0_multiplyByVariable_27 : cdOf kX0_multiplyByVariable 27 = some (.aload_n 0, 1) := by decide +kernel
theorem kX0_multiplyByVariable_28 : cdOf kX0_multiplyByVariable 28 = some (.getfield 17, 3) := by decide +kernel
theorem kX0_multiplyByVariable_31 : cdOf kX0_multiplyByVariable 31 = some (.if_icmp .ge 116, 3) := by decide +kernel
theorem kX0_multiplyByVariable_34 : cdOf kX0_multiplyByVariable 34 = some (.aload_n 0, 1) := by decide +kernel
theorem kX0_multiplyByVariable_35 : cdOf kX0_multiplyByVariable 35 = some (.iload_n 2, 1) := by decide +kernel
theorem kX0_multiplyByVariable_36 : cdOf kX0_multiplyByVariable 36 = some (.iload 4, 2) := by decide +kernel
theorem kX0_multiplyByVariable_38 : cdOf kX0_multiplyByVariable 38 = some (.invokevirtual 133, 3) := by decide +kernel
theorem kX0_multiplyByVariable_41 : cdOf kX0_multiplyByVariable 41 = some (.istore 5, 2) := by decide +kernel
theorem kX0_multiplyByVariable_43 : cdOf kX0_multiplyByVariable 43 = some (.iconst 0, 1) := by decide +kernel
theorem kX0_multiplyByVariable_44 : cdOf kX0_multiplyByVariable 44 = some (.istore 6, 2) := by decide +kernel
theorem kX0_multiplyByVariable_46 : cdOf kX0_multiplyByVariable 46 = some (.iload 6, 2) := by decide +kernel
theorem kX0_multiplyByVariable_48 : cdOf kX0_multiplyByVariable 48 = some (.aload_n 0, 1) := by decide +kernel
theorem kX0_multiplyByVariable_49 : cdOf kX0_multiplyByVariable 49 = some (.getfield 17, 3) := by decide +kernel
theorem kX0_multiplyByVariable_52 : cdOf kX0_multiplyByVariable 52 = some (.if_icmp .ge 89, 3) := by decide +kernel
theorem kX0_multiplyByVariable_55 : cdOf kX0_multiplyByVariable 55 = some (.aload_n 3, 1) := by decide +kernel
theorem kX0_multiplyByVariable_56 : cdOf kX0_multiplyByVariable 56 = some (.iload 6, 2) := by decide +kernel
theorem kX0_multiplyByVariable_58 : cdOf kX0_multiplyByVariable 58 = some (.iload 4, 2) := by decide +kernel
theorem kX0_multiplyByVariable_60 : cdOf kX0_multiplyByVariable 60 = some (.invokevirtual 160, 3) := by decide +kernel
theorem kX0_multiplyByVariable_63 : cdOf kX0_multiplyByVariable 63 = some (.astore 7, 2) := by decide +kernel
theorem kX0_multiplyByVariable_65 : cdOf kX0_multiplyByVariable 65 = some (.aload_n 1, 1) := by decide +kernel
theorem kX0_multiplyByVariable_66 : cdOf kX0_multiplyByVariable 66 = some (.iload 5, 2) := by decide +kernel
theorem kX0_multiplyByVariable_68 : cdOf kX0_multiplyByVariable 68 = some (.invokevirtual 113, 3) := by decide +kernel
theorem kX0_multiplyByVariable_71 : cdOf kX0_multiplyByVariable 71 = some (.ifCond .eq 44, 3) := by decide +kernel
theorem kX0_multiplyByVariable_74 : cdOf kX0_multiplyByVariable 74 = some (.aload_n 0, 1) := by decide +kernel
theorem kX0_multiplyByVariable_75 : cdOf kX0_multiplyByVariable 75 = some (.getfield 63, 3) := by decide +kernel
theorem kX0_multiplyByVariable_78 : cdOf kX0_multiplyByVariable 78 = some (.aload 7, 2) := by decide +kernel
theorem kX0_multiplyByVariable_80 : cdOf kX0_multiplyByVariable 80 = some (.aload_n 1, 1) := by decide +kernel
theorem kX0_multiplyByVariable_81 : cdOf kX0_multiplyByVariable 81 = some (.iload 5, 2) := by decide +kernel
theorem kX0_multiplyByVariable_83 : cdOf kX0_multiplyByVariable 83 = some (.aload_n 0, 1) := by decide +kernel
theorem kX0_multiplyByVariable_84 : cdOf kX0_multiplyByVariable 84 = some (.iload 6, 2) := by decide +kernel
theorem kX0_multiplyByVariable_86 : cdOf kX0_multiplyByVariable 86 = some (.invokevirtual 119, 3) := by decide +kernel
theorem kX0_multiplyByVariable_89 : cdOf kX0_multiplyByVariable 89 = some (.invokevirtual 137, 3) := by decide +kernel
theorem kX0_multiplyByVariable_92 : cdOf kX0_multiplyByVariable 92 = some (.aload_n 1, 1) := by decide +kernel
theorem kX0_multiplyByVariable_93 : cdOf kX0_multiplyByVariable 93 = some (.iload 5, 2) := by decide +kernel
theorem kX0_multiplyByVariable_95 : cdOf kX0_multiplyByVariable 95 = some (.iload 5, 2) := by decide +kernel
theorem kX0_multiplyByVariable_97 : cdOf kX0_multiplyByVariable 97 = some (.invokevirtual 137, 3) := by decide +kernel
theorem kX0_multiplyByVariable_100 : cdOf kX0_multiplyByVariable 100 = some (.aload_n 0, 1) := by decide +kernel
theorem kX0_multiplyByVariable_101 : cdOf kX0_multiplyByVariable 101 = some (.getfield 50, 3) := by decide +kernel
theorem kX0_multiplyByVariable_104 : cdOf kX0_multiplyByVariable 104 = some (.invokevirtual 163, 3) := by decide +kernel
theorem kX0_multiplyByVariable_107 : cdOf kX0_multiplyByVariable 107 = some (.aload 7, 2) := by decide +kernel
theorem kX0_multiplyByVariable_109 : cdOf kX0_multiplyByVariable 109 = some (.invokevirtual 167, 3) := by decide +kernel
theorem kX0_multiplyByVariable_112 : cdOf kX0_multiplyByVariable 112 = some (.goto 23, 3) := by decide +kernel
theorem kX0_multiplyByVariable_115 : cdOf kX0_multiplyByVariable 115 = some (.iload 5, 2) := by decide +kernel
theorem kX0_multiplyByVariable_117 : cdOf kX0_multiplyByVariable 117 = some (.aload_n 0, 1) := by decide +kernel
theorem kX0_multiplyByVariable_118 : cdOf kX0_multiplyByVariable 118 = some (.iload 6, 2) := by decide +kernel
theorem kX0_multiplyByVariable_120 : cdOf kX0_multiplyByVariable 120 = some (.invokevirtual 119, 3) := by decide +kernel
theorem kX0_multiplyByVariable_123 : cdOf kX0_multiplyByVariable 123 = some (.if_icmp .ne 12, 3) := by decide +kernel
theorem kX0_multiplyByVariable_126 : cdOf kX0_multiplyByVariable 126 = some (.aload 7, 2) := by decide +kernel
theorem kX0_multiplyByVariable_128 : cdOf kX0_multiplyByVariable 128 = some (.aload_n 0, 1) := by decide +kernel
theorem kX0_multiplyByVariable_129 : cdOf kX0_multiplyByVariable 129 = some (.getfield 50, 3) := by decide +kernel
theorem kX0_multiplyByVariable_132 : cdOf kX0_multiplyByVariable 132 = some (.invokevirtual 156, 3) := by decide +kernel
theorem kX0_multiplyByVariable_135 : cdOf kX0_multiplyByVariable 135 = some (.iinc 6 1, 3) := by decide +kernel
theorem kX0_multiplyByVariable_138 : cdOf kX0_multiplyByVariable 138 = some (.goto (-92), 3) := by decide +kernel
theorem kX0_multiplyByVariable_141 : cdOf kX0_multiplyByVariable 141 = some (.iinc 4 1, 3) := by decide +kernel
theorem kX0_multiplyByVariable_144 : cdOf kX0_multiplyByVariable 144 = some (.goto (-119), 3) := by decide +kernel
theorem kX0_multiplyByVariable_147 : cdOf kX0_multiplyByVariable 147 = some (.return_, 1) := by decide +kernel
set_option maxRecDepth 20000 in
theorem kX0_multiplyByVariable_ok : ∀ pc i len, cdOf kX0_multiplyByVariable pc = some (i, len) → decode cX0_multiplyByVariable pc = .ok (i, len) ∧ stOK 8 i = true ∧ jOK pc i = true ∧ eLen i len = true := cdOf_ok cX0_multiplyByVariable 8 kX0_multiplyByVariable (by decide +kernel)
def vtX0_multiplyByVariable : Nat → Option (Nat × eSp) := fun k => match k with
  | 150 => some (1, SX2_wipe)
  | 156 => some (2, SX8_copy)
  | 133 => some (3, SX0_product)
  | 160 => some (3, SX2_read)
  | 113 => some (2, SX3_isLead)
  | 119 => some (2, SX0_place)
  | 137 => some (3, SX3_part)
  | 163 => some (5, SX1_setShare)
  | 167 => some (1, SX8_turn)
  | _ => none
theorem vtX0_multiplyByVariable_150 : vtX0_multiplyByVariable 150 = some (1, SX2_wipe) := rfl
theorem vtX0_multiplyByVariable_156 : vtX0_multiplyByVariable 156 = some (2, SX8_copy) := rfl
theorem vtX0_multiplyByVariable_133 : vtX0_multiplyByVariable 133 = some (3, SX0_product) := rfl
theorem vtX0_multiplyByVariable_160 : vtX0_multiplyByVariable 160 = some (3, SX2_read) := rfl
theorem vtX0_multiplyByVariable_113 : vtX0_multiplyByVariable 113 = some (2, SX3_isLead) := rfl
theorem vtX0_multiplyByVariable_119 : vtX0_multiplyByVariable 119 = some (2, SX0_place) := rfl
theorem vtX0_multiplyByVariable_137 : vtX0_multiplyByVariable 137 = some (3, SX3_part) := rfl
theorem vtX0_multiplyByVariable_163 : vtX0_multiplyByVariable 163 = some (5, SX1_setShare) := rfl
theorem vtX0_multiplyByVariable_167 : vtX0_multiplyByVariable 167 = some (1, SX8_turn) := rfl
def stX0_multiplyByVariable : Nat → Option (Nat × eSp) := fun _ => none
abbrev TX0_multiplyByVariable : eT := (fl_RX0, cl_RX0, dl_RX0, vtX0_multiplyByVariable, stX0_multiplyByVariable)
set_option maxRecDepth 20000 in
theorem caX0_multiplyByVariable : eCalls RX0 { frames := 4, cells := 0, slots := 0, locals := 111 } TX0_multiplyByVariable := by
  refine ⟨fun k n sp h => ?_, fun k n sp h => ?_⟩
  · dsimp only [TX0_multiplyByVariable] at h
    unfold vtX0_multiplyByVariable at h
    split at h
    · cases h; exact eV_mk mX2_wipe wX2_wipe (by decide +kernel) (Or.inl (gW_at 633 (by decide +kernel) rfl))
    · cases h; exact eV_mk mX8_copy wX8_copy (by decide +kernel) (Or.inl (gW_at 637 (by decide +kernel) rfl))
    · cases h; exact eV_mk mX0_product wX0_product (by decide +kernel) (Or.inl (gW_at 606 (by decide +kernel) rfl))
    · cases h; exact eV_mk mX2_read wX2_read (by decide +kernel) (Or.inl (gW_at 638 (by decide +kernel) rfl))
    · cases h; exact eV_mk mX3_isLead wX3_isLead (by decide +kernel) (Or.inl (gW_at 600 (by decide +kernel) rfl))
    · cases h; exact eV_mk mX0_place wX0_place (by decide +kernel) (Or.inl (gW_at 610 (by decide +kernel) rfl))
    · cases h; exact eV_mk mX3_part wX3_part (by decide +kernel) (Or.inl (gW_at 616 (by decide +kernel) rfl))
    · cases h; exact eV_mk mX1_setShare wX1_setShare (by decide +kernel) (Or.inl (gW_at 642 (by decide +kernel) rfl))
    · cases h; exact eV_mk mX8_turn wX8_turn (by decide +kernel) (Or.inl (gW_at 646 (by decide +kernel) rfl))
    · cases h
  · cases h
set_option maxRecDepth 100000 in
set_option maxHeartbeats 4000000 in
theorem sX0_multiplyByVariable : eSafe TX0_multiplyByVariable (cdOf kX0_multiplyByVariable) 8 none SX0_multiplyByVariable := by
  intro K rt hK as M h
  obtain ⟨F, A, W, V, n, of, rfl, rfl, hV, hL, hn, n4, ho, hst, hd, hD, h⟩ := h
  refine ⟨by simp [eE], ?_⟩
  have gbo : 141 ≤ gb of ∧ gb of + 17 ≤ 175 := by unfold gb; omega
  obtain ⟨dn, hdn⟩ : ∃ dn : Nat → Nat → Nat → Prop, dn = fun j i c => c / 4 < n ∧ (c % 4 < j ∨ (c % 4 = j ∧ c / 4 < i)) := ⟨_, rfl⟩
  obtain ⟨P, hP⟩ : ∃ P : Nat → Nat → Nat → Int, P = fun j i c => if c / 4 < n ∧ (c % 4 < j ∨ (c % 4 = j ∧ c / 4 < i)) then mvF V (A 2) (A 4) of (c / 4) (c % 4) else 0 := ⟨_, rfl⟩
  have fin : ∀ (W1 : Nat → Int → Int) (u4 u5 u6 u7 : Option eV), aR W1 (vU (vG8 V (gb of) 16 (P n 0)) (gb of + 16) (V 328)) → rt none (cC F A W1) := fun W1 _ _ _ _ ha => h W1 (aR_c ha (fun t _ _ => by
    unfold mvV vU vG8
    split
    · rfl
    · split
      · rw [hP]
        dsimp only
        by_cases g : (t - gb of) / 4 < n ∧ (t - gb of) % 4 < n
        · rw [if_pos g, if_pos (by omega)]
        · rw [if_neg g, if_neg (by omega)]
      · rfl))
  have inner : ∀ (j : Nat) (q : Nat), j < n → prP (A 4 j) of = q → q < 10 → (∀ (W1 : Nat → Int → Int) (u5 u6 u7 : Option eV), aR W1 (vU (vG8 V (gb of) 16 (P (j + 1) 0)) (gb of + 16) (V 328)) → K 25 [some (eR (1, 4)), some (eR (1, 3)), some (eI of), some (eR (9, of)), some (eI ((j + 1 : Nat) : Int)), u5, u6, u7] [] (cC F A W1)) →
      ∀ (d i : Nat) (W1 : Nat → Int → Int) (u7 : Option eV), i + d = n → aR W1 (vU (vG8 V (gb of) 16 (P j i)) (gb of + 16) (V 328)) → K 46 [some (eR (1, 4)), some (eR (1, 3)), some (eI of), some (eR (9, of)), some (eI j), some (eI q), some (eI i), u7] [] (cC F A W1) := by
    intro j q hj hq q10 cont d
    induction d with
    | zero =>
      intro i W1 u7 hi ha
      have : i = n := by omega
      subst this
      refine x_iload hK kX0_multiplyByVariable_46 (q := 48) rfl rfl ?_
      refine x_aload_n hK kX0_multiplyByVariable_48 (q := 49) rfl rfl ?_
      refine x_getfield hK kX0_multiplyByVariable_49 (q := 52) rfl (gX0_17 ?_)
      rw [hn]
      refine x_icmp_ge hK kX0_multiplyByVariable_52 (q := 55) rfl (tg := 141) rfl (by refine ⟨?_, ?_⟩ <;> omega) (fun c52 => ?_) (fun c52 => ?_)
      · refine x_iinc hK kX0_multiplyByVariable_141 (q := 144) rfl rfl ?_
        simp only [lS, lS2, clr_0, clr_I, clr_L, clr_R]
        refine x_goto hK kX0_multiplyByVariable_144 (tg := 25) rfl ?_
        rw [show (j : Int) + 1 = ((j + 1 : Nat) : Int) by omega]
        refine cont W1 _ _ _ (aR_c ha (fun t _ _ => ?_))
        unfold vU vG8
        split
        · rfl
        · split
          · rw [hP]
            dsimp only
            by_cases g : (t - gb of) / 4 < i ∧ ((t - gb of) % 4 < j ∨ (t - gb of) % 4 = j)
            · rw [if_pos (by omega), if_pos (by omega)]
            · rw [if_neg (by omega), if_neg (by omega)]
          · rfl
      · exfalso; omega
    | succ d ih =>
      intro i W1 u7 hi ha
      have si := hst i (by omega)
      have sj := hst j hj
      obtain ⟨s, hs⟩ : ∃ s : Nat, A 4 i = s := ⟨(A 4 i).toNat, by omega⟩
      have rq := rb_11 (show q < 11 by omega)
      have hdj := hd j hj
      rw [hq] at hdj
      rw [show (q : Int).toNat = q from rfl] at hdj
      have e : plI (A 4) (F 5) i = s := by unfold plI; rw [if_pos ⟨by omega, by omega, by omega⟩]; exact hs
      obtain ⟨Vc, hVc⟩ : ∃ Vc, vU (vG8 V (gb of) 16 (P j i)) (gb of + 16) (V 328) = Vc := ⟨_, rfl⟩
      rw [hVc] at ha
      have lo : ∀ t, (t < 141 ∨ 300 ≤ t) → Vc t = V t := fun t ht => by
        rw [← hVc, vU_n _ _ (by omega), vG8_o _ _ (by omega)]
      have mv : mvF V (A 2) (A 4) of i j = if ldb (A 2) q = true then -(V (rb q + s) * (V 328 / V (rb q + q))) else if (q : Int) = s then V 328 else 0 := by
        unfold mvF
        rw [hq, hs]
        rfl
      have nx : ∀ (W2 : Nat → Int → Int) (u7 : Option eV) (x : Int), x = mvF V (A 2) (A 4) of i j → aR W2 (vU Vc (gb of + (4 * i + j)) x) → K 46 [some (eR (1, 4)), some (eR (1, 3)), some (eI of), some (eR (9, of)), some (eI j), some (eI q), some (eI ((i + 1 : Nat) : Int)), u7] [] (cC F A W2) := fun W2 u7 x hx h2 => by
        refine ih (i + 1) W2 u7 (by omega) (aR_c h2 (fun t _ _ => ?_))
        rw [hx, ← hVc]
        unfold vU vG8
        by_cases g0 : t = gb of + 16
        · rw [if_pos g0, if_neg (by omega), if_pos g0]
        · rw [if_neg g0]
          by_cases g : t = gb of + (4 * i + j)
          · rw [if_pos g, if_pos (by omega), hP]
            dsimp only
            rw [show t - gb of = 4 * i + j by omega, if_pos (by omega), show (4 * i + j) / 4 = i by omega, show (4 * i + j) % 4 = j by omega]
          · rw [if_neg g, if_neg g0]
            by_cases g2 : gb of ≤ t ∧ t < gb of + 16
            · rw [if_pos g2, if_pos g2, hP]
              dsimp only
              by_cases g3 : (t - gb of) / 4 < n ∧ ((t - gb of) % 4 < j ∨ ((t - gb of) % 4 = j ∧ (t - gb of) / 4 < i))
              · rw [if_pos (by omega), if_pos g3]
              · rw [if_neg (by omega), if_neg g3]
            · rw [if_neg g2, if_neg g2]
      have c0 : Vc (gb of + (4 * i + j)) = 0 := by
        rw [← hVc, vU_n _ _ (by omega), vG8_i _ _ (by omega), hP]
        dsimp only
        rw [if_neg (by omega)]
      refine x_iload hK kX0_multiplyByVariable_46 (q := 48) rfl rfl ?_
      refine x_aload_n hK kX0_multiplyByVariable_48 (q := 49) rfl rfl ?_
      refine x_getfield hK kX0_multiplyByVariable_49 (q := 52) rfl (gX0_17 ?_)
      rw [hn]
      refine x_icmp_ge hK kX0_multiplyByVariable_52 (q := 55) rfl (tg := 141) rfl (by refine ⟨?_, ?_⟩ <;> omega) (fun c52 => ?_) (fun c52 => ?_)
      · exfalso; omega
      · refine x_aload_n hK kX0_multiplyByVariable_55 (q := 56) rfl rfl ?_
        refine x_iload hK kX0_multiplyByVariable_56 (q := 58) rfl rfl ?_
        refine x_iload hK kX0_multiplyByVariable_58 (q := 60) rfl rfl ?_
        refine x_cv3 hK kX0_multiplyByVariable_60 (q := 63) rfl (vtX0_multiplyByVariable_160) (Nat.le_of_ble_eq_true rfl) ?_
        refine SX2_read_i (g := of) (i := i) (j := j) (by omega) (by omega) (by omega) ?_
        refine x_astore hK kX0_multiplyByVariable_63 (q := 65) rfl ?_
        refine x_aload_n hK kX0_multiplyByVariable_65 (q := 66) rfl rfl ?_
        refine x_iload hK kX0_multiplyByVariable_66 (q := 68) rfl rfl ?_
        simp only [lS, lS2, clr_0, clr_I, clr_L, clr_R]
        refine x_cv2 hK kX0_multiplyByVariable_68 (q := 71) rfl (vtX0_multiplyByVariable_113) (Nat.le_of_ble_eq_true rfl) ?_
        refine SX3_isLead_i ⟨by omega, by omega⟩ hL ?_
        refine x_if_eq hK kX0_multiplyByVariable_71 (q := 74) rfl (tg := 115) rfl (by exact zE_w _) (fun c71 => ?_) (fun c71 => ?_)
        · rw [if_neg (by rw [ldb_f c71]; exact fun e => by cases e)] at mv
          refine x_iload hK kX0_multiplyByVariable_115 (q := 117) rfl rfl ?_
          refine x_aload_n hK kX0_multiplyByVariable_117 (q := 118) rfl rfl ?_
          refine x_iload hK kX0_multiplyByVariable_118 (q := 120) rfl rfl ?_
          refine x_cv2 hK kX0_multiplyByVariable_120 (q := 123) rfl (vtX0_multiplyByVariable_119) (Nat.le_of_ble_eq_true rfl) ?_
          refine SX0_place_i ⟨by omega, by omega⟩ ⟨by omega, by omega⟩ ?_
          rw [e]
          refine x_icmp_ne hK kX0_multiplyByVariable_123 (q := 126) rfl (tg := 135) rfl (by refine ⟨?_, ?_⟩ <;> omega) (fun c123 => ?_) (fun c123 => ?_)
          · rw [if_neg c123] at mv
            have hfin := fun u7 => nx W1 u7 _ mv.symm (aR_c ha (fun t _ _ => by
              unfold vU
              split
              · rename_i g
                rw [g, c0]
              · rfl))
            refine x_iinc hK kX0_multiplyByVariable_135 (q := 138) rfl rfl ?_
            simp only [lS, lS2, clr_0, clr_I, clr_L, clr_R]
            refine x_goto hK kX0_multiplyByVariable_138 (tg := 46) rfl ?_
            rw [show (i : Int) + 1 = ((i + 1 : Nat) : Int) by omega]
            exact hfin _
          · rw [if_pos (Decidable.not_not.mp c123)] at mv
            refine x_aload hK kX0_multiplyByVariable_126 (q := 128) rfl rfl ?_
            refine x_aload_n hK kX0_multiplyByVariable_128 (q := 129) rfl rfl ?_
            refine x_getfield hK kX0_multiplyByVariable_129 (q := 132) rfl (gX0_50 ?_)
            refine x_cv2 hK kX0_multiplyByVariable_132 (q := 135) rfl (vtX0_multiplyByVariable_156) (Nat.le_of_ble_eq_true rfl) ?_
            refine copy_a ha (by omega) (by omega) (by decide) (by decide) (by omega) (fun W2 h2 => ?_)
            rw [lo _ (by omega)] at h2
            have hfin := fun u7 => nx W2 u7 _ mv.symm h2
            refine x_iinc hK kX0_multiplyByVariable_135 (q := 138) rfl rfl ?_
            simp only [lS, lS2, clr_0, clr_I, clr_L, clr_R]
            refine x_goto hK kX0_multiplyByVariable_138 (tg := 46) rfl ?_
            rw [show (i : Int) + 1 = ((i + 1 : Nat) : Int) by omega]
            exact hfin _
        · have g := ldb_t c71
          rw [if_pos g] at mv
          have hd2 := hdj g
          have l1 := ((ldb_e (A 2) q).mp g).2.2
          have be := hd2.2.2 i (by omega)
          rw [hs] at be
          rw [show (s : Int).toNat = s from rfl] at be
          refine x_aload_n hK kX0_multiplyByVariable_74 (q := 75) rfl rfl ?_
          refine x_getfield hK kX0_multiplyByVariable_75 (q := 78) rfl (gX0_63 ?_)
          refine x_aload hK kX0_multiplyByVariable_78 (q := 80) rfl rfl ?_
          refine x_aload_n hK kX0_multiplyByVariable_80 (q := 81) rfl rfl ?_
          refine x_iload hK kX0_multiplyByVariable_81 (q := 83) rfl rfl ?_
          refine x_aload_n hK kX0_multiplyByVariable_83 (q := 84) rfl rfl ?_
          refine x_iload hK kX0_multiplyByVariable_84 (q := 86) rfl rfl ?_
          refine x_cv2 hK kX0_multiplyByVariable_86 (q := 89) rfl (vtX0_multiplyByVariable_119) (Nat.le_of_ble_eq_true rfl) ?_
          refine SX0_place_i ⟨by omega, by omega⟩ ⟨by omega, by omega⟩ ?_
          rw [e]
          refine x_cv3 hK kX0_multiplyByVariable_89 (q := 92) rfl (vtX0_multiplyByVariable_137) (Nat.le_of_ble_eq_true rfl) ?_
          refine SX3_part_i (t := q) (q := s) (by omega) (by omega) hL l1 ?_
          refine x_aload_n hK kX0_multiplyByVariable_92 (q := 93) rfl rfl ?_
          refine x_iload hK kX0_multiplyByVariable_93 (q := 95) rfl rfl ?_
          refine x_iload hK kX0_multiplyByVariable_95 (q := 97) rfl rfl ?_
          refine x_cv3 hK kX0_multiplyByVariable_97 (q := 100) rfl (vtX0_multiplyByVariable_137) (Nat.le_of_ble_eq_true rfl) ?_
          refine SX3_part_i (t := q) (q := q) (by omega) (by omega) hL l1 ?_
          refine x_aload_n hK kX0_multiplyByVariable_100 (q := 101) rfl rfl ?_
          refine x_getfield hK kX0_multiplyByVariable_101 (q := 104) rfl (gX0_50 ?_)
          refine x_cv5 hK kX0_multiplyByVariable_104 (q := 107) rfl (vtX0_multiplyByVariable_163) (Nat.le_of_ble_eq_true rfl) ?_
          refine setShare_a (m := 400) (n := 400) ha (by omega) (by omega) (by omega) (by omega) (by omega) (by omega) (by decide) (by decide) (by omega) (by rw [lo _ (by omega)]; exact hd2.1) (by rw [lo _ (by omega), lo _ (by omega)]; exact hd2.2.1) (by rw [lo _ (by omega)]; exact be) (by rw [lo _ (by omega)]; exact hD) (by decide) (fun W2 h2 => ?_)
          refine x_aload hK kX0_multiplyByVariable_107 (q := 109) rfl rfl ?_
          refine x_cv1 hK kX0_multiplyByVariable_109 (q := 112) rfl (vtX0_multiplyByVariable_167) (Nat.le_of_ble_eq_true rfl) ?_
          refine turn_a h2 (by omega) (by omega) (fun W3 h3 => ?_)
          rw [vU_s, lo _ (by omega), lo _ (by omega), lo _ (by omega)] at h3
          have hfin := fun u7 => nx W3 u7 _ mv.symm (aR_c h3 (fun t _ _ => by unfold vU; split <;> rfl))
          refine x_goto hK kX0_multiplyByVariable_112 (tg := 135) rfl ?_
          refine x_iinc hK kX0_multiplyByVariable_135 (q := 138) rfl rfl ?_
          simp only [lS, lS2, clr_0, clr_I, clr_L, clr_R]
          refine x_goto hK kX0_multiplyByVariable_138 (tg := 46) rfl ?_
          rw [show (i : Int) + 1 = ((i + 1 : Nat) : Int) by omega]
          exact hfin _
  have outer : ∀ (d j : Nat) (W1 : Nat → Int → Int) (u5 u6 u7 : Option eV), j + d = n → aR W1 (vU (vG8 V (gb of) 16 (P j 0)) (gb of + 16) (V 328)) → K 25 [some (eR (1, 4)), some (eR (1, 3)), some (eI of), some (eR (9, of)), some (eI j), u5, u6, u7] [] (cC F A W1) := by
    intro d
    induction d with
    | zero =>
      intro j W1 u5 u6 u7 hj ha
      have : j = n := by omega
      subst this
      refine x_iload hK kX0_multiplyByVariable_25 (q := 27) rfl rfl ?_
      refine x_aload_n hK kX0_multiplyByVariable_27 (q := 28) rfl rfl ?_
      refine x_getfield hK kX0_multiplyByVariable_28 (q := 31) rfl (gX0_17 ?_)
      rw [hn]
      refine x_icmp_ge hK kX0_multiplyByVariable_31 (q := 34) rfl (tg := 147) rfl (by refine ⟨?_, ?_⟩ <;> omega) (fun c31 => ?_) (fun c31 => ?_)
      · refine x_return_ hK kX0_multiplyByVariable_147 (by first | trivial | exact Or.inl rfl | exact Or.inr rfl) ?_
        exact fin W1 none none none none ha
      · exfalso; omega
    | succ d ih =>
      intro j W1 u5 u6 u7 hj ha
      have sj := hst j (by omega)
      have r := prP_n ho sj
      obtain ⟨q, hq⟩ : ∃ q : Nat, prP (A 4 j) of = q := ⟨(prP (A 4 j) of).toNat, by omega⟩
      refine x_iload hK kX0_multiplyByVariable_25 (q := 27) rfl rfl ?_
      refine x_aload_n hK kX0_multiplyByVariable_27 (q := 28) rfl rfl ?_
      refine x_getfield hK kX0_multiplyByVariable_28 (q := 31) rfl (gX0_17 ?_)
      rw [hn]
      refine x_icmp_ge hK kX0_multiplyByVariable_31 (q := 34) rfl (tg := 147) rfl (by refine ⟨?_, ?_⟩ <;> omega) (fun c31 => ?_) (fun c31 => ?_)
      · exfalso; omega
      · refine x_aload_n hK kX0_multiplyByVariable_34 (q := 35) rfl rfl ?_
        refine x_iload_n hK kX0_multiplyByVariable_35 (q := 36) rfl rfl ?_
        refine x_iload hK kX0_multiplyByVariable_36 (q := 38) rfl rfl ?_
        refine x_cv3 hK kX0_multiplyByVariable_38 (q := 41) rfl (vtX0_multiplyByVariable_133) (Nat.le_of_ble_eq_true rfl) ?_
        refine SX0_product_i ho (by omega) (by omega) ⟨by omega, by omega⟩ ?_
        rw [hq]
        refine x_istore hK kX0_multiplyByVariable_41 (q := 43) rfl ?_
        refine x_iconst hK kX0_multiplyByVariable_43 (q := 44) rfl ?_
        refine x_istore hK kX0_multiplyByVariable_44 (q := 46) rfl ?_
        simp only [lS, lS2, clr_0, clr_I, clr_L, clr_R]
        exact inner j q (by omega) hq (by omega) (fun W2 u5 u6 u7 h2 => ih (j + 1) W2 u5 u6 u7 (by omega) h2) n 0 W1 _ (by omega) ha
  simp only [eLoc, eE, List.length_cons, List.length_nil, List.replicate, List.cons_append, List.nil_append, Nat.reduceAdd, Nat.reduceSub]
  refine x_aload_n hK kX0_multiplyByVariable_0 (q := 1) rfl rfl ?_
  refine x_getfield hK kX0_multiplyByVariable_1 (q := 4) rfl (gX0_21 ?_)
  refine x_iload_n hK kX0_multiplyByVariable_4 (q := 5) rfl rfl ?_
  refine x_aaload hK kX0_multiplyByVariable_5 (q := 6) rfl (aC0_4 (by omega) ?_)
  refine x_astore_n hK kX0_multiplyByVariable_6 (q := 7) (jn := 3) rfl rfl ?_
  refine x_aload_n hK kX0_multiplyByVariable_7 (q := 8) rfl rfl ?_
  simp only [lS, lS2, clr_0, clr_I, clr_L, clr_R]
  refine x_cv1 hK kX0_multiplyByVariable_8 (q := 11) rfl (vtX0_multiplyByVariable_150) (Nat.le_of_ble_eq_true rfl) ?_
  refine gwipe_a (g := of) hV (by omega) (fun W1 h1 => ?_)
  refine x_aload_n hK kX0_multiplyByVariable_11 (q := 12) rfl rfl ?_
  refine x_getfield hK kX0_multiplyByVariable_12 (q := 15) rfl (gX0_153 ?_)
  refine x_aload_n hK kX0_multiplyByVariable_15 (q := 16) rfl rfl ?_
  refine x_getfield hK kX0_multiplyByVariable_16 (q := 19) rfl (gX0_50 ?_)
  refine x_cv2 hK kX0_multiplyByVariable_19 (q := 22) rfl (vtX0_multiplyByVariable_156) (Nat.le_of_ble_eq_true rfl) ?_
  refine copy_a h1 (by omega) (by omega) (by decide) (by decide) (by omega) (fun W2 h2 => ?_)
  rw [vG8_o _ _ (by omega)] at h2
  refine x_iconst hK kX0_multiplyByVariable_22 (q := 23) rfl ?_
  refine x_istore hK kX0_multiplyByVariable_23 (q := 25) rfl ?_
  simp only [lS, lS2, clr_0, clr_I, clr_L, clr_R]
  refine outer n 0 W2 _ _ _ (by omega) (aR_c h2 (fun t _ _ => ?_))
  unfold vU vG8
  split
  · rfl
  · split
    · rw [hP]
      dsimp only
      rw [if_neg (by omega)]
    · rfl
set_option maxRecDepth 20000 in
theorem mX0_multiplyByVariable : eMet yX0_multiplyByVariable cX0_multiplyByVariable 8 none 4 111 SX0_multiplyByVariable := eMet_of (by decide +kernel) sX0_multiplyByVariable kX0_multiplyByVariable_ok caX0_multiplyByVariable tb_RX0
theorem wX0_multiplyByVariable : eWV yX0_multiplyByVariable cX0_multiplyByVariable 8 none 3 0 SX0_multiplyByVariable := ⟨(gW_at 632 (by decide +kernel) rfl), (gW_at 86 (by decide +kernel) rfl), (gW_at 631 (by decide +kernel) rfl), ⟨_, rfl, (gW_at 20 (by decide +kernel) rfl)⟩, by decide +kernel, SX0_multiplyByVariable_r⟩
