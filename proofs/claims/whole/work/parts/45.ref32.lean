/-! column, power. -/
def cV (s hs st : Int → Int) (k q : Int) (i : Nat) : Int := if hs k = 0 then (if st i = k then s 2076 else 0) else -(s (45 * k + st i) * q)
def SX10_column : eSp := fun as M rt => ∃ (F : Nat → Int) (A : Nat → Int → Int) (s : Int → Int) (n j : Nat) (T k q : Int), as = [eRR, eI T, eI j, eI k] ∧ M = cR F A ∧ rn (A 0) s ∧ F 19 = n ∧ n ≤ 6 ∧ j < 6 ∧ (2080 ≤ T ∧ T + 36 ≤ 2666) ∧ (0 ≤ k ∧ k < 45) ∧ (A 15 k = 0 ∨ A 15 k = 1) ∧ (∀ i : Nat, i < n → 0 ≤ A 18 i ∧ A 18 i < 45) ∧ (A 15 k ≠ 0 → s 2076 = s (45 * k + k) * q ∧ s (45 * k + k) ≠ 0 ∧ ∀ i : Nat, i < n → zAbs (s (45 * k + A 18 i)) * zAbs q < bB ^ 598) ∧ ∀ (A' : Nat → Int → Int) (s' : Int → Int), sN A A' → rn (A' 0) s' → (∀ i : Nat, i < n → s' (T + 6 * i + j) = cV s (A 15) (A 18) k q i) → (∀ p, p ≠ 2074 → (∀ i : Nat, i < n → p ≠ T + 6 * i + j) → s' p = s p) → rt none (cR F A')
theorem SX10_column_i {F : Nat → Int} {A : Nat → Int → Int} {s : Int → Int} {n j : Nat} {T k : Int} (q : Int) {rt : Option eV → eM → Prop} (hr : rn (A 0) s) (h0 : F 19 = n) (h1 : n ≤ 6) (h2 : j < 6) (h3 : 2080 ≤ T ∧ T + 36 ≤ 2666) (h4 : 0 ≤ k ∧ k < 45) (h5 : A 15 k = 0 ∨ A 15 k = 1) (h6 : ∀ i : Nat, i < n → 0 ≤ A 18 i ∧ A 18 i < 45) (h7 : A 15 k ≠ 0 → s 2076 = s (45 * k + k) * q ∧ s (45 * k + k) ≠ 0 ∧ ∀ i : Nat, i < n → zAbs (s (45 * k + A 18 i)) * zAbs q < bB ^ 598) (h : ∀ (A' : Nat → Int → Int) (s' : Int → Int), sN A A' → rn (A' 0) s' → (∀ i : Nat, i < n → s' (T + 6 * i + j) = cV s (A 15) (A 18) k q i) → (∀ p, p ≠ 2074 → (∀ i : Nat, i < n → p ≠ T + 6 * i + j) → s' p = s p) → rt none (cR F A')) : SX10_column [eRR, eI T, eI j, eI k] (cR F A) rt := ⟨F, A, s, n, j, T, k, q, rfl, rfl, hr, h0, h1, h2, h3, h4, h5, h6, h7, h⟩
theorem SX10_column_r : ∀ as M rt, SX10_column as M rt → ∃ a r fs, as = eR a :: r ∧ M a = some (.inl (9, fs)) := by
  rintro as M rt ⟨F, A, s, n, j, T, k, q, rfl, rfl, -⟩
  exact ⟨_, _, _, rfl, rfl⟩
def kX10_column : List (Nat × Jvm.ClassFile.Instr × Nat) := [(0, .aload_n 0, 1), (1, .getfield 45, 3), (4, .iload_n 3, 1), (5, .baload, 1), (6, .ifCond .eq 26, 3), (9, .aload_n 0, 1), (10, .sipush 2074, 3), (13, .sipush 2076, 3), (16, .invokevirtual 85, 3), (19, .aload_n 0, 1), (20, .sipush 2074, 3), (23, .iload_n 3, 1), (24, .invokestatic 158, 3), (27, .iload_n 3, 1), (28, .iadd, 1), (29, .invokevirtual 155, 3), (32, .iconst 0, 1), (33, .istore 4, 2), (35, .iload 4, 2), (37, .aload_n 0, 1), (38, .getfield 223, 3), (41, .if_icmp .ge 92, 3), (44, .aload_n 0, 1), (45, .iload_n 1, 1), (46, .iload 4, 2), (48, .iload_n 2, 1), (49, .invokevirtual 245, 3), (52, .istore 5, 2), (54, .aload_n 0, 1), (55, .getfield 45, 3), (58, .iload_n 3, 1), (59, .baload, 1), (60, .ifCond .eq 33, 3), (63, .aload_n 0, 1), (64, .iload 5, 2), (66, .iload_n 3, 1), (67, .invokestatic 158, 3), (70, .aload_n 0, 1), (71, .getfield 52, 3), (74, .iload 4, 2), (76, .iaload, 1), (77, .iadd, 1), (78, .sipush 2074, 3), (81, .invokevirtual 161, 3), (84, .aload_n 0, 1), (85, .iload 5, 2), (87, .invokevirtual 151, 3), (90, .goto 37, 3), (93, .aload_n 0, 1), (94, .getfield 52, 3), (97, .iload 4, 2), (99, .iaload, 1), (100, .iload_n 3, 1), (101, .if_icmp .ne 15, 3), (104, .aload_n 0, 1), (105, .iload 5, 2), (107, .sipush 2076, 3), (110, .invokevirtual 85, 3), (113, .goto 14, 3), (116, .aload_n 0, 1), (117, .getfield 12, 3), (120, .iload 5, 2), (122, .invokestatic 64, 3), (125, .iconst 0, 1), (126, .iastore, 1), (127, .iinc 4 1, 3), (130, .goto (-95), 3), (133, .return_, 1)]
theorem kX10_column_0 : cdOf kX10_column 0 = some (.aload_n 0, 1) := by decide +kernel
theorem kX10_column_1 : cdOf kX10_column 1 = some (.getfield 45, 3) := by decide +kernel
theorem kX10_column_4 : cdOf kX10_column 4 = some (.iload_n 3, 1) := by decide +kernel
theorem kX10_column_5 : cdOf kX10_column 5 = some (.baload, 1) := by decide +kernel
theorem kX10_column_6 : cdOf kX10_column 6 = some (.ifCond .eq 26, 3) := by decide +kernel
theorem kX10_column_9 : cdOf kX10_column 9 = some (.aload_n 0, 1) := by decide +kernel
theorem kX10_column_10 : cdOf kX10_column 10 = some (.sipush 2074, 3) := by decide +kernel
theorem kX10_column_13 : cdOf kX10_column 13 = some (.sipush 2076, 3) := by decide +kernel
theorem kX10_column_16 : cdOf kX10_column 16 = some (.invokevirtual 85, 3) := by decide +kernel
theorem kX10_column_19 : cdOf kX10_column 19 = some (.aload_n 0, 1) := by decide +kernel
theorem kX10_column_20 : cdOf kX10_column 20 = some (.sipush 2074, 3) := by decide +kernel
theorem kX10_column_23 : cdOf kX10_column 23 = some (.iload_n 3, 1) := by decide +kernel
theorem kX10_column_24 : cdOf kX10_column 24 = some (.invokestatic 158, 3) := by decide +kernel
theorem kX10_column_27 : cdOf kX10_column 27 = some (.iload_n 3, 1) := by decide +kernel
theorem kX10_column_28 : cdOf kX10_column 28 = some (.iadd, 1) := by decide +kernel
theorem kX10_column_29 : cdOf kX10_column 29 = some (.invokevirtual 155, 3) := by decide +kernel
theorem kX10_column_32 : cdOf kX10_column 32 = some (.iconst 0, 1) := by decide +kernel
theorem kX10_column_33 : cdOf kX10_column 33 = some (.istore 4, 2) := by decide +kernel
theorem kX10_column_35 : cdOf kX10_column 35 = some (.iload 4, 2) := by decide +kernel
theorem kX10_column_37 : cdOf kX10_column 37 = some (.aload_n 0, 1) := by decide +kernel
theorem kX10_column_38 : cdOf kX10_column 38 = some (.getfield 223, 3) := by decide +kernel
theorem kX10_column_41 : cdOf kX10_column 41 = some (.if_icmp .ge 92, 3) := by decide +kernel
theorem kX10_column_44 : cdOf kX10_column 44 = some (.aload_n 0, 1) := by decide +kernel
theorem kX10_column_45 : cdOf kX10_column 45 = some (.iload_n 1, 1) := by decide +kernel
theorem kX10_column_46 : cdOf kX10_column 46 = some (.iload 4, 2) := by decide +kernel
theorem kX10_column_48 : cdOf kX10_column 48 = some (.iload_n 2, 1) := by decide +kernel
theorem kX10_column_49 : cdOf kX10_column 49 = some (.invokevirtual 245, 3) := by decide +kernel
theorem kX10_column_52 : cdOf kX10_column 52 = some (.istore 5, 2) := by decide +kernel
theorem kX10_column_54 : cdOf kX10_column 54 = some (.aload_n 0, 1) := by decide +kernel
theorem kX10_column_55 : cdOf kX10_column 55 = some (.getfield 45, 3) := by decide +kernel
theorem kX10_column_58 : cdOf kX10_column 58 = some (.iload_n 3, 1) := by decide +kernel
theorem kX10_column_59 : cdOf kX10_column 59 = some (.baload, 1) := by decide +kernel
theorem kX10_column_60 : cdOf kX10_column 60 = some (.ifCond .eq 33, 3) := by decide +kernel
theorem kX10_column_63 : cdOf kX10_column 63 = some (.aload_n 0, 1) := by decide +kernel
theorem kX10_column_64 : cdOf kX10_column 64 = some (.iload 5, 2) := by decide +kernel
theorem kX10_column_66 : cdOf kX10_column 66 = some (.iload_n 3, 1) := by decide +kernel
theorem kX10_column_67 : cdOf kX10_column 67 = some (.invokestatic 158, 3) := by decide +kernel
theorem kX10_column_70 : cdOf kX10_column 70 = some (.aload_n 0, 1) := by decide +kernel
theorem kX10_column_71 : cdOf kX10_column 71 = some (.getfield 52, 3) := by decide +kernel
theorem kX10_column_74 : cdOf kX10_column 74 = some (.iload 4, 2) := by decide +kernel
theorem kX10_column_76 : cdOf kX10_column 76 = some (.iaload, 1) := by decide +kernel
theorem kX10_column_77 : cdOf kX10_column 77 = some (.iadd, 1) := by decide +kernel
theorem kX10_column_78 : cdOf kX10_column 78 = some (.sipush 2074, 3) := by decide +kernel
theorem kX10_column_81 : cdOf kX10_column 81 = some (.invokevirtual 161, 3) := by decide +kernel
theorem kX10_column_84 : cdOf kX10_column 84 = some (.aload_n 0, 1) := by decide +kernel
theorem kX10_column_85 : cdOf kX10_column 85 = some (.iload 5, 2) := by decide +kernel
theorem kX10_column_87 : cdOf kX10_column 87 = some (.invokevirtual 151, 3) := by decide +kernel
theorem kX10_column_90 : cdOf kX10_column 90 = some (.goto 37, 3) := by decide +kernel
theorem kX10_column_93 : cdOf kX10_column 93 = some (.aload_n 0, 1) := by decide +kernel
theorem kX10_column_94 : cdOf kX10_column 94 = some (.getfield 52, 3) := by decide +kernel
theorem kX10_column_97 : cdOf kX10_column 97 = some (.iload 4, 2) := by decide +kernel
theorem kX10_column_99 : cdOf kX10_column 99 = some (.iaload, 1) := by decide +kernel
theorem kX10_column_100 : cdOf kX10_column 100 = some (.iload_n 3, 1) := by decide +kernel
theorem kX10_column_101 : cdOf kX10_column 101 = some (.if_icmp .ne 15, 3) := by decide +kernel
theorem kX10_column_104 : cdOf kX10_column 104 = some (.aload_n 0, 1) := by decide +kernel
theorem kX10_column_105 : cdOf kX10_column 105 = some (.iload 5, 2) := by decide +kernel
theorem kX10_column_107 : cdOf kX10_column 107 = some (.sipush 2076, 3) := by decide +kernel
theorem kX10_column_110 : cdOf kX10_column 110 = some (.invokevirtual 85, 3) := by decide +kernel
theorem kX10_column_113 : cdOf kX10_column 113 = some (.goto 14, 3) := by decide +kernel
theorem kX10_column_116 : cdOf kX10_column 116 = some (.aload_n 0, 1) := by decide +kernel
theorem kX10_column_117 : cdOf kX10_column 117 = some (.getfield 12, 3) := by decide +kernel
theorem kX10_column_120 : cdOf kX10_column 120 = some (.iload 5, 2) := by decide +kernel
theorem kX10_column_122 : cdOf kX10_column 122 = some (.invokestatic 64, 3) := by decide +kernel
theorem kX10_column_125 : cdOf kX10_column 125 = some (.iconst 0, 1) := by decide +kernel
theorem kX10_column_126 : cdOf kX10_column 126 = some (.iastore, 1) := by decide +kernel
theorem kX10_column_127 : cdOf kX10_column 127 = some (.iinc 4 1, 3) := by decide +kernel
theorem kX10_column_130 : cdOf kX10_column 130 = some (.goto (-95), 3) := by decide +kernel
theorem kX10_column_133 : cdOf kX10_column 133 = some (.return_, 1) := by decide +kernel
set_option maxRecDepth 20000 in
theorem kX10_column_ok : ∀ pc i len, cdOf kX10_column pc = some (i, len) → decode cX10_column pc = .ok (i, len) ∧ stOK 6 i = true ∧ jOK pc i = true ∧ eLen i len = true := cdOf_ok cX10_column 6 kX10_column (by decide +kernel)
def vtX10_column : Nat → Option (Nat × eSp) := fun k => match k with
  | 85 => some (3, SX10_copy)
  | 155 => some (3, SX10_over)
  | 245 => some (4, SX10_entry)
  | 161 => some (4, SX10_times)
  | 151 => some (2, SX10_negate)
  | _ => none
theorem vtX10_column_85 : vtX10_column 85 = some (3, SX10_copy) := rfl
theorem vtX10_column_155 : vtX10_column 155 = some (3, SX10_over) := rfl
theorem vtX10_column_245 : vtX10_column 245 = some (4, SX10_entry) := rfl
theorem vtX10_column_161 : vtX10_column 161 = some (4, SX10_times) := rfl
theorem vtX10_column_151 : vtX10_column 151 = some (2, SX10_negate) := rfl
def stX10_column : Nat → Option (Nat × eSp) := fun k => match k with
  | 158 => some (1, SX10_row)
  | 64 => some (1, SX10_at)
  | _ => none
theorem stX10_column_158 : stX10_column 158 = some (1, SX10_row) := rfl
theorem stX10_column_64 : stX10_column 64 = some (1, SX10_at) := rfl
abbrev TX10_column : eT := (fl_RX10, cl_RX10, dl_RX10, vtX10_column, stX10_column)
set_option maxRecDepth 20000 in
theorem caX10_column : eCalls RX10 { frames := 4, cells := 0, slots := 0, locals := 102 } TX10_column := by
  refine ⟨fun k n sp h => ?_, fun k n sp h => ?_⟩
  · dsimp only [TX10_column] at h
    unfold vtX10_column at h
    split at h
    · cases h; exact eV_mk mX10_copy wX10_copy (by decide +kernel) (Or.inl (gW_at 1134 (by decide +kernel) rfl))
    · cases h; exact eV_mk mX10_over wX10_over (by decide +kernel) (Or.inl (gW_at 1138 (by decide +kernel) rfl))
    · cases h; exact eV_mk mX10_entry wX10_entry (by decide +kernel) (Or.inl (gW_at 1217 (by decide +kernel) rfl))
    · cases h; exact eV_mk mX10_times wX10_times (by decide +kernel) (Or.inl (gW_at 1149 (by decide +kernel) rfl))
    · cases h; exact eV_mk mX10_negate wX10_negate (by decide +kernel) (Or.inl (gW_at 1170 (by decide +kernel) rfl))
    · cases h
  · dsimp only [TX10_column] at h
    unfold stX10_column at h
    split at h
    · cases h; exact eS_mk mX10_row wX10_row (by decide +kernel) (Or.inl (gW_at 1090 (by decide +kernel) rfl))
    · cases h; exact eS_mk mX10_at wX10_at (by decide +kernel) (Or.inl (gW_at 1070 (by decide +kernel) rfl))
    · cases h
set_option maxRecDepth 100000 in
set_option maxHeartbeats 4000000 in
theorem sX10_column : eSafe TX10_column (cdOf kX10_column) 6 none SX10_column := by
  intro K rt hK as M h
  obtain ⟨F, A, s, n, j, T, k, q, rfl, rfl, hr, hF, hn, hj, hT, hk, hh, hst, hq, h⟩ := h
  refine ⟨by simp [eE], ?_⟩
  have wh : w32 (A 15 k) := by rcases hh with e | e <;> rw [e] <;> decide
  have wk : w32 k := by constructor <;> omega
  have loop : ∀ (d i : Nat) (A' : Nat → Int → Int) (s' : Int → Int) (u5 : Option eV), i + d = n → sN A A' → rn (A' 0) s' → (A 15 k ≠ 0 → s' 2074 = q) → (∀ l : Nat, l < i → s' (T + 6 * l + j) = cV s (A 15) (A 18) k q l) → (∀ p, p ≠ 2074 → (∀ l : Nat, l < i → p ≠ T + 6 * l + j) → s' p = s p) → K 35 [some eRR, some (eI T), some (eI j), some (eI k), some (eI i), u5] [] (cR F A') := by
    intro d
    induction d with
    | zero =>
      intro i A' s' u5 hi hA hr' h4 hc ho
      have e : i = n := by omega
      subst e
      refine x_iload hK kX10_column_35 (q := 37) rfl rfl ?_
      refine x_aload_n hK kX10_column_37 (q := 38) rfl rfl ?_
      refine x_getfield hK kX10_column_38 (q := 41) rfl (gX10_223 ?_)
      rw [hF]
      refine x_icmp_ge hK kX10_column_41 (q := 44) rfl (tg := 133) rfl (by refine ⟨?_, ?_⟩ <;> omega) (fun c41 => ?_) (fun c41 => ?_)
      · refine x_return_ hK kX10_column_133 (by first | trivial | exact Or.inl rfl | exact Or.inr rfl) ?_
        exact h A' s' hA hr' hc ho
      · exfalso; omega
    | succ d ih =>
      intro i A' s' u5 hi hA hr' h4 hc ho
      have st := hst i (by omega)
      have ws : w32 (A 18 i) := by constructor <;> omega
      have nx : ∀ (A'' : Nat → Int → Int) (s'' : Int → Int) (u5 : Option eV), sN A' A'' → rn (A'' 0) s'' → s'' (T + 6 * i + j) = cV s (A 15) (A 18) k q i → (∀ p, p ≠ T + 6 * i + j → s'' p = s' p) → K 127 [some eRR, some (eI T), some (eI j), some (eI k), some (eI i), u5] [] (cR F A'') := by
        intro A'' s'' u5 g1 g2 g3 g4
        refine x_iinc hK kX10_column_127 (q := 130) rfl rfl ?_
        simp only [lS, lS2, clr_0, clr_I, clr_L, clr_R]
        refine x_goto hK kX10_column_130 (tg := 35) rfl ?_
        rw [show (i : Int) + 1 = ((i + 1 : Nat) : Int) by omega]
        refine ih (i + 1) A'' s'' _ (by omega) (sN_tr hA g1) g2 (fun e => by rw [g4 _ (by omega)]; exact h4 e) (fun l hl => ?_) (fun p p0 p1 => ?_)
        · rcases Decidable.em (l = i) with e | e
          · rw [e]; exact g3
          · rw [g4 _ (by omega)]; exact hc l (by omega)
        · rw [g4 _ (p1 i (by omega))]
          exact ho p p0 (fun l hl => p1 l (by omega))
      refine x_iload hK kX10_column_35 (q := 37) rfl rfl ?_
      refine x_aload_n hK kX10_column_37 (q := 38) rfl rfl ?_
      refine x_getfield hK kX10_column_38 (q := 41) rfl (gX10_223 ?_)
      rw [hF]
      refine x_icmp_ge hK kX10_column_41 (q := 44) rfl (tg := 133) rfl (by refine ⟨?_, ?_⟩ <;> omega) (fun c41 => ?_) (fun c41 => ?_)
      · exfalso; omega
      · refine x_aload_n hK kX10_column_44 (q := 45) rfl rfl ?_
        refine x_iload_n hK kX10_column_45 (q := 46) rfl rfl ?_
        refine x_iload hK kX10_column_46 (q := 48) rfl rfl ?_
        refine x_iload_n hK kX10_column_48 (q := 49) rfl rfl ?_
        refine x_cv4 hK kX10_column_49 (q := 52) rfl (vtX10_column_245) (Nat.le_of_ble_eq_true rfl) ?_
        refine SX10_entry_i ?_
        refine x_istore hK kX10_column_52 (q := 54) rfl ?_
        refine x_aload_n hK kX10_column_54 (q := 55) rfl rfl ?_
        refine x_getfield hK kX10_column_55 (q := 58) rfl (gX10_45 ?_)
        refine x_iload_n hK kX10_column_58 (q := 59) rfl rfl ?_
        refine x_baload hK kX10_column_59 (q := 60) rfl (aX10_A15 (by refine ⟨?_, ?_⟩ <;> omega) ?_)
        simp only [lS, lS2, clr_0, clr_I, clr_L, clr_R]
        rw [hA 15 (by decide)]
        refine x_if_eq hK kX10_column_60 (q := 63) rfl (tg := 93) rfl (by exact wh) (fun c60 => ?_) (fun c60 => ?_)
        · refine x_aload_n hK kX10_column_93 (q := 94) rfl rfl ?_
          refine x_getfield hK kX10_column_94 (q := 97) rfl (gX10_52 ?_)
          refine x_iload hK kX10_column_97 (q := 99) rfl rfl ?_
          refine x_iaload hK kX10_column_99 (q := 100) rfl (aX10_A18 (by refine ⟨?_, ?_⟩ <;> omega) ?_)
          rw [hA 18 (by decide)]
          refine x_iload_n hK kX10_column_100 (q := 101) rfl rfl ?_
          refine x_icmp_ne hK kX10_column_101 (q := 104) rfl (tg := 116) rfl (by exact ⟨ws, wk⟩) (fun c101 => ?_) (fun c101 => ?_)
          · refine x_aload_n hK kX10_column_116 (q := 117) rfl rfl ?_
            refine x_getfield hK kX10_column_117 (q := 120) rfl (gX10_12 ?_)
            refine x_iload hK kX10_column_120 (q := 122) rfl rfl ?_
            refine x_cs1 hK kX10_column_122 (q := 125) rfl (stX10_column_64) (Nat.le_of_ble_eq_true rfl) ?_
            refine SX10_at_i ?_
            refine x_iconst hK kX10_column_125 (q := 126) rfl ?_
            refine x_iastore hK kX10_column_126 (q := 127) rfl (yX10_A0 (by refine ⟨?_, ?_⟩ <;> omega) ?_)
            first
            | (refine nx A2 _ _ (sN_tr k1 k2) r2 ?_ (fun p p0 => ?_)
               · rw [uI_s, uI_s]; unfold cV; rw [if_neg c60]
               · rw [uI_n _ _ p0, uI_n _ _ p0])
            | (refine nx A2 _ _ k2 r2 ?_ (fun p p0 => uI_n _ _ p0)
               rw [uI_s]; unfold cV; rw [if_pos c60, if_pos (by omega), ho 2076 (by decide) (fun l hl => by omega)])
            | (refine nx _ _ _ (sN_u (by decide) _) (rn_nil (p := T + 6 * i + j) hr') ?_ (fun p p0 => uI_n _ _ p0)
               rw [uI_s]; unfold cV; rw [if_pos c60, if_neg c101])
          · refine x_aload_n hK kX10_column_104 (q := 105) rfl rfl ?_
            refine x_iload hK kX10_column_105 (q := 107) rfl rfl ?_
            refine x_sipush hK kX10_column_107 (q := 110) rfl (by decide) ?_
            refine x_cv3 hK kX10_column_110 (q := 113) rfl (vtX10_column_85) (Nat.le_of_ble_eq_true rfl) ?_
            refine SX10_copy_n hr' (by omega) (by omega) (fun A2 k2 r2 => ?_)
            refine x_goto hK kX10_column_113 (tg := 127) rfl ?_
            first
            | (refine nx A2 _ _ (sN_tr k1 k2) r2 ?_ (fun p p0 => ?_)
               · rw [uI_s, uI_s]; unfold cV; rw [if_neg c60]
               · rw [uI_n _ _ p0, uI_n _ _ p0])
            | (refine nx A2 _ _ k2 r2 ?_ (fun p p0 => uI_n _ _ p0)
               rw [uI_s]; unfold cV; rw [if_pos c60, if_pos (by omega), ho 2076 (by decide) (fun l hl => by omega)])
            | (refine nx _ _ _ (sN_u (by decide) _) (rn_nil (p := T + 6 * i + j) hr') ?_ (fun p p0 => uI_n _ _ p0)
               rw [uI_s]; unfold cV; rw [if_pos c60, if_neg c101])
        · refine x_aload_n hK kX10_column_63 (q := 64) rfl rfl ?_
          refine x_iload hK kX10_column_64 (q := 66) rfl rfl ?_
          refine x_iload_n hK kX10_column_66 (q := 67) rfl rfl ?_
          refine x_cs1 hK kX10_column_67 (q := 70) rfl (stX10_column_158) (Nat.le_of_ble_eq_true rfl) ?_
          refine SX10_row_i ?_
          refine x_aload_n hK kX10_column_70 (q := 71) rfl rfl ?_
          refine x_getfield hK kX10_column_71 (q := 74) rfl (gX10_52 ?_)
          refine x_iload hK kX10_column_74 (q := 76) rfl rfl ?_
          refine x_iaload hK kX10_column_76 (q := 77) rfl (aX10_A18 (by refine ⟨?_, ?_⟩ <;> omega) ?_)
          rw [hA 18 (by decide)]
          refine x_iadd hK kX10_column_77 (q := 78) rfl ?_
          refine x_sipush hK kX10_column_78 (q := 81) rfl (by decide) ?_
          refine x_cv4 hK kX10_column_81 (q := 84) rfl (vtX10_column_161) (Nat.le_of_ble_eq_true rfl) ?_
          obtain ⟨q1, q2, q3⟩ := hq c60
          have v1 : s' (45 * k + A 18 i) = s (45 * k + A 18 i) := ho _ (by omega) (fun l hl => by omega)
          have v2 := h4 c60
          refine SX10_times_n hr' (by omega) (by omega) (by omega) (by rw [v1, v2]; exact q3 i (by omega)) (fun A1 k1 r1 => ?_)
          rw [v1, v2] at r1
          refine x_aload_n hK kX10_column_84 (q := 85) rfl rfl ?_
          refine x_iload hK kX10_column_85 (q := 87) rfl rfl ?_
          refine x_cv2 hK kX10_column_87 (q := 90) rfl (vtX10_column_151) (Nat.le_of_ble_eq_true rfl) ?_
          refine SX10_negate_n r1 (by omega) (fun A2 k2 r2 => ?_)
          refine x_goto hK kX10_column_90 (tg := 127) rfl ?_
          first
          | (refine nx A2 _ _ (sN_tr k1 k2) r2 ?_ (fun p p0 => ?_)
             · rw [uI_s, uI_s]; unfold cV; rw [if_neg c60]
             · rw [uI_n _ _ p0, uI_n _ _ p0])
          | (refine nx A2 _ _ k2 r2 ?_ (fun p p0 => uI_n _ _ p0)
             rw [uI_s]; unfold cV; rw [if_pos c60, if_pos (by omega), ho 2076 (by decide) (fun l hl => by omega)])
          | (refine nx _ _ _ (sN_u (by decide) _) (rn_nil (p := T + 6 * i + j) hr') ?_ (fun p p0 => uI_n _ _ p0)
             rw [uI_s]; unfold cV; rw [if_pos c60, if_neg c101])
  simp only [eLoc, eE, List.length_cons, List.length_nil, List.replicate, List.cons_append, List.nil_append, Nat.reduceAdd, Nat.reduceSub]
  refine x_aload_n hK kX10_column_0 (q := 1) rfl rfl ?_
  refine x_getfield hK kX10_column_1 (q := 4) rfl (gX10_45 ?_)
  refine x_iload_n hK kX10_column_4 (q := 5) rfl rfl ?_
  refine x_baload hK kX10_column_5 (q := 6) rfl (aX10_A15 (by refine ⟨?_, ?_⟩ <;> omega) ?_)
  refine x_if_eq hK kX10_column_6 (q := 9) rfl (tg := 32) rfl (by exact wh) (fun c6 => ?_) (fun c6 => ?_)
  · refine x_iconst hK kX10_column_32 (q := 33) rfl ?_
    refine x_istore hK kX10_column_33 (q := 35) rfl ?_
    simp only [lS, lS2, clr_0, clr_I, clr_L, clr_R]
    first
    | (refine loop n 0 A2 _ _ (by omega) (sN_tr k1 k2) r2 (fun _ => uI_s _ _ _) (fun l hl => by omega) (fun p p0 _ => ?_)
       rw [uI_n _ _ p0, uI_n _ _ p0])
    | (exact loop n 0 A _ _ (by omega) (sN_rf A) hr (fun e => absurd c6 e) (fun l hl => by omega) (fun p p0 _ => rfl))
  · refine x_aload_n hK kX10_column_9 (q := 10) rfl rfl ?_
    refine x_sipush hK kX10_column_10 (q := 13) rfl (by decide) ?_
    refine x_sipush hK kX10_column_13 (q := 16) rfl (by decide) ?_
    refine x_cv3 hK kX10_column_16 (q := 19) rfl (vtX10_column_85) (Nat.le_of_ble_eq_true rfl) ?_
    refine SX10_copy_n hr (by omega) (by omega) (fun A1 k1 r1 => ?_)
    refine x_aload_n hK kX10_column_19 (q := 20) rfl rfl ?_
    refine x_sipush hK kX10_column_20 (q := 23) rfl (by decide) ?_
    refine x_iload_n hK kX10_column_23 (q := 24) rfl rfl ?_
    refine x_cs1 hK kX10_column_24 (q := 27) rfl (stX10_column_158) (Nat.le_of_ble_eq_true rfl) ?_
    refine SX10_row_i ?_
    refine x_iload_n hK kX10_column_27 (q := 28) rfl rfl ?_
    refine x_iadd hK kX10_column_28 (q := 29) rfl ?_
    refine x_cv3 hK kX10_column_29 (q := 32) rfl (vtX10_column_155) (Nat.le_of_ble_eq_true rfl) ?_
    obtain ⟨q1, q2, q3⟩ := hq c6
    refine SX10_over_n q r1 (by omega) (by omega) (by rw [uI_s, uI_n _ _ (by omega)]; exact q1) (by rw [uI_n _ _ (by omega)]; exact q2) (fun A2 k2 r2 => ?_)
    refine x_iconst hK kX10_column_32 (q := 33) rfl ?_
    refine x_istore hK kX10_column_33 (q := 35) rfl ?_
    simp only [lS, lS2, clr_0, clr_I, clr_L, clr_R]
    first
    | (refine loop n 0 A2 _ _ (by omega) (sN_tr k1 k2) r2 (fun _ => uI_s _ _ _) (fun l hl => by omega) (fun p p0 _ => ?_)
       rw [uI_n _ _ p0, uI_n _ _ p0])
    | (exact loop n 0 A _ _ (by omega) (sN_rf A) hr (fun e => absurd c6 e) (fun l hl => by omega) (fun p p0 _ => rfl))
set_option maxRecDepth 20000 in
theorem mX10_column : eMet yX10_column cX10_column 6 none 4 102 SX10_column := eMet_of (by decide +kernel) sX10_column kX10_column_ok caX10_column tb_RX10
theorem wX10_column : eWV yX10_column cX10_column 6 none 4 9 SX10_column := ⟨(gW_at 1216 (by decide +kernel) rfl), (gW_at 89 (by decide +kernel) rfl), (gW_at 1215 (by decide +kernel) rfl), ⟨_, rfl, (gW_at 63 (by decide +kernel) rfl)⟩, by decide +kernel, SX10_column_r⟩
-- power
theorem mM_q {n : Nat} {A A' B B' : mT} (h : mQ n A A') (h2 : mQ n B B') : mQ n (mM n A B) (mM n A' B') := by
  intro i j hi hj
  exact dS_c (fun k hk => by rw [h i k hi hk, h2 k j hk hj])
theorem mQ_tr {n : Nat} {A B C : mT} (h : mQ n A B) (h2 : mQ n B C) : mQ n A C := fun i j hi hj => (h i j hi hj).trans (h2 i j hi hj)
theorem mQ_sy {n : Nat} {A B : mT} (h : mQ n A B) : mQ n B A := fun i j hi hj => (h i j hi hj).symm
theorem mQ_rf (n : Nat) (A : mT) : mQ n A A := fun _ _ _ _ => rfl
theorem mQ_le {n m : Nat} {A B : mT} (h : mQ m A B) (h2 : n ≤ m) : mQ n A B := fun i j hi hj => h i j (by omega) (by omega)
theorem mB_q {n : Nat} {A B : mT} {U : Int} (h : mQ n A B) (h2 : mB n B U) : mB n A U := fun i j hi hj => by rw [h i j hi hj]; exact h2 i j hi hj
theorem tb_o {s s' : Int → Int} {n : Nat} {T : Int} (h : ∀ i j : Nat, i < n → j < n → s' (T + 6 * i + j) = s (T + 6 * i + j)) : mQ n (tb s' T) (tb s T) := h
def pQ (n : Nat) (X Y : mT) (a : Nat) : Nat → mT
  | 0 => mI
  | k + 1 => mM n (if k < a then X else Y) (pQ n X Y a k)
def SX10_power : eSp := fun as M rt => ∃ (F : Nat → Int) (A : Nat → Int → Int) (s : Int → Int) (n a b : Nat) (to U : Int), as = [eRR, eI to, eI a, eI b] ∧ M = cR F A ∧ rn (A 0) s ∧ F 19 = n ∧ n ≤ 6 ∧ a + b ≤ 2 ∧ (2080 ≤ to ∧ to + 36 ≤ 2666) ∧ (to + 36 ≤ 2224 ∨ 2296 ≤ to) ∧ 0 ≤ U ∧ mB n (tb s 2080) U ∧ mB n (tb s 2116) U ∧ (∀ k, k < a + b → ∃ V, 0 ≤ V ∧ mB n (pQ n (tb s 2080) (tb s 2116) a k) V ∧ 6 * (U * V) < bB ^ 598) ∧ ∀ (A' : Nat → Int → Int) (s' : Int → Int), sN A A' → rn (A' 0) s' → mQ n (tb s' to) (pQ n (tb s 2080) (tb s 2116) a (a + b)) → (∀ p, p ≠ 2073 → p ≠ 2075 → ¬ (2224 ≤ p ∧ p < 2296) → ¬ iT to n p → s' p = s p) → rt none (cR F A')
theorem SX10_power_i {F : Nat → Int} {A : Nat → Int → Int} {s : Int → Int} {n : Nat} (a b : Nat) {to : Int} (U : Int) {rt : Option eV → eM → Prop} (hr : rn (A 0) s) (h0 : F 19 = n) (h1 : n ≤ 6) (h2 : a + b ≤ 2) (h3 : 2080 ≤ to ∧ to + 36 ≤ 2666) (h4 : to + 36 ≤ 2224 ∨ 2296 ≤ to) (h5 : 0 ≤ U) (h6 : mB n (tb s 2080) U) (h7 : mB n (tb s 2116) U) (h8 : ∀ k, k < a + b → ∃ V, 0 ≤ V ∧ mB n (pQ n (tb s 2080) (tb s 2116) a k) V ∧ 6 * (U * V) < bB ^ 598) (h : ∀ (A' : Nat → Int → Int) (s' : Int → Int), sN A A' → rn (A' 0) s' → mQ n (tb s' to) (pQ n (tb s 2080) (tb s 2116) a (a + b)) → (∀ p, p ≠ 2073 → p ≠ 2075 → ¬ (2224 ≤ p ∧ p < 2296) → ¬ iT to n p → s' p = s p) → rt none (cR F A')) : SX10_power [eRR, eI to, eI a, eI b] (cR F A) rt := ⟨F, A, s, n, a, b, to, U, rfl, rfl, hr, h0, h1, h2, h3, h4, h5, h6, h7, h8, h⟩
theorem SX10_power_r : ∀ as M rt, SX10_power as M rt → ∃ a r fs, as = eR a :: r ∧ M a = some (.inl (9, fs)) := by
  rintro as M rt ⟨F, A, s, n, a, b, to, U, rfl, rfl, -⟩
  exact ⟨_, _, _, rfl, rfl⟩
def kX10_power : List (Nat × Jvm.ClassFile.Instr × Nat) := [(0, .aload_n 0, 1), (1, .sipush 2224, 3), (4, .invokevirtual 249, 3), (7, .iconst 0, 1), (8, .istore 4, 2), (10, .iload 4, 2), (12, .iload_n 2, 1), (13, .iload_n 3, 1), (14, .iadd, 1), (15, .if_icmp .ge 44, 3), (18, .aload_n 0, 1), (19, .sipush 2260, 3), (22, .iload 4, 2), (24, .iload_n 2, 1), (25, .if_icmp .ge 9, 3), (28, .sipush 2080, 3), (31, .goto 6, 3), (34, .sipush 2116, 3), (37, .sipush 2224, 3), (40, .invokevirtual 252, 3), (43, .aload_n 0, 1), (44, .sipush 2224, 3), (47, .sipush 2260, 3), (50, .invokevirtual 255, 3), (53, .iinc 4 1, 3), (56, .goto (-46), 3), (59, .aload_n 0, 1), (60, .iload_n 1, 1), (61, .sipush 2224, 3), (64, .invokevirtual 255, 3), (67, .return_, 1)]
theorem kX10_power_0 : cdOf kX10_power 0 = some (.aload_n 0, 1) := by decide +kernel
theorem kX10_power_1 : cdOf kX10_power 1 = some (.sipush 2224, 3) := by decide +kernel
theorem kX10_power_4 : cdOf kX10_power 4 = some (.invokevirtual 249, 3) := by decide +kernel
theorem kX10_power_7 : cdOf kX10_power 7 = some (.iconst 0, 1) := by decide +kernel
theorem kX10_power_8 : cdOf kX10_power 8 = some (.istore 4, 2) := by decide +kernel
theorem kX10_power_10 : cdOf kX10_power 10 = some (.iload 4, 2) := by decide +kernel
theorem kX10_power_12 : cdOf kX10_power 12 = some (.iload_n 2, 1) := by decide +kernel
theorem kX10_power_13 : cdOf kX10_power 13 = some (.iload_n 3, 1) := by decide +kernel
theorem kX10_power_14 : cdOf kX10_power 14 = some (.iadd, 1) := by decide +kernel
theorem kX10_power_15 : cdOf kX10_power 15 = some (.if_icmp .ge 44, 3) := by decide +kernel
theorem kX10_power_18 : cdOf kX10_power 18 = some (.aload_n 0, 1) := by decide +kernel
theorem kX10_power_19 : cdOf kX10_power 19 = some (.sipush 2260, 3) := by decide +kernel
theorem kX10_power_22 : cdOf kX10_power 22 = some (.iload 4, 2) := by decide +kernel
theorem kX10_power_24 : cdOf kX10_power 24 = some (.iload_n 2, 1) := by decide +kernel
theorem kX10_power_25 : cdOf kX10_power 25 = some (.if_icmp .ge 9, 3) := by decide +kernel
theorem kX10_power_28 : cdOf kX10_power 28 = some (.sipush 2080, 3) := by decide +kernel
theorem kX10_power_31 : cdOf kX10_power 31 = some (.goto 6, 3) := by decide +kernel
theorem kX10_power_34 : cdOf kX10_power 34 = some (.sipush 2116, 3) := by decide +kernel
theorem kX10_power_37 : cdOf kX10_power 37 = some (.sipush 2224, 3) := by decide +kernel
theorem kX10_power_40 : cdOf kX10_power 40 = some (.invokevirtual 252, 3) := by decide +kernel
theorem kX10_power_43 : cdOf kX10_power 43 = some (.aload_n 0, 1) := by decide +kernel
theorem kX10_power_44 : cdOf kX10_power 44 = some (.sipush 2224, 3) := by decide +kernel
theorem kX10_power_47 : cdOf kX10_power 47 = some (.sipush 2260, 3) := by decide +kernel
theorem kX10_power_50 : cdOf kX10_power 50 = some (.invokevirtual 255, 3) := by decide +kernel
theorem kX10_power_53 : cdOf kX10_power 53 = some (.iinc 4 1, 3) := by decide +kernel
theorem kX10_power_56 : cdOf kX10_power 56 = some (.goto (-46), 3) := by decide +kernel
theorem kX10_power_59 : cdOf kX10_power 59 = some (.aload_n 0, 1) := by decide +kernel
theorem kX10_power_60 : cdOf kX10_power 60 = some (.iload_n 1, 1) := by decide +kernel
theorem kX10_power_61 : cdOf kX10_power 61 = some (.sipush 2224, 3) := by decide +kernel
theorem kX10_power_64 : cdOf kX10_power 64 = some (.invokevirtual 255, 3) := by decide +kernel
theorem kX10_power_67 : cdOf kX10_power 67 = some (.return_, 1) := by decide +kernel
set_option maxRecDepth 20000 in
theorem kX10_power_ok : ∀ pc i len, cdOf kX10_power pc = some (i, len) → decode cX10_power pc = .ok (i, len) ∧ stOK 5 i = true ∧ jOK pc i = true ∧ eLen i len = true := cdOf_ok cX10_power 5 kX10_power (by decide +kernel)
def vtX10_power : Nat → Option (Nat × eSp) := fun k => match k with
  | 249 => some (2, SX10_unit)
  | 252 => some (4, SX10_product)
  | 255 => some (3, SX10_copyTable)
  | _ => none
theorem vtX10_power_249 : vtX10_power 249 = some (2, SX10_unit) := rfl
theorem vtX10_power_252 : vtX10_power 252 = some (4, SX10_product) := rfl
theorem vtX10_power_255 : vtX10_power 255 = some (3, SX10_copyTable) := rfl
def stX10_power : Nat → Option (Nat × eSp) := fun _ => none
abbrev TX10_power : eT := (fl_RX10, cl_RX10, dl_RX10, vtX10_power, stX10_power)
set_option maxRecDepth 20000 in
theorem caX10_power : eCalls RX10 { frames := 5, cells := 0, slots := 0, locals := 132 } TX10_power := by
  refine ⟨fun k n sp h => ?_, fun k n sp h => ?_⟩
  · dsimp only [TX10_power] at h
    unfold vtX10_power at h
    split at h
    · cases h; exact eV_mk mX10_unit wX10_unit (by decide +kernel) (Or.inl (gW_at 1225 (by decide +kernel) rfl))
    · cases h; exact eV_mk mX10_product wX10_product (by decide +kernel) (Or.inl (gW_at 1229 (by decide +kernel) rfl))
    · cases h; exact eV_mk mX10_copyTable wX10_copyTable (by decide +kernel) (Or.inl (gW_at 1233 (by decide +kernel) rfl))
    · cases h
  · cases h
set_option maxRecDepth 100000 in
set_option maxHeartbeats 4000000 in
theorem sX10_power : eSafe TX10_power (cdOf kX10_power) 5 none SX10_power := by
  intro K rt hK as M h
  obtain ⟨F, A, s, n, a, b, to, U, rfl, rfl, hr, hF, hn, hab, hto, hto2, hU, bX, bY, hV, h⟩ := h
  refine ⟨by simp [eE], ?_⟩
  have loop : ∀ (d k : Nat) (A' : Nat → Int → Int) (s' : Int → Int), k + d = a + b → sN A A' → rn (A' 0) s' → mQ n (tb s' 2224) (pQ n (tb s 2080) (tb s 2116) a k) → (∀ p, p ≠ 2073 → p ≠ 2075 → ¬ (2224 ≤ p ∧ p < 2296) → s' p = s p) → K 10 [some eRR, some (eI to), some (eI a), some (eI b), some (eI k)] [] (cR F A') := by
    intro d
    induction d with
    | zero =>
      intro k A' s' hk hA hr' hq ho
      have e : k = a + b := by omega
      subst e
      refine x_iload hK kX10_power_10 (q := 12) rfl rfl ?_
      refine x_iload_n hK kX10_power_12 (q := 13) rfl rfl ?_
      refine x_iload_n hK kX10_power_13 (q := 14) rfl rfl ?_
      refine x_iadd hK kX10_power_14 (q := 15) rfl ?_
      refine x_icmp_ge hK kX10_power_15 (q := 18) rfl (tg := 59) rfl (by refine ⟨?_, ?_⟩ <;> omega) (fun c15 => ?_) (fun c15 => ?_)
      · refine x_aload_n hK kX10_power_59 (q := 60) rfl rfl ?_
        refine x_iload_n hK kX10_power_60 (q := 61) rfl rfl ?_
        refine x_sipush hK kX10_power_61 (q := 64) rfl (by decide) ?_
        refine x_cv3 hK kX10_power_64 (q := 67) rfl (vtX10_power_255) (Nat.le_of_ble_eq_true rfl) ?_
        refine SX10_copyTable_i hr' hF hn (by omega) (by decide) (by omega) (fun A1 s1 k1 r1 q1 o1 => ?_)
        refine x_return_ hK kX10_power_67 (by first | trivial | exact Or.inl rfl | exact Or.inr rfl) ?_
        refine h A1 s1 (sN_tr hA k1) r1 (mQ_tr q1 hq) (fun p p0 p1 p2 p3 => ?_)
        rw [o1 p p3]
        exact ho p p0 p1 p2
      · exfalso; omega
    | succ d ih =>
      intro k A' s' hk hA hr' hq ho
      obtain ⟨V, v0, v1, v2⟩ := hV k (by omega)
      have qX : mQ n (tb s' 2080) (tb s 2080) := fun i j hi hj => ho _ (by omega) (by omega) (by omega)
      have qY : mQ n (tb s' 2116) (tb s 2116) := fun i j hi hj => ho _ (by omega) (by omega) (by omega)
      have go : ∀ (z : Int) (Z : mT), (2080 ≤ z ∧ z + 36 ≤ 2224) → mQ n (tb s' z) Z → mB n Z U → Z = (if k < a then tb s 2080 else tb s 2116) → K 37 [some eRR, some (eI to), some (eI a), some (eI b), some (eI k)] [eI z, eI 2260, eRR] (cR F A') := by
        intro z Z hz hZ bZ eZ
        refine x_sipush hK kX10_power_37 (q := 40) rfl (by decide) ?_
        refine x_cv4 hK kX10_power_40 (q := 43) rfl (vtX10_power_252) (Nat.le_of_ble_eq_true rfl) ?_
        refine SX10_product_i U V hr' hF hn (by decide) (by omega) (by decide) (by omega) (by decide) hU v0 (mB_q hZ bZ) (mB_q hq v1) v2 (fun A1 s1 k1 r1 q1 o1 => ?_)
        refine x_aload_n hK kX10_power_43 (q := 44) rfl rfl ?_
        refine x_sipush hK kX10_power_44 (q := 47) rfl (by decide) ?_
        refine x_sipush hK kX10_power_47 (q := 50) rfl (by decide) ?_
        refine x_cv3 hK kX10_power_50 (q := 53) rfl (vtX10_power_255) (Nat.le_of_ble_eq_true rfl) ?_
        refine SX10_copyTable_i r1 hF hn (by decide) (by decide) (by decide) (fun A2 s2 k2 r2 q2 o2 => ?_)
        refine x_iinc hK kX10_power_53 (q := 56) rfl rfl ?_
        simp only [lS, lS2, clr_0, clr_I, clr_L, clr_R]
        refine x_goto hK kX10_power_56 (tg := 10) rfl ?_
        rw [show (k : Int) + 1 = ((k + 1 : Nat) : Int) by omega]
        refine ih (k + 1) A2 s2 (by omega) (sN_tr hA (sN_tr k1 k2)) r2 (mQ_tr q2 (mQ_tr q1 ?_)) (fun p p0 p1 p2 => ?_)
        · show mQ n _ (mM n (if k < a then tb s 2080 else tb s 2116) (pQ n (tb s 2080) (tb s 2116) a k))
          rw [← eZ]
          exact mM_q hZ hq
        · rw [o2 p (fun g => by unfold iT at g; omega), o1 p p0 p1 (fun g => by unfold iT at g; omega)]
          exact ho p p0 p1 p2
      refine x_iload hK kX10_power_10 (q := 12) rfl rfl ?_
      refine x_iload_n hK kX10_power_12 (q := 13) rfl rfl ?_
      refine x_iload_n hK kX10_power_13 (q := 14) rfl rfl ?_
      refine x_iadd hK kX10_power_14 (q := 15) rfl ?_
      refine x_icmp_ge hK kX10_power_15 (q := 18) rfl (tg := 59) rfl (by refine ⟨?_, ?_⟩ <;> omega) (fun c15 => ?_) (fun c15 => ?_)
      · exfalso; omega
      · refine x_aload_n hK kX10_power_18 (q := 19) rfl rfl ?_
        refine x_sipush hK kX10_power_19 (q := 22) rfl (by decide) ?_
        refine x_iload hK kX10_power_22 (q := 24) rfl rfl ?_
        refine x_iload_n hK kX10_power_24 (q := 25) rfl rfl ?_
        refine x_icmp_ge hK kX10_power_25 (q := 28) rfl (tg := 34) rfl (by refine ⟨?_, ?_⟩ <;> omega) (fun c25 => ?_) (fun c25 => ?_)
        · refine x_sipush hK kX10_power_34 (q := 37) rfl (by decide) ?_
          first
          | exact go 2080 _ (by decide) qX bX (by rw [if_pos (by omega)])
          | exact go 2116 _ (by decide) qY bY (by rw [if_neg (by omega)])
        · refine x_sipush hK kX10_power_28 (q := 31) rfl (by decide) ?_
          refine x_goto hK kX10_power_31 (tg := 37) rfl ?_
          first
          | exact go 2080 _ (by decide) qX bX (by rw [if_pos (by omega)])
          | exact go 2116 _ (by decide) qY bY (by rw [if_neg (by omega)])
  simp only [eLoc, eE, List.length_cons, List.length_nil, List.replicate, List.cons_append, List.nil_append, Nat.reduceAdd, Nat.reduceSub]
  refine x_aload_n hK kX10_power_0 (q := 1) rfl rfl ?_
  refine x_sipush hK kX10_power_1 (q := 4) rfl (by decide) ?_
  refine x_cv2 hK kX10_power_4 (q := 7) rfl (vtX10_power_249) (Nat.le_of_ble_eq_true rfl) ?_
  refine SX10_unit_i hr (by decide) (fun A1 k1 r1 => ?_)
  refine x_iconst hK kX10_power_7 (q := 8) rfl ?_
  refine x_istore hK kX10_power_8 (q := 10) rfl ?_
  simp only [lS, lS2, clr_0, clr_I, clr_L, clr_R]
  exact loop (a + b) 0 A1 _ (by omega) k1 r1 (mQ_le (uTf_q _ _) hn) (fun p p0 p1 p2 => uTf_o _ _ _ (by omega))
set_option maxRecDepth 20000 in
theorem mX10_power : eMet yX10_power cX10_power 5 none 5 132 SX10_power := eMet_of (by decide +kernel) sX10_power kX10_power_ok caX10_power tb_RX10
theorem wX10_power : eWV yX10_power cX10_power 5 none 4 9 SX10_power := ⟨(gW_at 1224 (by decide +kernel) rfl), (gW_at 89 (by decide +kernel) rfl), (gW_at 1223 (by decide +kernel) rfl), ⟨_, rfl, (gW_at 65 (by decide +kernel) rfl)⟩, by decide +kernel, SX10_power_r⟩
