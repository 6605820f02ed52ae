/-! The reference's face: query, at, and what is told of a solve. -/
def SX10_query : eSp := fun as M rt => ∃ (F : Nat → Int) (A : Nat → Int → Int) (a b c : Int), as = [eRR, eI a, eI b, eI c] ∧ M = cR F A ∧ w32 a ∧ w32 b ∧ w32 c ∧ (∀ k : Nat, k < 6 → -5 ≤ A 5 k ∧ A 5 k ≤ 5) ∧
  (¬ (0 ≤ a ∧ 0 ≤ b ∧ a + b ≤ 2) → rt (some (eI 0)) (cR (uF F 12 1) A)) ∧
  ((0 ≤ a ∧ 0 ≤ b ∧ a + b ≤ 2) → (A 5 (mN a b) + c < -5 ∨ 5 < A 5 (mN a b) + c) → rt (some (eI (A 5 (mN a b)))) (cR (uF F 12 1) A)) ∧
  ((0 ≤ a ∧ 0 ≤ b ∧ a + b ≤ 2) → ¬ (A 5 (mN a b) + c < -5 ∨ 5 < A 5 (mN a b) + c) → rt (some (eI (A 5 (mN a b) + c))) (cR (uF F 12 0) (uA A 5 (uI (A 5) (mN a b) (A 5 (mN a b) + c)))))
theorem SX10_query_r : ∀ as M rt, SX10_query as M rt → ∃ a r fs, as = eR a :: r ∧ M a = some (.inl (9, fs)) := by
  rintro as M rt ⟨F, A, a, b, c, rfl, rfl, -⟩
  exact ⟨_, _, _, rfl, rfl⟩
def kX10_query : List (Nat × Jvm.ClassFile.Instr × Nat) := [(0, .aload_n 0, 1), (1, .iload_n 1, 1), (2, .iload_n 2, 1), (3, .invokestatic 267, 3), (6, .ifCond .eq 7, 3), (9, .iconst 0, 1), (10, .goto 4, 3), (13, .iconst 1, 1), (14, .putfield 61, 3), (17, .aload_n 0, 1), (18, .getfield 61, 3), (21, .ifCond .le 5, 3), (24, .iconst 0, 1), (25, .ireturn, 1), (26, .iload_n 1, 1), (27, .iload_n 2, 1), (28, .invokestatic 185, 3), (31, .istore 4, 2), (33, .aload_n 0, 1), (34, .getfield 29, 3), (37, .iload 4, 2), (39, .iaload, 1), (40, .i2l, 1), (41, .iload_n 3, 1), (42, .i2l, 1), (43, .ladd, 1), (44, .lstore 5, 2), (46, .aload_n 0, 1), (47, .lload 5, 2), (49, .ldc2_w 270, 3), (52, .lcmp, 1), (53, .ifCond .lt 12, 3), (56, .lload 5, 2), (58, .ldc2_w 272, 3), (61, .lcmp, 1), (62, .ifCond .le 7, 3), (65, .iconst 1, 1), (66, .goto 4, 3), (69, .iconst 0, 1), (70, .putfield 61, 3), (73, .aload_n 0, 1), (74, .getfield 29, 3), (77, .iload 4, 2), (79, .aload_n 0, 1), (80, .getfield 61, 3), (83, .ifCond .le 13, 3), (86, .aload_n 0, 1), (87, .getfield 29, 3), (90, .iload 4, 2), (92, .iaload, 1), (93, .goto 6, 3), (96, .lload 5, 2), (98, .l2i, 1), (99, .iastore, 1), (100, .aload_n 0, 1), (101, .getfield 29, 3), (104, .iload 4, 2), (106, .iaload, 1), (107, .ireturn, 1)]
theorem kX10_query_0 : cdOf kX10_query 0 = some (.aload_n 0, 1) := by decide +kernel
theorem kX10_query_1 : cdOf kX10_query 1 = some (.iload_n 1, 1) := by decide +kernel
theorem kX10_query_2 : cdOf kX10_query 2 = some (.iload_n 2, 1) := by decide +kernel
theorem kX10_query_3 : cdOf kX10_query 3 = some (.invokestatic 267, 3) := by decide +kernel
theorem kX10_query_6 : cdOf kX10_query 6 = some (.ifCond .eq 7, 3) := by decide +kernel
theorem kX10_query_9 : cdOf kX10_query 9 = some (.iconst 0, 1) := by decide +kernel
theorem kX10_query_10 : cdOf kX10_query 10 = some (.goto 4, 3) := by decide +kernel
theorem kX10_query_13 : cdOf kX10_query 13 = some (.iconst 1, 1) := by decide +kernel
theorem kX10_query_14 : cdOf kX10_query 14 = some (.putfield 61, 3) := by decide +kernel
theorem kX10_query_17 : cdOf kX10_query 17 = some (.aload_n 0, 1) := by decide +kernel
theorem kX10_query_18 : cdOf kX10_query 18 = some (.getfield 61, 3) := by decide +kernel
theorem kX10_query_21 : cdOf kX10_query 21 = some (.ifCond .le 5, 3) := by decide +kernel
theorem kX10_query_24 : cdOf kX10_query 24 = some (.iconst 0, 1) := by decide +kernel
theorem kX10_query_25 : cdOf kX10_query 25 = some (.ireturn, 1) := by decide +kernel
theorem kX10_query_26 : cdOf kX10_query 26 = some (.iload_n 1, 1) := by decide +kernel
theorem kX10_query_27 : cdOf kX10_query 27 = some (.iload_n 2, 1) := by decide +kernel
theorem kX10_query_28 : cdOf kX10_query 28 = some (.invokestatic 185, 3) := by decide +kernel
theorem kX10_query_31 : cdOf kX10_query 31 = some (.istore 4, 2) := by decide +kernel
theorem kX10_query_33 : cdOf kX10_query 33 = some (.aload_n 0, 1) := by decide +kernel
theorem kX10_query_34 : cdOf kX10_query 34 = some (.getfield 29, 3) := by decide +kernel
theorem kX10_query_37 : cdOf kX10_query 37 = some (.iload 4, 2) := by decide +kernel
theorem kX10_query_39 : cdOf kX10_query 39 = some (.iaload, 1) := by decide +kernel
theorem kX10_query_40 : cdOf kX10_query 40 = some (.i2l, 1) := by decide +kernel
theorem kX10_query_41 : cdOf kX10_query 41 = some (.iload_n 3, 1) := by decide +kernel
theorem kX10_query_42 : cdOf kX10_query 42 = some (.i2l, 1) := by decide +kernel
theorem kX10_query_43 : cdOf kX10_query 43 = some (.ladd, 1) := by decide +kernel
theorem kX10_query_44 : cdOf kX10_query 44 = some (.lstore 5, 2) := by decide +kernel
theorem kX10_query_46 : cdOf kX10_query 46 = some (.aload_n 0, 1) := by decide +kernel
theorem kX10_query_47 : cdOf kX10_query 47 = some (.lload 5, 2) := by decide +kernel
theorem kX10_query_49 : cdOf kX10_query 49 = some (.ldc2_w 270, 3) := by decide +kernel
theorem kX10_query_52 : cdOf kX10_query 52 = some (.lcmp, 1) := by decide +kernel
theorem kX10_query_53 : cdOf kX10_query 53 = some (.ifCond .lt 12, 3) := by decide +kernel
theorem kX10_query_56 : cdOf kX10_query 56 = some (.lload 5, 2) := by decide +kernel
theorem kX10_query_58 : cdOf kX10_query 58 = some (.ldc2_w 272, 3) := by decide +kernel
theorem kX10_query_61 : cdOf kX10_query 61 = some (.lcmp, 1) := by decide +kernel
theorem kX10_query_62 : cdOf kX10_query 62 = some (.ifCond .le 7, 3) := by decide +kernel
theorem kX10_query_65 : cdOf kX10_query 65 = some (.iconst 1, 1) := by decide +kernel
theorem kX10_query_66 : cdOf kX10_query 66 = some (.goto 4, 3) := by decide +kernel
theorem kX10_query_69 : cdOf kX10_query 69 = some (.iconst 0, 1) := by decide +kernel
theorem kX10_query_70 : cdOf kX10_query 70 = some (.putfield 61, 3) := by decide +kernel
theorem kX10_query_73 : cdOf kX10_query 73 = some (.aload_n 0, 1) := by decide +kernel
theorem kX10_query_74 : cdOf kX10_query 74 = some (.getfield 29, 3) := by decide +kernel
theorem kX10_query_77 : cdOf kX10_query 77 = some (.iload 4, 2) := by decide +kernel
theorem kX10_query_79 : cdOf kX10_query 79 = some (.aload_n 0, 1) := by decide +kernel
theorem kX10_query_80 : cdOf kX10_query 80 = some (.getfield 61, 3) := by decide +kernel
theorem kX10_query_83 : cdOf kX10_query 83 = some (.ifCond .le 13, 3) := by decide +kernel
theorem kX10_query_86 : cdOf kX10_query 86 = some (.aload_n 0, 1) := by decide +kernel
theorem kX10_query_87 : cdOf kX10_query 87 = some (.getfield 29, 3) := by decide +kernel
theorem kX10_query_90 : cdOf kX10_query 90 = some (.iload 4, 2) := by decide +kernel
theorem kX10_query_92 : cdOf kX10_query 92 = some (.iaload, 1) := by decide +kernel
theorem kX10_query_93 : cdOf kX10_query 93 = some (.goto 6, 3) := by decide +kernel
theorem kX10_query_96 : cdOf kX10_query 96 = some (.lload 5, 2) := by decide +kernel
theorem kX10_query_98 : cdOf kX10_query 98 = some (.l2i, 1) := by decide +kernel
theorem kX10_query_99 : cdOf kX10_query 99 = some (.iastore, 1) := by decide +kernel
theorem kX10_query_100 : cdOf kX10_query 100 = some (.aload_n 0, 1) := by decide +kernel
theorem kX10_query_101 : cdOf kX10_query 101 = some (.getfield 29, 3) := by decide +kernel
theorem kX10_query_104 : cdOf kX10_query 104 = some (.iload 4, 2) := by decide +kernel
theorem kX10_query_106 : cdOf kX10_query 106 = some (.iaload, 1) := by decide +kernel
theorem kX10_query_107 : cdOf kX10_query 107 = some (.ireturn, 1) := by decide +kernel
set_option maxRecDepth 20000 in
theorem kX10_query_ok : ∀ pc i len, cdOf kX10_query pc = some (i, len) → decode cX10_query pc = .ok (i, len) ∧ stOK 7 i = true ∧ jOK pc i = true ∧ eLen i len = true := cdOf_ok cX10_query 7 kX10_query (by decide +kernel)
def vtX10_query : Nat → Option (Nat × eSp) := fun _ => none
def stX10_query : Nat → Option (Nat × eSp) := fun k => match k with
  | 267 => some (2, SX10_isTerm)
  | 185 => some (2, SX10_monomial)
  | _ => none
theorem stX10_query_267 : stX10_query 267 = some (2, SX10_isTerm) := rfl
theorem stX10_query_185 : stX10_query 185 = some (2, SX10_monomial) := rfl
abbrev TX10_query : eT := (fl_RX10, cl_RX10, dl_RX10, vtX10_query, stX10_query)
set_option maxRecDepth 20000 in
theorem caX10_query : eCalls RX10 { frames := 1, cells := 0, slots := 0, locals := 22 } TX10_query := by
  refine ⟨fun k n sp h => ?_, fun k n sp h => ?_⟩
  · cases h
  · dsimp only [TX10_query] at h
    unfold stX10_query at h
    split at h
    · cases h; exact eS_mk mX10_isTerm wX10_isTerm (by decide +kernel) (Or.inl (gW_at 1261 (by decide +kernel) rfl))
    · cases h; exact eS_mk mX10_monomial wX10_monomial (by decide +kernel) (Or.inl (gW_at 1187 (by decide +kernel) rfl))
    · cases h
set_option maxRecDepth 100000 in
set_option maxHeartbeats 4000000 in
theorem sX10_query : eSafe TX10_query (cdOf kX10_query) 7 (some .int) SX10_query := by
  intro K rt hK as M h
  obtain ⟨F, A, a, b, c, rfl, rfl, ha, hb, hc, h4, h2, h3, h5⟩ := h
  refine ⟨by simp [eE], ?_⟩
  have main : (0 ≤ a ∧ 0 ≤ b ∧ a + b ≤ 2) → K 26 [some eRR, some (eI a), some (eI b), some (eI c), none, none, none] [] (cR (uF F 12 0) A) := by
    intro ht
    obtain ⟨m0, m1⟩ := mN_6 ht
    obtain ⟨k, hk⟩ : ∃ k : Nat, mN a b = k := ⟨(mN a b).toNat, by omega⟩
    have h4k := h4 k (by omega)
    have g3 := h3 ht
    have g5 := h5 ht
    rw [hk] at g3 g5
    obtain ⟨v, hv⟩ : ∃ v, A 5 k = v := ⟨_, rfl⟩
    have wv : w32 v := by constructor <;> omega
    rw [hv] at g3 g5 h4k
    have e1 : uA A 5 (uI (A 5) k v) = A := by rw [← hv, uI_id, uA_s]
    obtain ⟨c0, c1⟩ := hc
    refine x_iload_n hK kX10_query_26 (q := 27) rfl rfl ?_
    refine x_iload_n hK kX10_query_27 (q := 28) rfl rfl ?_
    refine x_cs2 hK kX10_query_28 (q := 31) rfl (stX10_query_185) (Nat.le_of_ble_eq_true rfl) ?_
    refine SX10_monomial_i (by omega) ?_
    rw [hk]
    refine x_istore hK kX10_query_31 (q := 33) rfl ?_
    refine x_aload_n hK kX10_query_33 (q := 34) rfl rfl ?_
    refine x_getfield hK kX10_query_34 (q := 37) rfl (gX10_29 ?_)
    refine x_iload hK kX10_query_37 (q := 39) rfl rfl ?_
    refine x_iaload hK kX10_query_39 (q := 40) rfl (aX10_A5 (by refine ⟨?_, ?_⟩ <;> omega) ?_)
    simp only [lS, lS2, clr_0, clr_I, clr_L, clr_R]
    rw [hv]
    refine x_i2l hK kX10_query_40 (q := 41) rfl (by exact wv) ?_
    refine x_iload_n hK kX10_query_41 (q := 42) rfl rfl ?_
    refine x_i2l hK kX10_query_42 (q := 43) rfl (by omega) ?_
    refine x_ladd hK kX10_query_43 (q := 44) rfl ?_
    refine x_lstore hK kX10_query_44 (q := 46) rfl ?_
    refine x_aload_n hK kX10_query_46 (q := 47) rfl rfl ?_
    refine x_lload hK kX10_query_47 (q := 49) rfl rfl ?_
    refine x_ldc2_w hK kX10_query_49 (q := 52) rfl lc2_RX10_270 ?_
    refine x_lcmp hK kX10_query_52 (q := 53) rfl (by refine ⟨?_, ?_⟩ <;> omega) ?_
    simp only [lS, lS2, clr_0, clr_I, clr_L, clr_R]
    refine x_ifc_lt hK kX10_query_53 (q := 56) rfl (tg := 65) rfl (fun c53 => ?_) (fun c53 => ?_)
    · refine x_iconst hK kX10_query_65 (q := 66) rfl ?_
      refine x_goto hK kX10_query_66 (tg := 70) rfl ?_
      refine x_putfield hK kX10_query_70 (q := 73) rfl (pX10_61 ?_)
      refine x_aload_n hK kX10_query_73 (q := 74) rfl rfl ?_
      refine x_getfield hK kX10_query_74 (q := 77) rfl (gX10_29 ?_)
      refine x_iload hK kX10_query_77 (q := 79) rfl rfl ?_
      refine x_aload_n hK kX10_query_79 (q := 80) rfl rfl ?_
      refine x_getfield hK kX10_query_80 (q := 83) rfl (gX10_61 ?_)
      rw [uF_g]
      refine x_if_le hK kX10_query_83 (q := 86) rfl (tg := 96) rfl (by decide) (fun c83 => ?_) (fun c83 => ?_)
      · refine x_lload hK kX10_query_96 (q := 98) rfl rfl ?_
        refine x_l2i hK kX10_query_98 (q := 99) rfl ?_
        refine x_iastore hK kX10_query_99 (q := 100) rfl (yX10_A5 (by refine ⟨?_, ?_⟩ <;> omega) ?_)
        rw [uF_u]
        refine x_aload_n hK kX10_query_100 (q := 101) rfl rfl ?_
        refine x_getfield hK kX10_query_101 (q := 104) rfl (gX10_29 ?_)
        refine x_iload hK kX10_query_104 (q := 106) rfl rfl ?_
        refine x_iaload hK kX10_query_106 (q := 107) rfl (aX10_A5 (by refine ⟨?_, ?_⟩ <;> omega) ?_)
        rw [uA_g, uI_s]
        refine x_ireturn hK kX10_query_107 (by first | trivial | exact Or.inl rfl | exact Or.inr rfl) ?_
        first
        | (exfalso; omega)
        | (rw [e1]; exact g3 (by omega))
        | (exact g5 (by omega))
      · refine x_aload_n hK kX10_query_86 (q := 87) rfl rfl ?_
        refine x_getfield hK kX10_query_87 (q := 90) rfl (gX10_29 ?_)
        refine x_iload hK kX10_query_90 (q := 92) rfl rfl ?_
        refine x_iaload hK kX10_query_92 (q := 93) rfl (aX10_A5 (by refine ⟨?_, ?_⟩ <;> omega) ?_)
        rw [hv]
        refine x_goto hK kX10_query_93 (tg := 99) rfl ?_
        refine x_iastore hK kX10_query_99 (q := 100) rfl (yX10_A5 (by refine ⟨?_, ?_⟩ <;> omega) ?_)
        rw [uF_u]
        refine x_aload_n hK kX10_query_100 (q := 101) rfl rfl ?_
        refine x_getfield hK kX10_query_101 (q := 104) rfl (gX10_29 ?_)
        refine x_iload hK kX10_query_104 (q := 106) rfl rfl ?_
        refine x_iaload hK kX10_query_106 (q := 107) rfl (aX10_A5 (by refine ⟨?_, ?_⟩ <;> omega) ?_)
        rw [uA_g, uI_s]
        refine x_ireturn hK kX10_query_107 (by first | trivial | exact Or.inl rfl | exact Or.inr rfl) ?_
        first
        | (exfalso; omega)
        | (rw [e1]; exact g3 (by omega))
        | (exact g5 (by omega))
    · refine x_lload hK kX10_query_56 (q := 58) rfl rfl ?_
      refine x_ldc2_w hK kX10_query_58 (q := 61) rfl lc2_RX10_272 ?_
      refine x_lcmp hK kX10_query_61 (q := 62) rfl (by refine ⟨?_, ?_⟩ <;> omega) ?_
      refine x_ifc_le hK kX10_query_62 (q := 65) rfl (tg := 69) rfl (fun c62 => ?_) (fun c62 => ?_)
      · refine x_iconst hK kX10_query_69 (q := 70) rfl ?_
        refine x_putfield hK kX10_query_70 (q := 73) rfl (pX10_61 ?_)
        refine x_aload_n hK kX10_query_73 (q := 74) rfl rfl ?_
        refine x_getfield hK kX10_query_74 (q := 77) rfl (gX10_29 ?_)
        refine x_iload hK kX10_query_77 (q := 79) rfl rfl ?_
        refine x_aload_n hK kX10_query_79 (q := 80) rfl rfl ?_
        refine x_getfield hK kX10_query_80 (q := 83) rfl (gX10_61 ?_)
        rw [uF_g]
        refine x_if_le hK kX10_query_83 (q := 86) rfl (tg := 96) rfl (by decide) (fun c83 => ?_) (fun c83 => ?_)
        · refine x_lload hK kX10_query_96 (q := 98) rfl rfl ?_
          refine x_l2i hK kX10_query_98 (q := 99) rfl ?_
          refine x_iastore hK kX10_query_99 (q := 100) rfl (yX10_A5 (by refine ⟨?_, ?_⟩ <;> omega) ?_)
          rw [uF_u]
          refine x_aload_n hK kX10_query_100 (q := 101) rfl rfl ?_
          refine x_getfield hK kX10_query_101 (q := 104) rfl (gX10_29 ?_)
          refine x_iload hK kX10_query_104 (q := 106) rfl rfl ?_
          refine x_iaload hK kX10_query_106 (q := 107) rfl (aX10_A5 (by refine ⟨?_, ?_⟩ <;> omega) ?_)
          rw [uA_g, uI_s]
          refine x_ireturn hK kX10_query_107 (by first | trivial | exact Or.inl rfl | exact Or.inr rfl) ?_
          first
          | (exfalso; omega)
          | (rw [e1]; exact g3 (by omega))
          | (exact g5 (by omega))
        · refine x_aload_n hK kX10_query_86 (q := 87) rfl rfl ?_
          refine x_getfield hK kX10_query_87 (q := 90) rfl (gX10_29 ?_)
          refine x_iload hK kX10_query_90 (q := 92) rfl rfl ?_
          refine x_iaload hK kX10_query_92 (q := 93) rfl (aX10_A5 (by refine ⟨?_, ?_⟩ <;> omega) ?_)
          rw [hv]
          refine x_goto hK kX10_query_93 (tg := 99) rfl ?_
          refine x_iastore hK kX10_query_99 (q := 100) rfl (yX10_A5 (by refine ⟨?_, ?_⟩ <;> omega) ?_)
          rw [uF_u]
          refine x_aload_n hK kX10_query_100 (q := 101) rfl rfl ?_
          refine x_getfield hK kX10_query_101 (q := 104) rfl (gX10_29 ?_)
          refine x_iload hK kX10_query_104 (q := 106) rfl rfl ?_
          refine x_iaload hK kX10_query_106 (q := 107) rfl (aX10_A5 (by refine ⟨?_, ?_⟩ <;> omega) ?_)
          rw [uA_g, uI_s]
          refine x_ireturn hK kX10_query_107 (by first | trivial | exact Or.inl rfl | exact Or.inr rfl) ?_
          first
          | (exfalso; omega)
          | (rw [e1]; exact g3 (by omega))
          | (exact g5 (by omega))
      · refine x_iconst hK kX10_query_65 (q := 66) rfl ?_
        refine x_goto hK kX10_query_66 (tg := 70) rfl ?_
        refine x_putfield hK kX10_query_70 (q := 73) rfl (pX10_61 ?_)
        refine x_aload_n hK kX10_query_73 (q := 74) rfl rfl ?_
        refine x_getfield hK kX10_query_74 (q := 77) rfl (gX10_29 ?_)
        refine x_iload hK kX10_query_77 (q := 79) rfl rfl ?_
        refine x_aload_n hK kX10_query_79 (q := 80) rfl rfl ?_
        refine x_getfield hK kX10_query_80 (q := 83) rfl (gX10_61 ?_)
        rw [uF_g]
        refine x_if_le hK kX10_query_83 (q := 86) rfl (tg := 96) rfl (by decide) (fun c83 => ?_) (fun c83 => ?_)
        · refine x_lload hK kX10_query_96 (q := 98) rfl rfl ?_
          refine x_l2i hK kX10_query_98 (q := 99) rfl ?_
          refine x_iastore hK kX10_query_99 (q := 100) rfl (yX10_A5 (by refine ⟨?_, ?_⟩ <;> omega) ?_)
          rw [uF_u]
          refine x_aload_n hK kX10_query_100 (q := 101) rfl rfl ?_
          refine x_getfield hK kX10_query_101 (q := 104) rfl (gX10_29 ?_)
          refine x_iload hK kX10_query_104 (q := 106) rfl rfl ?_
          refine x_iaload hK kX10_query_106 (q := 107) rfl (aX10_A5 (by refine ⟨?_, ?_⟩ <;> omega) ?_)
          rw [uA_g, uI_s]
          refine x_ireturn hK kX10_query_107 (by first | trivial | exact Or.inl rfl | exact Or.inr rfl) ?_
          first
          | (exfalso; omega)
          | (rw [e1]; exact g3 (by omega))
          | (exact g5 (by omega))
        · refine x_aload_n hK kX10_query_86 (q := 87) rfl rfl ?_
          refine x_getfield hK kX10_query_87 (q := 90) rfl (gX10_29 ?_)
          refine x_iload hK kX10_query_90 (q := 92) rfl rfl ?_
          refine x_iaload hK kX10_query_92 (q := 93) rfl (aX10_A5 (by refine ⟨?_, ?_⟩ <;> omega) ?_)
          rw [hv]
          refine x_goto hK kX10_query_93 (tg := 99) rfl ?_
          refine x_iastore hK kX10_query_99 (q := 100) rfl (yX10_A5 (by refine ⟨?_, ?_⟩ <;> omega) ?_)
          rw [uF_u]
          refine x_aload_n hK kX10_query_100 (q := 101) rfl rfl ?_
          refine x_getfield hK kX10_query_101 (q := 104) rfl (gX10_29 ?_)
          refine x_iload hK kX10_query_104 (q := 106) rfl rfl ?_
          refine x_iaload hK kX10_query_106 (q := 107) rfl (aX10_A5 (by refine ⟨?_, ?_⟩ <;> omega) ?_)
          rw [uA_g, uI_s]
          refine x_ireturn hK kX10_query_107 (by first | trivial | exact Or.inl rfl | exact Or.inr rfl) ?_
          first
          | (exfalso; omega)
          | (rw [e1]; exact g3 (by omega))
          | (exact g5 (by omega))
  simp only [eLoc, eE, List.length_cons, List.length_nil, List.replicate, List.cons_append, List.nil_append, Nat.reduceAdd, Nat.reduceSub]
  refine x_aload_n hK kX10_query_0 (q := 1) rfl rfl ?_
  refine x_iload_n hK kX10_query_1 (q := 2) rfl rfl ?_
  refine x_iload_n hK kX10_query_2 (q := 3) rfl rfl ?_
  refine x_cs2 hK kX10_query_3 (q := 6) rfl (stX10_query_267) (Nat.le_of_ble_eq_true rfl) ?_
  refine SX10_isTerm_i ha hb (fun q q0 q1 => ?_)
  refine x_if_eq hK kX10_query_6 (q := 9) rfl (tg := 13) rfl (by rcases q0 with e | e <;> rw [e] <;> decide) (fun c6 => ?_) (fun c6 => ?_)
  · refine x_iconst hK kX10_query_13 (q := 14) rfl ?_
    refine x_putfield hK kX10_query_14 (q := 17) rfl (pX10_61 ?_)
    refine x_aload_n hK kX10_query_17 (q := 18) rfl rfl ?_
    refine x_getfield hK kX10_query_18 (q := 21) rfl (gX10_61 ?_)
    rw [uF_g]
    refine x_if_le hK kX10_query_21 (q := 24) rfl (tg := 26) rfl (by decide) (fun c21 => ?_) (fun c21 => ?_)
    · first
      | (exfalso; omega)
      | exact main (q1.mp (by omega))
    · refine x_iconst hK kX10_query_24 (q := 25) rfl ?_
      refine x_ireturn hK kX10_query_25 (by first | trivial | exact Or.inl rfl | exact Or.inr rfl) ?_
      first
      | (exfalso; omega)
      | exact h2 (fun r => by have := q1.mpr r; omega)
  · refine x_iconst hK kX10_query_9 (q := 10) rfl ?_
    refine x_goto hK kX10_query_10 (tg := 14) rfl ?_
    refine x_putfield hK kX10_query_14 (q := 17) rfl (pX10_61 ?_)
    refine x_aload_n hK kX10_query_17 (q := 18) rfl rfl ?_
    refine x_getfield hK kX10_query_18 (q := 21) rfl (gX10_61 ?_)
    rw [uF_g]
    refine x_if_le hK kX10_query_21 (q := 24) rfl (tg := 26) rfl (by decide) (fun c21 => ?_) (fun c21 => ?_)
    · first
      | (exfalso; omega)
      | exact main (q1.mp (by omega))
    · refine x_iconst hK kX10_query_24 (q := 25) rfl ?_
      refine x_ireturn hK kX10_query_25 (by first | trivial | exact Or.inl rfl | exact Or.inr rfl) ?_
      first
      | (exfalso; omega)
      | exact h2 (fun r => by have := q1.mpr r; omega)
set_option maxRecDepth 20000 in
theorem mX10_query : eMet yX10_query cX10_query 7 (some .int) 1 22 SX10_query := eMet_of (by decide +kernel) sX10_query kX10_query_ok caX10_query tb_RX10
theorem wX10_query : eWV yX10_query cX10_query 7 (some .int) 4 9 SX10_query := ⟨(gW_at 1270 (by decide +kernel) rfl), (gW_at 89 (by decide +kernel) rfl), (gW_at 1268 (by decide +kernel) rfl), ⟨_, rfl, (gW_at 1269 (by decide +kernel) rfl)⟩, by decide +kernel, SX10_query_r⟩
def SX10_at_ : eSp := fun as M rt => ∃ (F : Nat → Int) (A : Nat → Int → Int) (p a b : Int), as = [eRR, eI p, eI a, eI b] ∧ M = cR F A ∧ w32 p ∧ w32 a ∧ w32 b ∧ (0 ≤ F 6 ∧ F 6 ≤ 4) ∧
  (¬ (p = -1 ∨ (0 ≤ p ∧ p < F 6)) ∨ ¬ (0 ≤ a ∧ 0 ≤ b ∧ a + b ≤ 2) → rt (some (eI 0)) (cR (uF F 12 0) A)) ∧
  ((0 ≤ a ∧ 0 ≤ b ∧ a + b ≤ 2) → p = -1 → rt (some (eI (A 5 (mN a b)))) (cR (uF F 12 0) A)) ∧
  ((0 ≤ a ∧ 0 ≤ b ∧ a + b ≤ 2) → 0 ≤ p → p < F 6 → rt (some (eI (A 4 (6 * p + mN a b)))) (cR (uF F 12 0) A))
theorem SX10_at__r : ∀ as M rt, SX10_at_ as M rt → ∃ a r fs, as = eR a :: r ∧ M a = some (.inl (9, fs)) := by
  rintro as M rt ⟨F, A, p, a, b, rfl, rfl, -⟩
  exact ⟨_, _, _, rfl, rfl⟩
def kX10_at_ : List (Nat × Jvm.ClassFile.Instr × Nat) := [(0, .aload_n 0, 1), (1, .iconst 0, 1), (2, .putfield 61, 3), (5, .iload_n 1, 1), (6, .iconst (-1), 1), (7, .if_icmp .eq 15, 3), (10, .iload_n 1, 1), (11, .ifCond .lt 15, 3), (14, .iload_n 1, 1), (15, .aload_n 0, 1), (16, .getfield 199, 3), (19, .if_icmp .ge 7, 3), (22, .iconst 1, 1), (23, .goto 4, 3), (26, .iconst 0, 1), (27, .istore 4, 2), (29, .iload 4, 2), (31, .ifCond .eq 11, 3), (34, .iload_n 2, 1), (35, .iload_n 3, 1), (36, .invokestatic 267, 3), (39, .ifCond .ne 5, 3), (42, .iconst 0, 1), (43, .ireturn, 1), (44, .iload_n 1, 1), (45, .iconst (-1), 1), (46, .if_icmp .ne 16, 3), (49, .aload_n 0, 1), (50, .getfield 29, 3), (53, .iload_n 2, 1), (54, .iload_n 3, 1), (55, .invokestatic 185, 3), (58, .iaload, 1), (59, .goto 18, 3), (62, .aload_n 0, 1), (63, .getfield 26, 3), (66, .bipush 6, 2), (68, .iload_n 1, 1), (69, .imul, 1), (70, .iload_n 2, 1), (71, .iload_n 3, 1), (72, .invokestatic 185, 3), (75, .iadd, 1), (76, .iaload, 1), (77, .ireturn, 1)]
theorem kX10_at__0 : cdOf kX10_at_ 0 = some (.aload_n 0, 1) := by decide +kernel
theorem kX10_at__1 : cdOf kX10_at_ 1 = some (.iconst 0, 1) := by decide +kernel
theorem kX10_at__2 : cdOf kX10_at_ 2 = some (.putfield 61, 3) := by decide +kernel
theorem kX10_at__5 : cdOf kX10_at_ 5 = some (.iload_n 1, 1) := by decide +kernel
theorem kX10_at__6 : cdOf kX10_at_ 6 = some (.iconst (-1), 1) := by decide +kernel
theorem kX10_at__7 : cdOf kX10_at_ 7 = some (.if_icmp .eq 15, 3) := by decide +kernel
theorem kX10_at__10 : cdOf kX10_at_ 10 = some (.iload_n 1, 1) := by decide +kernel
theorem kX10_at__11 : cdOf kX10_at_ 11 = some (.ifCond .lt 15, 3) := by decide +kernel
theorem kX10_at__14 : cdOf kX10_at_ 14 = some (.iload_n 1, 1) := by decide +kernel
theorem kX10_at__15 : cdOf kX10_at_ 15 = some (.aload_n 0, 1) := by decide +kernel
theorem kX10_at__16 : cdOf kX10_at_ 16 = some (.getfield 199, 3) := by decide +kernel
theorem kX10_at__19 : cdOf kX10_at_ 19 = some (.if_icmp .ge 7, 3) := by decide +kernel
theorem kX10_at__22 : cdOf kX10_at_ 22 = some (.iconst 1, 1) := by decide +kernel
theorem kX10_at__23 : cdOf kX10_at_ 23 = some (.goto 4, 3) := by decide +kernel
theorem kX10_at__26 : cdOf kX10_at_ 26 = some (.iconst 0, 1) := by decide +kernel
theorem kX10_at__27 : cdOf kX10_at_ 27 = some (.istore 4, 2) := by decide +kernel
theorem kX10_at__29 : cdOf kX10_at_ 29 = some (.iload 4, 2) := by decide +kernel
theorem kX10_at__31 : cdOf kX10_at_ 31 = some (.ifCond .eq 11, 3) := by decide +kernel
theorem kX10_at__34 : cdOf kX10_at_ 34 = some (.iload_n 2, 1) := by decide +kernel
theorem kX10_at__35 : cdOf kX10_at_ 35 = some (.iload_n 3, 1) := by decide +kernel
theorem kX10_at__36 : cdOf kX10_at_ 36 = some (.invokestatic 267, 3) := by decide +kernel
theorem kX10_at__39 : cdOf kX10_at_ 39 = some (.ifCond .ne 5, 3) := by decide +kernel
theorem kX10_at__42 : cdOf kX10_at_ 42 = some (.iconst 0, 1) := by decide +kernel
theorem kX10_at__43 : cdOf kX10_at_ 43 = some (.ireturn, 1) := by decide +kernel
theorem kX10_at__44 : cdOf kX10_at_ 44 = some (.iload_n 1, 1) := by decide +kernel
theorem kX10_at__45 : cdOf kX10_at_ 45 = some (.iconst (-1), 1) := by decide +kernel
theorem kX10_at__46 : cdOf kX10_at_ 46 = some (.if_icmp .ne 16, 3) := by decide +kernel
theorem kX10_at__49 : cdOf kX10_at_ 49 = some (.aload_n 0, 1) := by decide +kernel
theorem kX10_at__50 : cdOf kX10_at_ 50 = some (.getfield 29, 3) := by decide +kernel
theorem kX10_at__53 : cdOf kX10_at_ 53 = some (.iload_n 2, 1) := by decide +kernel
theorem kX10_at__54 : cdOf kX10_at_ 54 = some (.iload_n 3, 1) := by decide +kernel
theorem kX10_at__55 : cdOf kX10_at_ 55 = some (.invokestatic 185, 3) := by decide +kernel
theorem kX10_at__58 : cdOf kX10_at_ 58 = some (.iaload, 1) := by decide +kernel
theorem kX10_at__59 : cdOf kX10_at_ 59 = some (.goto 18, 3) := by decide +kernel
theorem kX10_at__62 : cdOf kX10_at_ 62 = some (.aload_n 0, 1) := by decide +kernel
theorem kX10_at__63 : cdOf kX10_at_ 63 = some (.getfield 26, 3) := by decide +kernel
theorem kX10_at__66 : cdOf kX10_at_ 66 = some (.bipush 6, 2) := by decide +kernel
theorem kX10_at__68 : cdOf kX10_at_ 68 = some (.iload_n 1, 1) := by decide +kernel
theorem kX10_at__69 : cdOf kX10_at_ 69 = some (.imul, 1) := by decide +kernel
theorem kX10_at__70 : cdOf kX10_at_ 70 = some (.iload_n 2, 1) := by decide +kernel
theorem kX10_at__71 : cdOf kX10_at_ 71 = some (.iload_n 3, 1) := by decide +kernel
theorem kX10_at__72 : cdOf kX10_at_ 72 = some (.invokestatic 185, 3) := by decide +kernel
theorem kX10_at__75 : cdOf kX10_at_ 75 = some (.iadd, 1) := by decide +kernel
theorem kX10_at__76 : cdOf kX10_at_ 76 = some (.iaload, 1) := by decide +kernel
theorem kX10_at__77 : cdOf kX10_at_ 77 = some (.ireturn, 1) := by decide +kernel
set_option maxRecDepth 20000 in
theorem kX10_at__ok : ∀ pc i len, cdOf kX10_at_ pc = some (i, len) → decode cX10_at_ pc = .ok (i, len) ∧ stOK 5 i = true ∧ jOK pc i = true ∧ eLen i len = true := cdOf_ok cX10_at_ 5 kX10_at_ (by decide +kernel)
def vtX10_at_ : Nat → Option (Nat × eSp) := fun _ => none
def stX10_at_ : Nat → Option (Nat × eSp) := fun k => match k with
  | 267 => some (2, SX10_isTerm)
  | 185 => some (2, SX10_monomial)
  | _ => none
theorem stX10_at__267 : stX10_at_ 267 = some (2, SX10_isTerm) := rfl
theorem stX10_at__185 : stX10_at_ 185 = some (2, SX10_monomial) := rfl
abbrev TX10_at_ : eT := (fl_RX10, cl_RX10, dl_RX10, vtX10_at_, stX10_at_)
set_option maxRecDepth 20000 in
theorem caX10_at_ : eCalls RX10 { frames := 1, cells := 0, slots := 0, locals := 22 } TX10_at_ := by
  refine ⟨fun k n sp h => ?_, fun k n sp h => ?_⟩
  · cases h
  · dsimp only [TX10_at_] at h
    unfold stX10_at_ at h
    split at h
    · cases h; exact eS_mk mX10_isTerm wX10_isTerm (by decide +kernel) (Or.inl (gW_at 1261 (by decide +kernel) rfl))
    · cases h; exact eS_mk mX10_monomial wX10_monomial (by decide +kernel) (Or.inl (gW_at 1187 (by decide +kernel) rfl))
    · cases h
set_option maxRecDepth 100000 in
set_option maxHeartbeats 4000000 in
theorem sX10_at_ : eSafe TX10_at_ (cdOf kX10_at_) 5 (some .int) SX10_at_ := by
  intro K rt hK as M h
  obtain ⟨F, A, p, a, b, rfl, rfl, hp, ha, hb, h6, h1, h2, h3⟩ := h
  refine ⟨by simp [eE], ?_⟩
  have w6 : w32 (F 6) := by constructor <;> omega
  have go : ∀ c : Int, (c = 0 ∨ c = 1) → (c = 1 ↔ (p = -1 ∨ (0 ≤ p ∧ p < F 6))) → K 27 [some eRR, some (eI p), some (eI a), some (eI b), none] [eI c] (cR (uF F 12 0) A) := by
    intro c c0 c1
    refine x_istore hK kX10_at__27 (q := 29) rfl ?_
    refine x_iload hK kX10_at__29 (q := 31) rfl rfl ?_
    simp only [lS, lS2, clr_0, clr_I, clr_L, clr_R]
    refine x_if_eq hK kX10_at__31 (q := 34) rfl (tg := 42) rfl (by rcases c0 with e | e <;> rw [e] <;> decide) (fun c31 => ?_) (fun c31 => ?_)
    · refine x_iconst hK kX10_at__42 (q := 43) rfl ?_
      refine x_ireturn hK kX10_at__43 (by first | trivial | exact Or.inl rfl | exact Or.inr rfl) ?_
      first
      | exact h1 (Or.inl (fun q => by have := c1.mpr q; omega))
      | exact h1 (Or.inr (fun r => by have := q1.mpr r; omega))
    · refine x_iload_n hK kX10_at__34 (q := 35) rfl rfl ?_
      refine x_iload_n hK kX10_at__35 (q := 36) rfl rfl ?_
      refine x_cs2 hK kX10_at__36 (q := 39) rfl (stX10_at__267) (Nat.le_of_ble_eq_true rfl) ?_
      refine SX10_isTerm_i ha hb (fun q q0 q1 => ?_)
      refine x_if_ne hK kX10_at__39 (q := 42) rfl (tg := 44) rfl (by rcases q0 with e | e <;> rw [e] <;> decide) (fun c39 => ?_) (fun c39 => ?_)
      · have ht := q1.mp (by omega)
        have m := mN_6 ht
        refine x_iload_n hK kX10_at__44 (q := 45) rfl rfl ?_
        refine x_iconst hK kX10_at__45 (q := 46) rfl ?_
        refine x_icmp_ne hK kX10_at__46 (q := 49) rfl (tg := 62) rfl (by exact ⟨hp, by decide⟩) (fun c46 => ?_) (fun c46 => ?_)
        · have hq : 0 ≤ p ∧ p < F 6 := by have := c1.mp (by omega); omega
          refine x_aload_n hK kX10_at__62 (q := 63) rfl rfl ?_
          refine x_getfield hK kX10_at__63 (q := 66) rfl (gX10_26 ?_)
          refine x_bipush hK kX10_at__66 (q := 68) rfl (by decide) ?_
          refine x_iload_n hK kX10_at__68 (q := 69) rfl rfl ?_
          refine x_imul hK kX10_at__69 (q := 70) rfl ?_
          refine x_iload_n hK kX10_at__70 (q := 71) rfl rfl ?_
          refine x_iload_n hK kX10_at__71 (q := 72) rfl rfl ?_
          refine x_cs2 hK kX10_at__72 (q := 75) rfl (stX10_at__185) (Nat.le_of_ble_eq_true rfl) ?_
          refine SX10_monomial_i (by omega) ?_
          refine x_iadd hK kX10_at__75 (q := 76) rfl ?_
          refine x_iaload hK kX10_at__76 (q := 77) rfl (aX10_A4 (by refine ⟨?_, ?_⟩ <;> omega) ?_)
          refine x_ireturn hK kX10_at__77 (by first | trivial | exact Or.inl rfl | exact Or.inr rfl) ?_
          first
          | exact h2 ht (by omega)
          | exact h3 ht (by omega) (by omega)
        · refine x_aload_n hK kX10_at__49 (q := 50) rfl rfl ?_
          refine x_getfield hK kX10_at__50 (q := 53) rfl (gX10_29 ?_)
          refine x_iload_n hK kX10_at__53 (q := 54) rfl rfl ?_
          refine x_iload_n hK kX10_at__54 (q := 55) rfl rfl ?_
          refine x_cs2 hK kX10_at__55 (q := 58) rfl (stX10_at__185) (Nat.le_of_ble_eq_true rfl) ?_
          refine SX10_monomial_i (by omega) ?_
          refine x_iaload hK kX10_at__58 (q := 59) rfl (aX10_A5 (by refine ⟨?_, ?_⟩ <;> omega) ?_)
          refine x_goto hK kX10_at__59 (tg := 77) rfl ?_
          refine x_ireturn hK kX10_at__77 (by first | trivial | exact Or.inl rfl | exact Or.inr rfl) ?_
          first
          | exact h2 ht (by omega)
          | exact h3 ht (by omega) (by omega)
      · refine x_iconst hK kX10_at__42 (q := 43) rfl ?_
        refine x_ireturn hK kX10_at__43 (by first | trivial | exact Or.inl rfl | exact Or.inr rfl) ?_
        first
        | exact h1 (Or.inl (fun q => by have := c1.mpr q; omega))
        | exact h1 (Or.inr (fun r => by have := q1.mpr r; omega))
  simp only [eLoc, eE, List.length_cons, List.length_nil, List.replicate, List.cons_append, List.nil_append, Nat.reduceAdd, Nat.reduceSub]
  refine x_aload_n hK kX10_at__0 (q := 1) rfl rfl ?_
  refine x_iconst hK kX10_at__1 (q := 2) rfl ?_
  refine x_putfield hK kX10_at__2 (q := 5) rfl (pX10_61 ?_)
  refine x_iload_n hK kX10_at__5 (q := 6) rfl rfl ?_
  refine x_iconst hK kX10_at__6 (q := 7) rfl ?_
  refine x_icmp_eq hK kX10_at__7 (q := 10) rfl (tg := 22) rfl (by exact ⟨hp, by decide⟩) (fun c7 => ?_) (fun c7 => ?_)
  · refine x_iconst hK kX10_at__22 (q := 23) rfl ?_
    refine x_goto hK kX10_at__23 (tg := 27) rfl ?_
    first
    | exact go 1 (Or.inr rfl) ⟨fun _ => by omega, fun _ => rfl⟩
    | exact go 0 (Or.inl rfl) ⟨fun q => absurd q (by decide), fun q => by omega⟩
  · refine x_iload_n hK kX10_at__10 (q := 11) rfl rfl ?_
    refine x_if_lt hK kX10_at__11 (q := 14) rfl (tg := 26) rfl (by omega) (fun c11 => ?_) (fun c11 => ?_)
    · refine x_iconst hK kX10_at__26 (q := 27) rfl ?_
      first
      | exact go 1 (Or.inr rfl) ⟨fun _ => by omega, fun _ => rfl⟩
      | exact go 0 (Or.inl rfl) ⟨fun q => absurd q (by decide), fun q => by omega⟩
    · refine x_iload_n hK kX10_at__14 (q := 15) rfl rfl ?_
      refine x_aload_n hK kX10_at__15 (q := 16) rfl rfl ?_
      refine x_getfield hK kX10_at__16 (q := 19) rfl (gX10_199 ?_)
      rw [uF_n _ _ (by decide)]
      refine x_icmp_ge hK kX10_at__19 (q := 22) rfl (tg := 26) rfl (by exact ⟨hp, w6⟩) (fun c19 => ?_) (fun c19 => ?_)
      · refine x_iconst hK kX10_at__26 (q := 27) rfl ?_
        first
        | exact go 1 (Or.inr rfl) ⟨fun _ => by omega, fun _ => rfl⟩
        | exact go 0 (Or.inl rfl) ⟨fun q => absurd q (by decide), fun q => by omega⟩
      · refine x_iconst hK kX10_at__22 (q := 23) rfl ?_
        refine x_goto hK kX10_at__23 (tg := 27) rfl ?_
        first
        | exact go 1 (Or.inr rfl) ⟨fun _ => by omega, fun _ => rfl⟩
        | exact go 0 (Or.inl rfl) ⟨fun q => absurd q (by decide), fun q => by omega⟩
set_option maxRecDepth 20000 in
theorem mX10_at_ : eMet yX10_at_ cX10_at_ 5 (some .int) 1 22 SX10_at_ := eMet_of (by decide +kernel) sX10_at_ kX10_at__ok caX10_at_ tb_RX10
theorem wX10_at_ : eWV yX10_at_ cX10_at_ 5 (some .int) 4 9 SX10_at_ := ⟨(gW_at 1359 (by decide +kernel) rfl), (gW_at 89 (by decide +kernel) rfl), (gW_at 1357 (by decide +kernel) rfl), ⟨_, rfl, (gW_at 1358 (by decide +kernel) rfl)⟩, by decide +kernel, SX10_at__r⟩
-- isFinite
def SX10_isFinite : eSp := fun as M rt => ∃ (F : Nat → Int) (A : Nat → Int → Int), as = [eRR] ∧ M = cR F A ∧ w32 (F 10) ∧ ∀ b : Int, (b = 0 ∨ b = 1) → (b = 1 ↔ cFin F) → rt (some (eI b)) (cR (uF F 12 0) A)
theorem SX10_isFinite_i {F : Nat → Int} {A : Nat → Int → Int} {rt : Option eV → eM → Prop} (h0 : w32 (F 10)) (h : ∀ b : Int, (b = 0 ∨ b = 1) → (b = 1 ↔ cFin F) → rt (some (eI b)) (cR (uF F 12 0) A)) : SX10_isFinite [eRR] (cR F A) rt := ⟨F, A, rfl, rfl, h0, h⟩
theorem SX10_isFinite_r : ∀ as M rt, SX10_isFinite as M rt → ∃ a r fs, as = eR a :: r ∧ M a = some (.inl (9, fs)) := by
  rintro as M rt ⟨F, A, rfl, rfl, -⟩
  exact ⟨_, _, _, rfl, rfl⟩
def kX10_isFinite : List (Nat × Jvm.ClassFile.Instr × Nat) := [(0, .aload_n 0, 1), (1, .iconst 0, 1), (2, .putfield 61, 3), (5, .aload_n 0, 1), (6, .getfield 42, 3), (9, .ifCond .eq 11, 3), (12, .aload_n 0, 1), (13, .getfield 42, 3), (16, .iconst 1, 1), (17, .if_icmp .ne 7, 3), (20, .iconst 1, 1), (21, .goto 4, 3), (24, .iconst 0, 1), (25, .ireturn, 1)]
theorem kX10_isFinite_0 : cdOf kX10_isFinite 0 = some (.aload_n 0, 1) := by decide +kernel
theorem kX10_isFinite_1 : cdOf kX10_isFinite 1 = some (.iconst 0, 1) := by decide +kernel
theorem kX10_isFinite_2 : cdOf kX10_isFinite 2 = some (.putfield 61, 3) := by decide +kernel
theorem kX10_isFinite_5 : cdOf kX10_isFinite 5 = some (.aload_n 0, 1) := by decide +kernel
theorem kX10_isFinite_6 : cdOf kX10_isFinite 6 = some (.getfield 42, 3) := by decide +kernel
theorem kX10_isFinite_9 : cdOf kX10_isFinite 9 = some (.ifCond .eq 11, 3) := by decide +kernel
theorem kX10_isFinite_12 : cdOf kX10_isFinite 12 = some (.aload_n 0, 1) := by decide +kernel
theorem kX10_isFinite_13 : cdOf kX10_isFinite 13 = some (.getfield 42, 3) := by decide +kernel
theorem kX10_isFinite_16 : cdOf kX10_isFinite 16 = some (.iconst 1, 1) := by decide +kernel
theorem kX10_isFinite_17 : cdOf kX10_isFinite 17 = some (.if_icmp .ne 7, 3) := by decide +kernel
theorem kX10_isFinite_20 : cdOf kX10_isFinite 20 = some (.iconst 1, 1) := by decide +kernel
theorem kX10_isFinite_21 : cdOf kX10_isFinite 21 = some (.goto 4, 3) := by decide +kernel
theorem kX10_isFinite_24 : cdOf kX10_isFinite 24 = some (.iconst 0, 1) := by decide +kernel
theorem kX10_isFinite_25 : cdOf kX10_isFinite 25 = some (.ireturn, 1) := by decide +kernel
set_option maxRecDepth 20000 in
theorem kX10_isFinite_ok : ∀ pc i len, cdOf kX10_isFinite pc = some (i, len) → decode cX10_isFinite pc = .ok (i, len) ∧ stOK 1 i = true ∧ jOK pc i = true ∧ eLen i len = true := cdOf_ok cX10_isFinite 1 kX10_isFinite (by decide +kernel)
def vtX10_isFinite : Nat → Option (Nat × eSp) := fun _ => none
def stX10_isFinite : Nat → Option (Nat × eSp) := fun _ => none
abbrev TX10_isFinite : eT := (fl_RX10, cl_RX10, dl_RX10, vtX10_isFinite, stX10_isFinite)
set_option maxRecDepth 20000 in
theorem caX10_isFinite : eCalls RX10 { frames := 0, cells := 0, slots := 0, locals := 0 } TX10_isFinite := by
  refine ⟨fun k n sp h => ?_, fun k n sp h => ?_⟩
  · cases h
  · cases h
set_option maxRecDepth 100000 in
set_option maxHeartbeats 4000000 in
theorem sX10_isFinite : eSafe TX10_isFinite (cdOf kX10_isFinite) 1 (some .boolean) SX10_isFinite := by
  intro K rt hK as M h
  obtain ⟨F, A, rfl, rfl, h0, h⟩ := h
  refine ⟨by simp [eE], ?_⟩
  simp only [eLoc, eE, List.length_cons, List.length_nil, List.replicate, List.cons_append, List.nil_append, Nat.reduceAdd, Nat.reduceSub]
  refine x_aload_n hK kX10_isFinite_0 (q := 1) rfl rfl ?_
  refine x_iconst hK kX10_isFinite_1 (q := 2) rfl ?_
  refine x_putfield hK kX10_isFinite_2 (q := 5) rfl (pX10_61 ?_)
  refine x_aload_n hK kX10_isFinite_5 (q := 6) rfl rfl ?_
  refine x_getfield hK kX10_isFinite_6 (q := 9) rfl (gX10_42 ?_)
  rw [uF_n _ _ (by decide)]
  refine x_if_eq hK kX10_isFinite_9 (q := 12) rfl (tg := 20) rfl (by exact h0) (fun c9 => ?_) (fun c9 => ?_)
  · refine x_iconst hK kX10_isFinite_20 (q := 21) rfl ?_
    refine x_goto hK kX10_isFinite_21 (tg := 25) rfl ?_
    refine x_ireturn hK kX10_isFinite_25 (by first | exact Or.inl rfl | exact Or.inr rfl) ?_
    first
    | exact h 1 (Or.inr rfl) ⟨fun _ => Or.inl (by omega), fun _ => rfl⟩
    | exact h 1 (Or.inr rfl) ⟨fun _ => Or.inr (by omega), fun _ => rfl⟩
    | exact h 0 (Or.inl rfl) ⟨fun q => absurd q (by decide), fun q => by unfold cFin at q; omega⟩
  · refine x_aload_n hK kX10_isFinite_12 (q := 13) rfl rfl ?_
    refine x_getfield hK kX10_isFinite_13 (q := 16) rfl (gX10_42 ?_)
    rw [uF_n _ _ (by decide)]
    refine x_iconst hK kX10_isFinite_16 (q := 17) rfl ?_
    refine x_icmp_ne hK kX10_isFinite_17 (q := 20) rfl (tg := 24) rfl (by exact ⟨h0, by decide⟩) (fun c17 => ?_) (fun c17 => ?_)
    · refine x_iconst hK kX10_isFinite_24 (q := 25) rfl ?_
      refine x_ireturn hK kX10_isFinite_25 (by first | exact Or.inl rfl | exact Or.inr rfl) ?_
      first
      | exact h 1 (Or.inr rfl) ⟨fun _ => Or.inl (by omega), fun _ => rfl⟩
      | exact h 1 (Or.inr rfl) ⟨fun _ => Or.inr (by omega), fun _ => rfl⟩
      | exact h 0 (Or.inl rfl) ⟨fun q => absurd q (by decide), fun q => by unfold cFin at q; omega⟩
    · refine x_iconst hK kX10_isFinite_20 (q := 21) rfl ?_
      refine x_goto hK kX10_isFinite_21 (tg := 25) rfl ?_
      refine x_ireturn hK kX10_isFinite_25 (by first | exact Or.inl rfl | exact Or.inr rfl) ?_
      first
      | exact h 1 (Or.inr rfl) ⟨fun _ => Or.inl (by omega), fun _ => rfl⟩
      | exact h 1 (Or.inr rfl) ⟨fun _ => Or.inr (by omega), fun _ => rfl⟩
      | exact h 0 (Or.inl rfl) ⟨fun q => absurd q (by decide), fun q => by unfold cFin at q; omega⟩
set_option maxRecDepth 20000 in
theorem mX10_isFinite : eMet yX10_isFinite cX10_isFinite 1 (some .boolean) 0 0 SX10_isFinite := eMet_of (by decide +kernel) sX10_isFinite kX10_isFinite_ok caX10_isFinite tb_RX10
theorem wX10_isFinite : eWV yX10_isFinite cX10_isFinite 1 (some .boolean) 1 9 SX10_isFinite := ⟨(gW_at 1278 (by decide +kernel) rfl), (gW_at 89 (by decide +kernel) rfl), (gW_at 1277 (by decide +kernel) rfl), ⟨_, rfl, (gW_at 72 (by decide +kernel) rfl)⟩, by decide +kernel, SX10_isFinite_r⟩
-- complex, standard, rank
def SX10_complex : eSp := fun as M rt => ∃ (F : Nat → Int) (A : Nat → Int → Int), as = [eRR] ∧ M = cR F A ∧ w32 (F 10) ∧ (cFin F → rt (some (eI (A 20 0))) (cR (uF F 12 0) A)) ∧ (¬ cFin F → rt (some (eI (-1))) (cR (uF F 12 0) A))
theorem SX10_complex_r : ∀ as M rt, SX10_complex as M rt → ∃ a r fs, as = eR a :: r ∧ M a = some (.inl (9, fs)) := by
  rintro as M rt ⟨F, A, rfl, rfl, -⟩
  exact ⟨_, _, _, rfl, rfl⟩
def kX10_complex : List (Nat × Jvm.ClassFile.Instr × Nat) := [(0, .aload_n 0, 1), (1, .invokevirtual 274, 3), (4, .ifCond .eq 12, 3), (7, .aload_n 0, 1), (8, .getfield 55, 3), (11, .iconst 0, 1), (12, .iaload, 1), (13, .goto 4, 3), (16, .iconst (-1), 1), (17, .ireturn, 1)]
theorem kX10_complex_0 : cdOf kX10_complex 0 = some (.aload_n 0, 1) := by decide +kernel
theorem kX10_complex_1 : cdOf kX10_complex 1 = some (.invokevirtual 274, 3) := by decide +kernel
theorem kX10_complex_4 : cdOf kX10_complex 4 = some (.ifCond .eq 12, 3) := by decide +kernel
theorem kX10_complex_7 : cdOf kX10_complex 7 = some (.aload_n 0, 1) := by decide +kernel
theorem kX10_complex_8 : cdOf kX10_complex 8 = some (.getfield 55, 3) := by decide +kernel
theorem kX10_complex_11 : cdOf kX10_complex 11 = some (.iconst 0, 1) := by decide +kernel
theorem kX10_complex_12 : cdOf kX10_complex 12 = some (.iaload, 1) := by decide +kernel
theorem kX10_complex_13 : cdOf kX10_complex 13 = some (.goto 4, 3) := by decide +kernel
theorem kX10_complex_16 : cdOf kX10_complex 16 = some (.iconst (-1), 1) := by decide +kernel
theorem kX10_complex_17 : cdOf kX10_complex 17 = some (.ireturn, 1) := by decide +kernel
set_option maxRecDepth 20000 in
theorem kX10_complex_ok : ∀ pc i len, cdOf kX10_complex pc = some (i, len) → decode cX10_complex pc = .ok (i, len) ∧ stOK 1 i = true ∧ jOK pc i = true ∧ eLen i len = true := cdOf_ok cX10_complex 1 kX10_complex (by decide +kernel)
def vtX10_complex : Nat → Option (Nat × eSp) := fun k => match k with
  | 274 => some (1, SX10_isFinite)
  | _ => none
theorem vtX10_complex_274 : vtX10_complex 274 = some (1, SX10_isFinite) := rfl
def stX10_complex : Nat → Option (Nat × eSp) := fun _ => none
abbrev TX10_complex : eT := (fl_RX10, cl_RX10, dl_RX10, vtX10_complex, stX10_complex)
set_option maxRecDepth 20000 in
theorem caX10_complex : eCalls RX10 { frames := 1, cells := 0, slots := 0, locals := 20 } TX10_complex := by
  refine ⟨fun k n sp h => ?_, fun k n sp h => ?_⟩
  · dsimp only [TX10_complex] at h
    unfold vtX10_complex at h
    split at h
    · cases h; exact eV_mk mX10_isFinite wX10_isFinite (by decide +kernel) (Or.inl (gW_at 1275 (by decide +kernel) rfl))
    · cases h
  · cases h
set_option maxRecDepth 100000 in
set_option maxHeartbeats 4000000 in
theorem sX10_complex : eSafe TX10_complex (cdOf kX10_complex) 1 (some .int) SX10_complex := by
  intro K rt hK as M h
  obtain ⟨F, A, rfl, rfl, h0, h1, h2⟩ := h
  refine ⟨by simp [eE], ?_⟩
  simp only [eLoc, eE, List.length_cons, List.length_nil, List.replicate, List.cons_append, List.nil_append, Nat.reduceAdd, Nat.reduceSub]
  refine x_aload_n hK kX10_complex_0 (q := 1) rfl rfl ?_
  refine x_cv1 hK kX10_complex_1 (q := 4) rfl (vtX10_complex_274) (Nat.le_of_ble_eq_true rfl) ?_
  refine SX10_isFinite_i h0 (fun b b0 b1 => ?_)
  refine x_if_eq hK kX10_complex_4 (q := 7) rfl (tg := 16) rfl (by rcases b0 with e | e <;> rw [e] <;> decide) (fun c4 => ?_) (fun c4 => ?_)
  · refine x_iconst hK kX10_complex_16 (q := 17) rfl ?_
    refine x_ireturn hK kX10_complex_17 (by first | trivial | exact Or.inl rfl | exact Or.inr rfl) ?_
    first
    | exact h1 (b1.mp (by omega))
    | exact h2 (fun q => by have := b1.mpr q; omega)
  · refine x_aload_n hK kX10_complex_7 (q := 8) rfl rfl ?_
    refine x_getfield hK kX10_complex_8 (q := 11) rfl (gX10_55 ?_)
    refine x_iconst hK kX10_complex_11 (q := 12) rfl ?_
    refine x_iaload hK kX10_complex_12 (q := 13) rfl (aX10_A20 (by refine ⟨?_, ?_⟩ <;> omega) ?_)
    refine x_goto hK kX10_complex_13 (tg := 17) rfl ?_
    refine x_ireturn hK kX10_complex_17 (by first | trivial | exact Or.inl rfl | exact Or.inr rfl) ?_
    first
    | exact h1 (b1.mp (by omega))
    | exact h2 (fun q => by have := b1.mpr q; omega)
set_option maxRecDepth 20000 in
theorem mX10_complex : eMet yX10_complex cX10_complex 1 (some .int) 1 20 SX10_complex := eMet_of (by decide +kernel) sX10_complex kX10_complex_ok caX10_complex tb_RX10
theorem wX10_complex : eWV yX10_complex cX10_complex 1 (some .int) 1 9 SX10_complex := ⟨(gW_at 1274 (by decide +kernel) rfl), (gW_at 89 (by decide +kernel) rfl), (gW_at 1272 (by decide +kernel) rfl), ⟨_, rfl, (gW_at 1273 (by decide +kernel) rfl)⟩, by decide +kernel, SX10_complex_r⟩
def SX10_standard : eSp := fun as M rt => ∃ (F : Nat → Int) (A : Nat → Int → Int), as = [eRR] ∧ M = cR F A ∧ w32 (F 10) ∧ (cFin F → rt (some (eI (F 19))) (cR (uF F 12 0) A)) ∧ (¬ cFin F → rt (some (eI (-1))) (cR (uF F 12 0) A))
theorem SX10_standard_r : ∀ as M rt, SX10_standard as M rt → ∃ a r fs, as = eR a :: r ∧ M a = some (.inl (9, fs)) := by
  rintro as M rt ⟨F, A, rfl, rfl, -⟩
  exact ⟨_, _, _, rfl, rfl⟩
def kX10_standard : List (Nat × Jvm.ClassFile.Instr × Nat) := [(0, .aload_n 0, 1), (1, .invokevirtual 274, 3), (4, .ifCond .eq 10, 3), (7, .aload_n 0, 1), (8, .getfield 223, 3), (11, .goto 4, 3), (14, .iconst (-1), 1), (15, .ireturn, 1)]
theorem kX10_standard_0 : cdOf kX10_standard 0 = some (.aload_n 0, 1) := by decide +kernel
theorem kX10_standard_1 : cdOf kX10_standard 1 = some (.invokevirtual 274, 3) := by decide +kernel
theorem kX10_standard_4 : cdOf kX10_standard 4 = some (.ifCond .eq 10, 3) := by decide +kernel
theorem kX10_standard_7 : cdOf kX10_standard 7 = some (.aload_n 0, 1) := by decide +kernel
theorem kX10_standard_8 : cdOf kX10_standard 8 = some (.getfield 223, 3) := by decide +kernel
theorem kX10_standard_11 : cdOf kX10_standard 11 = some (.goto 4, 3) := by decide +kernel
theorem kX10_standard_14 : cdOf kX10_standard 14 = some (.iconst (-1), 1) := by decide +kernel
theorem kX10_standard_15 : cdOf kX10_standard 15 = some (.ireturn, 1) := by decide +kernel
set_option maxRecDepth 20000 in
theorem kX10_standard_ok : ∀ pc i len, cdOf kX10_standard pc = some (i, len) → decode cX10_standard pc = .ok (i, len) ∧ stOK 1 i = true ∧ jOK pc i = true ∧ eLen i len = true := cdOf_ok cX10_standard 1 kX10_standard (by decide +kernel)
def vtX10_standard : Nat → Option (Nat × eSp) := fun k => match k with
  | 274 => some (1, SX10_isFinite)
  | _ => none
theorem vtX10_standard_274 : vtX10_standard 274 = some (1, SX10_isFinite) := rfl
def stX10_standard : Nat → Option (Nat × eSp) := fun _ => none
abbrev TX10_standard : eT := (fl_RX10, cl_RX10, dl_RX10, vtX10_standard, stX10_standard)
set_option maxRecDepth 20000 in
theorem caX10_standard : eCalls RX10 { frames := 1, cells := 0, slots := 0, locals := 20 } TX10_standard := by
  refine ⟨fun k n sp h => ?_, fun k n sp h => ?_⟩
  · dsimp only [TX10_standard] at h
    unfold vtX10_standard at h
    split at h
    · cases h; exact eV_mk mX10_isFinite wX10_isFinite (by decide +kernel) (Or.inl (gW_at 1275 (by decide +kernel) rfl))
    · cases h
  · cases h
set_option maxRecDepth 100000 in
set_option maxHeartbeats 4000000 in
theorem sX10_standard : eSafe TX10_standard (cdOf kX10_standard) 1 (some .int) SX10_standard := by
  intro K rt hK as M h
  obtain ⟨F, A, rfl, rfl, h0, h1, h2⟩ := h
  refine ⟨by simp [eE], ?_⟩
  simp only [eLoc, eE, List.length_cons, List.length_nil, List.replicate, List.cons_append, List.nil_append, Nat.reduceAdd, Nat.reduceSub]
  refine x_aload_n hK kX10_standard_0 (q := 1) rfl rfl ?_
  refine x_cv1 hK kX10_standard_1 (q := 4) rfl (vtX10_standard_274) (Nat.le_of_ble_eq_true rfl) ?_
  refine SX10_isFinite_i h0 (fun b b0 b1 => ?_)
  refine x_if_eq hK kX10_standard_4 (q := 7) rfl (tg := 14) rfl (by rcases b0 with e | e <;> rw [e] <;> decide) (fun c4 => ?_) (fun c4 => ?_)
  · refine x_iconst hK kX10_standard_14 (q := 15) rfl ?_
    refine x_ireturn hK kX10_standard_15 (by first | trivial | exact Or.inl rfl | exact Or.inr rfl) ?_
    first
    | exact h1 (b1.mp (by omega))
    | exact h2 (fun q => by have := b1.mpr q; omega)
  · refine x_aload_n hK kX10_standard_7 (q := 8) rfl rfl ?_
    refine x_getfield hK kX10_standard_8 (q := 11) rfl (gX10_223 ?_)
    rw [uF_n _ _ (by decide)]
    refine x_goto hK kX10_standard_11 (tg := 15) rfl ?_
    refine x_ireturn hK kX10_standard_15 (by first | trivial | exact Or.inl rfl | exact Or.inr rfl) ?_
    first
    | exact h1 (b1.mp (by omega))
    | exact h2 (fun q => by have := b1.mpr q; omega)
set_option maxRecDepth 20000 in
theorem mX10_standard : eMet yX10_standard cX10_standard 1 (some .int) 1 20 SX10_standard := eMet_of (by decide +kernel) sX10_standard kX10_standard_ok caX10_standard tb_RX10
theorem wX10_standard : eWV yX10_standard cX10_standard 1 (some .int) 1 9 SX10_standard := ⟨(gW_at 1315 (by decide +kernel) rfl), (gW_at 89 (by decide +kernel) rfl), (gW_at 1313 (by decide +kernel) rfl), ⟨_, rfl, (gW_at 1314 (by decide +kernel) rfl)⟩, by decide +kernel, SX10_standard_r⟩
def SX10_rank : eSp := fun as M rt => ∃ (F : Nat → Int) (A : Nat → Int → Int) (e : Int), as = [eRR, eI e] ∧ M = cR F A ∧ w32 (F 10) ∧ w32 e ∧ ((cFin F ∧ 0 ≤ e ∧ e ≤ 2) → rt (some (eI (A 20 e))) (cR (uF F 12 0) A)) ∧ (¬ (cFin F ∧ 0 ≤ e ∧ e ≤ 2) → rt (some (eI (-1))) (cR (uF F 12 0) A))
theorem SX10_rank_r : ∀ as M rt, SX10_rank as M rt → ∃ a r fs, as = eR a :: r ∧ M a = some (.inl (9, fs)) := by
  rintro as M rt ⟨F, A, e, rfl, rfl, -⟩
  exact ⟨_, _, _, rfl, rfl⟩
def kX10_rank : List (Nat × Jvm.ClassFile.Instr × Nat) := [(0, .aload_n 0, 1), (1, .invokevirtual 274, 3), (4, .ifCond .eq 21, 3), (7, .iload_n 1, 1), (8, .ifCond .lt 17, 3), (11, .iload_n 1, 1), (12, .iconst 2, 1), (13, .if_icmp .gt 12, 3), (16, .aload_n 0, 1), (17, .getfield 55, 3), (20, .iload_n 1, 1), (21, .iaload, 1), (22, .goto 4, 3), (25, .iconst (-1), 1), (26, .ireturn, 1)]
theorem kX10_rank_0 : cdOf kX10_rank 0 = some (.aload_n 0, 1) := by decide +kernel
theorem kX10_rank_1 : cdOf kX10_rank 1 = some (.invokevirtual 274, 3) := by decide +kernel
theorem kX10_rank_4 : cdOf kX10_rank 4 = some (.ifCond .eq 21, 3) := by decide +kernel
theorem kX10_rank_7 : cdOf kX10_rank 7 = some (.iload_n 1, 1) := by decide +kernel
theorem kX10_rank_8 : cdOf kX10_rank 8 = some (.ifCond .lt 17, 3) := by decide +kernel
theorem kX10_rank_11 : cdOf kX10_rank 11 = some (.iload_n 1, 1) := by decide +kernel
theorem kX10_rank_12 : cdOf kX10_rank 12 = some (.iconst 2, 1) := by decide +kernel
theorem kX10_rank_13 : cdOf kX10_rank 13 = some (.if_icmp .gt 12, 3) := by decide +kernel
theorem kX10_rank_16 : cdOf kX10_rank 16 = some (.aload_n 0, 1) := by decide +kernel
theorem kX10_rank_17 : cdOf kX10_rank 17 = some (.getfield 55, 3) := by decide +kernel
theorem kX10_rank_20 : cdOf kX10_rank 20 = some (.iload_n 1, 1) := by decide +kernel
theorem kX10_rank_21 : cdOf kX10_rank 21 = some (.iaload, 1) := by decide +kernel
theorem kX10_rank_22 : cdOf kX10_rank 22 = some (.goto 4, 3) := by decide +kernel
theorem kX10_rank_25 : cdOf kX10_rank 25 = some (.iconst (-1), 1) := by decide +kernel
theorem kX10_rank_26 : cdOf kX10_rank 26 = some (.ireturn, 1) := by decide +kernel
set_option maxRecDepth 20000 in
theorem kX10_rank_ok : ∀ pc i len, cdOf kX10_rank pc = some (i, len) → decode cX10_rank pc = .ok (i, len) ∧ stOK 2 i = true ∧ jOK pc i = true ∧ eLen i len = true := cdOf_ok cX10_rank 2 kX10_rank (by decide +kernel)
def vtX10_rank : Nat → Option (Nat × eSp) := fun k => match k with
  | 274 => some (1, SX10_isFinite)
  | _ => none
theorem vtX10_rank_274 : vtX10_rank 274 = some (1, SX10_isFinite) := rfl
def stX10_rank : Nat → Option (Nat × eSp) := fun _ => none
abbrev TX10_rank : eT := (fl_RX10, cl_RX10, dl_RX10, vtX10_rank, stX10_rank)
set_option maxRecDepth 20000 in
theorem caX10_rank : eCalls RX10 { frames := 1, cells := 0, slots := 0, locals := 20 } TX10_rank := by
  refine ⟨fun k n sp h => ?_, fun k n sp h => ?_⟩
  · dsimp only [TX10_rank] at h
    unfold vtX10_rank at h
    split at h
    · cases h; exact eV_mk mX10_isFinite wX10_isFinite (by decide +kernel) (Or.inl (gW_at 1275 (by decide +kernel) rfl))
    · cases h
  · cases h
set_option maxRecDepth 100000 in
set_option maxHeartbeats 4000000 in
theorem sX10_rank : eSafe TX10_rank (cdOf kX10_rank) 2 (some .int) SX10_rank := by
  intro K rt hK as M h
  obtain ⟨F, A, e, rfl, rfl, h0, he, h1, h2⟩ := h
  refine ⟨by simp [eE], ?_⟩
  simp only [eLoc, eE, List.length_cons, List.length_nil, List.replicate, List.cons_append, List.nil_append, Nat.reduceAdd, Nat.reduceSub]
  refine x_aload_n hK kX10_rank_0 (q := 1) rfl rfl ?_
  refine x_cv1 hK kX10_rank_1 (q := 4) rfl (vtX10_rank_274) (Nat.le_of_ble_eq_true rfl) ?_
  refine SX10_isFinite_i h0 (fun b b0 b1 => ?_)
  refine x_if_eq hK kX10_rank_4 (q := 7) rfl (tg := 25) rfl (by rcases b0 with e | e <;> rw [e] <;> decide) (fun c4 => ?_) (fun c4 => ?_)
  · refine x_iconst hK kX10_rank_25 (q := 26) rfl ?_
    refine x_ireturn hK kX10_rank_26 (by first | trivial | exact Or.inl rfl | exact Or.inr rfl) ?_
    first
    | exact h1 ⟨b1.mp (by omega), by omega, by omega⟩
    | exact h2 (fun q => by have := b1.mpr q.1; omega)
    | exact h2 (fun q => by have := q.2; omega)
  · refine x_iload_n hK kX10_rank_7 (q := 8) rfl rfl ?_
    refine x_if_lt hK kX10_rank_8 (q := 11) rfl (tg := 25) rfl (by exact he) (fun c8 => ?_) (fun c8 => ?_)
    · refine x_iconst hK kX10_rank_25 (q := 26) rfl ?_
      refine x_ireturn hK kX10_rank_26 (by first | trivial | exact Or.inl rfl | exact Or.inr rfl) ?_
      first
      | exact h1 ⟨b1.mp (by omega), by omega, by omega⟩
      | exact h2 (fun q => by have := b1.mpr q.1; omega)
      | exact h2 (fun q => by have := q.2; omega)
    · refine x_iload_n hK kX10_rank_11 (q := 12) rfl rfl ?_
      refine x_iconst hK kX10_rank_12 (q := 13) rfl ?_
      refine x_icmp_gt hK kX10_rank_13 (q := 16) rfl (tg := 25) rfl (by exact ⟨he, by decide⟩) (fun c13 => ?_) (fun c13 => ?_)
      · refine x_iconst hK kX10_rank_25 (q := 26) rfl ?_
        refine x_ireturn hK kX10_rank_26 (by first | trivial | exact Or.inl rfl | exact Or.inr rfl) ?_
        first
        | exact h1 ⟨b1.mp (by omega), by omega, by omega⟩
        | exact h2 (fun q => by have := b1.mpr q.1; omega)
        | exact h2 (fun q => by have := q.2; omega)
      · refine x_aload_n hK kX10_rank_16 (q := 17) rfl rfl ?_
        refine x_getfield hK kX10_rank_17 (q := 20) rfl (gX10_55 ?_)
        refine x_iload_n hK kX10_rank_20 (q := 21) rfl rfl ?_
        refine x_iaload hK kX10_rank_21 (q := 22) rfl (aX10_A20 (by refine ⟨?_, ?_⟩ <;> omega) ?_)
        refine x_goto hK kX10_rank_22 (tg := 26) rfl ?_
        refine x_ireturn hK kX10_rank_26 (by first | trivial | exact Or.inl rfl | exact Or.inr rfl) ?_
        first
        | exact h1 ⟨b1.mp (by omega), by omega, by omega⟩
        | exact h2 (fun q => by have := b1.mpr q.1; omega)
        | exact h2 (fun q => by have := q.2; omega)
set_option maxRecDepth 20000 in
theorem mX10_rank : eMet yX10_rank cX10_rank 2 (some .int) 1 20 SX10_rank := eMet_of (by decide +kernel) sX10_rank kX10_rank_ok caX10_rank tb_RX10
theorem wX10_rank : eWV yX10_rank cX10_rank 2 (some .int) 2 9 SX10_rank := ⟨(gW_at 1339 (by decide +kernel) rfl), (gW_at 89 (by decide +kernel) rfl), (gW_at 1337 (by decide +kernel) rfl), ⟨_, rfl, (gW_at 1338 (by decide +kernel) rfl)⟩, by decide +kernel, SX10_rank_r⟩
-- signature
def SX10_signature : eSp := fun as M rt => ∃ (F : Nat → Int) (A : Nat → Int → Int) (e : Int), as = [eRR, eI e] ∧ M = cR F A ∧ w32 (F 10) ∧ w32 e ∧ ((e < 0 ∨ 2 < e) → rt (some (eI 0)) (cR (uF F 12 1) A)) ∧ (0 ≤ e → e ≤ 2 → ¬ cFin F → rt (some (eI 0)) (cR (uF F 12 2) A)) ∧ (0 ≤ e → e ≤ 2 → cFin F → rt (some (eI (A 21 e))) (cR (uF F 12 0) A))
theorem SX10_signature_r : ∀ as M rt, SX10_signature as M rt → ∃ a r fs, as = eR a :: r ∧ M a = some (.inl (9, fs)) := by
  rintro as M rt ⟨F, A, e, rfl, rfl, -⟩
  exact ⟨_, _, _, rfl, rfl⟩
def kX10_signature : List (Nat × Jvm.ClassFile.Instr × Nat) := [(0, .aload_n 0, 1), (1, .invokevirtual 274, 3), (4, .istore_n 2, 1), (5, .aload_n 0, 1), (6, .iload_n 1, 1), (7, .ifCond .lt 8, 3), (10, .iload_n 1, 1), (11, .iconst 2, 1), (12, .if_icmp .le 7, 3), (15, .iconst 1, 1), (16, .goto 12, 3), (19, .iload_n 2, 1), (20, .ifCond .eq 7, 3), (23, .iconst 0, 1), (24, .goto 4, 3), (27, .iconst 2, 1), (28, .putfield 61, 3), (31, .aload_n 0, 1), (32, .getfield 61, 3), (35, .ifCond .le 7, 3), (38, .iconst 0, 1), (39, .goto 9, 3), (42, .aload_n 0, 1), (43, .getfield 58, 3), (46, .iload_n 1, 1), (47, .iaload, 1), (48, .ireturn, 1)]
theorem kX10_signature_0 : cdOf kX10_signature 0 = some (.aload_n 0, 1) := by decide +kernel
theorem kX10_signature_1 : cdOf kX10_signature 1 = some (.invokevirtual 274, 3) := by decide +kernel
theorem kX10_signature_4 : cdOf kX10_signature 4 = some (.istore_n 2, 1) := by decide +kernel
theorem kX10_signature_5 : cdOf kX10_signature 5 = some (.aload_n 0, 1) := by decide +kernel
theorem kX10_signature_6 : cdOf kX10_signature 6 = some (.iload_n 1, 1) := by decide +kernel
theorem kX10_signature_7 : cdOf kX10_signature 7 = some (.ifCond .lt 8, 3) := by decide +kernel
theorem kX10_signature_10 : cdOf kX10_signature 10 = some (.iload_n 1, 1) := by decide +kernel
theorem kX10_signature_11 : cdOf kX10_signature 11 = some (.iconst 2, 1) := by decide +kernel
theorem kX10_signature_12 : cdOf kX10_signature 12 = some (.if_icmp .le 7, 3) := by decide +kernel
theorem kX10_signature_15 : cdOf kX10_signature 15 = some (.iconst 1, 1) := by decide +kernel
theorem kX10_signature_16 : cdOf kX10_signature 16 = some (.goto 12, 3) := by decide +kernel
theorem kX10_signature_19 : cdOf kX10_signature 19 = some (.iload_n 2, 1) := by decide +kernel
theorem kX10_signature_20 : cdOf kX10_signature 20 = some (.ifCond .eq 7, 3) := by decide +kernel
theorem kX10_signature_23 : cdOf kX10_signature 23 = some (.iconst 0, 1) := by decide +kernel
theorem kX10_signature_24 : cdOf kX10_signature 24 = some (.goto 4, 3) := by decide +kernel
theorem kX10_signature_27 : cdOf kX10_signature 27 = some (.iconst 2, 1) := by decide +kernel
theorem kX10_signature_28 : cdOf kX10_signature 28 = some (.putfield 61, 3) := by decide +kernel
theorem kX10_signature_31 : cdOf kX10_signature 31 = some (.aload_n 0, 1) := by decide +kernel
theorem kX10_signature_32 : cdOf kX10_signature 32 = some (.getfield 61, 3) := by decide +kernel
theorem kX10_signature_35 : cdOf kX10_signature 35 = some (.ifCond .le 7, 3) := by decide +kernel
theorem kX10_signature_38 : cdOf kX10_signature 38 = some (.iconst 0, 1) := by decide +kernel
theorem kX10_signature_39 : cdOf kX10_signature 39 = some (.goto 9, 3) := by decide +kernel
theorem kX10_signature_42 : cdOf kX10_signature 42 = some (.aload_n 0, 1) := by decide +kernel
theorem kX10_signature_43 : cdOf kX10_signature 43 = some (.getfield 58, 3) := by decide +kernel
theorem kX10_signature_46 : cdOf kX10_signature 46 = some (.iload_n 1, 1) := by decide +kernel
theorem kX10_signature_47 : cdOf kX10_signature 47 = some (.iaload, 1) := by decide +kernel
theorem kX10_signature_48 : cdOf kX10_signature 48 = some (.ireturn, 1) := by decide +kernel
set_option maxRecDepth 20000 in
theorem kX10_signature_ok : ∀ pc i len, cdOf kX10_signature pc = some (i, len) → decode cX10_signature pc = .ok (i, len) ∧ stOK 3 i = true ∧ jOK pc i = true ∧ eLen i len = true := cdOf_ok cX10_signature 3 kX10_signature (by decide +kernel)
def vtX10_signature : Nat → Option (Nat × eSp) := fun k => match k with
  | 274 => some (1, SX10_isFinite)
  | _ => none
theorem vtX10_signature_274 : vtX10_signature 274 = some (1, SX10_isFinite) := rfl
def stX10_signature : Nat → Option (Nat × eSp) := fun _ => none
abbrev TX10_signature : eT := (fl_RX10, cl_RX10, dl_RX10, vtX10_signature, stX10_signature)
set_option maxRecDepth 20000 in
theorem caX10_signature : eCalls RX10 { frames := 1, cells := 0, slots := 0, locals := 20 } TX10_signature := by
  refine ⟨fun k n sp h => ?_, fun k n sp h => ?_⟩
  · dsimp only [TX10_signature] at h
    unfold vtX10_signature at h
    split at h
    · cases h; exact eV_mk mX10_isFinite wX10_isFinite (by decide +kernel) (Or.inl (gW_at 1275 (by decide +kernel) rfl))
    · cases h
  · cases h
set_option maxRecDepth 100000 in
set_option maxHeartbeats 4000000 in
theorem sX10_signature : eSafe TX10_signature (cdOf kX10_signature) 3 (some .int) SX10_signature := by
  intro K rt hK as M h
  obtain ⟨F, A, e, rfl, rfl, h0, he, h1, h2, h3⟩ := h
  refine ⟨by simp [eE], ?_⟩
  simp only [eLoc, eE, List.length_cons, List.length_nil, List.replicate, List.cons_append, List.nil_append, Nat.reduceAdd, Nat.reduceSub]
  refine x_aload_n hK kX10_signature_0 (q := 1) rfl rfl ?_
  refine x_cv1 hK kX10_signature_1 (q := 4) rfl (vtX10_signature_274) (Nat.le_of_ble_eq_true rfl) ?_
  refine SX10_isFinite_i h0 (fun b b0 b1 => ?_)
  refine x_istore_n hK kX10_signature_4 (q := 5) (jn := 2) rfl rfl ?_
  refine x_aload_n hK kX10_signature_5 (q := 6) rfl rfl ?_
  refine x_iload_n hK kX10_signature_6 (q := 7) rfl rfl ?_
  simp only [lS, lS2, clr_0, clr_I, clr_L, clr_R]
  refine x_if_lt hK kX10_signature_7 (q := 10) rfl (tg := 15) rfl (by exact he) (fun c7 => ?_) (fun c7 => ?_)
  · refine x_iconst hK kX10_signature_15 (q := 16) rfl ?_
    refine x_goto hK kX10_signature_16 (tg := 28) rfl ?_
    refine x_putfield hK kX10_signature_28 (q := 31) rfl (pX10_61 ?_)
    rw [uF_u]
    refine x_aload_n hK kX10_signature_31 (q := 32) rfl rfl ?_
    refine x_getfield hK kX10_signature_32 (q := 35) rfl (gX10_61 ?_)
    rw [uF_g]
    refine x_if_le hK kX10_signature_35 (q := 38) rfl (tg := 42) rfl (by decide) (fun c35 => ?_) (fun c35 => ?_)
    · refine x_aload_n hK kX10_signature_42 (q := 43) rfl rfl ?_
      refine x_getfield hK kX10_signature_43 (q := 46) rfl (gX10_58 ?_)
      refine x_iload_n hK kX10_signature_46 (q := 47) rfl rfl ?_
      refine x_iaload hK kX10_signature_47 (q := 48) rfl (aX10_A21 (by refine ⟨?_, ?_⟩ <;> omega) ?_)
      refine x_ireturn hK kX10_signature_48 (by first | trivial | exact Or.inl rfl | exact Or.inr rfl) ?_
      first
      | (exfalso; omega)
      | exact h1 (by omega)
      | exact h2 (by omega) (by omega) (fun q => by have := b1.mpr q; omega)
      | exact h3 (by omega) (by omega) (b1.mp (by omega))
    · refine x_iconst hK kX10_signature_38 (q := 39) rfl ?_
      refine x_goto hK kX10_signature_39 (tg := 48) rfl ?_
      refine x_ireturn hK kX10_signature_48 (by first | trivial | exact Or.inl rfl | exact Or.inr rfl) ?_
      first
      | (exfalso; omega)
      | exact h1 (by omega)
      | exact h2 (by omega) (by omega) (fun q => by have := b1.mpr q; omega)
      | exact h3 (by omega) (by omega) (b1.mp (by omega))
  · refine x_iload_n hK kX10_signature_10 (q := 11) rfl rfl ?_
    refine x_iconst hK kX10_signature_11 (q := 12) rfl ?_
    refine x_icmp_le hK kX10_signature_12 (q := 15) rfl (tg := 19) rfl (by exact ⟨he, by decide⟩) (fun c12 => ?_) (fun c12 => ?_)
    · refine x_iload_n hK kX10_signature_19 (q := 20) rfl rfl ?_
      refine x_if_eq hK kX10_signature_20 (q := 23) rfl (tg := 27) rfl (by rcases b0 with e | e <;> rw [e] <;> decide) (fun c20 => ?_) (fun c20 => ?_)
      · refine x_iconst hK kX10_signature_27 (q := 28) rfl ?_
        refine x_putfield hK kX10_signature_28 (q := 31) rfl (pX10_61 ?_)
        rw [uF_u]
        refine x_aload_n hK kX10_signature_31 (q := 32) rfl rfl ?_
        refine x_getfield hK kX10_signature_32 (q := 35) rfl (gX10_61 ?_)
        rw [uF_g]
        refine x_if_le hK kX10_signature_35 (q := 38) rfl (tg := 42) rfl (by decide) (fun c35 => ?_) (fun c35 => ?_)
        · refine x_aload_n hK kX10_signature_42 (q := 43) rfl rfl ?_
          refine x_getfield hK kX10_signature_43 (q := 46) rfl (gX10_58 ?_)
          refine x_iload_n hK kX10_signature_46 (q := 47) rfl rfl ?_
          refine x_iaload hK kX10_signature_47 (q := 48) rfl (aX10_A21 (by refine ⟨?_, ?_⟩ <;> omega) ?_)
          refine x_ireturn hK kX10_signature_48 (by first | trivial | exact Or.inl rfl | exact Or.inr rfl) ?_
          first
          | (exfalso; omega)
          | exact h1 (by omega)
          | exact h2 (by omega) (by omega) (fun q => by have := b1.mpr q; omega)
          | exact h3 (by omega) (by omega) (b1.mp (by omega))
        · refine x_iconst hK kX10_signature_38 (q := 39) rfl ?_
          refine x_goto hK kX10_signature_39 (tg := 48) rfl ?_
          refine x_ireturn hK kX10_signature_48 (by first | trivial | exact Or.inl rfl | exact Or.inr rfl) ?_
          first
          | (exfalso; omega)
          | exact h1 (by omega)
          | exact h2 (by omega) (by omega) (fun q => by have := b1.mpr q; omega)
          | exact h3 (by omega) (by omega) (b1.mp (by omega))
      · refine x_iconst hK kX10_signature_23 (q := 24) rfl ?_
        refine x_goto hK kX10_signature_24 (tg := 28) rfl ?_
        refine x_putfield hK kX10_signature_28 (q := 31) rfl (pX10_61 ?_)
        rw [uF_u]
        refine x_aload_n hK kX10_signature_31 (q := 32) rfl rfl ?_
        refine x_getfield hK kX10_signature_32 (q := 35) rfl (gX10_61 ?_)
        rw [uF_g]
        refine x_if_le hK kX10_signature_35 (q := 38) rfl (tg := 42) rfl (by decide) (fun c35 => ?_) (fun c35 => ?_)
        · refine x_aload_n hK kX10_signature_42 (q := 43) rfl rfl ?_
          refine x_getfield hK kX10_signature_43 (q := 46) rfl (gX10_58 ?_)
          refine x_iload_n hK kX10_signature_46 (q := 47) rfl rfl ?_
          refine x_iaload hK kX10_signature_47 (q := 48) rfl (aX10_A21 (by refine ⟨?_, ?_⟩ <;> omega) ?_)
          refine x_ireturn hK kX10_signature_48 (by first | trivial | exact Or.inl rfl | exact Or.inr rfl) ?_
          first
          | (exfalso; omega)
          | exact h1 (by omega)
          | exact h2 (by omega) (by omega) (fun q => by have := b1.mpr q; omega)
          | exact h3 (by omega) (by omega) (b1.mp (by omega))
        · refine x_iconst hK kX10_signature_38 (q := 39) rfl ?_
          refine x_goto hK kX10_signature_39 (tg := 48) rfl ?_
          refine x_ireturn hK kX10_signature_48 (by first | trivial | exact Or.inl rfl | exact Or.inr rfl) ?_
          first
          | (exfalso; omega)
          | exact h1 (by omega)
          | exact h2 (by omega) (by omega) (fun q => by have := b1.mpr q; omega)
          | exact h3 (by omega) (by omega) (b1.mp (by omega))
    · refine x_iconst hK kX10_signature_15 (q := 16) rfl ?_
      refine x_goto hK kX10_signature_16 (tg := 28) rfl ?_
      refine x_putfield hK kX10_signature_28 (q := 31) rfl (pX10_61 ?_)
      rw [uF_u]
      refine x_aload_n hK kX10_signature_31 (q := 32) rfl rfl ?_
      refine x_getfield hK kX10_signature_32 (q := 35) rfl (gX10_61 ?_)
      rw [uF_g]
      refine x_if_le hK kX10_signature_35 (q := 38) rfl (tg := 42) rfl (by decide) (fun c35 => ?_) (fun c35 => ?_)
      · refine x_aload_n hK kX10_signature_42 (q := 43) rfl rfl ?_
        refine x_getfield hK kX10_signature_43 (q := 46) rfl (gX10_58 ?_)
        refine x_iload_n hK kX10_signature_46 (q := 47) rfl rfl ?_
        refine x_iaload hK kX10_signature_47 (q := 48) rfl (aX10_A21 (by refine ⟨?_, ?_⟩ <;> omega) ?_)
        refine x_ireturn hK kX10_signature_48 (by first | trivial | exact Or.inl rfl | exact Or.inr rfl) ?_
        first
        | (exfalso; omega)
        | exact h1 (by omega)
        | exact h2 (by omega) (by omega) (fun q => by have := b1.mpr q; omega)
        | exact h3 (by omega) (by omega) (b1.mp (by omega))
      · refine x_iconst hK kX10_signature_38 (q := 39) rfl ?_
        refine x_goto hK kX10_signature_39 (tg := 48) rfl ?_
        refine x_ireturn hK kX10_signature_48 (by first | trivial | exact Or.inl rfl | exact Or.inr rfl) ?_
        first
        | (exfalso; omega)
        | exact h1 (by omega)
        | exact h2 (by omega) (by omega) (fun q => by have := b1.mpr q; omega)
        | exact h3 (by omega) (by omega) (b1.mp (by omega))
set_option maxRecDepth 20000 in
theorem mX10_signature : eMet yX10_signature cX10_signature 3 (some .int) 1 20 SX10_signature := eMet_of (by decide +kernel) sX10_signature kX10_signature_ok caX10_signature tb_RX10
theorem wX10_signature : eWV yX10_signature cX10_signature 3 (some .int) 2 9 SX10_signature := ⟨(gW_at 1343 (by decide +kernel) rfl), (gW_at 89 (by decide +kernel) rfl), (gW_at 1341 (by decide +kernel) rfl), ⟨_, rfl, (gW_at 1342 (by decide +kernel) rfl)⟩, by decide +kernel, SX10_signature_r⟩
-- elements, count, member
def SX10_elements : eSp := fun as M rt => ∃ (F : Nat → Int) (A : Nat → Int → Int), as = [eRR] ∧ M = cR F A ∧ w32 (F 10) ∧ (F 10 = -1 → rt (some (eI (-1))) (cR (uF F 12 0) A)) ∧ (F 10 ≠ -1 → rt (some (eI (F 17))) (cR (uF F 12 0) A))
theorem SX10_elements_r : ∀ as M rt, SX10_elements as M rt → ∃ a r fs, as = eR a :: r ∧ M a = some (.inl (9, fs)) := by
  rintro as M rt ⟨F, A, rfl, rfl, -⟩
  exact ⟨_, _, _, rfl, rfl⟩
def kX10_elements : List (Nat × Jvm.ClassFile.Instr × Nat) := [(0, .aload_n 0, 1), (1, .iconst 0, 1), (2, .putfield 61, 3), (5, .aload_n 0, 1), (6, .getfield 42, 3), (9, .iconst (-1), 1), (10, .if_icmp .ne 7, 3), (13, .iconst (-1), 1), (14, .goto 7, 3), (17, .aload_n 0, 1), (18, .getfield 196, 3), (21, .ireturn, 1)]
theorem kX10_elements_0 : cdOf kX10_elements 0 = some (.aload_n 0, 1) := by decide +kernel
theorem kX10_elements_1 : cdOf kX10_elements 1 = some (.iconst 0, 1) := by decide +kernel
theorem kX10_elements_2 : cdOf kX10_elements 2 = some (.putfield 61, 3) := by decide +kernel
theorem kX10_elements_5 : cdOf kX10_elements 5 = some (.aload_n 0, 1) := by decide +kernel
theorem kX10_elements_6 : cdOf kX10_elements 6 = some (.getfield 42, 3) := by decide +kernel
theorem kX10_elements_9 : cdOf kX10_elements 9 = some (.iconst (-1), 1) := by decide +kernel
theorem kX10_elements_10 : cdOf kX10_elements 10 = some (.if_icmp .ne 7, 3) := by decide +kernel
theorem kX10_elements_13 : cdOf kX10_elements 13 = some (.iconst (-1), 1) := by decide +kernel
theorem kX10_elements_14 : cdOf kX10_elements 14 = some (.goto 7, 3) := by decide +kernel
theorem kX10_elements_17 : cdOf kX10_elements 17 = some (.aload_n 0, 1) := by decide +kernel
theorem kX10_elements_18 : cdOf kX10_elements 18 = some (.getfield 196, 3) := by decide +kernel
theorem kX10_elements_21 : cdOf kX10_elements 21 = some (.ireturn, 1) := by decide +kernel
set_option maxRecDepth 20000 in
theorem kX10_elements_ok : ∀ pc i len, cdOf kX10_elements pc = some (i, len) → decode cX10_elements pc = .ok (i, len) ∧ stOK 1 i = true ∧ jOK pc i = true ∧ eLen i len = true := cdOf_ok cX10_elements 1 kX10_elements (by decide +kernel)
def vtX10_elements : Nat → Option (Nat × eSp) := fun _ => none
def stX10_elements : Nat → Option (Nat × eSp) := fun _ => none
abbrev TX10_elements : eT := (fl_RX10, cl_RX10, dl_RX10, vtX10_elements, stX10_elements)
set_option maxRecDepth 20000 in
theorem caX10_elements : eCalls RX10 { frames := 0, cells := 0, slots := 0, locals := 0 } TX10_elements := by
  refine ⟨fun k n sp h => ?_, fun k n sp h => ?_⟩
  · cases h
  · cases h
set_option maxRecDepth 100000 in
set_option maxHeartbeats 4000000 in
theorem sX10_elements : eSafe TX10_elements (cdOf kX10_elements) 1 (some .int) SX10_elements := by
  intro K rt hK as M h
  obtain ⟨F, A, rfl, rfl, h0, h1, h2⟩ := h
  refine ⟨by simp [eE], ?_⟩
  simp only [eLoc, eE, List.length_cons, List.length_nil, List.replicate, List.cons_append, List.nil_append, Nat.reduceAdd, Nat.reduceSub]
  refine x_aload_n hK kX10_elements_0 (q := 1) rfl rfl ?_
  refine x_iconst hK kX10_elements_1 (q := 2) rfl ?_
  refine x_putfield hK kX10_elements_2 (q := 5) rfl (pX10_61 ?_)
  refine x_aload_n hK kX10_elements_5 (q := 6) rfl rfl ?_
  refine x_getfield hK kX10_elements_6 (q := 9) rfl (gX10_42 ?_)
  rw [uF_n _ _ (by decide)]
  refine x_iconst hK kX10_elements_9 (q := 10) rfl ?_
  refine x_icmp_ne hK kX10_elements_10 (q := 13) rfl (tg := 17) rfl (by exact ⟨h0, by decide⟩) (fun c10 => ?_) (fun c10 => ?_)
  · refine x_aload_n hK kX10_elements_17 (q := 18) rfl rfl ?_
    refine x_getfield hK kX10_elements_18 (q := 21) rfl (gX10_196 ?_)
    try rw [uF_n _ _ (by decide)]
    refine x_ireturn hK kX10_elements_21 (by first | trivial | exact Or.inl rfl | exact Or.inr rfl) ?_
    first
    | exact h1 (by omega)
    | exact h2 (by omega)
  · refine x_iconst hK kX10_elements_13 (q := 14) rfl ?_
    refine x_goto hK kX10_elements_14 (tg := 21) rfl ?_
    try rw [uF_n _ _ (by decide)]
    refine x_ireturn hK kX10_elements_21 (by first | trivial | exact Or.inl rfl | exact Or.inr rfl) ?_
    first
    | exact h1 (by omega)
    | exact h2 (by omega)
set_option maxRecDepth 20000 in
theorem mX10_elements : eMet yX10_elements cX10_elements 1 (some .int) 0 0 SX10_elements := eMet_of (by decide +kernel) sX10_elements kX10_elements_ok caX10_elements tb_RX10
theorem wX10_elements : eWV yX10_elements cX10_elements 1 (some .int) 1 9 SX10_elements := ⟨(gW_at 1286 (by decide +kernel) rfl), (gW_at 89 (by decide +kernel) rfl), (gW_at 1284 (by decide +kernel) rfl), ⟨_, rfl, (gW_at 1285 (by decide +kernel) rfl)⟩, by decide +kernel, SX10_elements_r⟩
def SX10_count : eSp := fun as M rt => ∃ (F : Nat → Int) (A : Nat → Int → Int) (w : Int), as = [eRR, eI w] ∧ M = cR F A ∧ w32 w ∧ rt (some (eI (if w = 0 then F 6 else if w = 1 then F 11 else if w = 2 then F 10 else -1))) (cR (uF F 12 0) A)
theorem SX10_count_r : ∀ as M rt, SX10_count as M rt → ∃ a r fs, as = eR a :: r ∧ M a = some (.inl (9, fs)) := by
  rintro as M rt ⟨F, A, w, rfl, rfl, -⟩
  exact ⟨_, _, _, rfl, rfl⟩
def kX10_count : List (Nat × Jvm.ClassFile.Instr × Nat) := [(0, .aload_n 0, 1), (1, .iconst 0, 1), (2, .putfield 61, 3), (5, .iload_n 1, 1), (6, .ifCond .ne 10, 3), (9, .aload_n 0, 1), (10, .getfield 199, 3), (13, .goto 28, 3), (16, .iload_n 1, 1), (17, .iconst 1, 1), (18, .if_icmp .ne 10, 3), (21, .aload_n 0, 1), (22, .getfield 214, 3), (25, .goto 16, 3), (28, .iload_n 1, 1), (29, .iconst 2, 1), (30, .if_icmp .ne 10, 3), (33, .aload_n 0, 1), (34, .getfield 42, 3), (37, .goto 4, 3), (40, .iconst (-1), 1), (41, .ireturn, 1)]
theorem kX10_count_0 : cdOf kX10_count 0 = some (.aload_n 0, 1) := by decide +kernel
theorem kX10_count_1 : cdOf kX10_count 1 = some (.iconst 0, 1) := by decide +kernel
theorem kX10_count_2 : cdOf kX10_count 2 = some (.putfield 61, 3) := by decide +kernel
theorem kX10_count_5 : cdOf kX10_count 5 = some (.iload_n 1, 1) := by decide +kernel
theorem kX10_count_6 : cdOf kX10_count 6 = some (.ifCond .ne 10, 3) := by decide +kernel
theorem kX10_count_9 : cdOf kX10_count 9 = some (.aload_n 0, 1) := by decide +kernel
theorem kX10_count_10 : cdOf kX10_count 10 = some (.getfield 199, 3) := by decide +kernel
theorem kX10_count_13 : cdOf kX10_count 13 = some (.goto 28, 3) := by decide +kernel
theorem kX10_count_16 : cdOf kX10_count 16 = some (.iload_n 1, 1) := by decide +kernel
theorem kX10_count_17 : cdOf kX10_count 17 = some (.iconst 1, 1) := by decide +kernel
theorem kX10_count_18 : cdOf kX10_count 18 = some (.if_icmp .ne 10, 3) := by decide +kernel
theorem kX10_count_21 : cdOf kX10_count 21 = some (.aload_n 0, 1) := by decide +kernel
theorem kX10_count_22 : cdOf kX10_count 22 = some (.getfield 214, 3) := by decide +kernel
theorem kX10_count_25 : cdOf kX10_count 25 = some (.goto 16, 3) := by decide +kernel
theorem kX10_count_28 : cdOf kX10_count 28 = some (.iload_n 1, 1) := by decide +kernel
theorem kX10_count_29 : cdOf kX10_count 29 = some (.iconst 2, 1) := by decide +kernel
theorem kX10_count_30 : cdOf kX10_count 30 = some (.if_icmp .ne 10, 3) := by decide +kernel
theorem kX10_count_33 : cdOf kX10_count 33 = some (.aload_n 0, 1) := by decide +kernel
theorem kX10_count_34 : cdOf kX10_count 34 = some (.getfield 42, 3) := by decide +kernel
theorem kX10_count_37 : cdOf kX10_count 37 = some (.goto 4, 3) := by decide +kernel
theorem kX10_count_40 : cdOf kX10_count 40 = some (.iconst (-1), 1) := by decide +kernel
theorem kX10_count_41 : cdOf kX10_count 41 = some (.ireturn, 1) := by decide +kernel
set_option maxRecDepth 20000 in
theorem kX10_count_ok : ∀ pc i len, cdOf kX10_count pc = some (i, len) → decode cX10_count pc = .ok (i, len) ∧ stOK 2 i = true ∧ jOK pc i = true ∧ eLen i len = true := cdOf_ok cX10_count 2 kX10_count (by decide +kernel)
def vtX10_count : Nat → Option (Nat × eSp) := fun _ => none
def stX10_count : Nat → Option (Nat × eSp) := fun _ => none
abbrev TX10_count : eT := (fl_RX10, cl_RX10, dl_RX10, vtX10_count, stX10_count)
set_option maxRecDepth 20000 in
theorem caX10_count : eCalls RX10 { frames := 0, cells := 0, slots := 0, locals := 0 } TX10_count := by
  refine ⟨fun k n sp h => ?_, fun k n sp h => ?_⟩
  · cases h
  · cases h
set_option maxRecDepth 100000 in
set_option maxHeartbeats 4000000 in
theorem sX10_count : eSafe TX10_count (cdOf kX10_count) 2 (some .int) SX10_count := by
  intro K rt hK as M h
  obtain ⟨F, A, w, rfl, rfl, h0, h⟩ := h
  refine ⟨by simp [eE], ?_⟩
  simp only [eLoc, eE, List.length_cons, List.length_nil, List.replicate, List.cons_append, List.nil_append, Nat.reduceAdd, Nat.reduceSub]
  refine x_aload_n hK kX10_count_0 (q := 1) rfl rfl ?_
  refine x_iconst hK kX10_count_1 (q := 2) rfl ?_
  refine x_putfield hK kX10_count_2 (q := 5) rfl (pX10_61 ?_)
  refine x_iload_n hK kX10_count_5 (q := 6) rfl rfl ?_
  refine x_if_ne hK kX10_count_6 (q := 9) rfl (tg := 16) rfl (by exact h0) (fun c6 => ?_) (fun c6 => ?_)
  · refine x_iload_n hK kX10_count_16 (q := 17) rfl rfl ?_
    refine x_iconst hK kX10_count_17 (q := 18) rfl ?_
    refine x_icmp_ne hK kX10_count_18 (q := 21) rfl (tg := 28) rfl (by exact ⟨h0, by decide⟩) (fun c18 => ?_) (fun c18 => ?_)
    · refine x_iload_n hK kX10_count_28 (q := 29) rfl rfl ?_
      refine x_iconst hK kX10_count_29 (q := 30) rfl ?_
      refine x_icmp_ne hK kX10_count_30 (q := 33) rfl (tg := 40) rfl (by exact ⟨h0, by decide⟩) (fun c30 => ?_) (fun c30 => ?_)
      · refine x_iconst hK kX10_count_40 (q := 41) rfl ?_
        try rw [uF_n _ _ (by decide)]
        refine x_ireturn hK kX10_count_41 (by first | trivial | exact Or.inl rfl | exact Or.inr rfl) ?_
        first
        | (rw [if_pos (show w = 0 by omega)] at h; exact h)
        | (rw [if_neg (show ¬ w = 0 by omega), if_pos (show w = 1 by omega)] at h; exact h)
        | (rw [if_neg (show ¬ w = 0 by omega), if_neg (show ¬ w = 1 by omega), if_pos (show w = 2 by omega)] at h; exact h)
        | (rw [if_neg (show ¬ w = 0 by omega), if_neg (show ¬ w = 1 by omega), if_neg (show ¬ w = 2 by omega)] at h; exact h)
      · refine x_aload_n hK kX10_count_33 (q := 34) rfl rfl ?_
        refine x_getfield hK kX10_count_34 (q := 37) rfl (gX10_42 ?_)
        refine x_goto hK kX10_count_37 (tg := 41) rfl ?_
        try rw [uF_n _ _ (by decide)]
        refine x_ireturn hK kX10_count_41 (by first | trivial | exact Or.inl rfl | exact Or.inr rfl) ?_
        first
        | (rw [if_pos (show w = 0 by omega)] at h; exact h)
        | (rw [if_neg (show ¬ w = 0 by omega), if_pos (show w = 1 by omega)] at h; exact h)
        | (rw [if_neg (show ¬ w = 0 by omega), if_neg (show ¬ w = 1 by omega), if_pos (show w = 2 by omega)] at h; exact h)
        | (rw [if_neg (show ¬ w = 0 by omega), if_neg (show ¬ w = 1 by omega), if_neg (show ¬ w = 2 by omega)] at h; exact h)
    · refine x_aload_n hK kX10_count_21 (q := 22) rfl rfl ?_
      refine x_getfield hK kX10_count_22 (q := 25) rfl (gX10_214 ?_)
      refine x_goto hK kX10_count_25 (tg := 41) rfl ?_
      try rw [uF_n _ _ (by decide)]
      refine x_ireturn hK kX10_count_41 (by first | trivial | exact Or.inl rfl | exact Or.inr rfl) ?_
      first
      | (rw [if_pos (show w = 0 by omega)] at h; exact h)
      | (rw [if_neg (show ¬ w = 0 by omega), if_pos (show w = 1 by omega)] at h; exact h)
      | (rw [if_neg (show ¬ w = 0 by omega), if_neg (show ¬ w = 1 by omega), if_pos (show w = 2 by omega)] at h; exact h)
      | (rw [if_neg (show ¬ w = 0 by omega), if_neg (show ¬ w = 1 by omega), if_neg (show ¬ w = 2 by omega)] at h; exact h)
  · refine x_aload_n hK kX10_count_9 (q := 10) rfl rfl ?_
    refine x_getfield hK kX10_count_10 (q := 13) rfl (gX10_199 ?_)
    refine x_goto hK kX10_count_13 (tg := 41) rfl ?_
    try rw [uF_n _ _ (by decide)]
    refine x_ireturn hK kX10_count_41 (by first | trivial | exact Or.inl rfl | exact Or.inr rfl) ?_
    first
    | (rw [if_pos (show w = 0 by omega)] at h; exact h)
    | (rw [if_neg (show ¬ w = 0 by omega), if_pos (show w = 1 by omega)] at h; exact h)
    | (rw [if_neg (show ¬ w = 0 by omega), if_neg (show ¬ w = 1 by omega), if_pos (show w = 2 by omega)] at h; exact h)
    | (rw [if_neg (show ¬ w = 0 by omega), if_neg (show ¬ w = 1 by omega), if_neg (show ¬ w = 2 by omega)] at h; exact h)
set_option maxRecDepth 20000 in
theorem mX10_count : eMet yX10_count cX10_count 2 (some .int) 0 0 SX10_count := eMet_of (by decide +kernel) sX10_count kX10_count_ok caX10_count tb_RX10
theorem wX10_count : eWV yX10_count cX10_count 2 (some .int) 2 9 SX10_count := ⟨(gW_at 1355 (by decide +kernel) rfl), (gW_at 89 (by decide +kernel) rfl), (gW_at 1353 (by decide +kernel) rfl), ⟨_, rfl, (gW_at 1354 (by decide +kernel) rfl)⟩, by decide +kernel, SX10_count_r⟩
def SX10_member : eSp := fun as M rt => ∃ (F : Nat → Int) (A : Nat → Int → Int), as = [eRR] ∧ M = cR F A ∧ w32 (F 10) ∧ (F 22 = 0 ∨ F 22 = 1) ∧ (F 10 = -1 → rt (some (eI (-1))) (cR (uF F 12 0) A)) ∧ (F 10 ≠ -1 → rt (some (eI (F 22))) (cR (uF F 12 0) A))
theorem SX10_member_r : ∀ as M rt, SX10_member as M rt → ∃ a r fs, as = eR a :: r ∧ M a = some (.inl (9, fs)) := by
  rintro as M rt ⟨F, A, rfl, rfl, -⟩
  exact ⟨_, _, _, rfl, rfl⟩
def kX10_member : List (Nat × Jvm.ClassFile.Instr × Nat) := [(0, .aload_n 0, 1), (1, .iconst 0, 1), (2, .putfield 61, 3), (5, .aload_n 0, 1), (6, .getfield 42, 3), (9, .iconst (-1), 1), (10, .if_icmp .ne 7, 3), (13, .iconst (-1), 1), (14, .goto 15, 3), (17, .aload_n 0, 1), (18, .getfield 235, 3), (21, .ifCond .eq 7, 3), (24, .iconst 1, 1), (25, .goto 4, 3), (28, .iconst 0, 1), (29, .ireturn, 1)]
theorem kX10_member_0 : cdOf kX10_member 0 = some (.aload_n 0, 1) := by decide +kernel
theorem kX10_member_1 : cdOf kX10_member 1 = some (.iconst 0, 1) := by decide +kernel
theorem kX10_member_2 : cdOf kX10_member 2 = some (.putfield 61, 3) := by decide +kernel
theorem kX10_member_5 : cdOf kX10_member 5 = some (.aload_n 0, 1) := by decide +kernel
theorem kX10_member_6 : cdOf kX10_member 6 = some (.getfield 42, 3) := by decide +kernel
theorem kX10_member_9 : cdOf kX10_member 9 = some (.iconst (-1), 1) := by decide +kernel
theorem kX10_member_10 : cdOf kX10_member 10 = some (.if_icmp .ne 7, 3) := by decide +kernel
theorem kX10_member_13 : cdOf kX10_member 13 = some (.iconst (-1), 1) := by decide +kernel
theorem kX10_member_14 : cdOf kX10_member 14 = some (.goto 15, 3) := by decide +kernel
theorem kX10_member_17 : cdOf kX10_member 17 = some (.aload_n 0, 1) := by decide +kernel
theorem kX10_member_18 : cdOf kX10_member 18 = some (.getfield 235, 3) := by decide +kernel
theorem kX10_member_21 : cdOf kX10_member 21 = some (.ifCond .eq 7, 3) := by decide +kernel
theorem kX10_member_24 : cdOf kX10_member 24 = some (.iconst 1, 1) := by decide +kernel
theorem kX10_member_25 : cdOf kX10_member 25 = some (.goto 4, 3) := by decide +kernel
theorem kX10_member_28 : cdOf kX10_member 28 = some (.iconst 0, 1) := by decide +kernel
theorem kX10_member_29 : cdOf kX10_member 29 = some (.ireturn, 1) := by decide +kernel
set_option maxRecDepth 20000 in
theorem kX10_member_ok : ∀ pc i len, cdOf kX10_member pc = some (i, len) → decode cX10_member pc = .ok (i, len) ∧ stOK 1 i = true ∧ jOK pc i = true ∧ eLen i len = true := cdOf_ok cX10_member 1 kX10_member (by decide +kernel)
def vtX10_member : Nat → Option (Nat × eSp) := fun _ => none
def stX10_member : Nat → Option (Nat × eSp) := fun _ => none
abbrev TX10_member : eT := (fl_RX10, cl_RX10, dl_RX10, vtX10_member, stX10_member)
set_option maxRecDepth 20000 in
theorem caX10_member : eCalls RX10 { frames := 0, cells := 0, slots := 0, locals := 0 } TX10_member := by
  refine ⟨fun k n sp h => ?_, fun k n sp h => ?_⟩
  · cases h
  · cases h
set_option maxRecDepth 100000 in
set_option maxHeartbeats 4000000 in
theorem sX10_member : eSafe TX10_member (cdOf kX10_member) 1 (some .int) SX10_member := by
  intro K rt hK as M h
  obtain ⟨F, A, rfl, rfl, h0, hb, h1, h2⟩ := h
  refine ⟨by simp [eE], ?_⟩
  have wb : w32 (F 22) := by rcases hb with e | e <;> rw [e] <;> decide
  simp only [eLoc, eE, List.length_cons, List.length_nil, List.replicate, List.cons_append, List.nil_append, Nat.reduceAdd, Nat.reduceSub]
  refine x_aload_n hK kX10_member_0 (q := 1) rfl rfl ?_
  refine x_iconst hK kX10_member_1 (q := 2) rfl ?_
  refine x_putfield hK kX10_member_2 (q := 5) rfl (pX10_61 ?_)
  refine x_aload_n hK kX10_member_5 (q := 6) rfl rfl ?_
  refine x_getfield hK kX10_member_6 (q := 9) rfl (gX10_42 ?_)
  rw [uF_n _ _ (by decide)]
  refine x_iconst hK kX10_member_9 (q := 10) rfl ?_
  refine x_icmp_ne hK kX10_member_10 (q := 13) rfl (tg := 17) rfl (by exact ⟨h0, by decide⟩) (fun c10 => ?_) (fun c10 => ?_)
  · refine x_aload_n hK kX10_member_17 (q := 18) rfl rfl ?_
    refine x_getfield hK kX10_member_18 (q := 21) rfl (gX10_235 ?_)
    rw [uF_n _ _ (by decide)]
    refine x_if_eq hK kX10_member_21 (q := 24) rfl (tg := 28) rfl (by exact wb) (fun c21 => ?_) (fun c21 => ?_)
    · refine x_iconst hK kX10_member_28 (q := 29) rfl ?_
      refine x_ireturn hK kX10_member_29 (by first | trivial | exact Or.inl rfl | exact Or.inr rfl) ?_
      first
      | exact h1 (by omega)
      | (have e1 := h2 (by omega); rw [show F 22 = 0 by omega] at e1; exact e1)
      | (have e1 := h2 (by omega); rw [show F 22 = 1 by omega] at e1; exact e1)
    · refine x_iconst hK kX10_member_24 (q := 25) rfl ?_
      refine x_goto hK kX10_member_25 (tg := 29) rfl ?_
      refine x_ireturn hK kX10_member_29 (by first | trivial | exact Or.inl rfl | exact Or.inr rfl) ?_
      first
      | exact h1 (by omega)
      | (have e1 := h2 (by omega); rw [show F 22 = 0 by omega] at e1; exact e1)
      | (have e1 := h2 (by omega); rw [show F 22 = 1 by omega] at e1; exact e1)
  · refine x_iconst hK kX10_member_13 (q := 14) rfl ?_
    refine x_goto hK kX10_member_14 (tg := 29) rfl ?_
    refine x_ireturn hK kX10_member_29 (by first | trivial | exact Or.inl rfl | exact Or.inr rfl) ?_
    first
    | exact h1 (by omega)
    | (have e1 := h2 (by omega); rw [show F 22 = 0 by omega] at e1; exact e1)
    | (have e1 := h2 (by omega); rw [show F 22 = 1 by omega] at e1; exact e1)
set_option maxRecDepth 20000 in
theorem mX10_member : eMet yX10_member cX10_member 1 (some .int) 0 0 SX10_member := eMet_of (by decide +kernel) sX10_member kX10_member_ok caX10_member tb_RX10
theorem wX10_member : eWV yX10_member cX10_member 1 (some .int) 1 9 SX10_member := ⟨(gW_at 1351 (by decide +kernel) rfl), (gW_at 89 (by decide +kernel) rfl), (gW_at 1349 (by decide +kernel) rfl), ⟨_, rfl, (gW_at 1350 (by decide +kernel) rfl)⟩, by decide +kernel, SX10_member_r⟩
-- real
def rRe (S : Int → Int) (x : Int) : Int := if x = 2 then S 0 else if x = 1 then (S 2 + S 1).tdiv 2 else if x = 0 then S 0 - S 2 else (S 2 - S 1).tdiv 2
def SX10_real : eSp := fun as M rt => ∃ (F : Nat → Int) (A : Nat → Int → Int) (x : Int), as = [eRR, eI x] ∧ M = cR F A ∧ w32 (F 10) ∧ w32 x ∧ (cFin F → (-100 ≤ A 21 1 ∧ A 21 1 ≤ 100) ∧ -100 ≤ A 21 2 ∧ A 21 2 ≤ 100) ∧ ((cFin F ∧ -1 ≤ x ∧ x ≤ 2) → rt (some (eI (rRe (A 21) x))) (cR (uF F 12 0) A)) ∧ (¬ (cFin F ∧ -1 ≤ x ∧ x ≤ 2) → rt (some (eI (-1))) (cR (uF F 12 0) A))
theorem SX10_real_r : ∀ as M rt, SX10_real as M rt → ∃ a r fs, as = eR a :: r ∧ M a = some (.inl (9, fs)) := by
  rintro as M rt ⟨F, A, x, rfl, rfl, -⟩
  exact ⟨_, _, _, rfl, rfl⟩
def kX10_real : List (Nat × Jvm.ClassFile.Instr × Nat) := [(0, .aload_n 0, 1), (1, .invokevirtual 274, 3), (4, .ifCond .eq 13, 3), (7, .iload_n 1, 1), (8, .iconst (-1), 1), (9, .if_icmp .lt 8, 3), (12, .iload_n 1, 1), (13, .iconst 2, 1), (14, .if_icmp .le 5, 3), (17, .iconst (-1), 1), (18, .ireturn, 1), (19, .iload_n 1, 1), (20, .tableswitch 65 0 2 #[51, 35, 28], 28), (48, .aload_n 0, 1), (49, .getfield 58, 3), (52, .iconst 0, 1), (53, .iaload, 1), (54, .ireturn, 1), (55, .aload_n 0, 1), (56, .getfield 58, 3), (59, .iconst 2, 1), (60, .iaload, 1), (61, .aload_n 0, 1), (62, .getfield 58, 3), (65, .iconst 1, 1), (66, .iaload, 1), (67, .iadd, 1), (68, .iconst 2, 1), (69, .idiv, 1), (70, .ireturn, 1), (71, .aload_n 0, 1), (72, .getfield 58, 3), (75, .iconst 0, 1), (76, .iaload, 1), (77, .aload_n 0, 1), (78, .getfield 58, 3), (81, .iconst 2, 1), (82, .iaload, 1), (83, .isub, 1), (84, .ireturn, 1), (85, .aload_n 0, 1), (86, .getfield 58, 3), (89, .iconst 2, 1), (90, .iaload, 1), (91, .aload_n 0, 1), (92, .getfield 58, 3), (95, .iconst 1, 1), (96, .iaload, 1), (97, .isub, 1), (98, .iconst 2, 1), (99, .idiv, 1), (100, .ireturn, 1)]
theorem kX10_real_0 : cdOf kX10_real 0 = some (.aload_n 0, 1) := by decide +kernel
theorem kX10_real_1 : cdOf kX10_real 1 = some (.invokevirtual 274, 3) := by decide +kernel
theorem kX10_real_4 : cdOf kX10_real 4 = some (.ifCond .eq 13, 3) := by decide +kernel
theorem kX10_real_7 : cdOf kX10_real 7 = some (.iload_n 1, 1) := by decide +kernel
theorem kX10_real_8 : cdOf kX10_real 8 = some (.iconst (-1), 1) := by decide +kernel
theorem kX10_real_9 : cdOf kX10_real 9 = some (.if_icmp .lt 8, 3) := by decide +kernel
theorem kX10_real_12 : cdOf kX10_real 12 = some (.iload_n 1, 1) := by decide +kernel
theorem kX10_real_13 : cdOf kX10_real 13 = some (.iconst 2, 1) := by decide +kernel
theorem kX10_real_14 : cdOf kX10_real 14 = some (.if_icmp .le 5, 3) := by decide +kernel
theorem kX10_real_17 : cdOf kX10_real 17 = some (.iconst (-1), 1) := by decide +kernel
theorem kX10_real_18 : cdOf kX10_real 18 = some (.ireturn, 1) := by decide +kernel
theorem kX10_real_19 : cdOf kX10_real 19 = some (.iload_n 1, 1) := by decide +kernel
theorem kX10_real_20 : cdOf kX10_real 20 = some (.tableswitch 65 0 2 #[51, 35, 28], 28) := by decide +kernel
theorem kX10_real_48 : cdOf kX10_real 48 = some (.aload_n 0, 1) := by decide +kernel
theorem kX10_real_49 : cdOf kX10_real 49 = some (.getfield 58, 3) := by decide +kernel
theorem kX10_real_52 : cdOf kX10_real 52 = some (.iconst 0, 1) := by decide +kernel
theorem kX10_real_53 : cdOf kX10_real 53 = some (.iaload, 1) := by decide +kernel
theorem kX10_real_54 : cdOf kX10_real 54 = some (.ireturn, 1) := by decide +kernel
theorem kX10_real_55 : cdOf kX10_real 55 = some (.aload_n 0, 1) := by decide +kernel
theorem kX10_real_56 : cdOf kX10_real 56 = some (.getfield 58, 3) := by decide +kernel
theorem kX10_real_59 : cdOf kX10_real 59 = some (.iconst 2, 1) := by decide +kernel
theorem kX10_real_60 : cdOf kX10_real 60 = some (.iaload, 1) := by decide +kernel
theorem kX10_real_61 : cdOf kX10_real 61 = some (.aload_n 0, 1) := by decide +kernel
theorem kX10_real_62 : cdOf kX10_real 62 = some (.getfield 58, 3) := by decide +kernel
theorem kX10_real_65 : cdOf kX10_real 65 = some (.iconst 1, 1) := by decide +kernel
theorem kX10_real_66 : cdOf kX10_real 66 = some (.iaload, 1) := by decide +kernel
theorem kX10_real_67 : cdOf kX10_real 67 = some (.iadd, 1) := by decide +kernel
theorem kX10_real_68 : cdOf kX10_real 68 = some (.iconst 2, 1) := by decide +kernel
theorem kX10_real_69 : cdOf kX10_real 69 = some (.idiv, 1) := by decide +kernel
theorem kX10_real_70 : cdOf kX10_real 70 = some (.ireturn, 1) := by decide +kernel
theorem kX10_real_71 : cdOf kX10_real 71 = some (.aload_n 0, 1) := by decide +kernel
theorem kX10_real_72 : cdOf kX10_real 72 = some (.getfield 58, 3) := by decide +kernel
theorem kX10_real_75 : cdOf kX10_real 75 = some (.iconst 0, 1) := by decide +kernel
theorem kX10_real_76 : cdOf kX10_real 76 = some (.iaload, 1) := by decide +kernel
theorem kX10_real_77 : cdOf kX10_real 77 = some (.aload_n 0, 1) := by decide +kernel
theorem kX10_real_78 : cdOf kX10_real 78 = some (.getfield 58, 3) := by decide +kernel
theorem kX10_real_81 : cdOf kX10_real 81 = some (.iconst 2, 1) := by decide +kernel
theorem kX10_real_82 : cdOf kX10_real 82 = some (.iaload, 1) := by decide +kernel
theorem kX10_real_83 : cdOf kX10_real 83 = some (.isub, 1) := by decide +kernel
theorem kX10_real_84 : cdOf kX10_real 84 = some (.ireturn, 1) := by decide +kernel
theorem kX10_real_85 : cdOf kX10_real 85 = some (.aload_n 0, 1) := by decide +kernel
theorem kX10_real_86 : cdOf kX10_real 86 = some (.getfield 58, 3) := by decide +kernel
theorem kX10_real_89 : cdOf kX10_real 89 = some (.iconst 2, 1) := by decide +kernel
theorem kX10_real_90 : cdOf kX10_real 90 = some (.iaload, 1) := by decide +kernel
theorem kX10_real_91 : cdOf kX10_real 91 = some (.aload_n 0, 1) := by decide +kernel
theorem kX10_real_92 : cdOf kX10_real 92 = some (.getfield 58, 3) := by decide +kernel
theorem kX10_real_95 : cdOf kX10_real 95 = some (.iconst 1, 1) := by decide +kernel
theorem kX10_real_96 : cdOf kX10_real 96 = some (.iaload, 1) := by decide +kernel
theorem kX10_real_97 : cdOf kX10_real 97 = some (.isub, 1) := by decide +kernel
theorem kX10_real_98 : cdOf kX10_real 98 = some (.iconst 2, 1) := by decide +kernel
theorem kX10_real_99 : cdOf kX10_real 99 = some (.idiv, 1) := by decide +kernel
theorem kX10_real_100 : cdOf kX10_real 100 = some (.ireturn, 1) := by decide +kernel
set_option maxRecDepth 20000 in
theorem kX10_real_ok : ∀ pc i len, cdOf kX10_real pc = some (i, len) → decode cX10_real pc = .ok (i, len) ∧ stOK 2 i = true ∧ jOK pc i = true ∧ eLen i len = true := cdOf_ok cX10_real 2 kX10_real (by decide +kernel)
def vtX10_real : Nat → Option (Nat × eSp) := fun k => match k with
  | 274 => some (1, SX10_isFinite)
  | _ => none
theorem vtX10_real_274 : vtX10_real 274 = some (1, SX10_isFinite) := rfl
def stX10_real : Nat → Option (Nat × eSp) := fun _ => none
abbrev TX10_real : eT := (fl_RX10, cl_RX10, dl_RX10, vtX10_real, stX10_real)
set_option maxRecDepth 20000 in
theorem caX10_real : eCalls RX10 { frames := 1, cells := 0, slots := 0, locals := 20 } TX10_real := by
  refine ⟨fun k n sp h => ?_, fun k n sp h => ?_⟩
  · dsimp only [TX10_real] at h
    unfold vtX10_real at h
    split at h
    · cases h; exact eV_mk mX10_isFinite wX10_isFinite (by decide +kernel) (Or.inl (gW_at 1275 (by decide +kernel) rfl))
    · cases h
  · cases h
set_option maxRecDepth 100000 in
set_option maxHeartbeats 4000000 in
theorem sX10_real : eSafe TX10_real (cdOf kX10_real) 2 (some .int) SX10_real := by
  intro K rt hK as M h
  obtain ⟨F, A, x, rfl, rfl, h0, hx, hb, h1, h2⟩ := h
  refine ⟨by simp [eE], ?_⟩
  have sw : cFin F → -1 ≤ x → x ≤ 2 → ∀ b : Int, K 19 [some eRR, some (eI x)] [] (cR (uF F 12 0) A) := by
    intro hf x0 x1 b
    obtain ⟨⟨s1, s2⟩, s3, s4⟩ := hb hf
    have g1 := h1 ⟨hf, x0, x1⟩
    have q2 : x = 2 → K 48 [some eRR, some (eI x)] [] (cR (uF F 12 0) A) := by
      intro e
      refine x_aload_n hK kX10_real_48 (q := 49) rfl rfl ?_
      refine x_getfield hK kX10_real_49 (q := 52) rfl (gX10_58 ?_)
      refine x_iconst hK kX10_real_52 (q := 53) rfl ?_
      refine x_iaload hK kX10_real_53 (q := 54) rfl (aX10_A21 (by refine ⟨?_, ?_⟩ <;> omega) ?_)
      refine x_ireturn hK kX10_real_54 (by first | trivial | exact Or.inl rfl | exact Or.inr rfl) ?_
      unfold rRe at g1
      rw [if_pos e] at g1
      exact g1
    have q1 : x = 1 → K 55 [some eRR, some (eI x)] [] (cR (uF F 12 0) A) := by
      intro e
      refine x_aload_n hK kX10_real_55 (q := 56) rfl rfl ?_
      refine x_getfield hK kX10_real_56 (q := 59) rfl (gX10_58 ?_)
      refine x_iconst hK kX10_real_59 (q := 60) rfl ?_
      refine x_iaload hK kX10_real_60 (q := 61) rfl (aX10_A21 (by refine ⟨?_, ?_⟩ <;> omega) ?_)
      refine x_aload_n hK kX10_real_61 (q := 62) rfl rfl ?_
      refine x_getfield hK kX10_real_62 (q := 65) rfl (gX10_58 ?_)
      refine x_iconst hK kX10_real_65 (q := 66) rfl ?_
      refine x_iaload hK kX10_real_66 (q := 67) rfl (aX10_A21 (by refine ⟨?_, ?_⟩ <;> omega) ?_)
      refine x_iadd hK kX10_real_67 (q := 68) rfl ?_
      refine x_iconst hK kX10_real_68 (q := 69) rfl ?_
      refine x_idiv hK kX10_real_69 (q := 70) rfl (by refine ⟨⟨by omega, by omega⟩, by decide, by decide⟩) ?_
      refine x_ireturn hK kX10_real_70 (by first | trivial | exact Or.inl rfl | exact Or.inr rfl) ?_
      unfold rRe at g1
      rw [if_neg (by omega), if_pos e] at g1
      exact g1
    have q0 : x = 0 → K 71 [some eRR, some (eI x)] [] (cR (uF F 12 0) A) := by
      intro e
      refine x_aload_n hK kX10_real_71 (q := 72) rfl rfl ?_
      refine x_getfield hK kX10_real_72 (q := 75) rfl (gX10_58 ?_)
      refine x_iconst hK kX10_real_75 (q := 76) rfl ?_
      refine x_iaload hK kX10_real_76 (q := 77) rfl (aX10_A21 (by refine ⟨?_, ?_⟩ <;> omega) ?_)
      refine x_aload_n hK kX10_real_77 (q := 78) rfl rfl ?_
      refine x_getfield hK kX10_real_78 (q := 81) rfl (gX10_58 ?_)
      refine x_iconst hK kX10_real_81 (q := 82) rfl ?_
      refine x_iaload hK kX10_real_82 (q := 83) rfl (aX10_A21 (by refine ⟨?_, ?_⟩ <;> omega) ?_)
      refine x_isub hK kX10_real_83 (q := 84) rfl ?_
      refine x_ireturn hK kX10_real_84 (by first | trivial | exact Or.inl rfl | exact Or.inr rfl) ?_
      unfold rRe at g1
      rw [if_neg (by omega), if_neg (by omega), if_pos e] at g1
      exact g1
    have qm : x = -1 → K 85 [some eRR, some (eI x)] [] (cR (uF F 12 0) A) := by
      intro e
      refine x_aload_n hK kX10_real_85 (q := 86) rfl rfl ?_
      refine x_getfield hK kX10_real_86 (q := 89) rfl (gX10_58 ?_)
      refine x_iconst hK kX10_real_89 (q := 90) rfl ?_
      refine x_iaload hK kX10_real_90 (q := 91) rfl (aX10_A21 (by refine ⟨?_, ?_⟩ <;> omega) ?_)
      refine x_aload_n hK kX10_real_91 (q := 92) rfl rfl ?_
      refine x_getfield hK kX10_real_92 (q := 95) rfl (gX10_58 ?_)
      refine x_iconst hK kX10_real_95 (q := 96) rfl ?_
      refine x_iaload hK kX10_real_96 (q := 97) rfl (aX10_A21 (by refine ⟨?_, ?_⟩ <;> omega) ?_)
      refine x_isub hK kX10_real_97 (q := 98) rfl ?_
      refine x_iconst hK kX10_real_98 (q := 99) rfl ?_
      refine x_idiv hK kX10_real_99 (q := 100) rfl (by refine ⟨⟨by omega, by omega⟩, by decide, by decide⟩) ?_
      refine x_ireturn hK kX10_real_100 (by first | trivial | exact Or.inl rfl | exact Or.inr rfl) ?_
      unfold rRe at g1
      rw [if_neg (by omega), if_neg (by omega), if_neg (by omega)] at g1
      exact g1
    refine x_iload_n hK kX10_real_19 (q := 20) rfl rfl ?_
    refine x_table hK kX10_real_20 (tg := 85) rfl (by exact hx) (fun c20 => ?_) (fun c20 d20 => ?_)
    · exact qm (by omega)
    · exact ⟨fun e => q0 e, fun e => q1 (by omega), fun e => q2 (by omega), trivial⟩
  simp only [eLoc, eE, List.length_cons, List.length_nil, List.replicate, List.cons_append, List.nil_append, Nat.reduceAdd, Nat.reduceSub]
  refine x_aload_n hK kX10_real_0 (q := 1) rfl rfl ?_
  refine x_cv1 hK kX10_real_1 (q := 4) rfl (vtX10_real_274) (Nat.le_of_ble_eq_true rfl) ?_
  refine SX10_isFinite_i h0 (fun b b0 b1 => ?_)
  refine x_if_eq hK kX10_real_4 (q := 7) rfl (tg := 17) rfl (by rcases b0 with e | e <;> rw [e] <;> decide) (fun c4 => ?_) (fun c4 => ?_)
  · refine x_iconst hK kX10_real_17 (q := 18) rfl ?_
    refine x_ireturn hK kX10_real_18 (by first | trivial | exact Or.inl rfl | exact Or.inr rfl) ?_
    first
    | exact h2 (fun q => by have := b1.mpr q.1; omega)
    | exact h2 (fun q => by have := q.2; omega)
  · refine x_iload_n hK kX10_real_7 (q := 8) rfl rfl ?_
    refine x_iconst hK kX10_real_8 (q := 9) rfl ?_
    refine x_icmp_lt hK kX10_real_9 (q := 12) rfl (tg := 17) rfl (by exact ⟨hx, by decide⟩) (fun c9 => ?_) (fun c9 => ?_)
    · refine x_iconst hK kX10_real_17 (q := 18) rfl ?_
      refine x_ireturn hK kX10_real_18 (by first | trivial | exact Or.inl rfl | exact Or.inr rfl) ?_
      first
      | exact h2 (fun q => by have := b1.mpr q.1; omega)
      | exact h2 (fun q => by have := q.2; omega)
    · refine x_iload_n hK kX10_real_12 (q := 13) rfl rfl ?_
      refine x_iconst hK kX10_real_13 (q := 14) rfl ?_
      refine x_icmp_le hK kX10_real_14 (q := 17) rfl (tg := 19) rfl (by exact ⟨hx, by decide⟩) (fun c14 => ?_) (fun c14 => ?_)
      · exact sw (b1.mp (by omega)) (by omega) (by omega) b
      · refine x_iconst hK kX10_real_17 (q := 18) rfl ?_
        refine x_ireturn hK kX10_real_18 (by first | trivial | exact Or.inl rfl | exact Or.inr rfl) ?_
        first
        | exact h2 (fun q => by have := b1.mpr q.1; omega)
        | exact h2 (fun q => by have := q.2; omega)
set_option maxRecDepth 20000 in
theorem mX10_real : eMet yX10_real cX10_real 2 (some .int) 1 20 SX10_real := eMet_of (by decide +kernel) sX10_real kX10_real_ok caX10_real tb_RX10
theorem wX10_real : eWV yX10_real cX10_real 2 (some .int) 2 9 SX10_real := ⟨(gW_at 1282 (by decide +kernel) rfl), (gW_at 89 (by decide +kernel) rfl), (gW_at 1280 (by decide +kernel) rfl), ⟨_, rfl, (gW_at 1281 (by decide +kernel) rfl)⟩, by decide +kernel, SX10_real_r⟩
-- lead, monomial
def SX10_lead : eSp := fun as M rt => ∃ (F : Nat → Int) (A : Nat → Int → Int) (k : Int), as = [eRR, eI k] ∧ M = cR F A ∧ w32 (F 10) ∧ w32 k ∧ (0 ≤ F 17 ∧ F 17 ≤ 45) ∧ (∀ i : Nat, (i : Int) < F 17 → 0 ≤ A 16 i ∧ A 16 i < 45) ∧ ((F 10 ≠ -1 ∧ 0 ≤ k ∧ k < F 17) → rt (some (eI (16 * mX (A 16 k) + mY (A 16 k)))) (cR (uF F 12 0) A)) ∧ (¬ (F 10 ≠ -1 ∧ 0 ≤ k ∧ k < F 17) → rt (some (eI (-1))) (cR (uF F 12 0) A))
theorem SX10_lead_r : ∀ as M rt, SX10_lead as M rt → ∃ a r fs, as = eR a :: r ∧ M a = some (.inl (9, fs)) := by
  rintro as M rt ⟨F, A, k, rfl, rfl, -⟩
  exact ⟨_, _, _, rfl, rfl⟩
def kX10_lead : List (Nat × Jvm.ClassFile.Instr × Nat) := [(0, .aload_n 0, 1), (1, .iconst 0, 1), (2, .putfield 61, 3), (5, .aload_n 0, 1), (6, .getfield 42, 3), (9, .iconst (-1), 1), (10, .if_icmp .eq 15, 3), (13, .iload_n 1, 1), (14, .ifCond .lt 11, 3), (17, .iload_n 1, 1), (18, .aload_n 0, 1), (19, .getfield 196, 3), (22, .if_icmp .lt 7, 3), (25, .iconst (-1), 1), (26, .goto 12, 3), (29, .aload_n 0, 1), (30, .getfield 49, 3), (33, .iload_n 1, 1), (34, .iaload, 1), (35, .invokestatic 277, 3), (38, .ireturn, 1)]
theorem kX10_lead_0 : cdOf kX10_lead 0 = some (.aload_n 0, 1) := by decide +kernel
theorem kX10_lead_1 : cdOf kX10_lead 1 = some (.iconst 0, 1) := by decide +kernel
theorem kX10_lead_2 : cdOf kX10_lead 2 = some (.putfield 61, 3) := by decide +kernel
theorem kX10_lead_5 : cdOf kX10_lead 5 = some (.aload_n 0, 1) := by decide +kernel
theorem kX10_lead_6 : cdOf kX10_lead 6 = some (.getfield 42, 3) := by decide +kernel
theorem kX10_lead_9 : cdOf kX10_lead 9 = some (.iconst (-1), 1) := by decide +kernel
theorem kX10_lead_10 : cdOf kX10_lead 10 = some (.if_icmp .eq 15, 3) := by decide +kernel
theorem kX10_lead_13 : cdOf kX10_lead 13 = some (.iload_n 1, 1) := by decide +kernel
theorem kX10_lead_14 : cdOf kX10_lead 14 = some (.ifCond .lt 11, 3) := by decide +kernel
theorem kX10_lead_17 : cdOf kX10_lead 17 = some (.iload_n 1, 1) := by decide +kernel
theorem kX10_lead_18 : cdOf kX10_lead 18 = some (.aload_n 0, 1) := by decide +kernel
theorem kX10_lead_19 : cdOf kX10_lead 19 = some (.getfield 196, 3) := by decide +kernel
theorem kX10_lead_22 : cdOf kX10_lead 22 = some (.if_icmp .lt 7, 3) := by decide +kernel
theorem kX10_lead_25 : cdOf kX10_lead 25 = some (.iconst (-1), 1) := by decide +kernel
theorem kX10_lead_26 : cdOf kX10_lead 26 = some (.goto 12, 3) := by decide +kernel
theorem kX10_lead_29 : cdOf kX10_lead 29 = some (.aload_n 0, 1) := by decide +kernel
theorem kX10_lead_30 : cdOf kX10_lead 30 = some (.getfield 49, 3) := by decide +kernel
theorem kX10_lead_33 : cdOf kX10_lead 33 = some (.iload_n 1, 1) := by decide +kernel
theorem kX10_lead_34 : cdOf kX10_lead 34 = some (.iaload, 1) := by decide +kernel
theorem kX10_lead_35 : cdOf kX10_lead 35 = some (.invokestatic 277, 3) := by decide +kernel
theorem kX10_lead_38 : cdOf kX10_lead 38 = some (.ireturn, 1) := by decide +kernel
set_option maxRecDepth 20000 in
theorem kX10_lead_ok : ∀ pc i len, cdOf kX10_lead pc = some (i, len) → decode cX10_lead pc = .ok (i, len) ∧ stOK 2 i = true ∧ jOK pc i = true ∧ eLen i len = true := cdOf_ok cX10_lead 2 kX10_lead (by decide +kernel)
def vtX10_lead : Nat → Option (Nat × eSp) := fun _ => none
def stX10_lead : Nat → Option (Nat × eSp) := fun k => match k with
  | 277 => some (1, SX10_told)
  | _ => none
theorem stX10_lead_277 : stX10_lead 277 = some (1, SX10_told) := rfl
abbrev TX10_lead : eT := (fl_RX10, cl_RX10, dl_RX10, vtX10_lead, stX10_lead)
set_option maxRecDepth 20000 in
theorem caX10_lead : eCalls RX10 { frames := 4, cells := 0, slots := 0, locals := 82 } TX10_lead := by
  refine ⟨fun k n sp h => ?_, fun k n sp h => ?_⟩
  · cases h
  · dsimp only [TX10_lead] at h
    unfold stX10_lead at h
    split at h
    · cases h; exact eS_mk mX10_told wX10_told (by decide +kernel) (Or.inl (gW_at 1291 (by decide +kernel) rfl))
    · cases h
set_option maxRecDepth 100000 in
set_option maxHeartbeats 4000000 in
theorem sX10_lead : eSafe TX10_lead (cdOf kX10_lead) 2 (some .int) SX10_lead := by
  intro K rt hK as M h
  obtain ⟨F, A, k, rfl, rfl, h0, hk, hN, he, h1, h2⟩ := h
  refine ⟨by simp [eE], ?_⟩
  have wN : w32 (F 17) := by constructor <;> omega
  simp only [eLoc, eE, List.length_cons, List.length_nil, List.replicate, List.cons_append, List.nil_append, Nat.reduceAdd, Nat.reduceSub]
  refine x_aload_n hK kX10_lead_0 (q := 1) rfl rfl ?_
  refine x_iconst hK kX10_lead_1 (q := 2) rfl ?_
  refine x_putfield hK kX10_lead_2 (q := 5) rfl (pX10_61 ?_)
  refine x_aload_n hK kX10_lead_5 (q := 6) rfl rfl ?_
  refine x_getfield hK kX10_lead_6 (q := 9) rfl (gX10_42 ?_)
  rw [uF_n _ _ (by decide)]
  refine x_iconst hK kX10_lead_9 (q := 10) rfl ?_
  refine x_icmp_eq hK kX10_lead_10 (q := 13) rfl (tg := 25) rfl (by exact ⟨h0, by decide⟩) (fun c10 => ?_) (fun c10 => ?_)
  · refine x_iconst hK kX10_lead_25 (q := 26) rfl ?_
    refine x_goto hK kX10_lead_26 (tg := 38) rfl ?_
    refine x_ireturn hK kX10_lead_38 (by first | trivial | exact Or.inl rfl | exact Or.inr rfl) ?_
    first
    | exact h1 ⟨by omega, by omega, by omega⟩
    | exact h2 (by omega)
  · refine x_iload_n hK kX10_lead_13 (q := 14) rfl rfl ?_
    refine x_if_lt hK kX10_lead_14 (q := 17) rfl (tg := 25) rfl (by exact hk) (fun c14 => ?_) (fun c14 => ?_)
    · refine x_iconst hK kX10_lead_25 (q := 26) rfl ?_
      refine x_goto hK kX10_lead_26 (tg := 38) rfl ?_
      refine x_ireturn hK kX10_lead_38 (by first | trivial | exact Or.inl rfl | exact Or.inr rfl) ?_
      first
      | exact h1 ⟨by omega, by omega, by omega⟩
      | exact h2 (by omega)
    · refine x_iload_n hK kX10_lead_17 (q := 18) rfl rfl ?_
      refine x_aload_n hK kX10_lead_18 (q := 19) rfl rfl ?_
      refine x_getfield hK kX10_lead_19 (q := 22) rfl (gX10_196 ?_)
      rw [uF_n _ _ (by decide)]
      refine x_icmp_lt hK kX10_lead_22 (q := 25) rfl (tg := 29) rfl (by exact ⟨hk, wN⟩) (fun c22 => ?_) (fun c22 => ?_)
      · have hek := he k.toNat (by omega)
        rw [show ((k.toNat : Nat) : Int) = k by omega] at hek
        refine x_aload_n hK kX10_lead_29 (q := 30) rfl rfl ?_
        refine x_getfield hK kX10_lead_30 (q := 33) rfl (gX10_49 ?_)
        refine x_iload_n hK kX10_lead_33 (q := 34) rfl rfl ?_
        refine x_iaload hK kX10_lead_34 (q := 35) rfl (aX10_A16 (by refine ⟨?_, ?_⟩ <;> omega) ?_)
        refine x_cs1 hK kX10_lead_35 (q := 38) rfl (stX10_lead_277) (Nat.le_of_ble_eq_true rfl) ?_
        refine SX10_told_i hek ?_
        refine x_ireturn hK kX10_lead_38 (by first | trivial | exact Or.inl rfl | exact Or.inr rfl) ?_
        first
        | exact h1 ⟨by omega, by omega, by omega⟩
        | exact h2 (by omega)
      · refine x_iconst hK kX10_lead_25 (q := 26) rfl ?_
        refine x_goto hK kX10_lead_26 (tg := 38) rfl ?_
        refine x_ireturn hK kX10_lead_38 (by first | trivial | exact Or.inl rfl | exact Or.inr rfl) ?_
        first
        | exact h1 ⟨by omega, by omega, by omega⟩
        | exact h2 (by omega)
set_option maxRecDepth 20000 in
theorem mX10_lead : eMet yX10_lead cX10_lead 2 (some .int) 4 82 SX10_lead := eMet_of (by decide +kernel) sX10_lead kX10_lead_ok caX10_lead tb_RX10
theorem wX10_lead : eWV yX10_lead cX10_lead 2 (some .int) 2 9 SX10_lead := ⟨(gW_at 1290 (by decide +kernel) rfl), (gW_at 89 (by decide +kernel) rfl), (gW_at 1288 (by decide +kernel) rfl), ⟨_, rfl, (gW_at 1289 (by decide +kernel) rfl)⟩, by decide +kernel, SX10_lead_r⟩
def SX10_monomial_ : eSp := fun as M rt => ∃ (F : Nat → Int) (A : Nat → Int → Int) (k : Int), as = [eRR, eI k] ∧ M = cR F A ∧ w32 (F 10) ∧ w32 k ∧ (0 ≤ F 19 ∧ F 19 ≤ 6) ∧ (cFin F → ∀ i : Nat, (i : Int) < F 19 → 0 ≤ A 18 i ∧ A 18 i < 45) ∧ ((cFin F ∧ 0 ≤ k ∧ k < F 19) → rt (some (eI (16 * mX (A 18 k) + mY (A 18 k)))) (cR (uF F 12 0) A)) ∧ (¬ (cFin F ∧ 0 ≤ k ∧ k < F 19) → rt (some (eI (-1))) (cR (uF F 12 0) A))
theorem SX10_monomial__r : ∀ as M rt, SX10_monomial_ as M rt → ∃ a r fs, as = eR a :: r ∧ M a = some (.inl (9, fs)) := by
  rintro as M rt ⟨F, A, k, rfl, rfl, -⟩
  exact ⟨_, _, _, rfl, rfl⟩
def kX10_monomial_ : List (Nat × Jvm.ClassFile.Instr × Nat) := [(0, .aload_n 0, 1), (1, .invokevirtual 274, 3), (4, .ifCond .eq 27, 3), (7, .iload_n 1, 1), (8, .ifCond .lt 23, 3), (11, .iload_n 1, 1), (12, .aload_n 0, 1), (13, .getfield 223, 3), (16, .if_icmp .ge 15, 3), (19, .aload_n 0, 1), (20, .getfield 52, 3), (23, .iload_n 1, 1), (24, .iaload, 1), (25, .invokestatic 277, 3), (28, .goto 4, 3), (31, .iconst (-1), 1), (32, .ireturn, 1)]
theorem kX10_monomial__0 : cdOf kX10_monomial_ 0 = some (.aload_n 0, 1) := by decide +kernel
theorem kX10_monomial__1 : cdOf kX10_monomial_ 1 = some (.invokevirtual 274, 3) := by decide +kernel
theorem kX10_monomial__4 : cdOf kX10_monomial_ 4 = some (.ifCond .eq 27, 3) := by decide +kernel
theorem kX10_monomial__7 : cdOf kX10_monomial_ 7 = some (.iload_n 1, 1) := by decide +kernel
theorem kX10_monomial__8 : cdOf kX10_monomial_ 8 = some (.ifCond .lt 23, 3) := by decide +kernel
theorem kX10_monomial__11 : cdOf kX10_monomial_ 11 = some (.iload_n 1, 1) := by decide +kernel
theorem kX10_monomial__12 : cdOf kX10_monomial_ 12 = some (.aload_n 0, 1) := by decide +kernel
theorem kX10_monomial__13 : cdOf kX10_monomial_ 13 = some (.getfield 223, 3) := by decide +kernel
theorem kX10_monomial__16 : cdOf kX10_monomial_ 16 = some (.if_icmp .ge 15, 3) := by decide +kernel
theorem kX10_monomial__19 : cdOf kX10_monomial_ 19 = some (.aload_n 0, 1) := by decide +kernel
theorem kX10_monomial__20 : cdOf kX10_monomial_ 20 = some (.getfield 52, 3) := by decide +kernel
theorem kX10_monomial__23 : cdOf kX10_monomial_ 23 = some (.iload_n 1, 1) := by decide +kernel
theorem kX10_monomial__24 : cdOf kX10_monomial_ 24 = some (.iaload, 1) := by decide +kernel
theorem kX10_monomial__25 : cdOf kX10_monomial_ 25 = some (.invokestatic 277, 3) := by decide +kernel
theorem kX10_monomial__28 : cdOf kX10_monomial_ 28 = some (.goto 4, 3) := by decide +kernel
theorem kX10_monomial__31 : cdOf kX10_monomial_ 31 = some (.iconst (-1), 1) := by decide +kernel
theorem kX10_monomial__32 : cdOf kX10_monomial_ 32 = some (.ireturn, 1) := by decide +kernel
set_option maxRecDepth 20000 in
theorem kX10_monomial__ok : ∀ pc i len, cdOf kX10_monomial_ pc = some (i, len) → decode cX10_monomial_ pc = .ok (i, len) ∧ stOK 2 i = true ∧ jOK pc i = true ∧ eLen i len = true := cdOf_ok cX10_monomial_ 2 kX10_monomial_ (by decide +kernel)
def vtX10_monomial_ : Nat → Option (Nat × eSp) := fun k => match k with
  | 274 => some (1, SX10_isFinite)
  | _ => none
theorem vtX10_monomial__274 : vtX10_monomial_ 274 = some (1, SX10_isFinite) := rfl
def stX10_monomial_ : Nat → Option (Nat × eSp) := fun k => match k with
  | 277 => some (1, SX10_told)
  | _ => none
theorem stX10_monomial__277 : stX10_monomial_ 277 = some (1, SX10_told) := rfl
abbrev TX10_monomial_ : eT := (fl_RX10, cl_RX10, dl_RX10, vtX10_monomial_, stX10_monomial_)
set_option maxRecDepth 20000 in
theorem caX10_monomial_ : eCalls RX10 { frames := 4, cells := 0, slots := 0, locals := 82 } TX10_monomial_ := by
  refine ⟨fun k n sp h => ?_, fun k n sp h => ?_⟩
  · dsimp only [TX10_monomial_] at h
    unfold vtX10_monomial_ at h
    split at h
    · cases h; exact eV_mk mX10_isFinite wX10_isFinite (by decide +kernel) (Or.inl (gW_at 1275 (by decide +kernel) rfl))
    · cases h
  · dsimp only [TX10_monomial_] at h
    unfold stX10_monomial_ at h
    split at h
    · cases h; exact eS_mk mX10_told wX10_told (by decide +kernel) (Or.inl (gW_at 1291 (by decide +kernel) rfl))
    · cases h
set_option maxRecDepth 100000 in
set_option maxHeartbeats 4000000 in
theorem sX10_monomial_ : eSafe TX10_monomial_ (cdOf kX10_monomial_) 2 (some .int) SX10_monomial_ := by
  intro K rt hK as M h
  obtain ⟨F, A, k, rfl, rfl, h0, hk, hN, he, h1, h2⟩ := h
  refine ⟨by simp [eE], ?_⟩
  have wN : w32 (F 19) := by constructor <;> omega
  simp only [eLoc, eE, List.length_cons, List.length_nil, List.replicate, List.cons_append, List.nil_append, Nat.reduceAdd, Nat.reduceSub]
  refine x_aload_n hK kX10_monomial__0 (q := 1) rfl rfl ?_
  refine x_cv1 hK kX10_monomial__1 (q := 4) rfl (vtX10_monomial__274) (Nat.le_of_ble_eq_true rfl) ?_
  refine SX10_isFinite_i h0 (fun b b0 b1 => ?_)
  refine x_if_eq hK kX10_monomial__4 (q := 7) rfl (tg := 31) rfl (by rcases b0 with e | e <;> rw [e] <;> decide) (fun c4 => ?_) (fun c4 => ?_)
  · refine x_iconst hK kX10_monomial__31 (q := 32) rfl ?_
    refine x_ireturn hK kX10_monomial__32 (by first | trivial | exact Or.inl rfl | exact Or.inr rfl) ?_
    first
    | exact h1 ⟨b1.mp (by omega), by omega, by omega⟩
    | exact h2 (fun q => by have := b1.mpr q.1; omega)
    | exact h2 (fun q => by have := q.2; omega)
  · refine x_iload_n hK kX10_monomial__7 (q := 8) rfl rfl ?_
    refine x_if_lt hK kX10_monomial__8 (q := 11) rfl (tg := 31) rfl (by exact hk) (fun c8 => ?_) (fun c8 => ?_)
    · refine x_iconst hK kX10_monomial__31 (q := 32) rfl ?_
      refine x_ireturn hK kX10_monomial__32 (by first | trivial | exact Or.inl rfl | exact Or.inr rfl) ?_
      first
      | exact h1 ⟨b1.mp (by omega), by omega, by omega⟩
      | exact h2 (fun q => by have := b1.mpr q.1; omega)
      | exact h2 (fun q => by have := q.2; omega)
    · refine x_iload_n hK kX10_monomial__11 (q := 12) rfl rfl ?_
      refine x_aload_n hK kX10_monomial__12 (q := 13) rfl rfl ?_
      refine x_getfield hK kX10_monomial__13 (q := 16) rfl (gX10_223 ?_)
      rw [uF_n _ _ (by decide)]
      refine x_icmp_ge hK kX10_monomial__16 (q := 19) rfl (tg := 31) rfl (by exact ⟨hk, wN⟩) (fun c16 => ?_) (fun c16 => ?_)
      · refine x_iconst hK kX10_monomial__31 (q := 32) rfl ?_
        refine x_ireturn hK kX10_monomial__32 (by first | trivial | exact Or.inl rfl | exact Or.inr rfl) ?_
        first
        | exact h1 ⟨b1.mp (by omega), by omega, by omega⟩
        | exact h2 (fun q => by have := b1.mpr q.1; omega)
        | exact h2 (fun q => by have := q.2; omega)
      · have hek := he (b1.mp (by omega)) k.toNat (by omega)
        rw [show ((k.toNat : Nat) : Int) = k by omega] at hek
        refine x_aload_n hK kX10_monomial__19 (q := 20) rfl rfl ?_
        refine x_getfield hK kX10_monomial__20 (q := 23) rfl (gX10_52 ?_)
        refine x_iload_n hK kX10_monomial__23 (q := 24) rfl rfl ?_
        refine x_iaload hK kX10_monomial__24 (q := 25) rfl (aX10_A18 (by refine ⟨?_, ?_⟩ <;> omega) ?_)
        refine x_cs1 hK kX10_monomial__25 (q := 28) rfl (stX10_monomial__277) (Nat.le_of_ble_eq_true rfl) ?_
        refine SX10_told_i hek ?_
        refine x_goto hK kX10_monomial__28 (tg := 32) rfl ?_
        refine x_ireturn hK kX10_monomial__32 (by first | trivial | exact Or.inl rfl | exact Or.inr rfl) ?_
        first
        | exact h1 ⟨b1.mp (by omega), by omega, by omega⟩
        | exact h2 (fun q => by have := b1.mpr q.1; omega)
        | exact h2 (fun q => by have := q.2; omega)
set_option maxRecDepth 20000 in
theorem mX10_monomial_ : eMet yX10_monomial_ cX10_monomial_ 2 (some .int) 4 82 SX10_monomial_ := eMet_of (by decide +kernel) sX10_monomial_ kX10_monomial__ok caX10_monomial_ tb_RX10
theorem wX10_monomial_ : eWV yX10_monomial_ cX10_monomial_ 2 (some .int) 2 9 SX10_monomial_ := ⟨(gW_at 1319 (by decide +kernel) rfl), (gW_at 89 (by decide +kernel) rfl), (gW_at 1317 (by decide +kernel) rfl), ⟨_, rfl, (gW_at 1318 (by decide +kernel) rfl)⟩, by decide +kernel, SX10_monomial__r⟩
