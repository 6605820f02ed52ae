/-! enters. -/
def sH (A A' : Nat → Int → Int) : Prop := ∀ k, 4 ≤ k → k ≠ 15 → A' k = A k
theorem sH_n {A A' : Nat → Int → Int} (h : sN A A') : sH A A' := fun k hk _ => h k hk
theorem sH_tr {A B C : Nat → Int → Int} (h : sH A B) (h2 : sH B C) : sH A C := fun k hk hn => (h2 k hk hn).trans (h k hk hn)
theorem sH_u {A : Nat → Int → Int} (f : Int → Int) : sH A (uA A 15 f) := fun k _ hn => uA_n _ _ hn
def SX10_enters : eSp := fun as M rt => ∃ (F : Nat → Int) (A : Nat → Int → Int) (s s1 : Int → Int) (n : Nat), as = [eRR] ∧ M = cR F A ∧ rn (A 0) s ∧ F 14 = n ∧ n ≤ 45 ∧ (∀ k, A 15 k = 0 ∨ A 15 k = 1) ∧ dP (A 15) n n s ∧ s1 = dA (A 15) n n s ∧
  ((∀ k, 0 ≤ k → k < (n : Int) → s1 (2025 + k) = 0) → ∀ A', sN A A' → rn (A' 0) s1 → rt (some (eI 0)) (cR F A')) ∧
  (∀ t : Nat, t < n → s1 (2025 + t) ≠ 0 → (∀ k, (t : Int) < k → k < n → s1 (2025 + k) = 0) → pB s1 2025 t ∧ uP (uI (A 15) t 1) t (n - 1 - t) (t + 1) (rC (pS s1 2025 t) t 45) ∧ ∀ A', sH A A' → A' 15 = uI (A 15) t 1 → rn (A' 0) (uC (uI (A 15) t 1) t (n - 1 - t) (t + 1) (rC (pS s1 2025 t) t 45)) → rt (some (eI 1)) (cR F A'))
theorem SX10_enters_r : ∀ as M rt, SX10_enters as M rt → ∃ a r fs, as = eR a :: r ∧ M a = some (.inl (9, fs)) := by
  rintro as M rt ⟨F, A, s, s1, n, rfl, rfl, -⟩
  exact ⟨_, _, _, rfl, rfl⟩
def kX10_enters : List (Nat × Jvm.ClassFile.Instr × Nat) := [(0, .aload_n 0, 1), (1, .getfield 167, 3), (4, .iconst 1, 1), (5, .isub, 1), (6, .istore_n 1, 1), (7, .iload_n 1, 1), (8, .ifCond .lt 32, 3), (11, .aload_n 0, 1), (12, .getfield 45, 3), (15, .iload_n 1, 1), (16, .baload, 1), (17, .ifCond .eq 17, 3), (20, .aload_n 0, 1), (21, .sipush 2025, 3), (24, .iload_n 1, 1), (25, .aload_n 0, 1), (26, .getfield 167, 3), (29, .iconst 1, 1), (30, .isub, 1), (31, .invokevirtual 170, 3), (34, .iinc 1 (-1), 3), (37, .goto (-30), 3), (40, .aload_n 0, 1), (41, .sipush 2025, 3), (44, .invokevirtual 173, 3), (47, .istore_n 1, 1), (48, .iload_n 1, 1), (49, .ifCond .ge 5, 3), (52, .iconst 0, 1), (53, .ireturn, 1), (54, .aload_n 0, 1), (55, .sipush 2025, 3), (58, .iload_n 1, 1), (59, .invokevirtual 176, 3), (62, .iconst 0, 1), (63, .istore_n 2, 1), (64, .iload_n 2, 1), (65, .bipush 45, 2), (67, .if_icmp .ge 24, 3), (70, .aload_n 0, 1), (71, .iload_n 1, 1), (72, .invokestatic 158, 3), (75, .iload_n 2, 1), (76, .iadd, 1), (77, .sipush 2025, 3), (80, .iload_n 2, 1), (81, .iadd, 1), (82, .invokevirtual 85, 3), (85, .iinc 2 1, 3), (88, .goto (-24), 3), (91, .aload_n 0, 1), (92, .getfield 45, 3), (95, .iload_n 1, 1), (96, .iconst 1, 1), (97, .bastore, 1), (98, .iload_n 1, 1), (99, .iconst 1, 1), (100, .iadd, 1), (101, .istore_n 2, 1), (102, .iload_n 2, 1), (103, .aload_n 0, 1), (104, .getfield 167, 3), (107, .if_icmp .ge 50, 3), (110, .aload_n 0, 1), (111, .getfield 45, 3), (114, .iload_n 2, 1), (115, .baload, 1), (116, .ifCond .eq 35, 3), (119, .aload_n 0, 1), (120, .iload_n 2, 1), (121, .invokestatic 158, 3), (124, .iload_n 1, 1), (125, .iadd, 1), (126, .invokevirtual 81, 3), (129, .ifCond .ne 22, 3), (132, .aload_n 0, 1), (133, .iload_n 2, 1), (134, .invokestatic 158, 3), (137, .iload_n 1, 1), (138, .iload_n 2, 1), (139, .invokevirtual 170, 3), (142, .aload_n 0, 1), (143, .iload_n 2, 1), (144, .invokestatic 158, 3), (147, .iload_n 2, 1), (148, .invokevirtual 176, 3), (151, .iinc 2 1, 3), (154, .goto (-52), 3), (157, .iconst 1, 1), (158, .ireturn, 1)]
theorem kX10_enters_0 : cdOf kX10_enters 0 = some (.aload_n 0, 1) := by decide +kernel
theorem kX10_enters_1 : cdOf kX10_enters 1 = some (.getfield 167, 3) := by decide +kernel
theorem kX10_enters_4 : cdOf kX10_enters 4 = some (.iconst 1, 1) := by decide +kernel
theorem kX10_enters_5 : cdOf kX10_enters 5 = some (.isub, 1) := by decide +kernel
theorem kX10_enters_6 : cdOf kX10_enters 6 = some (.istore_n 1, 1) := by decide +kernel
theorem kX10_enters_7 : cdOf kX10_enters 7 = some (.iload_n 1, 1) := by decide +kernel
theorem kX10_enters_8 : cdOf kX10_enters 8 = some (.ifCond .lt 32, 3) := by decide +kernel
theorem kX10_enters_11 : cdOf kX10_enters 11 = some (.aload_n 0, 1) := by decide +kernel
theorem kX10_enters_12 : cdOf kX10_enters 12 = some (.getfield 45, 3) := by decide +kernel
theorem kX10_enters_15 : cdOf kX10_enters 15 = some (.iload_n 1, 1) := by decide +kernel
theorem kX10_enters_16 : cdOf kX10_enters 16 = some (.baload, 1) := by decide +kernel
theorem kX10_enters_17 : cdOf kX10_enters 17 = some (.ifCond .eq 17, 3) := by decide +kernel
theorem kX10_enters_20 : cdOf kX10_enters 20 = some (.aload_n 0, 1) := by decide +kernel
theorem kX10_enters_21 : cdOf kX10_enters 21 = some (.sipush 2025, 3) := by decide +kernel
theorem kX10_enters_24 : cdOf kX10_enters 24 = some (.iload_n 1, 1) := by decide +kernel
theorem kX10_enters_25 : cdOf kX10_enters 25 = some (.aload_n 0, 1) := by decide +kernel
theorem kX10_enters_26 : cdOf kX10_enters 26 = some (.getfield 167, 3) := by decide +kernel
theorem kX10_enters_29 : cdOf kX10_enters 29 = some (.iconst 1, 1) := by decide +kernel
theorem kX10_enters_30 : cdOf kX10_enters 30 = some (.isub, 1) := by decide +kernel
theorem kX10_enters_31 : cdOf kX10_enters 31 = some (.invokevirtual 170, 3) := by decide +kernel
theorem kX10_enters_34 : cdOf kX10_enters 34 = some (.iinc 1 (-1), 3) := by decide +kernel
theorem kX10_enters_37 : cdOf kX10_enters 37 = some (.goto (-30), 3) := by decide +kernel
theorem kX10_enters_40 : cdOf kX10_enters 40 = some (.aload_n 0, 1) := by decide +kernel
theorem kX10_enters_41 : cdOf kX10_enters 41 = some (.sipush 2025, 3) := by decide +kernel
theorem kX10_enters_44 : cdOf kX10_enters 44 = some (.invokevirtual 173, 3) := by decide +kernel
theorem kX10_enters_47 : cdOf kX10_enters 47 = some (.istore_n 1, 1) := by decide +kernel
theorem kX10_enters_48 : cdOf kX10_enters 48 = some (.iload_n 1, 1) := by decide +kernel
theorem kX10_enters_49 : cdOf kX10_enters 49 = some (.ifCond .ge 5, 3) := by decide +kernel
theorem kX10_enters_52 : cdOf kX10_enters 52 = some (.iconst 0, 1) := by decide +kernel
theorem kX10_enters_53 : cdOf kX10_enters 53 = some (.ireturn, 1) := by decide +kernel
theorem kX10_enters_54 : cdOf kX10_enters 54 = some (.aload_n 0, 1) := by decide +kernel
theorem kX10_enters_55 : cdOf kX10_enters 55 = some (.sipush 2025, 3) := by decide +kernel
theorem kX10_enters_58 : cdOf kX10_enters 58 = some (.iload_n 1, 1) := by decide +kernel
theorem kX10_enters_59 : cdOf kX10_enters 59 = some (.invokevirtual 176, 3) := by decide +kernel
theorem kX10_enters_62 : cdOf kX10_enters 62 = some (.iconst 0, 1) := by decide +kernel
theorem kX10_enters_63 : cdOf kX10_enters 63 = some (.istore_n 2, 1) := by decide +kernel
theorem kX10_enters_64 : cdOf kX10_enters 64 = some (.iload_n 2, 1) := by decide +kernel
theorem kX10_enters_65 : cdOf kX10_enters 65 = some (.bipush 45, 2) := by decide +kernel
theorem kX10_enters_67 : cdOf kX10_enters 67 = some (.if_icmp .ge 24, 3) := by decide +kernel
theorem kX10_enters_70 : cdOf kX10_enters 70 = some (.aload_n 0, 1) := by decide +kernel
theorem kX10_enters_71 : cdOf kX10_enters 71 = some (.iload_n 1, 1) := by decide +kernel
theorem kX10_enters_72 : cdOf kX10_enters 72 = some (.invokestatic 158, 3) := by decide +kernel
theorem kX10_enters_75 : cdOf kX10_enters 75 = some (.iload_n 2, 1) := by decide +kernel
theorem kX10_enters_76 : cdOf kX10_enters 76 = some (.iadd, 1) := by decide +kernel
theorem kX10_enters_77 : cdOf kX10_enters 77 = some (.sipush 2025, 3) := by decide +kernel
theorem kX10_enters_80 : cdOf kX10_enters 80 = some (.iload_n 2, 1) := by decide +kernel
theorem kX10_enters_81 : cdOf kX10_enters 81 = some (.iadd, 1) := by decide +kernel
theorem kX10_enters_82 : cdOf kX10_enters 82 = some (.invokevirtual 85, 3) := by decide +kernel
theorem kX10_enters_85 : cdOf kX10_enters 85 = some (.iinc 2 1, 3) := by decide +kernel
theorem kX10_enters_88 : cdOf kX10_enters 88 = some (.goto (-24), 3) := by decide +kernel
theorem kX10_enters_91 : cdOf kX10_enters 91 = some (.aload_n 0, 1) := by decide +kernel
theorem kX10_enters_92 : cdOf kX10_enters 92 = some (.getfield 45, 3) := by decide +kernel
theorem kX10_enters_95 : cdOf kX10_enters 95 = some (.iload_n 1, 1) := by decide +kernel
theorem kX10_enters_96 : cdOf kX10_enters 96 = some (.iconst 1, 1) := by decide +kernel
theorem kX10_enters_97 : cdOf kX10_enters 97 = some (.bastore, 1) := by decide +kernel
theorem kX10_enters_98 : cdOf kX10_enters 98 = some (.iload_n 1, 1) := by decide +kernel
theorem kX10_enters_99 : cdOf kX10_enters 99 = some (.iconst 1, 1) := by decide +kernel
theorem kX10_enters_100 : cdOf kX10_enters 100 = some (.iadd, 1) := by decide +kernel
theorem kX10_enters_101 : cdOf kX10_enters 101 = some (.istore_n 2, 1) := by decide +kernel
theorem kX10_enters_102 : cdOf kX10_enters 102 = some (.iload_n 2, 1) := by decide +kernel
theorem kX10_enters_103 : cdOf kX10_enters 103 = some (.aload_n 0, 1) := by decide +kernel
theorem kX10_enters_104 : cdOf kX10_enters 104 = some (.getfield 167, 3) := by decide +kernel
theorem kX10_enters_107 : cdOf kX10_enters 107 = some (.if_icmp .ge 50, 3) := by decide +kernel
theorem kX10_enters_110 : cdOf kX10_enters 110 = some (.aload_n 0, 1) := by decide +kernel
theorem kX10_enters_111 : cdOf kX10_enters 111 = some (.getfield 45, 3) := by decide +kernel
theorem kX10_enters_114 : cdOf kX10_enters 114 = some (.iload_n 2, 1) := by decide +kernel
theorem kX10_enters_115 : cdOf kX10_enters 115 = some (.baload, 1) := by decide +kernel
theorem kX10_enters_116 : cdOf kX10_enters 116 = some (.ifCond .eq 35, 3) := by decide +kernel
theorem kX10_enters_119 : cdOf kX10_enters 119 = some (.aload_n 0, 1) := by decide +kernel
theorem kX10_enters_120 : cdOf kX10_enters 120 = some (.iload_n 2, 1) := by decide +kernel
theorem kX10_enters_121 : cdOf kX10_enters 121 = some (.invokestatic 158, 3) := by decide +kernel
theorem kX10_enters_124 : cdOf kX10_enters 124 = some (.iload_n 1, 1) := by decide +kernel
theorem kX10_enters_125 : cdOf kX10_enters 125 = some (.iadd, 1) := by decide +kernel
theorem kX10_enters_126 : cdOf kX10_enters 126 = some (.invokevirtual 81, 3) := by decide +kernel
theorem kX10_enters_129 : cdOf kX10_enters 129 = some (.ifCond .ne 22, 3) := by decide +kernel
theorem kX10_enters_132 : cdOf kX10_enters 132 = some (.aload_n 0, 1) := by decide +kernel
theorem kX10_enters_133 : cdOf kX10_enters 133 = some (.iload_n 2, 1) := by decide +kernel
theorem kX10_enters_134 : cdOf kX10_enters 134 = some (.invokestatic 158, 3) := by decide +kernel
theorem kX10_enters_137 : cdOf kX10_enters 137 = some (.iload_n 1, 1) := by decide +kernel
theorem kX10_enters_138 : cdOf kX10_enters 138 = some (.iload_n 2, 1) := by decide +kernel
theorem kX10_enters_139 : cdOf kX10_enters 139 = some (.invokevirtual 170, 3) := by decide +kernel
theorem kX10_enters_142 : cdOf kX10_enters 142 = some (.aload_n 0, 1) := by decide +kernel
theorem kX10_enters_143 : cdOf kX10_enters 143 = some (.iload_n 2, 1) := by decide +kernel
theorem kX10_enters_144 : cdOf kX10_enters 144 = some (.invokestatic 158, 3) := by decide +kernel
theorem kX10_enters_147 : cdOf kX10_enters 147 = some (.iload_n 2, 1) := by decide +kernel
theorem kX10_enters_148 : cdOf kX10_enters 148 = some (.invokevirtual 176, 3) := by decide +kernel
theorem kX10_enters_151 : cdOf kX10_enters 151 = some (.iinc 2 1, 3) := by decide +kernel
theorem kX10_enters_154 : cdOf kX10_enters 154 = some (.goto (-52), 3) := by decide +kernel
theorem kX10_enters_157 : cdOf kX10_enters 157 = some (.iconst 1, 1) := by decide +kernel
theorem kX10_enters_158 : cdOf kX10_enters 158 = some (.ireturn, 1) := by decide +kernel
set_option maxRecDepth 20000 in
theorem kX10_enters_ok : ∀ pc i len, cdOf kX10_enters pc = some (i, len) → decode cX10_enters pc = .ok (i, len) ∧ stOK 3 i = true ∧ jOK pc i = true ∧ eLen i len = true := cdOf_ok cX10_enters 3 kX10_enters (by decide +kernel)
def vtX10_enters : Nat → Option (Nat × eSp) := fun k => match k with
  | 170 => some (4, SX10_lose)
  | 173 => some (2, SX10_topOf)
  | 176 => some (3, SX10_plain)
  | 85 => some (3, SX10_copy)
  | 81 => some (2, SX10_isZero)
  | _ => none
theorem vtX10_enters_170 : vtX10_enters 170 = some (4, SX10_lose) := rfl
theorem vtX10_enters_173 : vtX10_enters 173 = some (2, SX10_topOf) := rfl
theorem vtX10_enters_176 : vtX10_enters 176 = some (3, SX10_plain) := rfl
theorem vtX10_enters_85 : vtX10_enters 85 = some (3, SX10_copy) := rfl
theorem vtX10_enters_81 : vtX10_enters 81 = some (2, SX10_isZero) := rfl
def stX10_enters : Nat → Option (Nat × eSp) := fun k => match k with
  | 158 => some (1, SX10_row)
  | _ => none
theorem stX10_enters_158 : stX10_enters 158 = some (1, SX10_row) := rfl
abbrev TX10_enters : eT := (fl_RX10, cl_RX10, dl_RX10, vtX10_enters, stX10_enters)
set_option maxRecDepth 20000 in
theorem caX10_enters : eCalls RX10 { frames := 5, cells := 0, slots := 0, locals := 130 } TX10_enters := by
  refine ⟨fun k n sp h => ?_, fun k n sp h => ?_⟩
  · dsimp only [TX10_enters] at h
    unfold vtX10_enters at h
    split at h
    · cases h; exact eV_mk mX10_lose wX10_lose (by decide +kernel) (Or.inl (gW_at 1082 (by decide +kernel) rfl))
    · cases h; exact eV_mk mX10_topOf wX10_topOf (by decide +kernel) (Or.inl (gW_at 1162 (by decide +kernel) rfl))
    · cases h; exact eV_mk mX10_plain wX10_plain (by decide +kernel) (Or.inl (gW_at 1166 (by decide +kernel) rfl))
    · cases h; exact eV_mk mX10_copy wX10_copy (by decide +kernel) (Or.inl (gW_at 1134 (by decide +kernel) rfl))
    · cases h; exact eV_mk mX10_isZero wX10_isZero (by decide +kernel) (Or.inl (gW_at 1086 (by decide +kernel) rfl))
    · cases h
  · dsimp only [TX10_enters] at h
    unfold stX10_enters at h
    split at h
    · cases h; exact eS_mk mX10_row wX10_row (by decide +kernel) (Or.inl (gW_at 1090 (by decide +kernel) rfl))
    · cases h
set_option maxRecDepth 100000 in
set_option maxHeartbeats 4000000 in
theorem sX10_enters : eSafe TX10_enters (cdOf kX10_enters) 3 (some .boolean) SX10_enters := by
  intro K rt hK as M h
  obtain ⟨F, A, s, s1, n, rfl, rfl, hr, hF, hn, hh, hP, hs1, h0, h1⟩ := h
  refine ⟨by simp [eE], ?_⟩
  -- the rows above
  have ups : ∀ (t : Nat) (d l : Nat) (A' : Nat → Int → Int) (s' f : Int → Int), t < l → l + d = n → sH A A' → A' 15 = uI (A 15) t 1 → rn (A' 0) s' → uP (uI (A 15) t 1) t d l s' → uC (uI (A 15) t 1) t d l s' = f → (∀ A', sH A A' → A' 15 = uI (A 15) t 1 → rn (A' 0) f → rt (some (eI 1)) (cR F A')) → K 102 [some eRR, some (eI t), some (eI l)] [] (cR F A') := by
    intro t d
    induction d with
    | zero =>
      intro l A' s' f htl hl hA h15 hr' hu hc hf
      refine x_iload_n hK kX10_enters_102 (q := 103) rfl rfl ?_
      refine x_aload_n hK kX10_enters_103 (q := 104) rfl rfl ?_
      refine x_getfield hK kX10_enters_104 (q := 107) rfl (gX10_167 ?_)
      rw [hF]
      refine x_icmp_ge hK kX10_enters_107 (q := 110) rfl (tg := 157) rfl (by refine ⟨?_, ?_⟩ <;> omega) (fun c107 => ?_) (fun c107 => ?_)
      · refine x_iconst hK kX10_enters_157 (q := 158) rfl ?_
        refine x_ireturn hK kX10_enters_158 (by first | exact Or.inl rfl | exact Or.inr rfl) ?_
        exact hf A' hA h15 (by rw [← hc]; exact hr')
      · exfalso; omega
    | succ d ih =>
      intro l A' s' f htl hl hA h15 hr' hu hc hf
      obtain ⟨u1, u2⟩ := hu
      have hl15 : A' 15 l = A 15 l := by rw [h15, uI_n _ _ (by omega)]
      have hu15 : uI (A 15) t 1 (l : Int) = A 15 l := uI_n _ _ (by omega)
      have w1 : w32 (A 15 l) := by rcases hh l with e | e <;> rw [e] <;> decide
      have nx : ∀ (A'' : Nat → Int → Int), sN A' A'' → rn (A'' 0) (uS s' (uI (A 15) t 1) t l) → K 151 [some eRR, some (eI t), some (eI l)] [] (cR F A'') := by
        intro A'' k1 k2
        refine x_iinc hK kX10_enters_151 (q := 154) rfl rfl ?_
        simp only [lS, lS2, clr_0, clr_I, clr_L, clr_R]
        refine x_goto hK kX10_enters_154 (tg := 102) rfl ?_
        rw [show (l : Int) + 1 = ((l + 1 : Nat) : Int) by omega]
        exact ih (l + 1) A'' _ f (by omega) (by omega) (sH_tr hA (sH_n k1)) (by rw [k1 15 (by decide)]; exact h15) k2 u2 hc hf
      refine x_iload_n hK kX10_enters_102 (q := 103) rfl rfl ?_
      refine x_aload_n hK kX10_enters_103 (q := 104) rfl rfl ?_
      refine x_getfield hK kX10_enters_104 (q := 107) rfl (gX10_167 ?_)
      rw [hF]
      refine x_icmp_ge hK kX10_enters_107 (q := 110) rfl (tg := 157) rfl (by refine ⟨?_, ?_⟩ <;> omega) (fun c107 => ?_) (fun c107 => ?_)
      · exfalso; omega
      · refine x_aload_n hK kX10_enters_110 (q := 111) rfl rfl ?_
        refine x_getfield hK kX10_enters_111 (q := 114) rfl (gX10_45 ?_)
        refine x_iload_n hK kX10_enters_114 (q := 115) rfl rfl ?_
        refine x_baload hK kX10_enters_115 (q := 116) rfl (aX10_A15 (by refine ⟨?_, ?_⟩ <;> omega) ?_)
        rw [hl15]
        refine x_if_eq hK kX10_enters_116 (q := 119) rfl (tg := 151) rfl (by exact w1) (fun c116 => ?_) (fun c116 => ?_)
        · refine nx A' (sN_rf A') ?_
          unfold uS
          rw [if_pos (Or.inl (by rw [hu15]; exact c116))]
          exact hr'
        · refine x_aload_n hK kX10_enters_119 (q := 120) rfl rfl ?_
          refine x_iload_n hK kX10_enters_120 (q := 121) rfl rfl ?_
          refine x_cs1 hK kX10_enters_121 (q := 124) rfl (stX10_enters_158) (Nat.le_of_ble_eq_true rfl) ?_
          refine SX10_row_i ?_
          refine x_iload_n hK kX10_enters_124 (q := 125) rfl rfl ?_
          refine x_iadd hK kX10_enters_125 (q := 126) rfl ?_
          refine x_cv2 hK kX10_enters_126 (q := 129) rfl (vtX10_enters_81) (Nat.le_of_ble_eq_true rfl) ?_
          refine SX10_isZero_n hr' (by omega) ?_
          refine x_if_ne hK kX10_enters_129 (q := 132) rfl (tg := 151) rfl (by exact zZ_w _) (fun c129 => ?_) (fun c129 => ?_)
          · refine nx A' (sN_rf A') ?_
            unfold uS
            rw [if_pos (Or.inr (Decidable.not_not.mp (fun g => c129 (zZ_0.mpr g))))]
            exact hr'
          · have c130 : s' (45 * (l : Int) + t) ≠ 0 := zZ_0.mp (Decidable.not_not.mp c129)
            have c131 : ¬ (uI (A 15) t 1 (l : Int) = 0 ∨ s' (45 * (l : Int) + t) = 0) := by rw [hu15]; rintro (g | g); exact c116 g; exact c130 g
            have u3 : hB s' (45 * l) t l ∧ pB (hS s' (45 * l) t l) (45 * l) l := by
              rcases u1 with g | g | g
              · exact absurd (Or.inl g) c131
              · exact absurd (Or.inr g) c131
              · exact g
            refine x_aload_n hK kX10_enters_132 (q := 133) rfl rfl ?_
            refine x_iload_n hK kX10_enters_133 (q := 134) rfl rfl ?_
            refine x_cs1 hK kX10_enters_134 (q := 137) rfl (stX10_enters_158) (Nat.le_of_ble_eq_true rfl) ?_
            refine SX10_row_i ?_
            refine x_iload_n hK kX10_enters_137 (q := 138) rfl rfl ?_
            refine x_iload_n hK kX10_enters_138 (q := 139) rfl rfl ?_
            refine x_cv4 hK kX10_enters_139 (q := 142) rfl (vtX10_enters_170) (Nat.le_of_ble_eq_true rfl) ?_
            refine SX10_lose_f hr' (by omega) (by omega) (by omega) u3.1 (fun A1 k1 r1 => ?_)
            refine x_aload_n hK kX10_enters_142 (q := 143) rfl rfl ?_
            refine x_iload_n hK kX10_enters_143 (q := 144) rfl rfl ?_
            refine x_cs1 hK kX10_enters_144 (q := 147) rfl (stX10_enters_158) (Nat.le_of_ble_eq_true rfl) ?_
            refine SX10_row_i ?_
            refine x_iload_n hK kX10_enters_147 (q := 148) rfl rfl ?_
            refine x_cv3 hK kX10_enters_148 (q := 151) rfl (vtX10_enters_176) (Nat.le_of_ble_eq_true rfl) ?_
            refine SX10_plain_f l r1 (by omega) (by omega) u3.2 (fun A2 k2 r2 => ?_)
            refine nx A2 (sN_tr k1 k2) ?_
            unfold uS
            rw [if_neg c131]
            exact r2
  -- laying the row down
  have lay : ∀ (t : Nat) (d i : Nat) (A' : Nat → Int → Int), t < n → i + d = 45 → sN A A' → rn (A' 0) (rC (pS s1 2025 t) t i) → (pB s1 2025 t ∧ uP (uI (A 15) t 1) t (n - 1 - t) (t + 1) (rC (pS s1 2025 t) t 45) ∧ ∀ A', sH A A' → A' 15 = uI (A 15) t 1 → rn (A' 0) (uC (uI (A 15) t 1) t (n - 1 - t) (t + 1) (rC (pS s1 2025 t) t 45)) → rt (some (eI 1)) (cR F A')) → K 64 [some eRR, some (eI t), some (eI i)] [] (cR F A') := by
    intro t d
    induction d with
    | zero =>
      intro i A' ht hi hA hr' hf
      have e : i = 45 := by omega
      subst e
      refine x_iload_n hK kX10_enters_64 (q := 65) rfl rfl ?_
      refine x_bipush hK kX10_enters_65 (q := 67) rfl (by decide) ?_
      refine x_icmp_ge hK kX10_enters_67 (q := 70) rfl (tg := 91) rfl (by refine ⟨?_, ?_⟩ <;> omega) (fun c67 => ?_) (fun c67 => ?_)
      · refine x_aload_n hK kX10_enters_91 (q := 92) rfl rfl ?_
        refine x_getfield hK kX10_enters_92 (q := 95) rfl (gX10_45 ?_)
        refine x_iload_n hK kX10_enters_95 (q := 96) rfl rfl ?_
        refine x_iconst hK kX10_enters_96 (q := 97) rfl ?_
        refine x_bastore hK kX10_enters_97 (q := 98) rfl (by omega) (yX10_A15 (by refine ⟨?_, ?_⟩ <;> omega) ?_)
        rw [hA 15 (by decide)]
        refine x_iload_n hK kX10_enters_98 (q := 99) rfl rfl ?_
        refine x_iconst hK kX10_enters_99 (q := 100) rfl ?_
        refine x_iadd hK kX10_enters_100 (q := 101) rfl ?_
        refine x_istore_n hK kX10_enters_101 (q := 102) (jn := 2) rfl rfl ?_
        simp only [lS, lS2, clr_0, clr_I, clr_L, clr_R]
        rw [show (t : Int) + 1 = ((t + 1 : Nat) : Int) by omega]
        refine ups t (n - 1 - t) (t + 1) _ _ _ (by omega) (by omega) (sH_tr (sH_n hA) (sH_u _)) (by rw [uA_g]) (by rw [uA_n _ _ (by decide)]; exact hr') hf.2.1 rfl hf.2.2
      · exfalso; omega
    | succ d ih =>
      intro i A' ht hi hA hr' hf
      have v1 : rC (pS s1 2025 t) t i (2025 + i) = pS s1 2025 t (2025 + i) := by
        unfold rC
        rw [if_neg (by omega)]
      refine x_iload_n hK kX10_enters_64 (q := 65) rfl rfl ?_
      refine x_bipush hK kX10_enters_65 (q := 67) rfl (by decide) ?_
      refine x_icmp_ge hK kX10_enters_67 (q := 70) rfl (tg := 91) rfl (by refine ⟨?_, ?_⟩ <;> omega) (fun c67 => ?_) (fun c67 => ?_)
      · exfalso; omega
      · refine x_aload_n hK kX10_enters_70 (q := 71) rfl rfl ?_
        refine x_iload_n hK kX10_enters_71 (q := 72) rfl rfl ?_
        refine x_cs1 hK kX10_enters_72 (q := 75) rfl (stX10_enters_158) (Nat.le_of_ble_eq_true rfl) ?_
        refine SX10_row_i ?_
        refine x_iload_n hK kX10_enters_75 (q := 76) rfl rfl ?_
        refine x_iadd hK kX10_enters_76 (q := 77) rfl ?_
        refine x_sipush hK kX10_enters_77 (q := 80) rfl (by decide) ?_
        refine x_iload_n hK kX10_enters_80 (q := 81) rfl rfl ?_
        refine x_iadd hK kX10_enters_81 (q := 82) rfl ?_
        refine x_cv3 hK kX10_enters_82 (q := 85) rfl (vtX10_enters_85) (Nat.le_of_ble_eq_true rfl) ?_
        refine SX10_copy_n hr' (by omega) (by omega) (fun A1 k1 r1 => ?_)
        refine x_iinc hK kX10_enters_85 (q := 88) rfl rfl ?_
        simp only [lS, lS2, clr_0, clr_I, clr_L, clr_R]
        refine x_goto hK kX10_enters_88 (tg := 64) rfl ?_
        rw [show (i : Int) + 1 = ((i + 1 : Nat) : Int) by omega]
        refine ih (i + 1) A1 ht (by omega) (sN_tr hA k1) ?_ hf
        rw [v1] at r1
        have e5 : uI (rC (pS s1 2025 t) t i) (45 * (t : Int) + i) (pS s1 2025 t (2025 + i)) = rC (pS s1 2025 t) t ((i + 1 : Nat) : Int) := by
          funext j
          unfold uI rC
          split
          · rename_i g
            rw [g, if_pos (by omega), show 2025 + (45 * (t : Int) + i - 45 * t) = 2025 + i by omega]
          · split
            · rw [if_pos (by omega)]
            · rw [if_neg (by omega)]
        rw [e5] at r1
        exact r1
  -- the row at hand loses all leads
  have loop : ∀ (m : Nat) (k : Int) (A' : Nat → Int → Int) (s' : Int → Int), k + 1 = m → m ≤ n → sN A A' → rn (A' 0) s' → dP (A 15) n m s' → dA (A 15) n m s' = s1 → K 7 [some eRR, some (eI k), none] [] (cR F A') := by
    intro m
    induction m with
    | zero =>
      intro k A' s' hk hm hA hr' hP' hd
      have e : k = -1 := by omega
      subst e
      have e2 : s' = s1 := hd
      subst e2
      refine x_iload_n hK kX10_enters_7 (q := 8) rfl rfl ?_
      refine x_if_lt hK kX10_enters_8 (q := 11) rfl (tg := 40) rfl (by omega) (fun c8 => ?_) (fun c8 => ?_)
      · refine x_aload_n hK kX10_enters_40 (q := 41) rfl rfl ?_
        refine x_sipush hK kX10_enters_41 (q := 44) rfl (by decide) ?_
        refine x_cv2 hK kX10_enters_44 (q := 47) rfl (vtX10_enters_173) (Nat.le_of_ble_eq_true rfl) ?_
        refine SX10_topOf_i hr' (by omega) (by omega) (by omega) (fun t t0 t1 t2 t3 => ?_)
        refine x_istore_n hK kX10_enters_47 (q := 48) (jn := 1) rfl rfl ?_
        refine x_iload_n hK kX10_enters_48 (q := 49) rfl rfl ?_
        simp only [lS, lS2, clr_0, clr_I, clr_L, clr_R]
        refine x_if_ge hK kX10_enters_49 (q := 52) rfl (tg := 54) rfl (by constructor <;> omega) (fun c49 => ?_) (fun c49 => ?_)
        · obtain ⟨T, rfl⟩ : ∃ T : Nat, t = T := ⟨t.toNat, by omega⟩
          have hf := h1 T (by omega) (by rcases t2 with g | g; exfalso; omega; exact g) (fun k k0 k1 => t3 k k0 (by omega))
          refine x_aload_n hK kX10_enters_54 (q := 55) rfl rfl ?_
          refine x_sipush hK kX10_enters_55 (q := 58) rfl (by decide) ?_
          refine x_iload_n hK kX10_enters_58 (q := 59) rfl rfl ?_
          refine x_cv3 hK kX10_enters_59 (q := 62) rfl (vtX10_enters_176) (Nat.le_of_ble_eq_true rfl) ?_
          refine SX10_plain_f T hr' (by omega) (by omega) hf.1 (fun A1 k1 r1 => ?_)
          refine x_iconst hK kX10_enters_62 (q := 63) rfl ?_
          refine x_istore_n hK kX10_enters_63 (q := 64) (jn := 2) rfl rfl ?_
          simp only [lS, lS2, clr_0, clr_I, clr_L, clr_R]
          refine lay T 45 0 A1 (by omega) (by omega) (sN_tr hA k1) ?_ hf
          have e5 : rC (pS s' 2025 T) T ((0 : Nat) : Int) = pS s' 2025 T := by
            funext j
            unfold rC
            rw [if_neg (by omega)]
          rw [e5]
          exact r1
        · refine x_iconst hK kX10_enters_52 (q := 53) rfl ?_
          refine x_ireturn hK kX10_enters_53 (by exact Or.inl rfl) ?_
          exact h0 (fun k k0 k1 => t3 k (by omega) (by omega)) A' hA hr'
      · exfalso; omega
    | succ m ih =>
      intro k A' s' hk hm hA hr' hP' hd
      have e : k = m := by omega
      subst e
      obtain ⟨p1, p2⟩ := hP'
      have w1 : w32 (A 15 m) := by rcases hh m with e | e <;> rw [e] <;> decide
      refine x_iload_n hK kX10_enters_7 (q := 8) rfl rfl ?_
      refine x_if_lt hK kX10_enters_8 (q := 11) rfl (tg := 40) rfl (by constructor <;> omega) (fun c8 => ?_) (fun c8 => ?_)
      · exfalso; omega
      · refine x_aload_n hK kX10_enters_11 (q := 12) rfl rfl ?_
        refine x_getfield hK kX10_enters_12 (q := 15) rfl (gX10_45 ?_)
        refine x_iload_n hK kX10_enters_15 (q := 16) rfl rfl ?_
        refine x_baload hK kX10_enters_16 (q := 17) rfl (aX10_A15 (by refine ⟨?_, ?_⟩ <;> omega) ?_)
        rw [hA 15 (by decide)]
        refine x_if_eq hK kX10_enters_17 (q := 20) rfl (tg := 34) rfl (by exact w1) (fun c17 => ?_) (fun c17 => ?_)
        · refine x_iinc hK kX10_enters_34 (q := 37) rfl rfl ?_
          simp only [lS, lS2, clr_0, clr_I, clr_L, clr_R]
          refine x_goto hK kX10_enters_37 (tg := 7) rfl ?_
          rw [if_pos c17] at p2
          refine ih _ A' s' (by omega) (by omega) hA hr' p2 ?_
          rw [← hd]
          show _ = dA (A 15) n m (if A 15 m = 0 then s' else _)
          rw [if_pos c17]
        · refine x_aload_n hK kX10_enters_20 (q := 21) rfl rfl ?_
          refine x_sipush hK kX10_enters_21 (q := 24) rfl (by decide) ?_
          refine x_iload_n hK kX10_enters_24 (q := 25) rfl rfl ?_
          refine x_aload_n hK kX10_enters_25 (q := 26) rfl rfl ?_
          refine x_getfield hK kX10_enters_26 (q := 29) rfl (gX10_167 ?_)
          refine x_iconst hK kX10_enters_29 (q := 30) rfl ?_
          refine x_isub hK kX10_enters_30 (q := 31) rfl ?_
          rw [hF]
          refine x_cv4 hK kX10_enters_31 (q := 34) rfl (vtX10_enters_170) (Nat.le_of_ble_eq_true rfl) ?_
          refine SX10_lose_f hr' (by omega) (by omega) (by omega) (p1 c17) (fun A1 k1 r1 => ?_)
          refine x_iinc hK kX10_enters_34 (q := 37) rfl rfl ?_
          simp only [lS, lS2, clr_0, clr_I, clr_L, clr_R]
          refine x_goto hK kX10_enters_37 (tg := 7) rfl ?_
          rw [if_neg c17] at p2
          refine ih _ A1 _ (by omega) (by omega) (sN_tr hA k1) r1 p2 ?_
          rw [← hd]
          show _ = dA (A 15) n m (if A 15 m = 0 then s' else _)
          rw [if_neg c17]
  simp only [eLoc, eE, List.length_cons, List.length_nil, List.replicate, List.cons_append, List.nil_append, Nat.reduceAdd, Nat.reduceSub]
  refine x_aload_n hK kX10_enters_0 (q := 1) rfl rfl ?_
  refine x_getfield hK kX10_enters_1 (q := 4) rfl (gX10_167 ?_)
  refine x_iconst hK kX10_enters_4 (q := 5) rfl ?_
  refine x_isub hK kX10_enters_5 (q := 6) rfl ?_
  rw [hF]
  refine x_istore_n hK kX10_enters_6 (q := 7) (jn := 1) rfl rfl ?_
  simp only [lS, lS2, clr_0, clr_I, clr_L, clr_R]
  exact loop n _ A s (by omega) (Nat.le_refl _) (sN_rf A) hr hP hs1.symm
set_option maxRecDepth 20000 in
theorem mX10_enters : eMet yX10_enters cX10_enters 3 (some .boolean) 5 130 SX10_enters := eMet_of (by decide +kernel) sX10_enters kX10_enters_ok caX10_enters tb_RX10
theorem wX10_enters : eWV yX10_enters cX10_enters 3 (some .boolean) 1 9 SX10_enters := ⟨(gW_at 1081 (by decide +kernel) rfl), (gW_at 89 (by decide +kernel) rfl), (gW_at 1080 (by decide +kernel) rfl), ⟨_, rfl, (gW_at 40 (by decide +kernel) rfl)⟩, by decide +kernel, SX10_enters_r⟩
