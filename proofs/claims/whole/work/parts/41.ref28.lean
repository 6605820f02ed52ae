/-! isEnough, isSame. -/
def eCm (g a b : Int) : Prop := ((0 < mX a ∧ 0 < mX b) ∨ (0 < mY a ∧ 0 < mY b)) ∧ g < max (mX a) (mX b) + max (mY a) (mY b)
def eNo (e : Int → Int) (N : Nat) (g : Int) : Prop := ∀ i k : Nat, i < k → k < N → ¬ eCm g (e i) (e k)
def SX10_isEnough : eSp := fun as M rt => ∃ (F : Nat → Int) (A : Nat → Int → Int) (N : Nat) (g : Int), as = [eRR] ∧ M = cR F A ∧ F 17 = N ∧ N ≤ 45 ∧ F 13 = g ∧ w32 g ∧ (∀ i : Nat, i < N → 0 ≤ A 16 i ∧ A 16 i < 45) ∧ ∀ b : Int, (b = 0 ∨ b = 1) → (b = 1 ↔ eNo (A 16) N g) → rt (some (eI b)) (cR F A)
theorem SX10_isEnough_i {F : Nat → Int} {A : Nat → Int → Int} {N : Nat} {g : Int} {rt : Option eV → eM → Prop} (h0 : F 17 = N) (h1 : N ≤ 45) (h2 : F 13 = g) (h3 : w32 g) (h4 : ∀ i : Nat, i < N → 0 ≤ A 16 i ∧ A 16 i < 45) (h : ∀ b : Int, (b = 0 ∨ b = 1) → (b = 1 ↔ eNo (A 16) N g) → rt (some (eI b)) (cR F A)) : SX10_isEnough [eRR] (cR F A) rt := ⟨F, A, N, g, rfl, rfl, h0, h1, h2, h3, h4, h⟩
theorem SX10_isEnough_r : ∀ as M rt, SX10_isEnough as M rt → ∃ a r fs, as = eR a :: r ∧ M a = some (.inl (9, fs)) := by
  rintro as M rt ⟨F, A, N, g, rfl, rfl, -⟩
  exact ⟨_, _, _, rfl, rfl⟩
def kX10_isEnough : List (Nat × Jvm.ClassFile.Instr × Nat) := [(0, .iconst 0, 1), (1, .istore_n 1, 1), (2, .iload_n 1, 1), (3, .aload_n 0, 1), (4, .getfield 196, 3), (7, .if_icmp .ge 122, 3), (10, .iload_n 1, 1), (11, .iconst 1, 1), (12, .iadd, 1), (13, .istore_n 2, 1), (14, .iload_n 2, 1), (15, .aload_n 0, 1), (16, .getfield 196, 3), (19, .if_icmp .ge 104, 3), (22, .aload_n 0, 1), (23, .getfield 49, 3), (26, .iload_n 1, 1), (27, .iaload, 1), (28, .istore_n 3, 1), (29, .aload_n 0, 1), (30, .getfield 49, 3), (33, .iload_n 2, 1), (34, .iaload, 1), (35, .istore 4, 2), (37, .iload_n 3, 1), (38, .invokestatic 142, 3), (41, .ifCond .le 11, 3), (44, .iload 4, 2), (46, .invokestatic 142, 3), (49, .ifCond .gt 18, 3), (52, .iload_n 3, 1), (53, .invokestatic 145, 3), (56, .ifCond .le 15, 3), (59, .iload 4, 2), (61, .invokestatic 145, 3), (64, .ifCond .le 7, 3), (67, .iconst 1, 1), (68, .goto 4, 3), (71, .iconst 0, 1), (72, .istore 5, 2), (74, .iload_n 3, 1), (75, .invokestatic 142, 3), (78, .iload 4, 2), (80, .invokestatic 142, 3), (83, .invokestatic 89, 3), (86, .iload_n 3, 1), (87, .invokestatic 145, 3), (90, .iload 4, 2), (92, .invokestatic 145, 3), (95, .invokestatic 89, 3), (98, .iadd, 1), (99, .istore 6, 2), (101, .iload 5, 2), (103, .ifCond .eq 14, 3), (106, .iload 6, 2), (108, .aload_n 0, 1), (109, .getfield 179, 3), (112, .if_icmp .le 5, 3), (115, .iconst 0, 1), (116, .ireturn, 1), (117, .iinc 2 1, 3), (120, .goto (-106), 3), (123, .iinc 1 1, 3), (126, .goto (-124), 3), (129, .iconst 1, 1), (130, .ireturn, 1)]
theorem kX10_isEnough_0 : cdOf kX10_isEnough 0 = some (.iconst 0, 1) := by decide +kernel
theorem kX10_isEnough_1 : cdOf kX10_isEnough 1 = some (.istore_n 1, 1) := by decide +kernel
theorem kX10_isEnough_2 : cdOf kX10_isEnough 2 = some (.iload_n 1, 1) := by decide +kernel
theorem kX10_isEnough_3 : cdOf kX10_isEnough 3 = some (.aload_n 0, 1) := by decide +kernel
theorem kX10_isEnough_4 : cdOf kX10_isEnough 4 = some (.getfield 196, 3) := by decide +kernel
theorem kX10_isEnough_7 : cdOf kX10_isEnough 7 = some (.if_icmp .ge 122, 3) := by decide +kernel
theorem kX10_isEnough_10 : cdOf kX10_isEnough 10 = some (.iload_n 1, 1) := by decide +kernel
theorem kX10_isEnough_11 : cdOf kX10_isEnough 11 = some (.iconst 1, 1) := by decide +kernel
theorem kX10_isEnough_12 : cdOf kX10_isEnough 12 = some (.iadd, 1) := by decide +kernel
theorem kX10_isEnough_13 : cdOf kX10_isEnough 13 = some (.istore_n 2, 1) := by decide +kernel
theorem kX10_isEnough_14 : cdOf kX10_isEnough 14 = some (.iload_n 2, 1) := by decide +kernel
theorem kX10_isEnough_15 : cdOf kX10_isEnough 15 = some (.aload_n 0, 1) := by decide +kernel
theorem kX10_isEnough_16 : cdOf kX10_isEnough 16 = some (.getfield 196, 3) := by decide +kernel
theorem kX10_isEnough_19 : cdOf kX10_isEnough 19 = some (.if_icmp .ge 104, 3) := by decide +kernel
theorem kX10_isEnough_22 : cdOf kX10_isEnough 22 = some (.aload_n 0, 1) := by decide +kernel
theorem kX10_isEnough_23 : cdOf kX10_isEnough 23 = some (.getfield 49, 3) := by decide +kernel
theorem kX10_isEnough_26 : cdOf kX10_isEnough 26 = some (.iload_n 1, 1) := by decide +kernel
theorem kX10_isEnough_27 : cdOf kX10_isEnough 27 = some (.iaload, 1) := by decide +kernel
theorem kX10_isEnough_28 : cdOf kX10_isEnough 28 = some (.istore_n 3, 1) := by decide +kernel
theorem kX10_isEnough_29 : cdOf kX10_isEnough 29 = some (.aload_n 0, 1) := by decide +kernel
theorem kX10_isEnough_30 : cdOf kX10_isEnough 30 = some (.getfield 49, 3) := by decide +kernel
theorem kX10_isEnough_33 : cdOf kX10_isEnough 33 = some (.iload_n 2, 1) := by decide +kernel
theorem kX10_isEnough_34 : cdOf kX10_isEnough 34 = some (.iaload, 1) := by decide +kernel
theorem kX10_isEnough_35 : cdOf kX10_isEnough 35 = some (.istore 4, 2) := by decide +kernel
theorem kX10_isEnough_37 : cdOf kX10_isEnough 37 = some (.iload_n 3, 1) := by decide +kernel
theorem kX10_isEnough_38 : cdOf kX10_isEnough 38 = some (.invokestatic 142, 3) := by decide +kernel
theorem kX10_isEnough_41 : cdOf kX10_isEnough 41 = some (.ifCond .le 11, 3) := by decide +kernel
theorem kX10_isEnough_44 : cdOf kX10_isEnough 44 = some (.iload 4, 2) := by decide +kernel
theorem kX10_isEnough_46 : cdOf kX10_isEnough 46 = some (.invokestatic 142, 3) := by decide +kernel
theorem kX10_isEnough_49 : cdOf kX10_isEnough 49 = some (.ifCond .gt 18, 3) := by decide +kernel
theorem kX10_isEnough_52 : cdOf kX10_isEnough 52 = some (.iload_n 3, 1) := by decide +kernel
theorem kX10_isEnough_53 : cdOf kX10_isEnough 53 = some (.invokestatic 145, 3) := by decide +kernel
theorem kX10_isEnough_56 : cdOf kX10_isEnough 56 = some (.ifCond .le 15, 3) := by decide +kernel
theorem kX10_isEnough_59 : cdOf kX10_isEnough 59 = some (.iload 4, 2) := by decide +kernel
theorem kX10_isEnough_61 : cdOf kX10_isEnough 61 = some (.invokestatic 145, 3) := by decide +kernel
theorem kX10_isEnough_64 : cdOf kX10_isEnough 64 = some (.ifCond .le 7, 3) := by decide +kernel
theorem kX10_isEnough_67 : cdOf kX10_isEnough 67 = some (.iconst 1, 1) := by decide +kernel
theorem kX10_isEnough_68 : cdOf kX10_isEnough 68 = some (.goto 4, 3) := by decide +kernel
theorem kX10_isEnough_71 : cdOf kX10_isEnough 71 = some (.iconst 0, 1) := by decide +kernel
theorem kX10_isEnough_72 : cdOf kX10_isEnough 72 = some (.istore 5, 2) := by decide +kernel
theorem kX10_isEnough_74 : cdOf kX10_isEnough 74 = some (.iload_n 3, 1) := by decide +kernel
theorem kX10_isEnough_75 : cdOf kX10_isEnough 75 = some (.invokestatic 142, 3) := by decide +kernel
theorem kX10_isEnough_78 : cdOf kX10_isEnough 78 = some (.iload 4, 2) := by decide +kernel
theorem kX10_isEnough_80 : cdOf kX10_isEnough 80 = some (.invokestatic 142, 3) := by decide +kernel
theorem kX10_isEnough_83 : cdOf kX10_isEnough 83 = some (.invokestatic 89, 3) := by decide +kernel
theorem kX10_isEnough_86 : cdOf kX10_isEnough 86 = some (.iload_n 3, 1) := by decide +kernel
theorem kX10_isEnough_87 : cdOf kX10_isEnough 87 = some (.invokestatic 145, 3) := by decide +kernel
theorem kX10_isEnough_90 : cdOf kX10_isEnough 90 = some (.iload 4, 2) := by decide +kernel
theorem kX10_isEnough_92 : cdOf kX10_isEnough 92 = some (.invokestatic 145, 3) := by decide +kernel
theorem kX10_isEnough_95 : cdOf kX10_isEnough 95 = some (.invokestatic 89, 3) := by decide +kernel
theorem kX10_isEnough_98 : cdOf kX10_isEnough 98 = some (.iadd, 1) := by decide +kernel
theorem kX10_isEnough_99 : cdOf kX10_isEnough 99 = some (.istore 6, 2) := by decide +kernel
theorem kX10_isEnough_101 : cdOf kX10_isEnough 101 = some (.iload 5, 2) := by decide +kernel
theorem kX10_isEnough_103 : cdOf kX10_isEnough 103 = some (.ifCond .eq 14, 3) := by decide +kernel
theorem kX10_isEnough_106 : cdOf kX10_isEnough 106 = some (.iload 6, 2) := by decide +kernel
theorem kX10_isEnough_108 : cdOf kX10_isEnough 108 = some (.aload_n 0, 1) := by decide +kernel
theorem kX10_isEnough_109 : cdOf kX10_isEnough 109 = some (.getfield 179, 3) := by decide +kernel
theorem kX10_isEnough_112 : cdOf kX10_isEnough 112 = some (.if_icmp .le 5, 3) := by decide +kernel
theorem kX10_isEnough_115 : cdOf kX10_isEnough 115 = some (.iconst 0, 1) := by decide +kernel
theorem kX10_isEnough_116 : cdOf kX10_isEnough 116 = some (.ireturn, 1) := by decide +kernel
theorem kX10_isEnough_117 : cdOf kX10_isEnough 117 = some (.iinc 2 1, 3) := by decide +kernel
theorem kX10_isEnough_120 : cdOf kX10_isEnough 120 = some (.goto (-106), 3) := by decide +kernel
theorem kX10_isEnough_123 : cdOf kX10_isEnough 123 = some (.iinc 1 1, 3) := by decide +kernel
theorem kX10_isEnough_126 : cdOf kX10_isEnough 126 = some (.goto (-124), 3) := by decide +kernel
theorem kX10_isEnough_129 : cdOf kX10_isEnough 129 = some (.iconst 1, 1) := by decide +kernel
theorem kX10_isEnough_130 : cdOf kX10_isEnough 130 = some (.ireturn, 1) := by decide +kernel
set_option maxRecDepth 20000 in
theorem kX10_isEnough_ok : ∀ pc i len, cdOf kX10_isEnough pc = some (i, len) → decode cX10_isEnough pc = .ok (i, len) ∧ stOK 7 i = true ∧ jOK pc i = true ∧ eLen i len = true := cdOf_ok cX10_isEnough 7 kX10_isEnough (by decide +kernel)
def vtX10_isEnough : Nat → Option (Nat × eSp) := fun _ => none
def stX10_isEnough : Nat → Option (Nat × eSp) := fun k => match k with
  | 142 => some (1, SX10_xOf)
  | 145 => some (1, SX10_yOf)
  | 89 => some (2, sMax)
  | _ => none
theorem stX10_isEnough_142 : stX10_isEnough 142 = some (1, SX10_xOf) := rfl
theorem stX10_isEnough_145 : stX10_isEnough 145 = some (1, SX10_yOf) := rfl
theorem stX10_isEnough_89 : stX10_isEnough 89 = some (2, sMax) := rfl
abbrev TX10_isEnough : eT := (fl_RX10, cl_RX10, dl_RX10, vtX10_isEnough, stX10_isEnough)
set_option maxRecDepth 20000 in
theorem caX10_isEnough : eCalls RX10 { frames := 3, cells := 0, slots := 0, locals := 62 } TX10_isEnough := by
  refine ⟨fun k n sp h => ?_, fun k n sp h => ?_⟩
  · cases h
  · dsimp only [TX10_isEnough] at h
    unfold stX10_isEnough at h
    split at h
    · cases h; exact eS_mk mX10_xOf wX10_xOf (by decide +kernel) (Or.inl (gW_at 1181 (by decide +kernel) rfl))
    · cases h; exact eS_mk mX10_yOf wX10_yOf (by decide +kernel) (Or.inl (gW_at 1184 (by decide +kernel) rfl))
    · cases h; exact eS_max (by decide +kernel) (gW_at 1157 (by decide +kernel) rfl) (gW_at 119 (by decide +kernel) rfl) (gW_at 82 (by decide +kernel) rfl) (gW_at 120 (by decide +kernel) rfl)
    · cases h
set_option maxRecDepth 100000 in
set_option maxHeartbeats 4000000 in
theorem sX10_isEnough : eSafe TX10_isEnough (cdOf kX10_isEnough) 7 (some .boolean) SX10_isEnough := by
  intro K rt hK as M h
  obtain ⟨F, A, N, g, rfl, rfl, hF, hN, hG, hg, he, h⟩ := h
  refine ⟨by simp [eE], ?_⟩
  have inner : ∀ (d i k : Nat) (u3 u4 u5 u6 : Option eV), i < N → i < k → k + d = N → (∀ j l : Nat, j < l → l < N → (j < i ∨ (j = i ∧ l < k)) → ¬ eCm g (A 16 j) (A 16 l)) → ((∀ j l : Nat, j < l → l < N → j < i + 1 → ¬ eCm g (A 16 j) (A 16 l)) → ∀ (u3 u4 u5 u6 : Option eV), K 123 [some eRR, some (eI i), some (eI N), u3, u4, u5, u6] [] (cR F A)) → K 14 [some eRR, some (eI i), some (eI k), u3, u4, u5, u6] [] (cR F A) := by
    intro d
    induction d with
    | zero =>
      intro i k u3 u4 u5 u6 hi hik hk hj hf
      have e : k = N := by omega
      subst e
      refine x_iload_n hK kX10_isEnough_14 (q := 15) rfl rfl ?_
      refine x_aload_n hK kX10_isEnough_15 (q := 16) rfl rfl ?_
      refine x_getfield hK kX10_isEnough_16 (q := 19) rfl (gX10_196 ?_)
      rw [hF]
      refine x_icmp_ge hK kX10_isEnough_19 (q := 22) rfl (tg := 123) rfl (by refine ⟨?_, ?_⟩ <;> omega) (fun c19 => ?_) (fun c19 => ?_)
      · exact hf (fun j l j0 j1 j2 => hj j l j0 j1 (by omega)) u3 u4 u5 u6
      · exfalso; omega
    | succ d ih =>
      intro i k u3 u4 u5 u6 hi hik hk hj hf
      have a0 := he i hi
      have b0 := he k (by omega)
      obtain ⟨a, hea⟩ : ∃ a, A 16 i = a := ⟨_, rfl⟩
      obtain ⟨b, heb⟩ : ∃ b, A 16 k = b := ⟨_, rfl⟩
      rw [hea] at a0
      rw [heb] at b0
      have a1 := mD_h a0
      have a2 := mX_h a0
      have a3 := mY_h a0
      have b1 := mD_h b0
      have b2 := mX_h b0
      have b3 := mY_h b0
      have wa : w32 (mX a) := by constructor <;> omega
      have wb : w32 (mX b) := by constructor <;> omega
      have wc : w32 (mY a) := by constructor <;> omega
      have wd : w32 (mY b) := by constructor <;> omega
      have we : w32 (max (mX a) (mX b) + max (mY a) (mY b)) := by constructor <;> omega
      clear a1 a2 a3 b1 b2 b3
      have nx : ∀ (u3 u4 u5 u6 : Option eV), ¬ eCm g a b → K 117 [some eRR, some (eI i), some (eI k), u3, u4, u5, u6] [] (cR F A) := by
        intro u3 u4 u5 u6 hc
        refine x_iinc hK kX10_isEnough_117 (q := 120) rfl rfl ?_
        simp only [lS, lS2, clr_0, clr_I, clr_L, clr_R]
        refine x_goto hK kX10_isEnough_120 (tg := 14) rfl ?_
        rw [show (k : Int) + 1 = ((k + 1 : Nat) : Int) by omega]
        refine ih i (k + 1) u3 u4 u5 u6 hi (by omega) (by omega) (fun j l j0 j1 j2 => ?_) hf
        rcases Decidable.em (j = i ∧ l = k) with e | e
        · obtain ⟨rfl, rfl⟩ := e
          rw [hea, heb]
          exact hc
        · exact hj j l j0 j1 (by omega)
      have tst : ∀ (c : Int) (u6 : Option eV), (c = 0 ∨ c = 1) → (c = 1 ↔ ((0 < mX a ∧ 0 < mX b) ∨ (0 < mY a ∧ 0 < mY b))) → K 72 [some eRR, some (eI i), some (eI k), some (eI a), some (eI b), u5, u6] [eI c] (cR F A) := by
        intro c u6 c0 c1
        refine x_istore hK kX10_isEnough_72 (q := 74) rfl ?_
        refine x_iload_n hK kX10_isEnough_74 (q := 75) rfl rfl ?_
        simp only [lS, lS2, clr_0, clr_I, clr_L, clr_R]
        refine x_cs1 hK kX10_isEnough_75 (q := 78) rfl (stX10_isEnough_142) (Nat.le_of_ble_eq_true rfl) ?_
        refine SX10_xOf_i (by omega) ?_
        refine x_iload hK kX10_isEnough_78 (q := 80) rfl rfl ?_
        refine x_cs1 hK kX10_isEnough_80 (q := 83) rfl (stX10_isEnough_142) (Nat.le_of_ble_eq_true rfl) ?_
        refine SX10_xOf_i (by omega) ?_
        refine x_cs2 hK kX10_isEnough_83 (q := 86) rfl (stX10_isEnough_89) (Nat.le_of_ble_eq_true rfl) ?_
        refine SJ9_max_7cf53_i ⟨wa, wb⟩ ?_
        refine x_iload_n hK kX10_isEnough_86 (q := 87) rfl rfl ?_
        refine x_cs1 hK kX10_isEnough_87 (q := 90) rfl (stX10_isEnough_145) (Nat.le_of_ble_eq_true rfl) ?_
        refine SX10_yOf_i (by omega) ?_
        refine x_iload hK kX10_isEnough_90 (q := 92) rfl rfl ?_
        refine x_cs1 hK kX10_isEnough_92 (q := 95) rfl (stX10_isEnough_145) (Nat.le_of_ble_eq_true rfl) ?_
        refine SX10_yOf_i (by omega) ?_
        refine x_cs2 hK kX10_isEnough_95 (q := 98) rfl (stX10_isEnough_89) (Nat.le_of_ble_eq_true rfl) ?_
        refine SJ9_max_7cf53_i ⟨wc, wd⟩ ?_
        refine x_iadd hK kX10_isEnough_98 (q := 99) rfl ?_
        refine x_istore hK kX10_isEnough_99 (q := 101) rfl ?_
        refine x_iload hK kX10_isEnough_101 (q := 103) rfl rfl ?_
        simp only [lS, lS2, clr_0, clr_I, clr_L, clr_R]
        refine x_if_eq hK kX10_isEnough_103 (q := 106) rfl (tg := 117) rfl (by rcases c0 with e | e <;> rw [e] <;> decide) (fun c103 => ?_) (fun c103 => ?_)
        · exact nx _ _ _ _ (fun q => by have := c1.mpr q.1; omega)
        · refine x_iload hK kX10_isEnough_106 (q := 108) rfl rfl ?_
          refine x_aload_n hK kX10_isEnough_108 (q := 109) rfl rfl ?_
          refine x_getfield hK kX10_isEnough_109 (q := 112) rfl (gX10_179 ?_)
          rw [hG]
          refine x_icmp_le hK kX10_isEnough_112 (q := 115) rfl (tg := 117) rfl (by exact ⟨we, hg⟩) (fun c112 => ?_) (fun c112 => ?_)
          · exact nx _ _ _ _ (fun q => by have := q.2; omega)
          · refine x_iconst hK kX10_isEnough_115 (q := 116) rfl ?_
            refine x_ireturn hK kX10_isEnough_116 (by exact Or.inl rfl) ?_
            refine h 0 (Or.inl rfl) ⟨fun q => absurd q (by decide), fun q => absurd ⟨c1.mp (by omega), by omega⟩ (show ¬ eCm g a b from ?_)⟩
            have := q i k hik (by omega)
            rw [hea, heb] at this
            exact this
      refine x_iload_n hK kX10_isEnough_14 (q := 15) rfl rfl ?_
      refine x_aload_n hK kX10_isEnough_15 (q := 16) rfl rfl ?_
      refine x_getfield hK kX10_isEnough_16 (q := 19) rfl (gX10_196 ?_)
      rw [hF]
      refine x_icmp_ge hK kX10_isEnough_19 (q := 22) rfl (tg := 123) rfl (by refine ⟨?_, ?_⟩ <;> omega) (fun c19 => ?_) (fun c19 => ?_)
      · exfalso; omega
      · refine x_aload_n hK kX10_isEnough_22 (q := 23) rfl rfl ?_
        refine x_getfield hK kX10_isEnough_23 (q := 26) rfl (gX10_49 ?_)
        refine x_iload_n hK kX10_isEnough_26 (q := 27) rfl rfl ?_
        refine x_iaload hK kX10_isEnough_27 (q := 28) rfl (aX10_A16 (by refine ⟨?_, ?_⟩ <;> omega) ?_)
        rw [hea]
        refine x_istore_n hK kX10_isEnough_28 (q := 29) (jn := 3) rfl rfl ?_
        refine x_aload_n hK kX10_isEnough_29 (q := 30) rfl rfl ?_
        refine x_getfield hK kX10_isEnough_30 (q := 33) rfl (gX10_49 ?_)
        refine x_iload_n hK kX10_isEnough_33 (q := 34) rfl rfl ?_
        refine x_iaload hK kX10_isEnough_34 (q := 35) rfl (aX10_A16 (by refine ⟨?_, ?_⟩ <;> omega) ?_)
        simp only [lS, lS2, clr_0, clr_I, clr_L, clr_R]
        rw [heb]
        refine x_istore hK kX10_isEnough_35 (q := 37) rfl ?_
        refine x_iload_n hK kX10_isEnough_37 (q := 38) rfl rfl ?_
        simp only [lS, lS2, clr_0, clr_I, clr_L, clr_R]
        refine x_cs1 hK kX10_isEnough_38 (q := 41) rfl (stX10_isEnough_142) (Nat.le_of_ble_eq_true rfl) ?_
        refine SX10_xOf_i (by omega) ?_
        refine x_if_le hK kX10_isEnough_41 (q := 44) rfl (tg := 52) rfl (by exact wa) (fun c41 => ?_) (fun c41 => ?_)
        · refine x_iload_n hK kX10_isEnough_52 (q := 53) rfl rfl ?_
          refine x_cs1 hK kX10_isEnough_53 (q := 56) rfl (stX10_isEnough_145) (Nat.le_of_ble_eq_true rfl) ?_
          refine SX10_yOf_i (by omega) ?_
          refine x_if_le hK kX10_isEnough_56 (q := 59) rfl (tg := 71) rfl (by exact wc) (fun c56 => ?_) (fun c56 => ?_)
          · refine x_iconst hK kX10_isEnough_71 (q := 72) rfl ?_
            first
            | exact tst 1 _ (Or.inr rfl) ⟨fun _ => Or.inr ⟨by omega, by omega⟩, fun _ => rfl⟩
            | exact tst 0 _ (Or.inl rfl) ⟨fun q => absurd q (by decide), fun q => by omega⟩
          · refine x_iload hK kX10_isEnough_59 (q := 61) rfl rfl ?_
            refine x_cs1 hK kX10_isEnough_61 (q := 64) rfl (stX10_isEnough_145) (Nat.le_of_ble_eq_true rfl) ?_
            refine SX10_yOf_i (by omega) ?_
            refine x_if_le hK kX10_isEnough_64 (q := 67) rfl (tg := 71) rfl (by exact wd) (fun c64 => ?_) (fun c64 => ?_)
            · refine x_iconst hK kX10_isEnough_71 (q := 72) rfl ?_
              first
              | exact tst 1 _ (Or.inr rfl) ⟨fun _ => Or.inr ⟨by omega, by omega⟩, fun _ => rfl⟩
              | exact tst 0 _ (Or.inl rfl) ⟨fun q => absurd q (by decide), fun q => by omega⟩
            · refine x_iconst hK kX10_isEnough_67 (q := 68) rfl ?_
              refine x_goto hK kX10_isEnough_68 (tg := 72) rfl ?_
              first
              | exact tst 1 _ (Or.inr rfl) ⟨fun _ => Or.inr ⟨by omega, by omega⟩, fun _ => rfl⟩
              | exact tst 0 _ (Or.inl rfl) ⟨fun q => absurd q (by decide), fun q => by omega⟩
        · refine x_iload hK kX10_isEnough_44 (q := 46) rfl rfl ?_
          refine x_cs1 hK kX10_isEnough_46 (q := 49) rfl (stX10_isEnough_142) (Nat.le_of_ble_eq_true rfl) ?_
          refine SX10_xOf_i (by omega) ?_
          refine x_if_gt hK kX10_isEnough_49 (q := 52) rfl (tg := 67) rfl (by exact wb) (fun c49 => ?_) (fun c49 => ?_)
          · refine x_iconst hK kX10_isEnough_67 (q := 68) rfl ?_
            refine x_goto hK kX10_isEnough_68 (tg := 72) rfl ?_
            exact tst 1 _ (Or.inr rfl) ⟨fun _ => Or.inl ⟨by omega, by omega⟩, fun _ => rfl⟩
          · refine x_iload_n hK kX10_isEnough_52 (q := 53) rfl rfl ?_
            refine x_cs1 hK kX10_isEnough_53 (q := 56) rfl (stX10_isEnough_145) (Nat.le_of_ble_eq_true rfl) ?_
            refine SX10_yOf_i (by omega) ?_
            refine x_if_le hK kX10_isEnough_56 (q := 59) rfl (tg := 71) rfl (by exact wc) (fun c56 => ?_) (fun c56 => ?_)
            · refine x_iconst hK kX10_isEnough_71 (q := 72) rfl ?_
              first
              | exact tst 1 _ (Or.inr rfl) ⟨fun _ => Or.inr ⟨by omega, by omega⟩, fun _ => rfl⟩
              | exact tst 0 _ (Or.inl rfl) ⟨fun q => absurd q (by decide), fun q => by omega⟩
            · refine x_iload hK kX10_isEnough_59 (q := 61) rfl rfl ?_
              refine x_cs1 hK kX10_isEnough_61 (q := 64) rfl (stX10_isEnough_145) (Nat.le_of_ble_eq_true rfl) ?_
              refine SX10_yOf_i (by omega) ?_
              refine x_if_le hK kX10_isEnough_64 (q := 67) rfl (tg := 71) rfl (by exact wd) (fun c64 => ?_) (fun c64 => ?_)
              · refine x_iconst hK kX10_isEnough_71 (q := 72) rfl ?_
                first
                | exact tst 1 _ (Or.inr rfl) ⟨fun _ => Or.inr ⟨by omega, by omega⟩, fun _ => rfl⟩
                | exact tst 0 _ (Or.inl rfl) ⟨fun q => absurd q (by decide), fun q => by omega⟩
              · refine x_iconst hK kX10_isEnough_67 (q := 68) rfl ?_
                refine x_goto hK kX10_isEnough_68 (tg := 72) rfl ?_
                first
                | exact tst 1 _ (Or.inr rfl) ⟨fun _ => Or.inr ⟨by omega, by omega⟩, fun _ => rfl⟩
                | exact tst 0 _ (Or.inl rfl) ⟨fun q => absurd q (by decide), fun q => by omega⟩
  have outer : ∀ (d i : Nat) (u2 u3 u4 u5 u6 : Option eV), i + d = N → (∀ j l : Nat, j < l → l < N → j < i → ¬ eCm g (A 16 j) (A 16 l)) → K 2 [some eRR, some (eI i), u2, u3, u4, u5, u6] [] (cR F A) := by
    intro d
    induction d with
    | zero =>
      intro i u2 u3 u4 u5 u6 hi hj
      have e : i = N := by omega
      subst e
      refine x_iload_n hK kX10_isEnough_2 (q := 3) rfl rfl ?_
      refine x_aload_n hK kX10_isEnough_3 (q := 4) rfl rfl ?_
      refine x_getfield hK kX10_isEnough_4 (q := 7) rfl (gX10_196 ?_)
      rw [hF]
      refine x_icmp_ge hK kX10_isEnough_7 (q := 10) rfl (tg := 129) rfl (by refine ⟨?_, ?_⟩ <;> omega) (fun c7 => ?_) (fun c7 => ?_)
      · refine x_iconst hK kX10_isEnough_129 (q := 130) rfl ?_
        refine x_ireturn hK kX10_isEnough_130 (by exact Or.inr rfl) ?_
        exact h 1 (Or.inr rfl) ⟨fun _ j l j0 j1 => hj j l j0 j1 (by omega), fun _ => rfl⟩
      · exfalso; omega
    | succ d ih =>
      intro i u2 u3 u4 u5 u6 hi hj
      refine x_iload_n hK kX10_isEnough_2 (q := 3) rfl rfl ?_
      refine x_aload_n hK kX10_isEnough_3 (q := 4) rfl rfl ?_
      refine x_getfield hK kX10_isEnough_4 (q := 7) rfl (gX10_196 ?_)
      rw [hF]
      refine x_icmp_ge hK kX10_isEnough_7 (q := 10) rfl (tg := 129) rfl (by refine ⟨?_, ?_⟩ <;> omega) (fun c7 => ?_) (fun c7 => ?_)
      · exfalso; omega
      · refine x_iload_n hK kX10_isEnough_10 (q := 11) rfl rfl ?_
        refine x_iconst hK kX10_isEnough_11 (q := 12) rfl ?_
        refine x_iadd hK kX10_isEnough_12 (q := 13) rfl ?_
        refine x_istore_n hK kX10_isEnough_13 (q := 14) (jn := 2) rfl rfl ?_
        simp only [lS, lS2, clr_0, clr_I, clr_L, clr_R]
        rw [show (i : Int) + 1 = ((i + 1 : Nat) : Int) by omega]
        refine inner (N - (i + 1)) i (i + 1) u3 u4 u5 u6 (by omega) (by omega) (by omega) (fun j l j0 j1 j2 => hj j l j0 j1 (by omega)) (fun hq u3 u4 u5 u6 => ?_)
        refine x_iinc hK kX10_isEnough_123 (q := 126) rfl rfl ?_
        simp only [lS, lS2, clr_0, clr_I, clr_L, clr_R]
        refine x_goto hK kX10_isEnough_126 (tg := 2) rfl ?_
        rw [show (i : Int) + 1 = ((i + 1 : Nat) : Int) by omega]
        exact ih (i + 1) _ u3 u4 u5 u6 (by omega) hq
  simp only [eLoc, eE, List.length_cons, List.length_nil, List.replicate, List.cons_append, List.nil_append, Nat.reduceAdd, Nat.reduceSub]
  refine x_iconst hK kX10_isEnough_0 (q := 1) rfl ?_
  refine x_istore_n hK kX10_isEnough_1 (q := 2) (jn := 1) rfl rfl ?_
  simp only [lS, lS2, clr_0, clr_I, clr_L, clr_R]
  exact outer N 0 _ _ _ _ _ (by omega) (fun j l j0 j1 j2 => by omega)
set_option maxRecDepth 20000 in
theorem mX10_isEnough : eMet yX10_isEnough cX10_isEnough 7 (some .boolean) 3 62 SX10_isEnough := eMet_of (by decide +kernel) sX10_isEnough kX10_isEnough_ok caX10_isEnough tb_RX10
theorem wX10_isEnough : eWV yX10_isEnough cX10_isEnough 7 (some .boolean) 1 9 SX10_isEnough := ⟨(gW_at 1200 (by decide +kernel) rfl), (gW_at 89 (by decide +kernel) rfl), (gW_at 1199 (by decide +kernel) rfl), ⟨_, rfl, (gW_at 59 (by decide +kernel) rfl)⟩, by decide +kernel, SX10_isEnough_r⟩
-- isSame
def eSm (F : Nat → Int) (A : Nat → Int → Int) : Prop := F 9 = F 6 ∧ (∀ k : Nat, k < 24 → 6 * F 6 ≤ k ∨ A 7 k = A 4 k) ∧ ∀ k : Nat, k < 6 → A 8 k = A 5 k
def SX10_isSame : eSp := fun as M rt => ∃ (F : Nat → Int) (A : Nat → Int → Int), as = [eRR] ∧ M = cR F A ∧ (0 ≤ F 6 ∧ F 6 ≤ 4) ∧ w32 (F 9) ∧ (∀ k : Nat, k < 24 → w32 (A 7 k) ∧ w32 (A 4 k)) ∧ (∀ k : Nat, k < 6 → w32 (A 8 k) ∧ w32 (A 5 k)) ∧ ∀ b : Int, (b = 0 ∨ b = 1) → (b = 1 ↔ eSm F A) → rt (some (eI b)) (cR F A)
theorem SX10_isSame_i {F : Nat → Int} {A : Nat → Int → Int} {rt : Option eV → eM → Prop} (h0 : 0 ≤ F 6 ∧ F 6 ≤ 4) (h1 : w32 (F 9)) (h2 : ∀ k : Nat, k < 24 → w32 (A 7 k) ∧ w32 (A 4 k)) (h3 : ∀ k : Nat, k < 6 → w32 (A 8 k) ∧ w32 (A 5 k)) (h : ∀ b : Int, (b = 0 ∨ b = 1) → (b = 1 ↔ eSm F A) → rt (some (eI b)) (cR F A)) : SX10_isSame [eRR] (cR F A) rt := ⟨F, A, rfl, rfl, h0, h1, h2, h3, h⟩
theorem SX10_isSame_r : ∀ as M rt, SX10_isSame as M rt → ∃ a r fs, as = eR a :: r ∧ M a = some (.inl (9, fs)) := by
  rintro as M rt ⟨F, A, rfl, rfl, -⟩
  exact ⟨_, _, _, rfl, rfl⟩
def kX10_isSame : List (Nat × Jvm.ClassFile.Instr × Nat) := [(0, .aload_n 0, 1), (1, .getfield 38, 3), (4, .aload_n 0, 1), (5, .getfield 199, 3), (8, .if_icmp .ne 7, 3), (11, .iconst 1, 1), (12, .goto 4, 3), (15, .iconst 0, 1), (16, .istore_n 1, 1), (17, .iconst 0, 1), (18, .istore_n 2, 1), (19, .iload_n 2, 1), (20, .bipush 24, 2), (22, .if_icmp .ge 45, 3), (25, .iload_n 1, 1), (26, .ifCond .eq 33, 3), (29, .iload_n 2, 1), (30, .bipush 6, 2), (32, .aload_n 0, 1), (33, .getfield 199, 3), (36, .imul, 1), (37, .if_icmp .ge 18, 3), (40, .aload_n 0, 1), (41, .getfield 32, 3), (44, .iload_n 2, 1), (45, .iaload, 1), (46, .aload_n 0, 1), (47, .getfield 26, 3), (50, .iload_n 2, 1), (51, .iaload, 1), (52, .if_icmp .ne 7, 3), (55, .iconst 1, 1), (56, .goto 4, 3), (59, .iconst 0, 1), (60, .istore_n 1, 1), (61, .iinc 2 1, 3), (64, .goto (-45), 3), (67, .iconst 0, 1), (68, .istore_n 2, 1), (69, .iload_n 2, 1), (70, .bipush 6, 2), (72, .if_icmp .ge 34, 3), (75, .iload_n 1, 1), (76, .ifCond .eq 22, 3), (79, .aload_n 0, 1), (80, .getfield 35, 3), (83, .iload_n 2, 1), (84, .iaload, 1), (85, .aload_n 0, 1), (86, .getfield 29, 3), (89, .iload_n 2, 1), (90, .iaload, 1), (91, .if_icmp .ne 7, 3), (94, .iconst 1, 1), (95, .goto 4, 3), (98, .iconst 0, 1), (99, .istore_n 1, 1), (100, .iinc 2 1, 3), (103, .goto (-34), 3), (106, .iload_n 1, 1), (107, .ireturn, 1)]
theorem kX10_isSame_0 : cdOf kX10_isSame 0 = some (.aload_n 0, 1) := by decide +kernel
theorem kX10_isSame_1 : cdOf kX10_isSame 1 = some (.getfield 38, 3) := by decide +kernel
theorem kX10_isSame_4 : cdOf kX10_isSame 4 = some (.aload_n 0, 1) := by decide +kernel
theorem kX10_isSame_5 : cdOf kX10_isSame 5 = some (.getfield 199, 3) := by decide +kernel
theorem kX10_isSame_8 : cdOf kX10_isSame 8 = some (.if_icmp .ne 7, 3) := by decide +kernel
theorem kX10_isSame_11 : cdOf kX10_isSame 11 = some (.iconst 1, 1) := by decide +kernel
theorem kX10_isSame_12 : cdOf kX10_isSame 12 = some (.goto 4, 3) := by decide +kernel
theorem kX10_isSame_15 : cdOf kX10_isSame 15 = some (.iconst 0, 1) := by decide +kernel
theorem kX10_isSame_16 : cdOf kX10_isSame 16 = some (.istore_n 1, 1) := by decide +kernel
theorem kX10_isSame_17 : cdOf kX10_isSame 17 = some (.iconst 0, 1) := by decide +kernel
theorem kX10_isSame_18 : cdOf kX10_isSame 18 = some (.istore_n 2, 1) := by decide +kernel
theorem kX10_isSame_19 : cdOf kX10_isSame 19 = some (.iload_n 2, 1) := by decide +kernel
theorem kX10_isSame_20 : cdOf kX10_isSame 20 = some (.bipush 24, 2) := by decide +kernel
theorem kX10_isSame_22 : cdOf kX10_isSame 22 = some (.if_icmp .ge 45, 3) := by decide +kernel
theorem kX10_isSame_25 : cdOf kX10_isSame 25 = some (.iload_n 1, 1) := by decide +kernel
theorem kX10_isSame_26 : cdOf kX10_isSame 26 = some (.ifCond .eq 33, 3) := by decide +kernel
theorem kX10_isSame_29 : cdOf kX10_isSame 29 = some (.iload_n 2, 1) := by decide +kernel
theorem kX10_isSame_30 : cdOf kX10_isSame 30 = some (.bipush 6, 2) := by decide +kernel
theorem kX10_isSame_32 : cdOf kX10_isSame 32 = some (.aload_n 0, 1) := by decide +kernel
theorem kX10_isSame_33 : cdOf kX10_isSame 33 = some (.getfield 199, 3) := by decide +kernel
theorem kX10_isSame_36 : cdOf kX10_isSame 36 = some (.imul, 1) := by decide +kernel
theorem kX10_isSame_37 : cdOf kX10_isSame 37 = some (.if_icmp .ge 18, 3) := by decide +kernel
theorem kX10_isSame_40 : cdOf kX10_isSame 40 = some (.aload_n 0, 1) := by decide +kernel
theorem kX10_isSame_41 : cdOf kX10_isSame 41 = some (.getfield 32, 3) := by decide +kernel
theorem kX10_isSame_44 : cdOf kX10_isSame 44 = some (.iload_n 2, 1) := by decide +kernel
theorem kX10_isSame_45 : cdOf kX10_isSame 45 = some (.iaload, 1) := by decide +kernel
theorem kX10_isSame_46 : cdOf kX10_isSame 46 = some (.aload_n 0, 1) := by decide +kernel
theorem kX10_isSame_47 : cdOf kX10_isSame 47 = some (.getfield 26, 3) := by decide +kernel
theorem kX10_isSame_50 : cdOf kX10_isSame 50 = some (.iload_n 2, 1) := by decide +kernel
theorem kX10_isSame_51 : cdOf kX10_isSame 51 = some (.iaload, 1) := by decide +kernel
theorem kX10_isSame_52 : cdOf kX10_isSame 52 = some (.if_icmp .ne 7, 3) := by decide +kernel
theorem kX10_isSame_55 : cdOf kX10_isSame 55 = some (.iconst 1, 1) := by decide +kernel
theorem kX10_isSame_56 : cdOf kX10_isSame 56 = some (.goto 4, 3) := by decide +kernel
theorem kX10_isSame_59 : cdOf kX10_isSame 59 = some (.iconst 0, 1) := by decide +kernel
theorem kX10_isSame_60 : cdOf kX10_isSame 60 = some (.istore_n 1, 1) := by decide +kernel
theorem kX10_isSame_61 : cdOf kX10_isSame 61 = some (.iinc 2 1, 3) := by decide +kernel
theorem kX10_isSame_64 : cdOf kX10_isSame 64 = some (.goto (-45), 3) := by decide +kernel
theorem kX10_isSame_67 : cdOf kX10_isSame 67 = some (.iconst 0, 1) := by decide +kernel
theorem kX10_isSame_68 : cdOf kX10_isSame 68 = some (.istore_n 2, 1) := by decide +kernel
theorem kX10_isSame_69 : cdOf kX10_isSame 69 = some (.iload_n 2, 1) := by decide +kernel
theorem kX10_isSame_70 : cdOf kX10_isSame 70 = some (.bipush 6, 2) := by decide +kernel
theorem kX10_isSame_72 : cdOf kX10_isSame 72 = some (.if_icmp .ge 34, 3) := by decide +kernel
theorem kX10_isSame_75 : cdOf kX10_isSame 75 = some (.iload_n 1, 1) := by decide +kernel
theorem kX10_isSame_76 : cdOf kX10_isSame 76 = some (.ifCond .eq 22, 3) := by decide +kernel
theorem kX10_isSame_79 : cdOf kX10_isSame 79 = some (.aload_n 0, 1) := by decide +kernel
theorem kX10_isSame_80 : cdOf kX10_isSame 80 = some (.getfield 35, 3) := by decide +kernel
theorem kX10_isSame_83 : cdOf kX10_isSame 83 = some (.iload_n 2, 1) := by decide +kernel
theorem kX10_isSame_84 : cdOf kX10_isSame 84 = some (.iaload, 1) := by decide +kernel
theorem kX10_isSame_85 : cdOf kX10_isSame 85 = some (.aload_n 0, 1) := by decide +kernel
theorem kX10_isSame_86 : cdOf kX10_isSame 86 = some (.getfield 29, 3) := by decide +kernel
theorem kX10_isSame_89 : cdOf kX10_isSame 89 = some (.iload_n 2, 1) := by decide +kernel
theorem kX10_isSame_90 : cdOf kX10_isSame 90 = some (.iaload, 1) := by decide +kernel
theorem kX10_isSame_91 : cdOf kX10_isSame 91 = some (.if_icmp .ne 7, 3) := by decide +kernel
theorem kX10_isSame_94 : cdOf kX10_isSame 94 = some (.iconst 1, 1) := by decide +kernel
theorem kX10_isSame_95 : cdOf kX10_isSame 95 = some (.goto 4, 3) := by decide +kernel
theorem kX10_isSame_98 : cdOf kX10_isSame 98 = some (.iconst 0, 1) := by decide +kernel
theorem kX10_isSame_99 : cdOf kX10_isSame 99 = some (.istore_n 1, 1) := by decide +kernel
theorem kX10_isSame_100 : cdOf kX10_isSame 100 = some (.iinc 2 1, 3) := by decide +kernel
theorem kX10_isSame_103 : cdOf kX10_isSame 103 = some (.goto (-34), 3) := by decide +kernel
theorem kX10_isSame_106 : cdOf kX10_isSame 106 = some (.iload_n 1, 1) := by decide +kernel
theorem kX10_isSame_107 : cdOf kX10_isSame 107 = some (.ireturn, 1) := by decide +kernel
set_option maxRecDepth 20000 in
theorem kX10_isSame_ok : ∀ pc i len, cdOf kX10_isSame pc = some (i, len) → decode cX10_isSame pc = .ok (i, len) ∧ stOK 3 i = true ∧ jOK pc i = true ∧ eLen i len = true := cdOf_ok cX10_isSame 3 kX10_isSame (by decide +kernel)
def vtX10_isSame : Nat → Option (Nat × eSp) := fun _ => none
def stX10_isSame : Nat → Option (Nat × eSp) := fun _ => none
abbrev TX10_isSame : eT := (fl_RX10, cl_RX10, dl_RX10, vtX10_isSame, stX10_isSame)
set_option maxRecDepth 20000 in
theorem caX10_isSame : eCalls RX10 { frames := 0, cells := 0, slots := 0, locals := 0 } TX10_isSame := by
  refine ⟨fun k n sp h => ?_, fun k n sp h => ?_⟩
  · cases h
  · cases h
set_option maxRecDepth 100000 in
set_option maxHeartbeats 4000000 in
theorem sX10_isSame : eSafe TX10_isSame (cdOf kX10_isSame) 3 (some .boolean) SX10_isSame := by
  intro K rt hK as M h
  obtain ⟨F, A, rfl, rfl, h6, h9, h7, h8, h⟩ := h
  refine ⟨by simp [eE], ?_⟩
  have w6 : w32 (F 6) := by constructor <;> omega
  have lp2 : ∀ (d k : Nat) (b : Int), k + d = 6 → (b = 0 ∨ b = 1) → (b = 1 ↔ F 9 = F 6 ∧ (∀ k : Nat, k < 24 → 6 * F 6 ≤ k ∨ A 7 k = A 4 k) ∧ ∀ j : Nat, j < k → A 8 j = A 5 j) → K 69 [some eRR, some (eI b), some (eI k)] [] (cR F A) := by
    intro d
    induction d with
    | zero =>
      intro k b hk b0 b1
      have e : k = 6 := by omega
      subst e
      refine x_iload_n hK kX10_isSame_69 (q := 70) rfl rfl ?_
      refine x_bipush hK kX10_isSame_70 (q := 72) rfl (by decide) ?_
      refine x_icmp_ge hK kX10_isSame_72 (q := 75) rfl (tg := 106) rfl (by refine ⟨?_, ?_⟩ <;> omega) (fun c72 => ?_) (fun c72 => ?_)
      · refine x_iload_n hK kX10_isSame_106 (q := 107) rfl rfl ?_
        refine x_ireturn hK kX10_isSame_107 (by exact b0) ?_
        exact h b b0 b1
      · exfalso; omega
    | succ d ih =>
      intro k b hk b0 b1
      have w1 := h8 k (by omega)
      refine x_iload_n hK kX10_isSame_69 (q := 70) rfl rfl ?_
      refine x_bipush hK kX10_isSame_70 (q := 72) rfl (by decide) ?_
      refine x_icmp_ge hK kX10_isSame_72 (q := 75) rfl (tg := 106) rfl (by refine ⟨?_, ?_⟩ <;> omega) (fun c72 => ?_) (fun c72 => ?_)
      · exfalso; omega
      · refine x_iload_n hK kX10_isSame_75 (q := 76) rfl rfl ?_
        refine x_if_eq hK kX10_isSame_76 (q := 79) rfl (tg := 98) rfl (by rcases b0 with e | e <;> rw [e] <;> decide) (fun c76 => ?_) (fun c76 => ?_)
        · refine x_iconst hK kX10_isSame_98 (q := 99) rfl ?_
          refine x_istore_n hK kX10_isSame_99 (q := 100) (jn := 1) rfl rfl ?_
          refine x_iinc hK kX10_isSame_100 (q := 103) rfl rfl ?_
          simp only [lS, lS2, clr_0, clr_I, clr_L, clr_R]
          refine x_goto hK kX10_isSame_103 (tg := 69) rfl ?_
          rw [show (k : Int) + 1 = ((k + 1 : Nat) : Int) by omega]
          first
          | refine ih (k + 1) 0 (by omega) (Or.inl rfl) ⟨fun q => absurd q (by decide), fun q => absurd (b1.mpr ⟨q.1, q.2.1, fun j hj => q.2.2 j (by omega)⟩) (by omega)⟩
          | refine ih (k + 1) 0 (by omega) (Or.inl rfl) ⟨fun q => absurd q (by decide), fun q => absurd (q.2.2 k (by omega)) c91⟩
          | refine ih (k + 1) 1 (by omega) (Or.inr rfl) ⟨fun _ => ?_, fun _ => rfl⟩
            have g := b1.mp (by omega)
            refine ⟨g.1, g.2.1, fun j hj => ?_⟩
            rcases Nat.lt_or_ge j k with g2 | g2
            · exact g.2.2 j g2
            · rw [show j = k by omega]; omega
        · refine x_aload_n hK kX10_isSame_79 (q := 80) rfl rfl ?_
          refine x_getfield hK kX10_isSame_80 (q := 83) rfl (gX10_35 ?_)
          refine x_iload_n hK kX10_isSame_83 (q := 84) rfl rfl ?_
          refine x_iaload hK kX10_isSame_84 (q := 85) rfl (aX10_A8 (by refine ⟨?_, ?_⟩ <;> omega) ?_)
          refine x_aload_n hK kX10_isSame_85 (q := 86) rfl rfl ?_
          refine x_getfield hK kX10_isSame_86 (q := 89) rfl (gX10_29 ?_)
          refine x_iload_n hK kX10_isSame_89 (q := 90) rfl rfl ?_
          refine x_iaload hK kX10_isSame_90 (q := 91) rfl (aX10_A5 (by refine ⟨?_, ?_⟩ <;> omega) ?_)
          refine x_icmp_ne hK kX10_isSame_91 (q := 94) rfl (tg := 98) rfl (by exact w1) (fun c91 => ?_) (fun c91 => ?_)
          · refine x_iconst hK kX10_isSame_98 (q := 99) rfl ?_
            refine x_istore_n hK kX10_isSame_99 (q := 100) (jn := 1) rfl rfl ?_
            refine x_iinc hK kX10_isSame_100 (q := 103) rfl rfl ?_
            simp only [lS, lS2, clr_0, clr_I, clr_L, clr_R]
            refine x_goto hK kX10_isSame_103 (tg := 69) rfl ?_
            rw [show (k : Int) + 1 = ((k + 1 : Nat) : Int) by omega]
            first
            | refine ih (k + 1) 0 (by omega) (Or.inl rfl) ⟨fun q => absurd q (by decide), fun q => absurd (b1.mpr ⟨q.1, q.2.1, fun j hj => q.2.2 j (by omega)⟩) (by omega)⟩
            | refine ih (k + 1) 0 (by omega) (Or.inl rfl) ⟨fun q => absurd q (by decide), fun q => absurd (q.2.2 k (by omega)) c91⟩
            | refine ih (k + 1) 1 (by omega) (Or.inr rfl) ⟨fun _ => ?_, fun _ => rfl⟩
              have g := b1.mp (by omega)
              refine ⟨g.1, g.2.1, fun j hj => ?_⟩
              rcases Nat.lt_or_ge j k with g2 | g2
              · exact g.2.2 j g2
              · rw [show j = k by omega]; omega
          · refine x_iconst hK kX10_isSame_94 (q := 95) rfl ?_
            refine x_goto hK kX10_isSame_95 (tg := 99) rfl ?_
            refine x_istore_n hK kX10_isSame_99 (q := 100) (jn := 1) rfl rfl ?_
            refine x_iinc hK kX10_isSame_100 (q := 103) rfl rfl ?_
            simp only [lS, lS2, clr_0, clr_I, clr_L, clr_R]
            refine x_goto hK kX10_isSame_103 (tg := 69) rfl ?_
            rw [show (k : Int) + 1 = ((k + 1 : Nat) : Int) by omega]
            first
            | refine ih (k + 1) 0 (by omega) (Or.inl rfl) ⟨fun q => absurd q (by decide), fun q => absurd (b1.mpr ⟨q.1, q.2.1, fun j hj => q.2.2 j (by omega)⟩) (by omega)⟩
            | refine ih (k + 1) 0 (by omega) (Or.inl rfl) ⟨fun q => absurd q (by decide), fun q => absurd (q.2.2 k (by omega)) c91⟩
            | refine ih (k + 1) 1 (by omega) (Or.inr rfl) ⟨fun _ => ?_, fun _ => rfl⟩
              have g := b1.mp (by omega)
              refine ⟨g.1, g.2.1, fun j hj => ?_⟩
              rcases Nat.lt_or_ge j k with g2 | g2
              · exact g.2.2 j g2
              · rw [show j = k by omega]; omega
  have lp1 : ∀ (d k : Nat) (b : Int), k + d = 24 → (b = 0 ∨ b = 1) → (b = 1 ↔ F 9 = F 6 ∧ (∀ j : Nat, j < k → 6 * F 6 ≤ j ∨ A 7 j = A 4 j)) → K 19 [some eRR, some (eI b), some (eI k)] [] (cR F A) := by
    intro d
    induction d with
    | zero =>
      intro k b hk b0 b1
      have e : k = 24 := by omega
      subst e
      refine x_iload_n hK kX10_isSame_19 (q := 20) rfl rfl ?_
      refine x_bipush hK kX10_isSame_20 (q := 22) rfl (by decide) ?_
      refine x_icmp_ge hK kX10_isSame_22 (q := 25) rfl (tg := 67) rfl (by refine ⟨?_, ?_⟩ <;> omega) (fun c22 => ?_) (fun c22 => ?_)
      · refine x_iconst hK kX10_isSame_67 (q := 68) rfl ?_
        refine x_istore_n hK kX10_isSame_68 (q := 69) (jn := 2) rfl rfl ?_
        simp only [lS, lS2, clr_0, clr_I, clr_L, clr_R]
        exact lp2 6 0 b (by omega) b0 ⟨fun q => ⟨(b1.mp q).1, (b1.mp q).2, fun j hj => by omega⟩, fun q => b1.mpr ⟨q.1, q.2.1⟩⟩
      · exfalso; omega
    | succ d ih =>
      intro k b hk b0 b1
      have w1 := h7 k (by omega)
      refine x_iload_n hK kX10_isSame_19 (q := 20) rfl rfl ?_
      refine x_bipush hK kX10_isSame_20 (q := 22) rfl (by decide) ?_
      refine x_icmp_ge hK kX10_isSame_22 (q := 25) rfl (tg := 67) rfl (by refine ⟨?_, ?_⟩ <;> omega) (fun c22 => ?_) (fun c22 => ?_)
      · exfalso; omega
      · refine x_iload_n hK kX10_isSame_25 (q := 26) rfl rfl ?_
        refine x_if_eq hK kX10_isSame_26 (q := 29) rfl (tg := 59) rfl (by rcases b0 with e | e <;> rw [e] <;> decide) (fun c26 => ?_) (fun c26 => ?_)
        · refine x_iconst hK kX10_isSame_59 (q := 60) rfl ?_
          refine x_istore_n hK kX10_isSame_60 (q := 61) (jn := 1) rfl rfl ?_
          refine x_iinc hK kX10_isSame_61 (q := 64) rfl rfl ?_
          simp only [lS, lS2, clr_0, clr_I, clr_L, clr_R]
          refine x_goto hK kX10_isSame_64 (tg := 19) rfl ?_
          rw [show (k : Int) + 1 = ((k + 1 : Nat) : Int) by omega]
          first
          | refine ih (k + 1) 0 (by omega) (Or.inl rfl) ⟨fun q => absurd q (by decide), fun q => absurd (b1.mpr ⟨q.1, fun j hj => q.2 j (by omega)⟩) (by omega)⟩
          | refine ih (k + 1) 0 (by omega) (Or.inl rfl) ⟨fun q => absurd q (by decide), fun q => by rcases q.2 k (by omega) with g | g; exact absurd g c37; exact absurd g c52⟩
          | refine ih (k + 1) 1 (by omega) (Or.inr rfl) ⟨fun _ => ?_, fun _ => rfl⟩
            have g := b1.mp (by omega)
            refine ⟨g.1, fun j hj => ?_⟩
            rcases Nat.lt_or_ge j k with g2 | g2
            · exact g.2 j g2
            · rw [show j = k by omega]; omega
        · refine x_iload_n hK kX10_isSame_29 (q := 30) rfl rfl ?_
          refine x_bipush hK kX10_isSame_30 (q := 32) rfl (by decide) ?_
          refine x_aload_n hK kX10_isSame_32 (q := 33) rfl rfl ?_
          refine x_getfield hK kX10_isSame_33 (q := 36) rfl (gX10_199 ?_)
          refine x_imul hK kX10_isSame_36 (q := 37) rfl ?_
          refine x_icmp_ge hK kX10_isSame_37 (q := 40) rfl (tg := 55) rfl (by constructor <;> (constructor <;> omega)) (fun c37 => ?_) (fun c37 => ?_)
          · refine x_iconst hK kX10_isSame_55 (q := 56) rfl ?_
            refine x_goto hK kX10_isSame_56 (tg := 60) rfl ?_
            refine x_istore_n hK kX10_isSame_60 (q := 61) (jn := 1) rfl rfl ?_
            refine x_iinc hK kX10_isSame_61 (q := 64) rfl rfl ?_
            simp only [lS, lS2, clr_0, clr_I, clr_L, clr_R]
            refine x_goto hK kX10_isSame_64 (tg := 19) rfl ?_
            rw [show (k : Int) + 1 = ((k + 1 : Nat) : Int) by omega]
            first
            | refine ih (k + 1) 0 (by omega) (Or.inl rfl) ⟨fun q => absurd q (by decide), fun q => absurd (b1.mpr ⟨q.1, fun j hj => q.2 j (by omega)⟩) (by omega)⟩
            | refine ih (k + 1) 0 (by omega) (Or.inl rfl) ⟨fun q => absurd q (by decide), fun q => by rcases q.2 k (by omega) with g | g; exact absurd g c37; exact absurd g c52⟩
            | refine ih (k + 1) 1 (by omega) (Or.inr rfl) ⟨fun _ => ?_, fun _ => rfl⟩
              have g := b1.mp (by omega)
              refine ⟨g.1, fun j hj => ?_⟩
              rcases Nat.lt_or_ge j k with g2 | g2
              · exact g.2 j g2
              · rw [show j = k by omega]; omega
          · refine x_aload_n hK kX10_isSame_40 (q := 41) rfl rfl ?_
            refine x_getfield hK kX10_isSame_41 (q := 44) rfl (gX10_32 ?_)
            refine x_iload_n hK kX10_isSame_44 (q := 45) rfl rfl ?_
            refine x_iaload hK kX10_isSame_45 (q := 46) rfl (aX10_A7 (by refine ⟨?_, ?_⟩ <;> omega) ?_)
            refine x_aload_n hK kX10_isSame_46 (q := 47) rfl rfl ?_
            refine x_getfield hK kX10_isSame_47 (q := 50) rfl (gX10_26 ?_)
            refine x_iload_n hK kX10_isSame_50 (q := 51) rfl rfl ?_
            refine x_iaload hK kX10_isSame_51 (q := 52) rfl (aX10_A4 (by refine ⟨?_, ?_⟩ <;> omega) ?_)
            refine x_icmp_ne hK kX10_isSame_52 (q := 55) rfl (tg := 59) rfl (by exact w1) (fun c52 => ?_) (fun c52 => ?_)
            · refine x_iconst hK kX10_isSame_59 (q := 60) rfl ?_
              refine x_istore_n hK kX10_isSame_60 (q := 61) (jn := 1) rfl rfl ?_
              refine x_iinc hK kX10_isSame_61 (q := 64) rfl rfl ?_
              simp only [lS, lS2, clr_0, clr_I, clr_L, clr_R]
              refine x_goto hK kX10_isSame_64 (tg := 19) rfl ?_
              rw [show (k : Int) + 1 = ((k + 1 : Nat) : Int) by omega]
              first
              | refine ih (k + 1) 0 (by omega) (Or.inl rfl) ⟨fun q => absurd q (by decide), fun q => absurd (b1.mpr ⟨q.1, fun j hj => q.2 j (by omega)⟩) (by omega)⟩
              | refine ih (k + 1) 0 (by omega) (Or.inl rfl) ⟨fun q => absurd q (by decide), fun q => by rcases q.2 k (by omega) with g | g; exact absurd g c37; exact absurd g c52⟩
              | refine ih (k + 1) 1 (by omega) (Or.inr rfl) ⟨fun _ => ?_, fun _ => rfl⟩
                have g := b1.mp (by omega)
                refine ⟨g.1, fun j hj => ?_⟩
                rcases Nat.lt_or_ge j k with g2 | g2
                · exact g.2 j g2
                · rw [show j = k by omega]; omega
            · refine x_iconst hK kX10_isSame_55 (q := 56) rfl ?_
              refine x_goto hK kX10_isSame_56 (tg := 60) rfl ?_
              refine x_istore_n hK kX10_isSame_60 (q := 61) (jn := 1) rfl rfl ?_
              refine x_iinc hK kX10_isSame_61 (q := 64) rfl rfl ?_
              simp only [lS, lS2, clr_0, clr_I, clr_L, clr_R]
              refine x_goto hK kX10_isSame_64 (tg := 19) rfl ?_
              rw [show (k : Int) + 1 = ((k + 1 : Nat) : Int) by omega]
              first
              | refine ih (k + 1) 0 (by omega) (Or.inl rfl) ⟨fun q => absurd q (by decide), fun q => absurd (b1.mpr ⟨q.1, fun j hj => q.2 j (by omega)⟩) (by omega)⟩
              | refine ih (k + 1) 0 (by omega) (Or.inl rfl) ⟨fun q => absurd q (by decide), fun q => by rcases q.2 k (by omega) with g | g; exact absurd g c37; exact absurd g c52⟩
              | refine ih (k + 1) 1 (by omega) (Or.inr rfl) ⟨fun _ => ?_, fun _ => rfl⟩
                have g := b1.mp (by omega)
                refine ⟨g.1, fun j hj => ?_⟩
                rcases Nat.lt_or_ge j k with g2 | g2
                · exact g.2 j g2
                · rw [show j = k by omega]; omega
  simp only [eLoc, eE, List.length_cons, List.length_nil, List.replicate, List.cons_append, List.nil_append, Nat.reduceAdd, Nat.reduceSub]
  refine x_aload_n hK kX10_isSame_0 (q := 1) rfl rfl ?_
  refine x_getfield hK kX10_isSame_1 (q := 4) rfl (gX10_38 ?_)
  refine x_aload_n hK kX10_isSame_4 (q := 5) rfl rfl ?_
  refine x_getfield hK kX10_isSame_5 (q := 8) rfl (gX10_199 ?_)
  refine x_icmp_ne hK kX10_isSame_8 (q := 11) rfl (tg := 15) rfl (by exact ⟨h9, w6⟩) (fun c8 => ?_) (fun c8 => ?_)
  · refine x_iconst hK kX10_isSame_15 (q := 16) rfl ?_
    refine x_istore_n hK kX10_isSame_16 (q := 17) (jn := 1) rfl rfl ?_
    refine x_iconst hK kX10_isSame_17 (q := 18) rfl ?_
    refine x_istore_n hK kX10_isSame_18 (q := 19) (jn := 2) rfl rfl ?_
    simp only [lS, lS2, clr_0, clr_I, clr_L, clr_R]
    first
    | exact lp1 24 0 0 (by omega) (Or.inl rfl) ⟨fun q => absurd q (by decide), fun q => absurd q.1 c8⟩
    | exact lp1 24 0 1 (by omega) (Or.inr rfl) ⟨fun _ => ⟨by omega, fun j hj => by omega⟩, fun _ => rfl⟩
  · refine x_iconst hK kX10_isSame_11 (q := 12) rfl ?_
    refine x_goto hK kX10_isSame_12 (tg := 16) rfl ?_
    refine x_istore_n hK kX10_isSame_16 (q := 17) (jn := 1) rfl rfl ?_
    refine x_iconst hK kX10_isSame_17 (q := 18) rfl ?_
    refine x_istore_n hK kX10_isSame_18 (q := 19) (jn := 2) rfl rfl ?_
    simp only [lS, lS2, clr_0, clr_I, clr_L, clr_R]
    first
    | exact lp1 24 0 0 (by omega) (Or.inl rfl) ⟨fun q => absurd q (by decide), fun q => absurd q.1 c8⟩
    | exact lp1 24 0 1 (by omega) (Or.inr rfl) ⟨fun _ => ⟨by omega, fun j hj => by omega⟩, fun _ => rfl⟩
set_option maxRecDepth 20000 in
theorem mX10_isSame : eMet yX10_isSame cX10_isSame 3 (some .boolean) 0 0 SX10_isSame := eMet_of (by decide +kernel) sX10_isSame kX10_isSame_ok caX10_isSame tb_RX10
theorem wX10_isSame : eWV yX10_isSame cX10_isSame 3 (some .boolean) 1 9 SX10_isSame := ⟨(gW_at 1061 (by decide +kernel) rfl), (gW_at 89 (by decide +kernel) rfl), (gW_at 1060 (by decide +kernel) rfl), ⟨_, rfl, (gW_at 36 (by decide +kernel) rfl)⟩, by decide +kernel, SX10_isSame_r⟩
