/-! Inertia: findSquare. -/
/-- what findSquare answers, and the form it leaves -/
def fsR (O : Int → Int) (S : Nat → Nat → Int) (r : Int) (S' : Nat → Nat → Int) : Prop := (∃ i : Nat, i < 4 ∧ r = i ∧ O i = 1 ∧ S i i ≠ 0 ∧ S' = S) ∨ (∃ i j : Nat, i < j ∧ j < 4 ∧ r = i ∧ O i = 1 ∧ O j = 1 ∧ S i j ≠ 0 ∧ (∀ a : Nat, a < 4 → O a = 1 → S a a = 0) ∧ S' = joF S i j) ∨ (r = -1 ∧ S' = S ∧ (∀ a : Nat, a < 4 → O a = 1 → S a a = 0) ∧ ∀ a b : Nat, a < b → b < 4 → O a = 1 → O b = 1 → S a b = 0)
def SX4_findSquare : eSp := fun as M rt => ∃ (F : Nat → Int) (A W : Nat → Int → Int) (B : Nat → Int) (S : Nat → Nat → Int) (p c : Int), as = [eR (1, 5)] ∧ M = cC F A W ∧ (aR W (inV B S p c)) ∧ (∀ i : Int, 0 ≤ i → i < 4 → A 7 i = 0 ∨ A 7 i = 1) ∧ (∀ a b, a < 4 → b < 4 → zAbs (S a b) ≤ 2 ^ 1900) ∧ (∀ (r : Int) (S' : Nat → Nat → Int) (W' : Nat → Int → Int), fsR (A 7) S r S' → aR W' (inV B S' p c) → rt (some (eI r)) (cC F A W'))
theorem SX4_findSquare_i {F : Nat → Int} {A W : Nat → Int → Int} {B : Nat → Int} {S : Nat → Nat → Int} {p c : Int} {rt : Option eV → eM → Prop} (hV : aR W (inV B S p c)) (hO : ∀ i : Int, 0 ≤ i → i < 4 → A 7 i = 0 ∨ A 7 i = 1) (hb : ∀ a b, a < 4 → b < 4 → zAbs (S a b) ≤ 2 ^ 1900) (h : ∀ (r : Int) (S' : Nat → Nat → Int) (W' : Nat → Int → Int), fsR (A 7) S r S' → aR W' (inV B S' p c) → rt (some (eI r)) (cC F A W')) : SX4_findSquare [eR (1, 5)] (cC F A W) rt := ⟨F, A, W, B, S, p, c, rfl, rfl, hV, hO, hb, h⟩
theorem SX4_findSquare_r : ∀ as M rt, SX4_findSquare as M rt → ∃ a r fs, as = eR a :: r ∧ M a = some (.inl (4, fs)) := by
  rintro as M rt ⟨F, A, W, B, S, p, c, rfl, rfl, -⟩
  exact ⟨_, _, _, rfl, rfl⟩
def kX4_findSquare : List (Nat × Jvm.ClassFile.Instr × Nat) := [(0, .iconst 0, 1), (1, .istore_n 1, 1), (2, .iload_n 1, 1), (3, .iconst 4, 1), (4, .if_icmp .ge 34, 3), (7, .aload_n 0, 1), (8, .iload_n 1, 1), (9, .invokevirtual 73, 3), (12, .ifCond .eq 20, 3), (15, .aload_n 0, 1), (16, .getfield 16, 3), (19, .iload_n 1, 1), (20, .iload_n 1, 1), (21, .invokevirtual 63, 3), (24, .invokevirtual 77, 3), (27, .ifCond .ne 5, 3), (30, .iload_n 1, 1), (31, .ireturn, 1), (32, .iinc 1 1, 3), (35, .goto (-33), 3), (38, .iconst 0, 1), (39, .istore_n 1, 1), (40, .iload_n 1, 1), (41, .iconst 4, 1), (42, .if_icmp .ge 63, 3), (45, .iload_n 1, 1), (46, .iconst 1, 1), (47, .iadd, 1), (48, .istore_n 2, 1), (49, .iload_n 2, 1), (50, .iconst 4, 1), (51, .if_icmp .ge 48, 3), (54, .aload_n 0, 1), (55, .iload_n 1, 1), (56, .invokevirtual 73, 3), (59, .ifCond .eq 34, 3), (62, .aload_n 0, 1), (63, .iload_n 2, 1), (64, .invokevirtual 73, 3), (67, .ifCond .eq 26, 3), (70, .aload_n 0, 1), (71, .getfield 16, 3), (74, .iload_n 1, 1), (75, .iload_n 2, 1), (76, .invokevirtual 63, 3), (79, .invokevirtual 77, 3), (82, .ifCond .ne 11, 3), (85, .aload_n 0, 1), (86, .iload_n 1, 1), (87, .iload_n 2, 1), (88, .invokevirtual 81, 3), (91, .iload_n 1, 1), (92, .ireturn, 1), (93, .iinc 2 1, 3), (96, .goto (-47), 3), (99, .iinc 1 1, 3), (102, .goto (-62), 3), (105, .iconst (-1), 1), (106, .ireturn, 1)]
theorem kX4_findSquare_0 : cdOf kX4_findSquare 0 = some (.iconst 0, 1) := by decide +kernel
theorem kX4_findSquare_1 : cdOf kX4_findSquare 1 = some (.istore_n 1, 1) := by decide +kernel
theorem kX4_findSquare_2 : cdOf kX4_findSquare 2 = some (.iload_n 1, 1) := by decide +kernel
theorem kX4_findSquare_3 : cdOf kX4_findSquare 3 = some (.iconst 4, 1) := by decide +kernel
theorem kX4_findSquare_4 : cdOf kX4_findSquare 4 = some (.if_icmp .ge 34, 3) := by decide +kernel
theorem kX4_findSquare_7 : cdOf kX4_findSquare 7 = some (.aload_n 0, 1) := by decide +kernel
theorem kX4_findSquare_8 : cdOf kX4_findSquare 8 = some (.iload_n 1, 1) := by decide +kernel
theorem kX4_findSquare_9 : cdOf kX4_findSquare 9 = some (.invokevirtual 73, 3) := by decide +kernel
theorem kX4_findSquare_12 : cdOf kX4_findSquare 12 = some (.ifCond .eq 20, 3) := by decide +kernel
theorem kX4_findSquare_15 : cdOf kX4_findSquare 15 = some (.aload_n 0, 1) := by decide +kernel
theorem kX4_findSquare_16 : cdOf kX4_findSquare 16 = some (.getfield 16, 3) := by decide +kernel
theorem kX4_findSquare_19 : cdOf kX4_findSquare 19 = some (.iload_n 1, 1) := by decide +kernel
theorem kX4_findSquare_20 : cdOf kX4_findSquare 20 = some (.iload_n 1, 1) := by decide +kernel
theorem kX4_findSquare_21 : cdOf kX4_findSquare 21 = some (.invokevirtual 63, 3) := by decide +kernel
theorem kX4_findSquare_24 : cdOf kX4_findSquare 24 = some (.invokevirtual 77, 3) := by decide +kernel
theorem kX4_findSquare_27 : cdOf kX4_findSquare 27 = some (.ifCond .ne 5, 3) := by decide +kernel
theorem kX4_findSquare_30 : cdOf kX4_findSquare 30 = some (.iload_n 1, 1) := by decide +kernel
theorem kX4_findSquare_31 : cdOf kX4_findSquare 31 = some (.ireturn, 1) := by decide +kernel
theorem kX4_findSquare_32 : cdOf kX4_findSquare 32 = some (.iinc 1 1, 3) := by decide +kernel
theorem kX4_findSquare_35 : cdOf kX4_findSquare 35 = some (.goto (-33), 3) := by decide +kernel
theorem kX4_findSquare_38 : cdOf kX4_findSquare 38 = some (.iconst 0, 1) := by decide +kernel
theorem kX4_findSquare_39 : cdOf kX4_findSquare 39 = some (.istore_n 1, 1) := by decide +kernel
theorem kX4_findSquare_40 : cdOf kX4_findSquare 40 = some (.iload_n 1, 1) := by decide +kernel
theorem kX4_findSquare_41 : cdOf kX4_findSquare 41 = some (.iconst 4, 1) := by decide +kernel
theorem kX4_findSquare_42 : cdOf kX4_findSquare 42 = some (.if_icmp .ge 63, 3) := by decide +kernel
theorem kX4_findSquare_45 : cdOf kX4_findSquare 45 = some (.iload_n 1, 1) := by decide +kernel
theorem kX4_findSquare_46 : cdOf kX4_findSquare 46 = some (.iconst 1, 1) := by decide +kernel
theorem kX4_findSquare_47 : cdOf kX4_findSquare 47 = some (.iadd, 1) := by decide +kernel
theorem kX4_findSquare_48 : cdOf kX4_findSquare 48 = some (.istore_n 2, 1) := by decide +kernel
theorem kX4_findSquare_49 : cdOf kX4_findSquare 49 = some (.iload_n 2, 1) := by decide +kernel
theorem kX4_findSquare_50 : cdOf kX4_findSquare 50 = some (.iconst 4, 1) := by decide +kernel
theorem kX4_findSquare_51 : cdOf kX4_findSquare 51 = some (.if_icmp .ge 48, 3) := by decide +kernel
theorem kX4_findSquare_54 : cdOf kX4_findSquare 54 = some (.aload_n 0, 1) := by decide +kernel
theorem kX4_findSquare_55 : cdOf kX4_findSquare 55 = some (.iload_n 1, 1) := by decide +kernel
theorem kX4_findSquare_56 : cdOf kX4_findSquare 56 = some (.invokevirtual 73, 3) := by decide +kernel
theorem kX4_findSquare_59 : cdOf kX4_findSquare 59 = some (.ifCond .eq 34, 3) := by decide +kernel
theorem kX4_findSquare_62 : cdOf kX4_findSquare 62 = some (.aload_n 0, 1) := by decide +kernel
theorem kX4_findSquare_63 : cdOf kX4_findSquare 63 = some (.iload_n 2, 1) := by decide +kernel
theorem kX4_findSquare_64 : cdOf kX4_findSquare 64 = some (.invokevirtual 73, 3) := by decide +kernel
theorem kX4_findSquare_67 : cdOf kX4_findSquare 67 = some (.ifCond .eq 26, 3) := by decide +kernel
theorem kX4_findSquare_70 : cdOf kX4_findSquare 70 = some (.aload_n 0, 1) := by decide +kernel
theorem kX4_findSquare_71 : cdOf kX4_findSquare 71 = some (.getfield 16, 3) := by decide +kernel
theorem kX4_findSquare_74 : cdOf kX4_findSquare 74 = some (.iload_n 1, 1) := by decide +kernel
theorem kX4_findSquare_75 : cdOf kX4_findSquare 75 = some (.iload_n 2, 1) := by decide +kernel
theorem kX4_findSquare_76 : cdOf kX4_findSquare 76 = some (.invokevirtual 63, 3) := by decide +kernel
theorem kX4_findSquare_79 : cdOf kX4_findSquare 79 = some (.invokevirtual 77, 3) := by decide +kernel
theorem kX4_findSquare_82 : cdOf kX4_findSquare 82 = some (.ifCond .ne 11, 3) := by decide +kernel
theorem kX4_findSquare_85 : cdOf kX4_findSquare 85 = some (.aload_n 0, 1) := by decide +kernel
theorem kX4_findSquare_86 : cdOf kX4_findSquare 86 = some (.iload_n 1, 1) := by decide +kernel
theorem kX4_findSquare_87 : cdOf kX4_findSquare 87 = some (.iload_n 2, 1) := by decide +kernel
theorem kX4_findSquare_88 : cdOf kX4_findSquare 88 = some (.invokevirtual 81, 3) := by decide +kernel
theorem kX4_findSquare_91 : cdOf kX4_findSquare 91 = some (.iload_n 1, 1) := by decide +kernel
theorem kX4_findSquare_92 : cdOf kX4_findSquare 92 = some (.ireturn, 1) := by decide +kernel
theorem kX4_findSquare_93 : cdOf kX4_findSquare 93 = some (.iinc 2 1, 3) := by decide +kernel
theorem kX4_findSquare_96 : cdOf kX4_findSquare 96 = some (.goto (-47), 3) := by decide +kernel
theorem kX4_findSquare_99 : cdOf kX4_findSquare 99 = some (.iinc 1 1, 3) := by decide +kernel
theorem kX4_findSquare_102 : cdOf kX4_findSquare 102 = some (.goto (-62), 3) := by decide +kernel
theorem kX4_findSquare_105 : cdOf kX4_findSquare 105 = some (.iconst (-1), 1) := by decide +kernel
theorem kX4_findSquare_106 : cdOf kX4_findSquare 106 = some (.ireturn, 1) := by decide +kernel
set_option maxRecDepth 20000 in
theorem kX4_findSquare_ok : ∀ pc i len, cdOf kX4_findSquare pc = some (i, len) → decode cX4_findSquare pc = .ok (i, len) ∧ stOK 3 i = true ∧ jOK pc i = true ∧ eLen i len = true := cdOf_ok cX4_findSquare 3 kX4_findSquare (by decide +kernel)
def vtX4_findSquare : Nat → Option (Nat × eSp) := fun k => match k with
  | 73 => some (2, SX4_isOpen)
  | 63 => some (3, SX2_read)
  | 77 => some (1, SX8_isZero)
  | 81 => some (3, SX4_join)
  | _ => none
theorem vtX4_findSquare_73 : vtX4_findSquare 73 = some (2, SX4_isOpen) := rfl
theorem vtX4_findSquare_63 : vtX4_findSquare 63 = some (3, SX2_read) := rfl
theorem vtX4_findSquare_77 : vtX4_findSquare 77 = some (1, SX8_isZero) := rfl
theorem vtX4_findSquare_81 : vtX4_findSquare 81 = some (3, SX4_join) := rfl
def stX4_findSquare : Nat → Option (Nat × eSp) := fun _ => none
abbrev TX4_findSquare : eT := (fl_RX4, cl_RX4, dl_RX4, vtX4_findSquare, stX4_findSquare)
set_option maxRecDepth 20000 in
theorem caX4_findSquare : eCalls RX4 { frames := 3, cells := 0, slots := 0, locals := 78 } TX4_findSquare := by
  refine ⟨fun k n sp h => ?_, fun k n sp h => ?_⟩
  · dsimp only [TX4_findSquare] at h
    unfold vtX4_findSquare at h
    split at h
    · cases h; exact eV_mk mX4_isOpen wX4_isOpen (by decide +kernel) (Or.inl (gW_at 698 (by decide +kernel) rfl))
    · cases h; exact eV_mk mX2_read wX2_read (by decide +kernel) (Or.inl (gW_at 702 (by decide +kernel) rfl))
    · cases h; exact eV_mk mX8_isZero wX8_isZero (by decide +kernel) (Or.inl (gW_at 703 (by decide +kernel) rfl))
    · cases h; exact eV_mk mX4_join wX4_join (by decide +kernel) (Or.inl (gW_at 704 (by decide +kernel) rfl))
    · cases h
  · cases h
set_option maxRecDepth 100000 in
set_option maxHeartbeats 4000000 in
theorem sX4_findSquare : eSafe TX4_findSquare (cdOf kX4_findSquare) 3 (some .int) SX4_findSquare := by
  intro K rt hK as M h
  obtain ⟨F, A, W, B, S, p, c, rfl, rfl, hV, hO, hb, h⟩ := h
  refine ⟨by simp [eE], ?_⟩
  have mid : ∀ (i : Nat), i < 4 → (∀ a : Nat, a < 4 → A 7 a = 1 → S a a = 0) → (∀ a b : Nat, a < b → b < 4 → a < i → A 7 a = 1 → A 7 b = 1 → S a b = 0) → ((∀ b : Nat, i < b → b < 4 → A 7 i = 1 → A 7 b = 1 → S i b = 0) → ∀ u2, K 40 [some (eR (1, 5)), some (eI ((i + 1 : Nat) : Int)), u2] [] (cC F A W)) → ∀ (d j : Nat), j + d = 4 → i < j → (∀ b : Nat, i < b → b < j → A 7 i = 1 → A 7 b = 1 → S i b = 0) → K 49 [some (eR (1, 5)), some (eI i), some (eI j)] [] (cC F A W) := by
    intro i hi h0 h1 cont d
    induction d with
    | zero =>
      intro j hj ij hr
      have : j = 4 := by omega
      subst this
      refine x_iload_n hK kX4_findSquare_49 (q := 50) rfl rfl ?_
      refine x_iconst hK kX4_findSquare_50 (q := 51) rfl ?_
      refine x_icmp_ge hK kX4_findSquare_51 (q := 54) rfl (tg := 99) rfl (by refine ⟨?_, ?_⟩ <;> omega) (fun c51 => ?_) (fun c51 => ?_)
      · refine x_iinc hK kX4_findSquare_99 (q := 102) rfl rfl ?_
        simp only [lS, lS2, clr_0, clr_I, clr_L, clr_R]
        refine x_goto hK kX4_findSquare_102 (tg := 40) rfl ?_
        rw [show (i : Int) + 1 = ((i + 1 : Nat) : Int) by omega]
        exact cont hr _
      · exfalso; omega
    | succ d ih =>
      intro j hj ij hr
      have j4 : j < 4 := by omega
      have skip : ¬ (A 7 i = 1 ∧ A 7 j = 1 ∧ S i j ≠ 0) → K 49 [some (eR (1, 5)), some (eI i), some (eI ((j : Int) + 1))] [] (cC F A W) := fun q => by
        rw [show (j : Int) + 1 = ((j + 1 : Nat) : Int) by omega]
        refine ih (j + 1) (by omega) (by omega) (fun b b0 b1 p0 p1 => ?_)
        rcases Decidable.em (b = j) with e | e
        · rcases Decidable.em (S i b = 0) with z | z
          · exact z
          · exact absurd ⟨p0, by rw [← e]; exact p1, by rw [← e]; exact z⟩ q
        · exact hr b b0 (by omega) p0 p1
      refine x_iload_n hK kX4_findSquare_49 (q := 50) rfl rfl ?_
      refine x_iconst hK kX4_findSquare_50 (q := 51) rfl ?_
      refine x_icmp_ge hK kX4_findSquare_51 (q := 54) rfl (tg := 99) rfl (by refine ⟨?_, ?_⟩ <;> omega) (fun c51 => ?_) (fun c51 => ?_)
      · exfalso; omega
      · refine x_aload_n hK kX4_findSquare_54 (q := 55) rfl rfl ?_
        refine x_iload_n hK kX4_findSquare_55 (q := 56) rfl rfl ?_
        refine x_cv2 hK kX4_findSquare_56 (q := 59) rfl (vtX4_findSquare_73) (Nat.le_of_ble_eq_true rfl) ?_
        refine SX4_isOpen_i ⟨by omega, by omega⟩ hO ?_
        refine x_if_eq hK kX4_findSquare_59 (q := 62) rfl (tg := 93) rfl (by unfold opI; split <;> decide) (fun c59 => ?_) (fun c59 => ?_)
        · have := opI_0 hi (by omega)
          have sk := skip (fun q => this q.1)
          refine x_iinc hK kX4_findSquare_93 (q := 96) rfl rfl ?_
          simp only [lS, lS2, clr_0, clr_I, clr_L, clr_R]
          refine x_goto hK kX4_findSquare_96 (tg := 49) rfl ?_
          exact sk
        · refine x_aload_n hK kX4_findSquare_62 (q := 63) rfl rfl ?_
          refine x_iload_n hK kX4_findSquare_63 (q := 64) rfl rfl ?_
          refine x_cv2 hK kX4_findSquare_64 (q := 67) rfl (vtX4_findSquare_73) (Nat.le_of_ble_eq_true rfl) ?_
          refine SX4_isOpen_i ⟨by omega, by omega⟩ hO ?_
          refine x_if_eq hK kX4_findSquare_67 (q := 70) rfl (tg := 93) rfl (by unfold opI; split <;> decide) (fun c67 => ?_) (fun c67 => ?_)
          · have := opI_0 j4 (by omega)
            have sk := skip (fun q => this q.2.1)
            refine x_iinc hK kX4_findSquare_93 (q := 96) rfl rfl ?_
            simp only [lS, lS2, clr_0, clr_I, clr_L, clr_R]
            refine x_goto hK kX4_findSquare_96 (tg := 49) rfl ?_
            exact sk
          · refine x_aload_n hK kX4_findSquare_70 (q := 71) rfl rfl ?_
            refine x_getfield hK kX4_findSquare_71 (q := 74) rfl (gX4_16 ?_)
            refine x_iload_n hK kX4_findSquare_74 (q := 75) rfl rfl ?_
            refine x_iload_n hK kX4_findSquare_75 (q := 76) rfl rfl ?_
            refine x_cv3 hK kX4_findSquare_76 (q := 79) rfl (vtX4_findSquare_63) (Nat.le_of_ble_eq_true rfl) ?_
            refine SX2_read_i (g := 10) (i := i) (j := j) (by decide) hi j4 ?_
            refine x_cv1 hK kX4_findSquare_79 (q := 82) rfl (vtX4_findSquare_77) (Nat.le_of_ble_eq_true rfl) ?_
            refine isZero_a hV (k := gb 10 + (4 * i + j)) (by rw [gb_10]; omega) (by rw [gb_10]; omega) ?_
            rw [inV_s _ _ _ _ hi j4]
            refine x_if_ne hK kX4_findSquare_82 (q := 85) rfl (tg := 93) rfl (by unfold zZ; split <;> decide) (fun c82 => ?_) (fun c82 => ?_)
            · have sk := skip (fun q => by unfold zZ at c82; rw [if_neg q.2.2] at c82; omega)
              refine x_iinc hK kX4_findSquare_93 (q := 96) rfl rfl ?_
              simp only [lS, lS2, clr_0, clr_I, clr_L, clr_R]
              refine x_goto hK kX4_findSquare_96 (tg := 49) rfl ?_
              exact sk
            · have z : S i j ≠ 0 := fun q => by unfold zZ at c82; rw [if_pos q] at c82; omega
              refine x_aload_n hK kX4_findSquare_85 (q := 86) rfl rfl ?_
              refine x_iload_n hK kX4_findSquare_86 (q := 87) rfl rfl ?_
              refine x_iload_n hK kX4_findSquare_87 (q := 88) rfl rfl ?_
              refine x_cv3 hK kX4_findSquare_88 (q := 91) rfl (vtX4_findSquare_81) (Nat.le_of_ble_eq_true rfl) ?_
              refine SX4_join_i (i := i) (j := j) hV hi j4 (by omega) hb (fun W2 h2 => ?_)
              refine x_iload_n hK kX4_findSquare_91 (q := 92) rfl rfl ?_
              refine x_ireturn hK kX4_findSquare_92 (by first | trivial | exact Or.inl rfl | exact Or.inr rfl) ?_
              exact h _ _ _ (Or.inr (Or.inl ⟨i, j, ij, j4, rfl, opI_1 (by omega), opI_1 (by omega), z, h0, rfl⟩)) h2
  have out : (∀ a : Nat, a < 4 → A 7 a = 1 → S a a = 0) → ∀ (d i : Nat) (u2 : Option eV), i + d = 4 → (∀ a b : Nat, a < b → b < 4 → a < i → A 7 a = 1 → A 7 b = 1 → S a b = 0) → K 40 [some (eR (1, 5)), some (eI i), u2] [] (cC F A W) := by
    intro h0 d
    induction d with
    | zero =>
      intro i u2 hi h1
      have : i = 4 := by omega
      subst this
      refine x_iload_n hK kX4_findSquare_40 (q := 41) rfl rfl ?_
      refine x_iconst hK kX4_findSquare_41 (q := 42) rfl ?_
      refine x_icmp_ge hK kX4_findSquare_42 (q := 45) rfl (tg := 105) rfl (by refine ⟨?_, ?_⟩ <;> omega) (fun c42 => ?_) (fun c42 => ?_)
      · refine x_iconst hK kX4_findSquare_105 (q := 106) rfl ?_
        refine x_ireturn hK kX4_findSquare_106 (by first | trivial | exact Or.inl rfl | exact Or.inr rfl) ?_
        exact h _ _ _ (Or.inr (Or.inr ⟨rfl, rfl, h0, fun a b ab b4 => h1 a b ab b4 (by omega)⟩)) hV
      · exfalso; omega
    | succ d ih =>
      intro i u2 hi h1
      refine x_iload_n hK kX4_findSquare_40 (q := 41) rfl rfl ?_
      refine x_iconst hK kX4_findSquare_41 (q := 42) rfl ?_
      refine x_icmp_ge hK kX4_findSquare_42 (q := 45) rfl (tg := 105) rfl (by refine ⟨?_, ?_⟩ <;> omega) (fun c42 => ?_) (fun c42 => ?_)
      · exfalso; omega
      · refine x_iload_n hK kX4_findSquare_45 (q := 46) rfl rfl ?_
        refine x_iconst hK kX4_findSquare_46 (q := 47) rfl ?_
        refine x_iadd hK kX4_findSquare_47 (q := 48) rfl ?_
        refine x_istore_n hK kX4_findSquare_48 (q := 49) (jn := 2) rfl rfl ?_
        simp only [lS, lS2, clr_0, clr_I, clr_L, clr_R]
        rw [show (i : Int) + 1 = ((i + 1 : Nat) : Int) by omega]
        refine mid i (by omega) h0 h1 (fun hr u2 => ih (i + 1) u2 (by omega) (fun a b ab b4 ai => ?_)) (3 - i) (i + 1) (by omega) (by omega) (fun b b0 b1 => by omega)
        rcases Decidable.em (a = i) with e | e
        · subst e
          exact hr b ab b4
        · exact h1 a b ab b4 (by omega)
  have one : ∀ (d i : Nat) (u2 : Option eV), i + d = 4 → (∀ a : Nat, a < i → A 7 a = 1 → S a a = 0) → K 2 [some (eR (1, 5)), some (eI i), u2] [] (cC F A W) := by
    intro d
    induction d with
    | zero =>
      intro i u2 hi h0
      have : i = 4 := by omega
      subst this
      refine x_iload_n hK kX4_findSquare_2 (q := 3) rfl rfl ?_
      refine x_iconst hK kX4_findSquare_3 (q := 4) rfl ?_
      refine x_icmp_ge hK kX4_findSquare_4 (q := 7) rfl (tg := 38) rfl (by refine ⟨?_, ?_⟩ <;> omega) (fun c4 => ?_) (fun c4 => ?_)
      · refine x_iconst hK kX4_findSquare_38 (q := 39) rfl ?_
        refine x_istore_n hK kX4_findSquare_39 (q := 40) (jn := 1) rfl rfl ?_
        simp only [lS, lS2, clr_0, clr_I, clr_L, clr_R]
        exact out h0 4 0 _ rfl (fun a b _ _ _ => by omega)
      · exfalso; omega
    | succ d ih =>
      intro i u2 hi h0
      have i4 : i < 4 := by omega
      have skip : ¬ (A 7 i = 1 ∧ S i i ≠ 0) → K 2 [some (eR (1, 5)), some (eI ((i : Int) + 1)), u2] [] (cC F A W) := fun q => by
        rw [show (i : Int) + 1 = ((i + 1 : Nat) : Int) by omega]
        refine ih (i + 1) u2 (by omega) (fun a a0 p0 => ?_)
        rcases Decidable.em (a = i) with e | e
        · rcases Decidable.em (S a a = 0) with z | z
          · exact z
          · exact absurd ⟨by rw [← e]; exact p0, by rw [← e]; exact z⟩ q
        · exact h0 a (by omega) p0
      refine x_iload_n hK kX4_findSquare_2 (q := 3) rfl rfl ?_
      refine x_iconst hK kX4_findSquare_3 (q := 4) rfl ?_
      refine x_icmp_ge hK kX4_findSquare_4 (q := 7) rfl (tg := 38) rfl (by refine ⟨?_, ?_⟩ <;> omega) (fun c4 => ?_) (fun c4 => ?_)
      · exfalso; omega
      · refine x_aload_n hK kX4_findSquare_7 (q := 8) rfl rfl ?_
        refine x_iload_n hK kX4_findSquare_8 (q := 9) rfl rfl ?_
        refine x_cv2 hK kX4_findSquare_9 (q := 12) rfl (vtX4_findSquare_73) (Nat.le_of_ble_eq_true rfl) ?_
        refine SX4_isOpen_i ⟨by omega, by omega⟩ hO ?_
        refine x_if_eq hK kX4_findSquare_12 (q := 15) rfl (tg := 32) rfl (by unfold opI; split <;> decide) (fun c12 => ?_) (fun c12 => ?_)
        · have := opI_0 i4 (by omega)
          have sk := skip (fun q => this q.1)
          refine x_iinc hK kX4_findSquare_32 (q := 35) rfl rfl ?_
          simp only [lS, lS2, clr_0, clr_I, clr_L, clr_R]
          refine x_goto hK kX4_findSquare_35 (tg := 2) rfl ?_
          exact sk
        · refine x_aload_n hK kX4_findSquare_15 (q := 16) rfl rfl ?_
          refine x_getfield hK kX4_findSquare_16 (q := 19) rfl (gX4_16 ?_)
          refine x_iload_n hK kX4_findSquare_19 (q := 20) rfl rfl ?_
          refine x_iload_n hK kX4_findSquare_20 (q := 21) rfl rfl ?_
          refine x_cv3 hK kX4_findSquare_21 (q := 24) rfl (vtX4_findSquare_63) (Nat.le_of_ble_eq_true rfl) ?_
          refine SX2_read_i (g := 10) (i := i) (j := i) (by decide) i4 i4 ?_
          refine x_cv1 hK kX4_findSquare_24 (q := 27) rfl (vtX4_findSquare_77) (Nat.le_of_ble_eq_true rfl) ?_
          refine isZero_a hV (k := gb 10 + (4 * i + i)) (by rw [gb_10]; omega) (by rw [gb_10]; omega) ?_
          rw [inV_s _ _ _ _ i4 i4]
          refine x_if_ne hK kX4_findSquare_27 (q := 30) rfl (tg := 32) rfl (by unfold zZ; split <;> decide) (fun c27 => ?_) (fun c27 => ?_)
          · have sk := skip (fun q => by unfold zZ at c27; rw [if_neg q.2] at c27; omega)
            refine x_iinc hK kX4_findSquare_32 (q := 35) rfl rfl ?_
            simp only [lS, lS2, clr_0, clr_I, clr_L, clr_R]
            refine x_goto hK kX4_findSquare_35 (tg := 2) rfl ?_
            exact sk
          · have z : S i i ≠ 0 := fun q => by unfold zZ at c27; rw [if_pos q] at c27; omega
            refine x_iload_n hK kX4_findSquare_30 (q := 31) rfl rfl ?_
            refine x_ireturn hK kX4_findSquare_31 (by first | trivial | exact Or.inl rfl | exact Or.inr rfl) ?_
            exact h _ _ _ (Or.inl ⟨i, i4, rfl, opI_1 (by omega), z, rfl⟩) hV
  simp only [eLoc, eE, List.length_cons, List.length_nil, List.replicate, List.cons_append, List.nil_append, Nat.reduceAdd, Nat.reduceSub]
  refine x_iconst hK kX4_findSquare_0 (q := 1) rfl ?_
  refine x_istore_n hK kX4_findSquare_1 (q := 2) (jn := 1) rfl rfl ?_
  simp only [lS, lS2, clr_0, clr_I, clr_L, clr_R]
  exact one 4 0 _ rfl (fun a a0 => by omega)
set_option maxRecDepth 20000 in
theorem mX4_findSquare : eMet yX4_findSquare cX4_findSquare 3 (some .int) 3 78 SX4_findSquare := eMet_of (by decide +kernel) sX4_findSquare kX4_findSquare_ok caX4_findSquare tb_RX4
theorem wX4_findSquare : eWV yX4_findSquare cX4_findSquare 3 (some .int) 1 4 SX4_findSquare := ⟨(gW_at 697 (by decide +kernel) rfl), (gW_at 87 (by decide +kernel) rfl), (gW_at 696 (by decide +kernel) rfl), ⟨_, rfl, (gW_at 27 (by decide +kernel) rfl)⟩, by decide +kernel, SX4_findSquare_r⟩
