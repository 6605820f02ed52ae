/-! Wholes: set, isLong, toLong, compareSize. -/
theorem st_m {a : Int} (h : 0 ≤ a) : a.tmod 2147483648 = a % 2147483648 ∧ (-a).tmod 2147483648 = -(a % 2147483648) ∧ a.tdiv 2147483648 = a / 2147483648 ∧ (-a).tdiv 2147483648 = -(a / 2147483648) := by
  refine ⟨Int.tmod_eq_emod_of_nonneg h, ?_, Int.tdiv_eq_ediv_of_nonneg h, ?_⟩
  · rw [Int.neg_tmod, Int.tmod_eq_emod_of_nonneg h]
  · rw [Int.neg_tdiv, Int.tdiv_eq_ediv_of_nonneg h]
def SX8_set : eSp := fun as M rt => ∃ (F : Nat → Int) (A W : Nat → Int → Int) (k : Nat) (v : Int), as = [eR (2, k), eL v] ∧ M = cC F A W ∧ (k < 332) ∧ (w64 v) ∧ (∀ f, wq (lw k) f v → rt none (cC F A (uA W k f)))
theorem SX8_set_i {F : Nat → Int} {A W : Nat → Int → Int} {k : Nat} {v : Int} {rt : Option eV → eM → Prop} (hk : k < 332) (hv : w64 v) (h : ∀ f, wq (lw k) f v → rt none (cC F A (uA W k f))) : SX8_set [eR (2, k), eL v] (cC F A W) rt := ⟨F, A, W, k, v, rfl, rfl, hk, hv, h⟩
theorem SX8_set_r : ∀ as M rt, SX8_set as M rt → ∃ a r fs, as = eR a :: r ∧ M a = some (.inl (7, fs)) := by
  rintro as M rt ⟨F, A, W, k, v, rfl, rfl, hk, -⟩
  exact ⟨_, _, _, rfl, cC_2 hk⟩
def kX8_set : List (Nat × Jvm.ClassFile.Instr × Nat) := [(0, .lload_n 1, 1), (1, .lstore_n 3, 1), (2, .aload_n 0, 1), (3, .iconst 0, 1), (4, .putfield 9, 3), (7, .aload_n 0, 1), (8, .lload_n 1, 1), (9, .lconst 0, 1), (10, .lcmp, 1), (11, .ifCond .le 7, 3), (14, .iconst 1, 1), (15, .goto 14, 3), (18, .lload_n 1, 1), (19, .lconst 0, 1), (20, .lcmp, 1), (21, .ifCond .ge 7, 3), (24, .iconst (-1), 1), (25, .goto 4, 3), (28, .iconst 0, 1), (29, .putfield 13, 3), (32, .iconst 0, 1), (33, .istore 5, 2), (35, .iload 5, 2), (37, .iconst 3, 1), (38, .if_icmp .ge 69, 3), (41, .iload 5, 2), (43, .aload_n 0, 1), (44, .getfield 22, 3), (47, .arraylength, 1), (48, .if_icmp .ge 59, 3), (51, .lload_n 3, 1), (52, .lconst 0, 1), (53, .lcmp, 1), (54, .ifCond .eq 53, 3), (57, .lload_n 3, 1), (58, .ldc2_w 26, 3), (61, .lrem, 1), (62, .lstore 6, 2), (64, .aload_n 0, 1), (65, .getfield 22, 3), (68, .iload 5, 2), (70, .lload 6, 2), (72, .lconst 0, 1), (73, .lcmp, 1), (74, .ifCond .ge 9, 3), (77, .lload 6, 2), (79, .lneg, 1), (80, .goto 5, 3), (83, .lload 6, 2), (85, .l2i, 1), (86, .iastore, 1), (87, .lload_n 3, 1), (88, .ldc2_w 26, 3), (91, .ldiv, 1), (92, .lstore_n 3, 1), (93, .aload_n 0, 1), (94, .iload 5, 2), (96, .iconst 1, 1), (97, .iadd, 1), (98, .putfield 9, 3), (101, .iinc 5 1, 3), (104, .goto (-69), 3), (107, .return_, 1)]
theorem kX8_set_0 : cdOf kX8_set 0 = some (.lload_n 1, 1) := by decide +kernel
theorem kX8_set_1 : cdOf kX8_set 1 = some (.lstore_n 3, 1) := by decide +kernel
theorem kX8_set_2 : cdOf kX8_set 2 = some (.aload_n 0, 1) := by decide +kernel
theorem kX8_set_3 : cdOf kX8_set 3 = some (.iconst 0, 1) := by decide +kernel
theorem kX8_set_4 : cdOf kX8_set 4 = some (.putfield 9, 3) := by decide +kernel
theorem kX8_set_7 : cdOf kX8_set 7 = some (.aload_n 0, 1) := by decide +kernel
theorem kX8_set_8 : cdOf kX8_set 8 = some (.lload_n 1, 1) := by decide +kernel
theorem kX8_set_9 : cdOf kX8_set 9 = some (.lconst 0, 1) := by decide +kernel
theorem kX8_set_10 : cdOf kX8_set 10 = some (.lcmp, 1) := by decide +kernel
theorem kX8_set_11 : cdOf kX8_set 11 = some (.ifCond .le 7, 3) := by decide +kernel
theorem kX8_set_14 : cdOf kX8_set 14 = some (.iconst 1, 1) := by decide +kernel
theorem kX8_set_15 : cdOf kX8_set 15 = some (.goto 14, 3) := by decide +kernel
theorem kX8_set_18 : cdOf kX8_set 18 = some (.lload_n 1, 1) := by decide +kernel
theorem kX8_set_19 : cdOf kX8_set 19 = some (.lconst 0, 1) := by decide +kernel
theorem kX8_set_20 : cdOf kX8_set 20 = some (.lcmp, 1) := by decide +kernel
theorem kX8_set_21 : cdOf kX8_set 21 = some (.ifCond .ge 7, 3) := by decide +kernel
theorem kX8_set_24 : cdOf kX8_set 24 = some (.iconst (-1), 1) := by decide +kernel
theorem kX8_set_25 : cdOf kX8_set 25 = some (.goto 4, 3) := by decide +kernel
theorem kX8_set_28 : cdOf kX8_set 28 = some (.iconst 0, 1) := by decide +kernel
theorem kX8_set_29 : cdOf kX8_set 29 = some (.putfield 13, 3) := by decide +kernel
theorem kX8_set_32 : cdOf kX8_set 32 = some (.iconst 0, 1) := by decide +kernel
theorem kX8_set_33 : cdOf kX8_set 33 = some (.istore 5, 2) := by decide +kernel
theorem kX8_set_35 : cdOf kX8_set 35 = some (.iload 5, 2) := by decide +kernel
theorem kX8_set_37 : cdOf kX8_set 37 = some (.iconst 3, 1) := by decide +kernel
theorem kX8_set_38 : cdOf kX8_set 38 = some (.if_icmp .ge 69, 3) := by decide +kernel
theorem kX8_set_41 : cdOf kX8_set 41 = some (.iload 5, 2) := by decide +kernel
theorem kX8_set_43 : cdOf kX8_set 43 = some (.aload_n 0, 1) := by decide +kernel
theorem kX8_set_44 : cdOf kX8_set 44 = some (.getfield 22, 3) := by decide +kernel
theorem kX8_set_47 : cdOf kX8_set 47 = some (.arraylength, 1) := by decide +kernel
theorem kX8_set_48 : cdOf kX8_set 48 = some (.if_icmp .ge 59, 3) := by decide +kernel
theorem kX8_set_51 : cdOf kX8_set 51 = some (.lload_n 3, 1) := by decide +kernel
theorem kX8_set_52 : cdOf kX8_set 52 = some (.lconst 0, 1) := by decide +kernel
theorem kX8_set_53 : cdOf kX8_set 53 = some (.lcmp, 1) := by decide +kernel
theorem kX8_set_54 : cdOf kX8_set 54 = some (.ifCond .eq 53, 3) := by decide +kernel
theorem kX8_set_57 : cdOf kX8_set 57 = some (.lload_n 3, 1) := by decide +kernel
theorem kX8_set_58 : cdOf kX8_set 58 = some (.ldc2_w 26, 3) := by decide +kernel
theorem kX8_set_61 : cdOf kX8_set 61 = some (.lrem, 1) := by decide +kernel
theorem kX8_set_62 : cdOf kX8_set 62 = some (.lstore 6, 2) := by decide +kernel
theorem kX8_set_64 : cdOf kX8_set 64 = some (.aload_n 0, 1) := by decide +kernel
theorem kX8_set_65 : cdOf kX8_set 65 = some (.getfield 22, 3) := by decide +kernel
theorem kX8_set_68 : cdOf kX8_set 68 = some (.iload 5, 2) := by decide +kernel
theorem kX8_set_70 : cdOf kX8_set 70 = some (.lload 6, 2) := by decide +kernel
theorem kX8_set_72 : cdOf kX8_set 72 = some (.lconst 0, 1) := by decide +kernel
theorem kX8_set_73 : cdOf kX8_set 73 = some (.lcmp, 1) := by decide +kernel
theorem kX8_set_74 : cdOf kX8_set 74 = some (.ifCond .ge 9, 3) := by decide +kernel
theorem kX8_set_77 : cdOf kX8_set 77 = some (.lload 6, 2) := by decide +kernel
theorem kX8_set_79 : cdOf kX8_set 79 = some (.lneg, 1) := by decide +kernel
theorem kX8_set_80 : cdOf kX8_set 80 = some (.goto 5, 3) := by decide +kernel
theorem kX8_set_83 : cdOf kX8_set 83 = some (.lload 6, 2) := by decide +kernel
theorem kX8_set_85 : cdOf kX8_set 85 = some (.l2i, 1) := by decide +kernel
theorem kX8_set_86 : cdOf kX8_set 86 = some (.iastore, 1) := by decide +kernel
theorem kX8_set_87 : cdOf kX8_set 87 = some (.lload_n 3, 1) := by decide +kernel
theorem kX8_set_88 : cdOf kX8_set 88 = some (.ldc2_w 26, 3) := by decide +kernel
theorem kX8_set_91 : cdOf kX8_set 91 = some (.ldiv, 1) := by decide +kernel
theorem kX8_set_92 : cdOf kX8_set 92 = some (.lstore_n 3, 1) := by decide +kernel
theorem kX8_set_93 : cdOf kX8_set 93 = some (.aload_n 0, 1) := by decide +kernel
theorem kX8_set_94 : cdOf kX8_set 94 = some (.iload 5, 2) := by decide +kernel
theorem kX8_set_96 : cdOf kX8_set 96 = some (.iconst 1, 1) := by decide +kernel
theorem kX8_set_97 : cdOf kX8_set 97 = some (.iadd, 1) := by decide +kernel
theorem kX8_set_98 : cdOf kX8_set 98 = some (.putfield 9, 3) := by decide +kernel
theorem kX8_set_101 : cdOf kX8_set 101 = some (.iinc 5 1, 3) := by decide +kernel
theorem kX8_set_104 : cdOf kX8_set 104 = some (.goto (-69), 3) := by decide +kernel
theorem kX8_set_107 : cdOf kX8_set 107 = some (.return_, 1) := by decide +kernel
set_option maxRecDepth 20000 in
theorem kX8_set_ok : ∀ pc i len, cdOf kX8_set pc = some (i, len) → decode cX8_set pc = .ok (i, len) ∧ stOK 8 i = true ∧ jOK pc i = true ∧ eLen i len = true := cdOf_ok cX8_set 8 kX8_set (by decide +kernel)
def vtX8_set : Nat → Option (Nat × eSp) := fun _ => none
def stX8_set : Nat → Option (Nat × eSp) := fun _ => none
abbrev TX8_set : eT := (fl_RX8, cl_RX8, dl_RX8, vtX8_set, stX8_set)
set_option maxRecDepth 20000 in
theorem caX8_set : eCalls RX8 { frames := 0, cells := 0, slots := 0, locals := 0 } TX8_set := by
  refine ⟨fun k n sp h => ?_, fun k n sp h => ?_⟩
  · cases h
  · cases h
set_option maxRecDepth 100000 in
set_option maxHeartbeats 4000000 in
theorem sX8_set : eSafe TX8_set (cdOf kX8_set) 8 none SX8_set := by
  intro K rt hK as M h
  obtain ⟨F, A, W, k, v, rfl, rfl, hk, hv, h⟩ := h
  refine ⟨by simp [eE], ?_⟩
  have av : 0 ≤ zAbs v ∧ zAbs v ≤ 9223372036854775808 := by
    have := hv.1
    have := hv.2
    unfold zAbs; split <;> omega
  have c3 : cB ^ 3 = 9903520314283042199192993792 := by decide
  have lk := lw_b k
  have loop : ∀ (d n : Nat) (f : Int → Int) (left rest : Int) (u6 : Option eV), n + d = 3 → f 80 = n → f 81 = zSg v → lR f n → 0 ≤ left → zAbs v = vL f n + left * cB ^ n → (0 < n → left = 0 → f ((n : Int) - 1) ≠ 0) → ((0 ≤ v ∧ rest = left) ∨ (v < 0 ∧ rest = -left)) →
      K 35 [some (eR (2, k)), some (eL v), none, some (eL rest), none, some (eI n), u6, none] [] (cC F A (uA W k f)) := by
    intro d
    induction d with
    | zero =>
      intro n f left rest u6 hn h8 h9 hr hl hz ht hs
      have hn3 : n = 3 := by omega
      subst hn3
      have h5 := vL_nn hr
      have hl0 : left = 0 := by
        rw [c3] at hz
        omega
      refine x_iload hK kX8_set_35 (q := 37) rfl rfl ?_
      refine x_iconst hK kX8_set_37 (q := 38) rfl ?_
      refine x_icmp_ge hK kX8_set_38 (q := 41) rfl (tg := 107) rfl (by refine ⟨?_, ?_⟩ <;> omega) (fun c38 => ?_) (fun c38 => ?_)
      · refine x_return_ hK kX8_set_107 (by first | trivial | exact Or.inl rfl | exact Or.inr rfl) ?_
        exact h f (wq_mk (by omega) h8 hr (fun q => ht q hl0) (by rw [hz, hl0]; omega) h9)
      · exact absurd c38 (by omega)
    | succ d ih =>
      intro n f left rest u6 hn h8 h9 hr hl hz ht hs
      have h5 := vL_nn hr
      have hb : left ≤ zAbs v := by
        have h6 := cB_pos n
        have h7 : left * 1 ≤ left * cB ^ n := Int.mul_le_mul_of_nonneg_left (by omega) hl
        omega
      obtain ⟨t1, t2, t3, t4⟩ := st_m hl
      have step : ∀ (rest' : Int) (u6 : Option eV), 0 < left → ((0 ≤ v ∧ rest' = left / 2147483648) ∨ (v < 0 ∧ rest' = -(left / 2147483648))) → K 35 [some (eR (2, k)), some (eL v), none, some (eL rest'), none, some (eI ((n + 1 : Nat) : Int)), u6, none] [] (cC F A (uA W k (uI (uI f n (left % 2147483648)) 80 ((n + 1 : Nat) : Int)))) := fun rest' u6 h0 hs' => by
        refine ih (n + 1) _ (left / 2147483648) rest' u6 (by omega) (uI_s _ _ _) (by rw [uI_n _ _ (by decide), uI_n _ _ (by omega)]; exact h9) (fun i hi => ?_) (by omega) ?_ (fun _ hz0 => ?_) hs'
        · rw [uI_n _ _ (by omega)]
          rcases Nat.lt_or_ge i n with h8 | h8
          · rw [uI_n _ _ (by omega)]; exact hr i h8
          · have : i = n := by omega
            subst this
            rw [uI_s]
            show 0 ≤ left % 2147483648 ∧ left % 2147483648 < 2147483648
            omega
        · have e2 : vL (uI (uI f n (left % 2147483648)) 80 ((n + 1 : Nat) : Int)) n = vL f n := vL_cong (fun i hi => by rw [uI_n _ _ (by omega), uI_n _ _ (by omega)])
          rw [vL, e2, uI_n _ _ (by omega), uI_s, cB_succ, hz]
          have e3 : left = left / 2147483648 * 2147483648 + left % 2147483648 := by omega
          have e4 : left * cB ^ n = left / 2147483648 * (cB ^ n * cB) + left % 2147483648 * cB ^ n := by
            rw [Int.mul_comm (cB ^ n) cB, ← Int.mul_assoc, ← Int.add_mul]
            congr 1
          omega
        · rw [show ((n + 1 : Nat) : Int) - 1 = n by omega, uI_n _ _ (by omega), uI_s]
          omega
      rcases hs with ⟨hv0, rfl⟩ | ⟨hv0, rfl⟩
      · have _u : rest ≤ 9223372036854775807 := by
          have := hv.2
          rcases zSg_c v with g | g | g <;> omega
        refine x_iload hK kX8_set_35 (q := 37) rfl rfl ?_
        refine x_iconst hK kX8_set_37 (q := 38) rfl ?_
        refine x_icmp_ge hK kX8_set_38 (q := 41) rfl (tg := 107) rfl (by refine ⟨?_, ?_⟩ <;> omega) (fun c38 => ?_) (fun c38 => ?_)
        · exfalso; omega
        · refine x_iload hK kX8_set_41 (q := 43) rfl rfl ?_
          refine x_aload_n hK kX8_set_43 (q := 44) rfl rfl ?_
          refine x_getfield hK kX8_set_44 (q := 47) rfl (gX8_22 ?_)
          refine x_arraylength hK kX8_set_47 (q := 48) rfl (nC7_0 ?_)
          refine x_icmp_ge hK kX8_set_48 (q := 51) rfl (tg := 107) rfl (by refine ⟨?_, ?_⟩ <;> omega) (fun c48 => ?_) (fun c48 => ?_)
          · exfalso; omega
          · refine x_lload_n hK kX8_set_51 (q := 52) rfl rfl ?_
            refine x_lconst0 hK kX8_set_52 (q := 53) rfl ?_
            refine x_lcmp hK kX8_set_53 (q := 54) rfl (by refine ⟨⟨by omega, by omega⟩, by decide⟩) ?_
            refine x_ifc_eq hK kX8_set_54 (q := 57) rfl (tg := 107) rfl (fun c54 => ?_) (fun c54 => ?_)
            · have hl0 : rest = 0 := by omega
              subst hl0
              refine x_return_ hK kX8_set_107 (by first | trivial | exact Or.inl rfl | exact Or.inr rfl) ?_
              exact h f (wq_mk (by omega) h8 hr (fun q => ht q rfl) (by rw [hz]; omega) h9)
            · refine x_lload_n hK kX8_set_57 (q := 58) rfl rfl ?_
              refine x_ldc2_w hK kX8_set_58 (q := 61) rfl lc2_RX8_26 ?_
              refine x_lrem hK kX8_set_61 (q := 62) rfl (by refine ⟨⟨by omega, by omega⟩, by decide, by decide⟩) ?_
              rw [t1]
              refine x_lstore hK kX8_set_62 (q := 64) rfl ?_
              refine x_aload_n hK kX8_set_64 (q := 65) rfl rfl ?_
              refine x_getfield hK kX8_set_65 (q := 68) rfl (gX8_22 ?_)
              refine x_iload hK kX8_set_68 (q := 70) rfl rfl ?_
              refine x_lload hK kX8_set_70 (q := 72) rfl rfl ?_
              refine x_lconst0 hK kX8_set_72 (q := 73) rfl ?_
              refine x_lcmp hK kX8_set_73 (q := 74) rfl (by refine ⟨⟨by omega, by omega⟩, by decide⟩) ?_
              simp only [lS, lS2, clr_0, clr_I, clr_L, clr_R]
              refine x_ifc_ge hK kX8_set_74 (q := 77) rfl (tg := 83) rfl (fun c74 => ?_) (fun c74 => ?_)
              · refine x_lload hK kX8_set_83 (q := 85) rfl rfl ?_
                refine x_l2i hK kX8_set_85 (q := 86) rfl ?_
                refine x_iastore hK kX8_set_86 (q := 87) rfl (yC7_0 (by refine ⟨?_, ?_⟩ <;> omega) ?_)
                rw [uA_g, uA_u]
                refine x_lload_n hK kX8_set_87 (q := 88) rfl rfl ?_
                refine x_ldc2_w hK kX8_set_88 (q := 91) rfl lc2_RX8_26 ?_
                refine x_ldiv hK kX8_set_91 (q := 92) rfl (by refine ⟨⟨by omega, by omega⟩, by decide, by decide⟩) ?_
                rw [t3]
                refine x_lstore_n hK kX8_set_92 (q := 93) (jn := 3) rfl rfl ?_
                refine x_aload_n hK kX8_set_93 (q := 94) rfl rfl ?_
                refine x_iload hK kX8_set_94 (q := 96) rfl rfl ?_
                refine x_iconst hK kX8_set_96 (q := 97) rfl ?_
                refine x_iadd hK kX8_set_97 (q := 98) rfl ?_
                refine x_putfield hK kX8_set_98 (q := 101) rfl (pX8_9 ?_)
                simp only [lS, lS2, clr_0, clr_I, clr_L, clr_R]
                rw [uA_g, uA_u]
                refine x_iinc hK kX8_set_101 (q := 104) rfl rfl ?_
                simp only [lS, lS2, clr_0, clr_I, clr_L, clr_R]
                refine x_goto hK kX8_set_104 (tg := 35) rfl ?_
                exact x_to (step (rest / 2147483648) _ (by omega) (Or.inl ⟨hv0, rfl⟩)) rfl rfl rfl
              · exfalso; omega
      · have _u := hk
        refine x_iload hK kX8_set_35 (q := 37) rfl rfl ?_
        refine x_iconst hK kX8_set_37 (q := 38) rfl ?_
        refine x_icmp_ge hK kX8_set_38 (q := 41) rfl (tg := 107) rfl (by refine ⟨?_, ?_⟩ <;> omega) (fun c38 => ?_) (fun c38 => ?_)
        · exfalso; omega
        · refine x_iload hK kX8_set_41 (q := 43) rfl rfl ?_
          refine x_aload_n hK kX8_set_43 (q := 44) rfl rfl ?_
          refine x_getfield hK kX8_set_44 (q := 47) rfl (gX8_22 ?_)
          refine x_arraylength hK kX8_set_47 (q := 48) rfl (nC7_0 ?_)
          refine x_icmp_ge hK kX8_set_48 (q := 51) rfl (tg := 107) rfl (by refine ⟨?_, ?_⟩ <;> omega) (fun c48 => ?_) (fun c48 => ?_)
          · exfalso; omega
          · refine x_lload_n hK kX8_set_51 (q := 52) rfl rfl ?_
            refine x_lconst0 hK kX8_set_52 (q := 53) rfl ?_
            refine x_lcmp hK kX8_set_53 (q := 54) rfl (by refine ⟨⟨by omega, by omega⟩, by decide⟩) ?_
            refine x_ifc_eq hK kX8_set_54 (q := 57) rfl (tg := 107) rfl (fun c54 => ?_) (fun c54 => ?_)
            · have hl0 : left = 0 := by omega
              subst hl0
              refine x_return_ hK kX8_set_107 (by first | trivial | exact Or.inl rfl | exact Or.inr rfl) ?_
              exact h f (wq_mk (by omega) h8 hr (fun q => ht q rfl) (by rw [hz]; omega) h9)
            · refine x_lload_n hK kX8_set_57 (q := 58) rfl rfl ?_
              refine x_ldc2_w hK kX8_set_58 (q := 61) rfl lc2_RX8_26 ?_
              refine x_lrem hK kX8_set_61 (q := 62) rfl (by refine ⟨⟨by omega, by omega⟩, by decide, by decide⟩) ?_
              rw [t2]
              refine x_lstore hK kX8_set_62 (q := 64) rfl ?_
              refine x_aload_n hK kX8_set_64 (q := 65) rfl rfl ?_
              refine x_getfield hK kX8_set_65 (q := 68) rfl (gX8_22 ?_)
              refine x_iload hK kX8_set_68 (q := 70) rfl rfl ?_
              refine x_lload hK kX8_set_70 (q := 72) rfl rfl ?_
              refine x_lconst0 hK kX8_set_72 (q := 73) rfl ?_
              refine x_lcmp hK kX8_set_73 (q := 74) rfl (by refine ⟨⟨by omega, by omega⟩, by decide⟩) ?_
              simp only [lS, lS2, clr_0, clr_I, clr_L, clr_R]
              refine x_ifc_ge hK kX8_set_74 (q := 77) rfl (tg := 83) rfl (fun c74 => ?_) (fun c74 => ?_)
              · refine x_lload hK kX8_set_83 (q := 85) rfl rfl ?_
                first | rw [Int.neg_neg] | rw [show -(left % 2147483648) = left % 2147483648 by omega]
                refine x_l2i hK kX8_set_85 (q := 86) rfl ?_
                refine x_iastore hK kX8_set_86 (q := 87) rfl (yC7_0 (by refine ⟨?_, ?_⟩ <;> omega) ?_)
                rw [uA_g, uA_u]
                refine x_lload_n hK kX8_set_87 (q := 88) rfl rfl ?_
                refine x_ldc2_w hK kX8_set_88 (q := 91) rfl lc2_RX8_26 ?_
                refine x_ldiv hK kX8_set_91 (q := 92) rfl (by refine ⟨⟨by omega, by omega⟩, by decide, by decide⟩) ?_
                rw [t4]
                refine x_lstore_n hK kX8_set_92 (q := 93) (jn := 3) rfl rfl ?_
                refine x_aload_n hK kX8_set_93 (q := 94) rfl rfl ?_
                refine x_iload hK kX8_set_94 (q := 96) rfl rfl ?_
                refine x_iconst hK kX8_set_96 (q := 97) rfl ?_
                refine x_iadd hK kX8_set_97 (q := 98) rfl ?_
                refine x_putfield hK kX8_set_98 (q := 101) rfl (pX8_9 ?_)
                simp only [lS, lS2, clr_0, clr_I, clr_L, clr_R]
                rw [uA_g, uA_u]
                refine x_iinc hK kX8_set_101 (q := 104) rfl rfl ?_
                simp only [lS, lS2, clr_0, clr_I, clr_L, clr_R]
                refine x_goto hK kX8_set_104 (tg := 35) rfl ?_
                exact x_to (step (-(left / 2147483648)) _ (by omega) (Or.inr ⟨hv0, rfl⟩)) rfl rfl rfl
              · refine x_lload hK kX8_set_77 (q := 79) rfl rfl ?_
                refine x_lneg hK kX8_set_79 (q := 80) rfl ?_
                refine x_goto hK kX8_set_80 (tg := 85) rfl ?_
                first | rw [Int.neg_neg] | rw [show -(left % 2147483648) = left % 2147483648 by omega]
                refine x_l2i hK kX8_set_85 (q := 86) rfl ?_
                refine x_iastore hK kX8_set_86 (q := 87) rfl (yC7_0 (by refine ⟨?_, ?_⟩ <;> omega) ?_)
                rw [uA_g, uA_u]
                refine x_lload_n hK kX8_set_87 (q := 88) rfl rfl ?_
                refine x_ldc2_w hK kX8_set_88 (q := 91) rfl lc2_RX8_26 ?_
                refine x_ldiv hK kX8_set_91 (q := 92) rfl (by refine ⟨⟨by omega, by omega⟩, by decide, by decide⟩) ?_
                rw [t4]
                refine x_lstore_n hK kX8_set_92 (q := 93) (jn := 3) rfl rfl ?_
                refine x_aload_n hK kX8_set_93 (q := 94) rfl rfl ?_
                refine x_iload hK kX8_set_94 (q := 96) rfl rfl ?_
                refine x_iconst hK kX8_set_96 (q := 97) rfl ?_
                refine x_iadd hK kX8_set_97 (q := 98) rfl ?_
                refine x_putfield hK kX8_set_98 (q := 101) rfl (pX8_9 ?_)
                simp only [lS, lS2, clr_0, clr_I, clr_L, clr_R]
                rw [uA_g, uA_u]
                refine x_iinc hK kX8_set_101 (q := 104) rfl rfl ?_
                simp only [lS, lS2, clr_0, clr_I, clr_L, clr_R]
                refine x_goto hK kX8_set_104 (tg := 35) rfl ?_
                exact x_to (step (-(left / 2147483648)) _ (by omega) (Or.inr ⟨hv0, rfl⟩)) rfl rfl rfl
  have go : ∀ (sg : Int) (u5 u6 : Option eV), sg = zSg v → K 29 [some (eR (2, k)), some (eL v), none, some (eL v), none, none, none, none] [eI sg, eR (2, k)] (cC F A (uA W k (uI (W k) 80 0))) := by
    intro sg u5 u6 hsg
    refine x_putfield hK kX8_set_29 (q := 32) rfl (pX8_13 ?_)
    rw [uA_g, uA_u]
    refine x_iconst hK kX8_set_32 (q := 33) rfl ?_
    refine x_istore hK kX8_set_33 (q := 35) rfl ?_
    simp only [lS, lS2, clr_0, clr_I, clr_L, clr_R]
    refine loop 3 0 _ (zAbs v) v _ rfl (by rw [uI_n _ _ (by decide), uI_s]; rfl) (by rw [uI_s]; exact hsg) (fun i hi => absurd hi (by omega)) av.1 ?_ (fun q => absurd q (by omega)) ?_
    · show zAbs v = 0 + zAbs v * cB ^ 0
      rw [Int.pow_zero]
      omega
    · rcases zSg_c v with g | g | g
      · exact Or.inr ⟨g.1, by omega⟩
      · exact Or.inl ⟨by omega, by omega⟩
      · exact Or.inl ⟨by omega, by omega⟩
  simp only [eLoc, eE, List.length_cons, List.length_nil, List.replicate, List.cons_append, List.nil_append, Nat.reduceAdd, Nat.reduceSub]
  refine x_lload_n hK kX8_set_0 (q := 1) rfl rfl ?_
  refine x_lstore_n hK kX8_set_1 (q := 2) (jn := 3) rfl rfl ?_
  refine x_aload_n hK kX8_set_2 (q := 3) rfl rfl ?_
  refine x_iconst hK kX8_set_3 (q := 4) rfl ?_
  refine x_putfield hK kX8_set_4 (q := 7) rfl (pX8_9 ?_)
  refine x_aload_n hK kX8_set_7 (q := 8) rfl rfl ?_
  refine x_lload_n hK kX8_set_8 (q := 9) rfl rfl ?_
  refine x_lconst0 hK kX8_set_9 (q := 10) rfl ?_
  refine x_lcmp hK kX8_set_10 (q := 11) rfl (by refine ⟨hv, by decide⟩) ?_
  simp only [lS, lS2, clr_0, clr_I, clr_L, clr_R]
  refine x_ifc_le hK kX8_set_11 (q := 14) rfl (tg := 18) rfl (fun c11 => ?_) (fun c11 => ?_)
  · refine x_lload_n hK kX8_set_18 (q := 19) rfl rfl ?_
    refine x_lconst0 hK kX8_set_19 (q := 20) rfl ?_
    refine x_lcmp hK kX8_set_20 (q := 21) rfl (by refine ⟨hv, by decide⟩) ?_
    refine x_ifc_ge hK kX8_set_21 (q := 24) rfl (tg := 28) rfl (fun c21 => ?_) (fun c21 => ?_)
    · refine x_iconst hK kX8_set_28 (q := 29) rfl ?_
      refine go _ none none ?_
      rcases zSg_c v with g | g | g <;> omega
    · refine x_iconst hK kX8_set_24 (q := 25) rfl ?_
      refine x_goto hK kX8_set_25 (tg := 29) rfl ?_
      refine go _ none none ?_
      rcases zSg_c v with g | g | g <;> omega
  · refine x_iconst hK kX8_set_14 (q := 15) rfl ?_
    refine x_goto hK kX8_set_15 (tg := 29) rfl ?_
    refine go _ none none ?_
    rcases zSg_c v with g | g | g <;> omega
set_option maxRecDepth 20000 in
theorem mX8_set : eMet yX8_set cX8_set 8 none 0 0 SX8_set := eMet_of (by decide +kernel) sX8_set kX8_set_ok caX8_set tb_RX8
theorem wX8_set : eWV yX8_set cX8_set 8 none 2 7 SX8_set := ⟨(gW_at 260 (by decide +kernel) rfl), (gW_at 81 (by decide +kernel) rfl), (gW_at 258 (by decide +kernel) rfl), ⟨_, rfl, (gW_at 259 (by decide +kernel) rfl)⟩, by decide +kernel, SX8_set_r⟩
-- isLong
theorem wq_lo {L : Nat} {f : Int → Int} {z : Int} (h : wq L f z) : (f 80 < 3 ∨ (f 80 = 3 ∧ f 2 = 1)) ↔ zAbs z < 9223372036854775808 := by
  obtain ⟨n, a, b, c, d, e1, e2⟩ := h
  have hn := wq_n c d e1
  have c2 : cB ^ 2 = 4611686018427387904 := by decide
  constructor
  · rintro (q | ⟨q, q2⟩)
    · have := cB_mono (show n ≤ 2 by omega)
      omega
    · have : n = 3 := by omega
      subst this
      have h2 := vL_lt (c.sub (show 2 ≤ 3 by decide))
      have e3 : vL f 3 = vL f 2 + f 2 * cB ^ 2 := rfl
      rw [q2, c2] at e3
      omega
  · intro q
    have : n ≤ 3 := nl_le hn.2.2 (by rw [show cB ^ 3 = 9903520314283042199192993792 by decide]; omega)
    rcases Nat.lt_or_ge n 3 with g | g
    · exact Or.inl (by omega)
    · have : n = 3 := by omega
      subst this
      have h2 := vL_nn (c.sub (show 2 ≤ 3 by decide))
      have e3 : vL f 3 = vL f 2 + f 2 * cB ^ 2 := rfl
      rw [c2] at e3
      have := d (by decide)
      have h0 : f ((3 : Nat) - 1 : Int) = f 2 := rfl
      rw [h0] at this
      have c20 : 0 ≤ f 2 := (c 2 (by decide)).1
      exact Or.inr ⟨by omega, by omega⟩
def SX8_isLong : eSp := fun as M rt => ∃ (F : Nat → Int) (A W : Nat → Int → Int) (k : Nat) (z : Int), as = [eR (2, k)] ∧ M = cC F A W ∧ (k < 332) ∧ (wq (lw k) (W k) z) ∧ (rt (some (eI (zE (zAbs z < 9223372036854775808)))) (cC F A W))
theorem SX8_isLong_i {F : Nat → Int} {A W : Nat → Int → Int} {k : Nat} {z : Int} {rt : Option eV → eM → Prop} (hk : k < 332) (hz : wq (lw k) (W k) z) (h : rt (some (eI (zE (zAbs z < 9223372036854775808)))) (cC F A W)) : SX8_isLong [eR (2, k)] (cC F A W) rt := ⟨F, A, W, k, z, rfl, rfl, hk, hz, h⟩
theorem SX8_isLong_r : ∀ as M rt, SX8_isLong as M rt → ∃ a r fs, as = eR a :: r ∧ M a = some (.inl (7, fs)) := by
  rintro as M rt ⟨F, A, W, k, z, rfl, rfl, hk, -⟩
  exact ⟨_, _, _, rfl, cC_2 hk⟩
def kX8_isLong : List (Nat × Jvm.ClassFile.Instr × Nat) := [(0, .aload_n 0, 1), (1, .getfield 9, 3), (4, .iconst 3, 1), (5, .if_icmp .lt 30, 3), (8, .aload_n 0, 1), (9, .getfield 9, 3), (12, .iconst 3, 1), (13, .if_icmp .ne 26, 3), (16, .aload_n 0, 1), (17, .getfield 22, 3), (20, .arraylength, 1), (21, .iconst 2, 1), (22, .if_icmp .le 17, 3), (25, .aload_n 0, 1), (26, .getfield 22, 3), (29, .iconst 2, 1), (30, .iaload, 1), (31, .iconst 1, 1), (32, .if_icmp .ne 7, 3), (35, .iconst 1, 1), (36, .goto 4, 3), (39, .iconst 0, 1), (40, .ireturn, 1)]
theorem kX8_isLong_0 : cdOf kX8_isLong 0 = some (.aload_n 0, 1) := by decide +kernel
theorem kX8_isLong_1 : cdOf kX8_isLong 1 = some (.getfield 9, 3) := by decide +kernel
theorem kX8_isLong_4 : cdOf kX8_isLong 4 = some (.iconst 3, 1) := by decide +kernel
theorem kX8_isLong_5 : cdOf kX8_isLong 5 = some (.if_icmp .lt 30, 3) := by decide +kernel
theorem kX8_isLong_8 : cdOf kX8_isLong 8 = some (.aload_n 0, 1) := by decide +kernel
theorem kX8_isLong_9 : cdOf kX8_isLong 9 = some (.getfield 9, 3) := by decide +kernel
theorem kX8_isLong_12 : cdOf kX8_isLong 12 = some (.iconst 3, 1) := by decide +kernel
theorem kX8_isLong_13 : cdOf kX8_isLong 13 = some (.if_icmp .ne 26, 3) := by decide +kernel
theorem kX8_isLong_16 : cdOf kX8_isLong 16 = some (.aload_n 0, 1) := by decide +kernel
theorem kX8_isLong_17 : cdOf kX8_isLong 17 = some (.getfield 22, 3) := by decide +kernel
theorem kX8_isLong_20 : cdOf kX8_isLong 20 = some (.arraylength, 1) := by decide +kernel
theorem kX8_isLong_21 : cdOf kX8_isLong 21 = some (.iconst 2, 1) := by decide +kernel
theorem kX8_isLong_22 : cdOf kX8_isLong 22 = some (.if_icmp .le 17, 3) := by decide +kernel
theorem kX8_isLong_25 : cdOf kX8_isLong 25 = some (.aload_n 0, 1) := by decide +kernel
theorem kX8_isLong_26 : cdOf kX8_isLong 26 = some (.getfield 22, 3) := by decide +kernel
theorem kX8_isLong_29 : cdOf kX8_isLong 29 = some (.iconst 2, 1) := by decide +kernel
theorem kX8_isLong_30 : cdOf kX8_isLong 30 = some (.iaload, 1) := by decide +kernel
theorem kX8_isLong_31 : cdOf kX8_isLong 31 = some (.iconst 1, 1) := by decide +kernel
theorem kX8_isLong_32 : cdOf kX8_isLong 32 = some (.if_icmp .ne 7, 3) := by decide +kernel
theorem kX8_isLong_35 : cdOf kX8_isLong 35 = some (.iconst 1, 1) := by decide +kernel
theorem kX8_isLong_36 : cdOf kX8_isLong 36 = some (.goto 4, 3) := by decide +kernel
theorem kX8_isLong_39 : cdOf kX8_isLong 39 = some (.iconst 0, 1) := by decide +kernel
theorem kX8_isLong_40 : cdOf kX8_isLong 40 = some (.ireturn, 1) := by decide +kernel
set_option maxRecDepth 20000 in
theorem kX8_isLong_ok : ∀ pc i len, cdOf kX8_isLong pc = some (i, len) → decode cX8_isLong pc = .ok (i, len) ∧ stOK 1 i = true ∧ jOK pc i = true ∧ eLen i len = true := cdOf_ok cX8_isLong 1 kX8_isLong (by decide +kernel)
def vtX8_isLong : Nat → Option (Nat × eSp) := fun _ => none
def stX8_isLong : Nat → Option (Nat × eSp) := fun _ => none
abbrev TX8_isLong : eT := (fl_RX8, cl_RX8, dl_RX8, vtX8_isLong, stX8_isLong)
set_option maxRecDepth 20000 in
theorem caX8_isLong : eCalls RX8 { frames := 0, cells := 0, slots := 0, locals := 0 } TX8_isLong := by
  refine ⟨fun k n sp h => ?_, fun k n sp h => ?_⟩
  · cases h
  · cases h
set_option maxRecDepth 100000 in
set_option maxHeartbeats 4000000 in
theorem sX8_isLong : eSafe TX8_isLong (cdOf kX8_isLong) 1 (some .boolean) SX8_isLong := by
  intro K rt hK as M h
  obtain ⟨F, A, W, k, z, rfl, rfl, hk, hz, h⟩ := h
  refine ⟨by simp [eE], ?_⟩
  have e := wq_lo hz
  have w8 := wq_80 hz
  have lk := lw_b k
  have w2 : W k 80 = 3 → 0 ≤ W k 2 ∧ W k 2 < 2147483648 := fun q => by
    obtain ⟨n, a, b, c, -⟩ := hz
    exact c 2 (by omega)
  simp only [eLoc, eE, List.length_cons, List.length_nil, List.replicate, List.cons_append, List.nil_append, Nat.reduceAdd, Nat.reduceSub]
  refine x_aload_n hK kX8_isLong_0 (q := 1) rfl rfl ?_
  refine x_getfield hK kX8_isLong_1 (q := 4) rfl (gX8_9 ?_)
  refine x_iconst hK kX8_isLong_4 (q := 5) rfl ?_
  refine x_icmp_lt hK kX8_isLong_5 (q := 8) rfl (tg := 35) rfl (by refine ⟨?_, ?_⟩ <;> omega) (fun c5 => ?_) (fun c5 => ?_)
  · refine x_iconst hK kX8_isLong_35 (q := 36) rfl ?_
    refine x_goto hK kX8_isLong_36 (tg := 40) rfl ?_
    refine x_ireturn hK kX8_isLong_40 (by first | exact Or.inl rfl | exact Or.inr rfl) ?_
    unfold zE at h
    first | (rw [if_pos (e.mp (by omega))] at h; exact h) | (rw [if_neg (fun q => by have := e.mpr q; omega)] at h; exact h)
  · refine x_aload_n hK kX8_isLong_8 (q := 9) rfl rfl ?_
    refine x_getfield hK kX8_isLong_9 (q := 12) rfl (gX8_9 ?_)
    refine x_iconst hK kX8_isLong_12 (q := 13) rfl ?_
    refine x_icmp_ne hK kX8_isLong_13 (q := 16) rfl (tg := 39) rfl (by refine ⟨?_, ?_⟩ <;> omega) (fun c13 => ?_) (fun c13 => ?_)
    · refine x_iconst hK kX8_isLong_39 (q := 40) rfl ?_
      refine x_ireturn hK kX8_isLong_40 (by first | exact Or.inl rfl | exact Or.inr rfl) ?_
      unfold zE at h
      first | (rw [if_pos (e.mp (by omega))] at h; exact h) | (rw [if_neg (fun q => by have := e.mpr q; omega)] at h; exact h)
    · refine x_aload_n hK kX8_isLong_16 (q := 17) rfl rfl ?_
      refine x_getfield hK kX8_isLong_17 (q := 20) rfl (gX8_22 ?_)
      refine x_arraylength hK kX8_isLong_20 (q := 21) rfl (nC7_0 ?_)
      refine x_iconst hK kX8_isLong_21 (q := 22) rfl ?_
      refine x_icmp_le hK kX8_isLong_22 (q := 25) rfl (tg := 39) rfl (by refine ⟨?_, ?_⟩ <;> omega) (fun c22 => ?_) (fun c22 => ?_)
      · exfalso; omega
      · refine x_aload_n hK kX8_isLong_25 (q := 26) rfl rfl ?_
        refine x_getfield hK kX8_isLong_26 (q := 29) rfl (gX8_22 ?_)
        refine x_iconst hK kX8_isLong_29 (q := 30) rfl ?_
        refine x_iaload hK kX8_isLong_30 (q := 31) rfl (aC7_0 (by refine ⟨?_, ?_⟩ <;> omega) ?_)
        refine x_iconst hK kX8_isLong_31 (q := 32) rfl ?_
        have w1 := w2 (by omega)
        refine x_icmp_ne hK kX8_isLong_32 (q := 35) rfl (tg := 39) rfl (by refine ⟨⟨by omega, by omega⟩, by decide⟩) (fun c32 => ?_) (fun c32 => ?_)
        · refine x_iconst hK kX8_isLong_39 (q := 40) rfl ?_
          refine x_ireturn hK kX8_isLong_40 (by first | exact Or.inl rfl | exact Or.inr rfl) ?_
          unfold zE at h
          first | (rw [if_pos (e.mp (by omega))] at h; exact h) | (rw [if_neg (fun q => by have := e.mpr q; omega)] at h; exact h)
        · refine x_iconst hK kX8_isLong_35 (q := 36) rfl ?_
          refine x_goto hK kX8_isLong_36 (tg := 40) rfl ?_
          refine x_ireturn hK kX8_isLong_40 (by first | exact Or.inl rfl | exact Or.inr rfl) ?_
          unfold zE at h
          first | (rw [if_pos (e.mp (by omega))] at h; exact h) | (rw [if_neg (fun q => by have := e.mpr q; omega)] at h; exact h)
set_option maxRecDepth 20000 in
theorem mX8_isLong : eMet yX8_isLong cX8_isLong 1 (some .boolean) 0 0 SX8_isLong := eMet_of (by decide +kernel) sX8_isLong kX8_isLong_ok caX8_isLong tb_RX8
theorem wX8_isLong : eWV yX8_isLong cX8_isLong 1 (some .boolean) 1 7 SX8_isLong := ⟨(gW_at 782 (by decide +kernel) rfl), (gW_at 81 (by decide +kernel) rfl), (gW_at 780 (by decide +kernel) rfl), ⟨_, rfl, (gW_at 781 (by decide +kernel) rfl)⟩, by decide +kernel, SX8_isLong_r⟩
-- toLong
theorem vL_x {f : Int → Int} {n m : Nat} (h : n ≤ m) : vL (fun i : Int => if i < (n : Int) then f i else 0) m = vL f n := by
  obtain ⟨d, rfl⟩ : ∃ d, m = n + d := ⟨m - n, by omega⟩
  rw [vL_split, vL_0 (f := fun i => (fun i : Int => if i < (n : Int) then f i else 0) ((n : Int) + i)) (fun k hk => if_neg (by omega)), vL_cong (f := f) (fun k hk => if_pos (by omega))]
  omega
def SX8_toLong : eSp := fun as M rt => ∃ (F : Nat → Int) (A W : Nat → Int → Int) (k : Nat) (z : Int), as = [eR (2, k)] ∧ M = cC F A W ∧ (k < 332) ∧ (wq (lw k) (W k) z) ∧ (zAbs z < 9223372036854775808) ∧ (rt (some (eL z)) (cC F A W))
theorem SX8_toLong_i {F : Nat → Int} {A W : Nat → Int → Int} {k : Nat} {z : Int} {rt : Option eV → eM → Prop} (hk : k < 332) (hz : wq (lw k) (W k) z) (hl : zAbs z < 9223372036854775808) (h : rt (some (eL z)) (cC F A W)) : SX8_toLong [eR (2, k)] (cC F A W) rt := ⟨F, A, W, k, z, rfl, rfl, hk, hz, hl, h⟩
theorem SX8_toLong_r : ∀ as M rt, SX8_toLong as M rt → ∃ a r fs, as = eR a :: r ∧ M a = some (.inl (7, fs)) := by
  rintro as M rt ⟨F, A, W, k, z, rfl, rfl, hk, -⟩
  exact ⟨_, _, _, rfl, cC_2 hk⟩
def kX8_toLong : List (Nat × Jvm.ClassFile.Instr × Nat) := [(0, .lconst 0, 1), (1, .lstore_n 1, 1), (2, .iconst 2, 1), (3, .istore_n 3, 1), (4, .iload_n 3, 1), (5, .ifCond .lt 43, 3), (8, .lload_n 1, 1), (9, .bipush 31, 2), (11, .lshl, 1), (12, .iload_n 3, 1), (13, .aload_n 0, 1), (14, .getfield 9, 3), (17, .if_icmp .ge 21, 3), (20, .iload_n 3, 1), (21, .aload_n 0, 1), (22, .getfield 22, 3), (25, .arraylength, 1), (26, .if_icmp .ge 12, 3), (29, .aload_n 0, 1), (30, .getfield 22, 3), (33, .iload_n 3, 1), (34, .iaload, 1), (35, .goto 4, 3), (38, .iconst 0, 1), (39, .i2l, 1), (40, .lor, 1), (41, .lstore_n 1, 1), (42, .iinc 3 (-1), 3), (45, .goto (-41), 3), (48, .aload_n 0, 1), (49, .getfield 13, 3), (52, .ifCond .ge 8, 3), (55, .lload_n 1, 1), (56, .lneg, 1), (57, .goto 4, 3), (60, .lload_n 1, 1), (61, .lreturn, 1)]
theorem kX8_toLong_0 : cdOf kX8_toLong 0 = some (.lconst 0, 1) := by decide +kernel
theorem kX8_toLong_1 : cdOf kX8_toLong 1 = some (.lstore_n 1, 1) := by decide +kernel
theorem kX8_toLong_2 : cdOf kX8_toLong 2 = some (.iconst 2, 1) := by decide +kernel
theorem kX8_toLong_3 : cdOf kX8_toLong 3 = some (.istore_n 3, 1) := by decide +kernel
theorem kX8_toLong_4 : cdOf kX8_toLong 4 = some (.iload_n 3, 1) := by decide +kernel
theorem kX8_toLong_5 : cdOf kX8_toLong 5 = some (.ifCond .lt 43, 3) := by decide +kernel
theorem kX8_toLong_8 : cdOf kX8_toLong 8 = some (.lload_n 1, 1) := by decide +kernel
theorem kX8_toLong_9 : cdOf kX8_toLong 9 = some (.bipush 31, 2) := by decide +kernel
theorem kX8_toLong_11 : cdOf kX8_toLong 11 = some (.lshl, 1) := by decide +kernel
theorem kX8_toLong_12 : cdOf kX8_toLong 12 = some (.iload_n 3, 1) := by decide +kernel
theorem kX8_toLong_13 : cdOf kX8_toLong 13 = some (.aload_n 0, 1) := by decide +kernel
theorem kX8_toLong_14 : cdOf kX8_toLong 14 = some (.getfield 9, 3) := by decide +kernel
theorem kX8_toLong_17 : cdOf kX8_toLong 17 = some (.if_icmp .ge 21, 3) := by decide +kernel
theorem kX8_toLong_20 : cdOf kX8_toLong 20 = some (.iload_n 3, 1) := by decide +kernel
theorem kX8_toLong_21 : cdOf kX8_toLong 21 = some (.aload_n 0, 1) := by decide +kernel
theorem kX8_toLong_22 : cdOf kX8_toLong 22 = some (.getfield 22, 3) := by decide +kernel
theorem kX8_toLong_25 : cdOf kX8_toLong 25 = some (.arraylength, 1) := by decide +kernel
theorem kX8_toLong_26 : cdOf kX8_toLong 26 = some (.if_icmp .ge 12, 3) := by decide +kernel
theorem kX8_toLong_29 : cdOf kX8_toLong 29 = some (.aload_n 0, 1) := by decide +kernel
theorem kX8_toLong_30 : cdOf kX8_toLong 30 = some (.getfield 22, 3) := by decide +kernel
theorem kX8_toLong_33 : cdOf kX8_toLong 33 = some (.iload_n 3, 1) := by decide +kernel
theorem kX8_toLong_34 : cdOf kX8_toLong 34 = some (.iaload, 1) := by decide +kernel
theorem kX8_toLong_35 : cdOf kX8_toLong 35 = some (.goto 4, 3) := by decide +kernel
theorem kX8_toLong_38 : cdOf kX8_toLong 38 = some (.iconst 0, 1) := by decide +kernel
theorem kX8_toLong_39 : cdOf kX8_toLong 39 = some (.i2l, 1) := by decide +kernel
theorem kX8_toLong_40 : cdOf kX8_toLong 40 = some (.lor, 1) := by decide +kernel
theorem kX8_toLong_41 : cdOf kX8_toLong 41 = some (.lstore_n 1, 1) := by decide +kernel
theorem kX8_toLong_42 : cdOf kX8_toLong 42 = some (.iinc 3 (-1), 3) := by decide +kernel
theorem kX8_toLong_45 : cdOf kX8_toLong 45 = some (.goto (-41), 3) := by decide +kernel
theorem kX8_toLong_48 : cdOf kX8_toLong 48 = some (.aload_n 0, 1) := by decide +kernel
theorem kX8_toLong_49 : cdOf kX8_toLong 49 = some (.getfield 13, 3) := by decide +kernel
theorem kX8_toLong_52 : cdOf kX8_toLong 52 = some (.ifCond .ge 8, 3) := by decide +kernel
theorem kX8_toLong_55 : cdOf kX8_toLong 55 = some (.lload_n 1, 1) := by decide +kernel
theorem kX8_toLong_56 : cdOf kX8_toLong 56 = some (.lneg, 1) := by decide +kernel
theorem kX8_toLong_57 : cdOf kX8_toLong 57 = some (.goto 4, 3) := by decide +kernel
theorem kX8_toLong_60 : cdOf kX8_toLong 60 = some (.lload_n 1, 1) := by decide +kernel
theorem kX8_toLong_61 : cdOf kX8_toLong 61 = some (.lreturn, 1) := by decide +kernel
set_option maxRecDepth 20000 in
theorem kX8_toLong_ok : ∀ pc i len, cdOf kX8_toLong pc = some (i, len) → decode cX8_toLong pc = .ok (i, len) ∧ stOK 4 i = true ∧ jOK pc i = true ∧ eLen i len = true := cdOf_ok cX8_toLong 4 kX8_toLong (by decide +kernel)
def vtX8_toLong : Nat → Option (Nat × eSp) := fun _ => none
def stX8_toLong : Nat → Option (Nat × eSp) := fun _ => none
abbrev TX8_toLong : eT := (fl_RX8, cl_RX8, dl_RX8, vtX8_toLong, stX8_toLong)
set_option maxRecDepth 20000 in
theorem caX8_toLong : eCalls RX8 { frames := 0, cells := 0, slots := 0, locals := 0 } TX8_toLong := by
  refine ⟨fun k n sp h => ?_, fun k n sp h => ?_⟩
  · cases h
  · cases h
set_option maxRecDepth 100000 in
set_option maxHeartbeats 4000000 in
theorem sX8_toLong : eSafe TX8_toLong (cdOf kX8_toLong) 4 (some .long) SX8_toLong := by
  intro K rt hK as M h
  obtain ⟨F, A, W, k, z, rfl, rfl, hk, hz, hl, h⟩ := h
  refine ⟨by simp [eE], ?_⟩
  obtain ⟨n, a, b, c, d, e1, e2⟩ := hz
  have hn := wq_n c d e1
  have lk := lw_b k
  have n3 : n ≤ 3 := nl_le hn.2.2 (by rw [show cB ^ 3 = 9903520314283042199192993792 by decide]; omega)
  have vx := vL_x (f := W k) n3
  obtain ⟨g, hg⟩ : ∃ g : Int → Int, g = fun i : Int => if i < (n : Int) then W k i else 0 := ⟨_, rfl⟩
  rw [← hg] at vx
  have gk : ∀ i : Int, g i = if i < (n : Int) then W k i else 0 := fun i => by rw [hg]
  have gr : ∀ i : Int, 0 ≤ i → 0 ≤ g i ∧ g i < 2147483648 := fun i i0 => by
    rw [gk]
    split
    · have := c i.toNat (by omega)
      rw [show ((i.toNat : Nat) : Int) = i by omega] at this
      exact this
    · decide
  have v3 : g 0 + g 1 * 2147483648 + g 2 * 4611686018427387904 = zAbs z := by
    rw [← e1, ← vx]
    show _ = 0 + g 0 * cB ^ 0 + g 1 * cB ^ 1 + g 2 * cB ^ 2
    rw [show cB ^ 0 = 1 by decide, show cB ^ 1 = 2147483648 by decide, show cB ^ 2 = 4611686018427387904 by decide]
    omega
  have g0 := gr 0 (by decide)
  have g1 := gr 1 (by decide)
  have g2 := gr 2 (by decide)
  have step : ∀ (i val : Int), 0 ≤ i → i < 3 → 0 ≤ val → val * 2147483648 + g i < 9223372036854775808 → K 4 [some (eR (2, k)), some (eL (val * 2147483648 + g i)), none, some (eI (i + -1))] [] (cC F A W) → K 4 [some (eR (2, k)), some (eL val), none, some (eI i)] [] (cC F A W) := by
    intro i val i0 i3 v0 vb hk'
    have gi := gr i i0
    have e3 := gk i
    have sl : zShlL val 31 = val * 2 ^ 31 := zShlL_n val 31 (by decide) ⟨by have : (2 : Int) ^ 31 = 2147483648 := by decide
                                                                            omega, by have : (2 : Int) ^ 31 = 2147483648 := by decide
                                                                                      omega⟩
    have so : zOrL (val * 2 ^ 31) (g i) = val * 2 ^ 31 + g i := zOrL_s val (g i) 31 (by decide) v0 gi.1 gi.2 vb
    have p31 : (2 : Int) ^ 31 = 2147483648 := by decide
    refine x_iload_n hK kX8_toLong_4 (q := 5) rfl rfl ?_
    refine x_if_lt hK kX8_toLong_5 (q := 8) rfl (tg := 48) rfl (by omega) (fun c5 => ?_) (fun c5 => ?_)
    · exfalso; omega
    · refine x_lload_n hK kX8_toLong_8 (q := 9) rfl rfl ?_
      refine x_bipush hK kX8_toLong_9 (q := 11) rfl (by decide) ?_
      refine x_lshl hK kX8_toLong_11 (q := 12) rfl ?_
      rw [sl]
      refine x_iload_n hK kX8_toLong_12 (q := 13) rfl rfl ?_
      refine x_aload_n hK kX8_toLong_13 (q := 14) rfl rfl ?_
      refine x_getfield hK kX8_toLong_14 (q := 17) rfl (gX8_9 ?_)
      refine x_icmp_ge hK kX8_toLong_17 (q := 20) rfl (tg := 38) rfl (by refine ⟨?_, ?_⟩ <;> omega) (fun c17 => ?_) (fun c17 => ?_)
      · rw [if_neg (by omega)] at e3
        refine x_iconst hK kX8_toLong_38 (q := 39) rfl ?_
        rw [← e3]
        refine x_i2l hK kX8_toLong_39 (q := 40) rfl (by omega) ?_
        refine x_lor hK kX8_toLong_40 (q := 41) rfl ?_
        rw [so, p31]
        refine x_lstore_n hK kX8_toLong_41 (q := 42) (jn := 1) rfl rfl ?_
        refine x_iinc hK kX8_toLong_42 (q := 45) rfl rfl ?_
        simp only [lS, lS2, clr_0, clr_I, clr_L, clr_R]
        refine x_goto hK kX8_toLong_45 (tg := 4) rfl ?_
        exact x_to hk' rfl rfl rfl
      · rw [if_pos (by omega)] at e3
        refine x_iload_n hK kX8_toLong_20 (q := 21) rfl rfl ?_
        refine x_aload_n hK kX8_toLong_21 (q := 22) rfl rfl ?_
        refine x_getfield hK kX8_toLong_22 (q := 25) rfl (gX8_22 ?_)
        refine x_arraylength hK kX8_toLong_25 (q := 26) rfl (nC7_0 ?_)
        refine x_icmp_ge hK kX8_toLong_26 (q := 29) rfl (tg := 38) rfl (by refine ⟨?_, ?_⟩ <;> omega) (fun c26 => ?_) (fun c26 => ?_)
        · exfalso; omega
        · refine x_aload_n hK kX8_toLong_29 (q := 30) rfl rfl ?_
          refine x_getfield hK kX8_toLong_30 (q := 33) rfl (gX8_22 ?_)
          refine x_iload_n hK kX8_toLong_33 (q := 34) rfl rfl ?_
          refine x_iaload hK kX8_toLong_34 (q := 35) rfl (aC7_0 (by refine ⟨?_, ?_⟩ <;> omega) ?_)
          refine x_goto hK kX8_toLong_35 (tg := 39) rfl ?_
          rw [← e3]
          refine x_i2l hK kX8_toLong_39 (q := 40) rfl (by omega) ?_
          refine x_lor hK kX8_toLong_40 (q := 41) rfl ?_
          rw [so, p31]
          refine x_lstore_n hK kX8_toLong_41 (q := 42) (jn := 1) rfl rfl ?_
          refine x_iinc hK kX8_toLong_42 (q := 45) rfl rfl ?_
          simp only [lS, lS2, clr_0, clr_I, clr_L, clr_R]
          refine x_goto hK kX8_toLong_45 (tg := 4) rfl ?_
          exact x_to hk' rfl rfl rfl
  have last : ∀ val : Int, val = zAbs z → K 4 [some (eR (2, k)), some (eL val), none, some (eI (-1))] [] (cC F A W) := by
    intro val hv
    have s := zSg_c z
    refine x_iload_n hK kX8_toLong_4 (q := 5) rfl rfl ?_
    refine x_if_lt hK kX8_toLong_5 (q := 8) rfl (tg := 48) rfl (by omega) (fun c5 => ?_) (fun c5 => ?_)
    · refine x_aload_n hK kX8_toLong_48 (q := 49) rfl rfl ?_
      refine x_getfield hK kX8_toLong_49 (q := 52) rfl (gX8_13 ?_)
      refine x_if_ge hK kX8_toLong_52 (q := 55) rfl (tg := 60) rfl (by rw [e2]; exact zSg_w z) (fun c52 => ?_) (fun c52 => ?_)
      · rw [e2] at c52
        have e4 : val = z := by omega
        rw [e4]
        refine x_lload_n hK kX8_toLong_60 (q := 61) rfl rfl ?_
        refine x_lreturn hK kX8_toLong_61 (by first | trivial | exact Or.inl rfl | exact Or.inr rfl) ?_
        exact h
      · rw [e2] at c52
        have e4 : -val = z := by omega
        refine x_lload_n hK kX8_toLong_55 (q := 56) rfl rfl ?_
        refine x_lneg hK kX8_toLong_56 (q := 57) rfl ?_
        rw [e4]
        refine x_goto hK kX8_toLong_57 (tg := 61) rfl ?_
        refine x_lreturn hK kX8_toLong_61 (by first | trivial | exact Or.inl rfl | exact Or.inr rfl) ?_
        exact h
    · exfalso; omega
  simp only [eLoc, eE, List.length_cons, List.length_nil, List.replicate, List.cons_append, List.nil_append, Nat.reduceAdd, Nat.reduceSub]
  refine x_lconst0 hK kX8_toLong_0 (q := 1) rfl ?_
  refine x_lstore_n hK kX8_toLong_1 (q := 2) (jn := 1) rfl rfl ?_
  refine x_iconst hK kX8_toLong_2 (q := 3) rfl ?_
  refine x_istore_n hK kX8_toLong_3 (q := 4) (jn := 3) rfl rfl ?_
  simp only [lS, lS2, clr_0, clr_I, clr_L, clr_R]
  refine step 2 0 (by decide) (by decide) (by decide) (by omega) ?_
  refine step 1 _ (by decide) (by decide) (by omega) (by omega) ?_
  refine step 0 _ (by decide) (by decide) (by omega) (by omega) ?_
  exact last _ (by omega)
set_option maxRecDepth 20000 in
theorem mX8_toLong : eMet yX8_toLong cX8_toLong 4 (some .long) 0 0 SX8_toLong := eMet_of (by decide +kernel) sX8_toLong kX8_toLong_ok caX8_toLong tb_RX8
theorem wX8_toLong : eWV yX8_toLong cX8_toLong 4 (some .long) 1 7 SX8_toLong := ⟨(gW_at 460 (by decide +kernel) rfl), (gW_at 81 (by decide +kernel) rfl), (gW_at 458 (by decide +kernel) rfl), ⟨_, rfl, (gW_at 459 (by decide +kernel) rfl)⟩, by decide +kernel, SX8_toLong_r⟩
