/-! The desk: divideShort, lessen, restore. -/
def sf (f : Int → Int) (a : Nat) : Int → Int := fun t => f ((a : Int) + t)
theorem sf_e (f : Int → Int) (a : Nat) (t : Int) : sf f a t = f ((a : Int) + t) := rfl
theorem sf_0 (f : Int → Int) (d : Nat) : vL (sf f 0) d = vL f d := sft0 f d
theorem sf_1 (f : Int → Int) (i d : Nat) : vL (fun t => sf f i (1 + t)) d = vL (sf f (i + 1)) d := sft1 f i d
theorem vL_sf (f : Int → Int) (a n : Nat) : vL (sf f a) (n + 1) = f a + vL (sf f (a + 1)) n * cB := by
  rw [vL_hd, sf_1]
  show f ((a : Int) + 0) + _ = _
  rw [Int.add_zero]
theorem sfU (f : Int → Int) (i l : Nat) (q : Int) : vL (sf (uI f i q) (i + 1)) l = vL (sf f (i + 1)) l := by
  refine vL_cong (fun t _ => ?_)
  rw [sf_e, sf_e, uI_n _ _ (by omega)]
def SX1_divideShort : eSp := fun as M rt => ∃ (F : Nat → Int) (A W : Nat → Int → Int) (j c n : Nat) (d : Int), as = [eR (1, 2), eR (2, j), eI d, eR (2, c)] ∧ M = cC F A W ∧ (j < 332) ∧ (c < 332) ∧ (c ≠ j) ∧ (n ≤ lw j) ∧ (n ≤ lw c) ∧ (W j 80 = n) ∧ (lR (W j) n) ∧ (0 < d ∧ d < 2147483648) ∧ (∀ f : Int → Int, f 80 = W c 80 → f 81 = W c 81 → lR f n → vL f n = vL (W j) n / d → rt (some (eL (vL (W j) n % d))) (cC F A (uA W c f)))
theorem SX1_divideShort_i {F : Nat → Int} {A W : Nat → Int → Int} {j c n : Nat} {d : Int} {rt : Option eV → eM → Prop} (hj : j < 332) (hc : c < 332) (hn : c ≠ j) (n8 : n ≤ lw j) (nc : n ≤ lw c) (h8 : W j 80 = n) (hr : lR (W j) n) (hd : 0 < d ∧ d < 2147483648) (h : ∀ f : Int → Int, f 80 = W c 80 → f 81 = W c 81 → lR f n → vL f n = vL (W j) n / d → rt (some (eL (vL (W j) n % d))) (cC F A (uA W c f))) : SX1_divideShort [eR (1, 2), eR (2, j), eI d, eR (2, c)] (cC F A W) rt := ⟨F, A, W, j, c, n, d, rfl, rfl, hj, hc, hn, n8, nc, h8, hr, hd, h⟩
theorem SX1_divideShort_r : ∀ as M rt, SX1_divideShort as M rt → ∃ a r fs, as = eR a :: r ∧ M a = some (.inl (1, fs)) := by
  rintro as M rt ⟨F, A, W, j, c, n, d, rfl, rfl, -⟩
  exact ⟨_, _, _, rfl, rfl⟩
def kX1_divideShort : List (Nat × Jvm.ClassFile.Instr × Nat) := [(0, .lconst 0, 1), (1, .lstore 4, 2), (3, .aload_n 1, 1), (4, .getfield 71, 3), (7, .iconst 1, 1), (8, .isub, 1), (9, .istore 6, 2), (11, .iload 6, 2), (13, .ifCond .lt 69, 3), (16, .iload 6, 2), (18, .aload_n 1, 1), (19, .getfield 74, 3), (22, .arraylength, 1), (23, .if_icmp .ge 59, 3), (26, .iload_n 2, 1), (27, .ifCond .le 55, 3), (30, .lload 4, 2), (32, .bipush 31, 2), (34, .lshl, 1), (35, .aload_n 1, 1), (36, .getfield 74, 3), (39, .iload 6, 2), (41, .iaload, 1), (42, .i2l, 1), (43, .lor, 1), (44, .lstore 7, 2), (46, .iload 6, 2), (48, .aload_n 3, 1), (49, .getfield 74, 3), (52, .arraylength, 1), (53, .if_icmp .ge 16, 3), (56, .aload_n 3, 1), (57, .getfield 74, 3), (60, .iload 6, 2), (62, .lload 7, 2), (64, .iload_n 2, 1), (65, .i2l, 1), (66, .ldiv, 1), (67, .l2i, 1), (68, .iastore, 1), (69, .lload 7, 2), (71, .iload_n 2, 1), (72, .i2l, 1), (73, .lrem, 1), (74, .lstore 4, 2), (76, .iinc 6 (-1), 3), (79, .goto (-68), 3), (82, .lload 4, 2), (84, .lreturn, 1)]
theorem kX1_divideShort_0 : cdOf kX1_divideShort 0 = some (.lconst 0, 1) := by decide +kernel
theorem kX1_divideShort_1 : cdOf kX1_divideShort 1 = some (.lstore 4, 2) := by decide +kernel
theorem kX1_divideShort_3 : cdOf kX1_divideShort 3 = some (.aload_n 1, 1) := by decide +kernel
theorem kX1_divideShort_4 : cdOf kX1_divideShort 4 = some (.getfield 71, 3) := by decide +kernel
theorem kX1_divideShort_7 : cdOf kX1_divideShort 7 = some (.iconst 1, 1) := by decide +kernel
theorem kX1_divideShort_8 : cdOf kX1_divideShort 8 = some (.isub, 1) := by decide +kernel
theorem kX1_divideShort_9 : cdOf kX1_divideShort 9 = some (.istore 6, 2) := by decide +kernel
theorem kX1_divideShort_11 : cdOf kX1_divideShort 11 = some (.iload 6, 2) := by decide +kernel
theorem kX1_divideShort_13 : cdOf kX1_divideShort 13 = some (.ifCond .lt 69, 3) := by decide +kernel
theorem kX1_divideShort_16 : cdOf kX1_divideShort 16 = some (.iload 6, 2) := by decide +kernel
theorem kX1_divideShort_18 : cdOf kX1_divideShort 18 = some (.aload_n 1, 1) := by decide +kernel
theorem kX1_divideShort_19 : cdOf kX1_divideShort 19 = some (.getfield 74, 3) := by decide +kernel
theorem kX1_divideShort_22 : cdOf kX1_divideShort 22 = some (.arraylength, 1) := by decide +kernel
theorem kX1_divideShort_23 : cdOf kX1_divideShort 23 = some (.if_icmp .ge 59, 3) := by decide +kernel
theorem kX1_divideShort_26 : cdOf kX1_divideShort 26 = some (.iload_n 2, 1) := by decide +kernel
theorem kX1_divideShort_27 : cdOf kX1_divideShort 27 = some (.ifCond .le 55, 3) := by decide +kernel
theorem kX1_divideShort_30 : cdOf kX1_divideShort 30 = some (.lload 4, 2) := by decide +kernel
theorem kX1_divideShort_32 : cdOf kX1_divideShort 32 = some (.bipush 31, 2) := by decide +kernel
theorem kX1_divideShort_34 : cdOf kX1_divideShort 34 = some (.lshl, 1) := by decide +kernel
theorem kX1_divideShort_35 : cdOf kX1_divideShort 35 = some (.aload_n 1, 1) := by decide +kernel
theorem kX1_divideShort_36 : cdOf kX1_divideShort 36 = some (.getfield 74, 3) := by decide +kernel
theorem kX1_divideShort_39 : cdOf kX1_divideShort 39 = some (.iload 6, 2) := by decide +kernel
theorem kX1_divideShort_41 : cdOf kX1_divideShort 41 = some (.iaload, 1) := by decide +kernel
theorem kX1_divideShort_42 : cdOf kX1_divideShort 42 = some (.i2l, 1) := by decide +kernel
theorem kX1_divideShort_43 : cdOf kX1_divideShort 43 = some (.lor, 1) := by decide +kernel
theorem kX1_divideShort_44 : cdOf kX1_divideShort 44 = some (.lstore 7, 2) := by decide +kernel
theorem kX1_divideShort_46 : cdOf kX1_divideShort 46 = some (.iload 6, 2) := by decide +kernel
theorem kX1_divideShort_48 : cdOf kX1_divideShort 48 = some (.aload_n 3, 1) := by decide +kernel
theorem kX1_divideShort_49 : cdOf kX1_divideShort 49 = some (.getfield 74, 3) := by decide +kernel
theorem kX1_divideShort_52 : cdOf kX1_divideShort 52 = some (.arraylength, 1) := by decide +kernel
theorem kX1_divideShort_53 : cdOf kX1_divideShort 53 = some (.if_icmp .ge 16, 3) := by decide +kernel
theorem kX1_divideShort_56 : cdOf kX1_divideShort 56 = some (.aload_n 3, 1) := by decide +kernel
theorem kX1_divideShort_57 : cdOf kX1_divideShort 57 = some (.getfield 74, 3) := by decide +kernel
theorem kX1_divideShort_60 : cdOf kX1_divideShort 60 = some (.iload 6, 2) := by decide +kernel
theorem kX1_divideShort_62 : cdOf kX1_divideShort 62 = some (.lload 7, 2) := by decide +kernel
theorem kX1_divideShort_64 : cdOf kX1_divideShort 64 = some (.iload_n 2, 1) := by decide +kernel
theorem kX1_divideShort_65 : cdOf kX1_divideShort 65 = some (.i2l, 1) := by decide +kernel
theorem kX1_divideShort_66 : cdOf kX1_divideShort 66 = some (.ldiv, 1) := by decide +kernel
theorem kX1_divideShort_67 : cdOf kX1_divideShort 67 = some (.l2i, 1) := by decide +kernel
theorem kX1_divideShort_68 : cdOf kX1_divideShort 68 = some (.iastore, 1) := by decide +kernel
theorem kX1_divideShort_69 : cdOf kX1_divideShort 69 = some (.lload 7, 2) := by decide +kernel
theorem kX1_divideShort_71 : cdOf kX1_divideShort 71 = some (.iload_n 2, 1) := by decide +kernel
theorem kX1_divideShort_72 : cdOf kX1_divideShort 72 = some (.i2l, 1) := by decide +kernel
theorem kX1_divideShort_73 : cdOf kX1_divideShort 73 = some (.lrem, 1) := by decide +kernel
theorem kX1_divideShort_74 : cdOf kX1_divideShort 74 = some (.lstore 4, 2) := by decide +kernel
theorem kX1_divideShort_76 : cdOf kX1_divideShort 76 = some (.iinc 6 (-1), 3) := by decide +kernel
theorem kX1_divideShort_79 : cdOf kX1_divideShort 79 = some (.goto (-68), 3) := by decide +kernel
theorem kX1_divideShort_82 : cdOf kX1_divideShort 82 = some (.lload 4, 2) := by decide +kernel
theorem kX1_divideShort_84 : cdOf kX1_divideShort 84 = some (.lreturn, 1) := by decide +kernel
set_option maxRecDepth 20000 in
theorem kX1_divideShort_ok : ∀ pc i len, cdOf kX1_divideShort pc = some (i, len) → decode cX1_divideShort pc = .ok (i, len) ∧ stOK 9 i = true ∧ jOK pc i = true ∧ eLen i len = true := cdOf_ok cX1_divideShort 9 kX1_divideShort (by decide +kernel)
def vtX1_divideShort : Nat → Option (Nat × eSp) := fun _ => none
def stX1_divideShort : Nat → Option (Nat × eSp) := fun _ => none
abbrev TX1_divideShort : eT := (fl_RX1, cl_RX1, dl_RX1, vtX1_divideShort, stX1_divideShort)
set_option maxRecDepth 20000 in
theorem caX1_divideShort : eCalls RX1 { frames := 0, cells := 0, slots := 0, locals := 0 } TX1_divideShort := by
  refine ⟨fun k n sp h => ?_, fun k n sp h => ?_⟩
  · cases h
  · cases h
set_option maxRecDepth 100000 in
set_option maxHeartbeats 4000000 in
theorem sX1_divideShort : eSafe TX1_divideShort (cdOf kX1_divideShort) 9 (some .long) SX1_divideShort := by
  intro K rt hK as M h
  obtain ⟨F, A, W, j, c, n, d, rfl, rfl, hj, hc, hn, n8, nc, h8, hr, hd, h⟩ := h
  refine ⟨by simp [eE], ?_⟩
  have lj := lw_b j
  have lc := lw_b c
  have tj : ∀ f, uA W c f j = W j := fun f => uA_n _ _ (fun q => hn q.symm)
  have loop : ∀ (i l : Nat) (f : Int → Int) (ab : Int) (u7 : Option eV), i + l = n → f 80 = W c 80 → f 81 = W c 81 → (∀ t : Nat, i ≤ t → t < n → 0 ≤ f t ∧ f t < 2147483648) → 0 ≤ ab → ab < d → vL (sf (W j) i) l = vL (sf f i) l * d + ab →
      K 11 [some (eR (1, 2)), some (eR (2, j)), some (eI d), some (eR (2, c)), some (eL ab), none, some (eI ((i : Int) - 1)), u7, none] [] (cC F A (uA W c f)) := by
    intro i
    induction i with
    | zero =>
      intro l f ab u7 hl f80 f81 hf a0 a1 hv
      have : l = n := by omega
      subst this
      refine x_iload hK kX1_divideShort_11 (q := 13) rfl rfl ?_
      refine x_if_lt hK kX1_divideShort_13 (q := 16) rfl (tg := 82) rfl (by omega) (fun c13 => ?_) (fun c13 => ?_)
      · refine x_lload hK kX1_divideShort_82 (q := 84) rfl rfl ?_
        refine x_lreturn hK kX1_divideShort_84 (by first | trivial | exact Or.inl rfl | exact Or.inr rfl) ?_
        rw [sf_0, sf_0] at hv
        have e1 : vL (W j) l / d = vL f l := by rw [hv, Int.add_comm, Int.add_mul_ediv_right _ _ (by omega), Int.ediv_eq_zero_of_lt a0 a1]; omega
        have e2 : vL (W j) l % d = ab := by rw [hv, Int.add_comm, Int.add_mul_emod_self_right, Int.emod_eq_of_lt a0 a1]
        have := h f f80 f81 (fun t ht => hf t (by omega) ht) e1.symm
        rw [e2] at this
        exact this
      · exfalso; omega
    | succ i ih =>
      intro l f ab u7 hl f80 f81 hf a0 a1 hv
      have r1 : 0 ≤ W j i ∧ W j i < 2147483648 := hr i (by omega)
      have ei : ((i + 1 : Nat) : Int) - 1 = i := by omega
      have p31 : (2 : Int) ^ 31 = 2147483648 := by decide
      have e3 : zShlL ab 31 = ab * 2 ^ 31 := zShlL_n ab 31 (by decide) ⟨by omega, by omega⟩
      have e4 := zOrL_s ab (W j i) 31 (by decide) a0 r1.1 (by omega) (by omega)
      rw [p31] at e3 e4
      have q1 := Int.mul_le_mul_of_nonneg_right (show ab ≤ d - 1 by omega) (show (0 : Int) ≤ 2147483648 by decide)
      have q2 : 0 ≤ (ab * 2147483648 + W j i) / d ∧ (ab * 2147483648 + W j i) / d < 2147483648 := by
        refine ⟨Int.ediv_nonneg (by omega) (by omega), Int.ediv_lt_of_lt_mul hd.1 (by omega)⟩
      have q3 := Int.emod_nonneg (ab * 2147483648 + W j i) (show d ≠ 0 by omega)
      have q4 := Int.emod_lt_of_pos (ab * 2147483648 + W j i) hd.1
      have t1 : (ab * 2147483648 + W j i).tdiv d = (ab * 2147483648 + W j i) / d := Int.tdiv_eq_ediv_of_nonneg (by omega)
      have t2 : (ab * 2147483648 + W j i).tmod d = (ab * 2147483648 + W j i) % d := Int.tmod_eq_emod_of_nonneg (by omega)
      rw [ei]
      refine x_iload hK kX1_divideShort_11 (q := 13) rfl rfl ?_
      refine x_if_lt hK kX1_divideShort_13 (q := 16) rfl (tg := 82) rfl (by omega) (fun c13 => ?_) (fun c13 => ?_)
      · exfalso; omega
      · refine x_iload hK kX1_divideShort_16 (q := 18) rfl rfl ?_
        refine x_aload_n hK kX1_divideShort_18 (q := 19) rfl rfl ?_
        refine x_getfield hK kX1_divideShort_19 (q := 22) rfl (gX1_74 ?_)
        refine x_arraylength hK kX1_divideShort_22 (q := 23) rfl (nC7_0 ?_)
        refine x_icmp_ge hK kX1_divideShort_23 (q := 26) rfl (tg := 82) rfl (by refine ⟨?_, ?_⟩ <;> omega) (fun c23 => ?_) (fun c23 => ?_)
        · exfalso; omega
        · refine x_iload_n hK kX1_divideShort_26 (q := 27) rfl rfl ?_
          refine x_if_le hK kX1_divideShort_27 (q := 30) rfl (tg := 82) rfl (by omega) (fun c27 => ?_) (fun c27 => ?_)
          · exfalso; omega
          · refine x_lload hK kX1_divideShort_30 (q := 32) rfl rfl ?_
            refine x_bipush hK kX1_divideShort_32 (q := 34) rfl (by decide) ?_
            refine x_lshl hK kX1_divideShort_34 (q := 35) rfl ?_
            rw [e3]
            refine x_aload_n hK kX1_divideShort_35 (q := 36) rfl rfl ?_
            refine x_getfield hK kX1_divideShort_36 (q := 39) rfl (gX1_74 ?_)
            refine x_iload hK kX1_divideShort_39 (q := 41) rfl rfl ?_
            refine x_iaload hK kX1_divideShort_41 (q := 42) rfl (aC7_0 (by refine ⟨?_, ?_⟩ <;> omega) ?_)
            rw [tj]
            refine x_i2l hK kX1_divideShort_42 (q := 43) rfl (by omega) ?_
            refine x_lor hK kX1_divideShort_43 (q := 44) rfl ?_
            rw [e4]
            refine x_lstore hK kX1_divideShort_44 (q := 46) rfl ?_
            refine x_iload hK kX1_divideShort_46 (q := 48) rfl rfl ?_
            refine x_aload_n hK kX1_divideShort_48 (q := 49) rfl rfl ?_
            refine x_getfield hK kX1_divideShort_49 (q := 52) rfl (gX1_74 ?_)
            refine x_arraylength hK kX1_divideShort_52 (q := 53) rfl (nC7_0 ?_)
            simp only [lS, lS2, clr_0, clr_I, clr_L, clr_R]
            refine x_icmp_ge hK kX1_divideShort_53 (q := 56) rfl (tg := 69) rfl (by refine ⟨?_, ?_⟩ <;> omega) (fun c53 => ?_) (fun c53 => ?_)
            · exfalso; omega
            · refine x_aload_n hK kX1_divideShort_56 (q := 57) rfl rfl ?_
              refine x_getfield hK kX1_divideShort_57 (q := 60) rfl (gX1_74 ?_)
              refine x_iload hK kX1_divideShort_60 (q := 62) rfl rfl ?_
              refine x_lload hK kX1_divideShort_62 (q := 64) rfl rfl ?_
              refine x_iload_n hK kX1_divideShort_64 (q := 65) rfl rfl ?_
              refine x_i2l hK kX1_divideShort_65 (q := 66) rfl (by omega) ?_
              refine x_ldiv hK kX1_divideShort_66 (q := 67) rfl (by refine ⟨⟨by omega, by omega⟩, ⟨by omega, by omega⟩, by omega⟩) ?_
              rw [t1]
              refine x_l2i hK kX1_divideShort_67 (q := 68) rfl ?_
              refine x_iastore hK kX1_divideShort_68 (q := 69) rfl (yC7_0 (by refine ⟨?_, ?_⟩ <;> omega) ?_)
              rw [uA_g, uA_u]
              refine x_lload hK kX1_divideShort_69 (q := 71) rfl rfl ?_
              refine x_iload_n hK kX1_divideShort_71 (q := 72) rfl rfl ?_
              refine x_i2l hK kX1_divideShort_72 (q := 73) rfl (by omega) ?_
              refine x_lrem hK kX1_divideShort_73 (q := 74) rfl (by refine ⟨⟨by omega, by omega⟩, ⟨by omega, by omega⟩, by omega⟩) ?_
              rw [t2]
              refine x_lstore hK kX1_divideShort_74 (q := 76) rfl ?_
              refine x_iinc hK kX1_divideShort_76 (q := 79) rfl rfl ?_
              simp only [lS, lS2, clr_0, clr_I, clr_L, clr_R]
              refine x_goto hK kX1_divideShort_79 (tg := 11) rfl ?_
              rw [show (i : Int) + -1 = (i : Int) - 1 by omega]
              refine ih (l + 1) _ _ _ (by omega) (by rw [uI_n _ _ (by omega)]; exact f80) (by rw [uI_n _ _ (by omega)]; exact f81) (fun t t0 t1 => ?_) q3 q4 ?_
              · rcases Nat.lt_or_ge i t with g | g
                · rw [uI_n _ _ (by omega)]; exact hf t g t1
                · rw [show t = i by omega, uI_s]; exact q2
              · rw [vL_sf, vL_sf, hv, uI_s, sfU]
                have g3 := Int.emod_add_mul_ediv (ab * 2147483648 + W j i) d
                generalize (ab * 2147483648 + W j i) / d = Q at *
                generalize (ab * 2147483648 + W j i) % d = R at *
                generalize vL (sf f (i + 1)) l = V at *
                generalize W j i = X at *
                show X + (V * d + ab) * 2147483648 = (Q + V * 2147483648) * d + R
                grind
  simp only [eLoc, eE, List.length_cons, List.length_nil, List.replicate, List.cons_append, List.nil_append, Nat.reduceAdd, Nat.reduceSub]
  refine x_lconst0 hK kX1_divideShort_0 (q := 1) rfl ?_
  refine x_lstore hK kX1_divideShort_1 (q := 3) rfl ?_
  refine x_aload_n hK kX1_divideShort_3 (q := 4) rfl rfl ?_
  refine x_getfield hK kX1_divideShort_4 (q := 7) rfl (gX1_71 ?_)
  simp only [lS, lS2, clr_0, clr_I, clr_L, clr_R]
  rw [h8]
  refine x_iconst hK kX1_divideShort_7 (q := 8) rfl ?_
  refine x_isub hK kX1_divideShort_8 (q := 9) rfl ?_
  refine x_istore hK kX1_divideShort_9 (q := 11) rfl ?_
  simp only [lS, lS2, clr_0, clr_I, clr_L, clr_R]
  exact x_to (loop n 0 (W c) 0 none (by omega) rfl rfl (fun t t0 t1 => by omega) (Int.le_refl _) hd.1 (by show (0 : Int) = 0 * _ + 0; omega)) rfl rfl (by rw [uA_s])
set_option maxRecDepth 20000 in
theorem mX1_divideShort : eMet yX1_divideShort cX1_divideShort 9 (some .long) 0 0 SX1_divideShort := eMet_of (by decide +kernel) sX1_divideShort kX1_divideShort_ok caX1_divideShort tb_RX1
theorem wX1_divideShort : eWV yX1_divideShort cX1_divideShort 9 (some .long) 4 1 SX1_divideShort := ⟨(gW_at 477 (by decide +kernel) rfl), (gW_at 80 (by decide +kernel) rfl), (gW_at 476 (by decide +kernel) rfl), ⟨_, rfl, (gW_at 8 (by decide +kernel) rfl)⟩, by decide +kernel, SX1_divideShort_r⟩
-- lessen
def SX1_lessen : eSp := fun as M rt => ∃ (F : Nat → Int) (A W : Nat → Int → Int) (j at_ L : Nat) (g : Int), as = [eR (1, 2), eR (2, j), eI at_, eL g] ∧ M = cC F A W ∧ (j < 332) ∧ (j ≠ 2) ∧ (W 2 80 = L) ∧ (L ≤ 64) ∧ (at_ + L < lw j) ∧ (lR (W 2) L) ∧ (∀ t : Nat, at_ ≤ t → t ≤ at_ + L → 0 ≤ W j t ∧ W j t < 2147483648) ∧ (0 ≤ g ∧ g < 2147483648) ∧ (∀ (f : Int → Int) (gap : Int), (∀ t : Int, (t < at_ ∨ (at_ : Int) + L ≤ t) → f t = W j t) → (∀ t : Nat, at_ ≤ t → t < at_ + L → 0 ≤ f t ∧ f t < 2147483648) → vL (sf f at_) L + gap * cB ^ L = vL (sf (W j) at_) (L + 1) - g * vL (W 2) L → w64 gap → rt (some (eL gap)) (cC F A (uA W j f)))
theorem SX1_lessen_i {F : Nat → Int} {A W : Nat → Int → Int} {j at_ L : Nat} {g : Int} {rt : Option eV → eM → Prop} (hj : j < 332) (hn : j ≠ 2) (hL : W 2 80 = L) (hL8 : L ≤ 64) (hat : at_ + L < lw j) (hs : lR (W 2) L) (hu : ∀ t : Nat, at_ ≤ t → t ≤ at_ + L → 0 ≤ W j t ∧ W j t < 2147483648) (hg : 0 ≤ g ∧ g < 2147483648) (h : ∀ (f : Int → Int) (gap : Int), (∀ t : Int, (t < at_ ∨ (at_ : Int) + L ≤ t) → f t = W j t) → (∀ t : Nat, at_ ≤ t → t < at_ + L → 0 ≤ f t ∧ f t < 2147483648) → vL (sf f at_) L + gap * cB ^ L = vL (sf (W j) at_) (L + 1) - g * vL (W 2) L → w64 gap → rt (some (eL gap)) (cC F A (uA W j f))) : SX1_lessen [eR (1, 2), eR (2, j), eI at_, eL g] (cC F A W) rt := ⟨F, A, W, j, at_, L, g, rfl, rfl, hj, hn, hL, hL8, hat, hs, hu, hg, h⟩
theorem SX1_lessen_r : ∀ as M rt, SX1_lessen as M rt → ∃ a r fs, as = eR a :: r ∧ M a = some (.inl (1, fs)) := by
  rintro as M rt ⟨F, A, W, j, at_, L, g, rfl, rfl, -⟩
  exact ⟨_, _, _, rfl, rfl⟩
def kX1_lessen : List (Nat × Jvm.ClassFile.Instr × Nat) := [(0, .aload_n 0, 1), (1, .getfield 23, 3), (4, .getfield 71, 3), (7, .istore 5, 2), (9, .lconst 0, 1), (10, .lstore 6, 2), (12, .iconst 0, 1), (13, .istore 8, 2), (15, .iload 8, 2), (17, .iload 5, 2), (19, .if_icmp .ge 86, 3), (22, .iload_n 2, 1), (23, .iload 8, 2), (25, .iadd, 1), (26, .aload_n 1, 1), (27, .getfield 74, 3), (30, .arraylength, 1), (31, .if_icmp .ge 74, 3), (34, .iload 8, 2), (36, .aload_n 0, 1), (37, .getfield 23, 3), (40, .getfield 74, 3), (43, .arraylength, 1), (44, .if_icmp .ge 61, 3), (47, .aload_n 1, 1), (48, .getfield 74, 3), (51, .iload_n 2, 1), (52, .iload 8, 2), (54, .iadd, 1), (55, .iaload, 1), (56, .i2l, 1), (57, .lload_n 3, 1), (58, .aload_n 0, 1), (59, .getfield 23, 3), (62, .getfield 74, 3), (65, .iload 8, 2), (67, .iaload, 1), (68, .i2l, 1), (69, .lmul, 1), (70, .lsub, 1), (71, .lload 6, 2), (73, .ladd, 1), (74, .lstore 9, 2), (76, .aload_n 1, 1), (77, .getfield 74, 3), (80, .iload_n 2, 1), (81, .iload 8, 2), (83, .iadd, 1), (84, .lload 9, 2), (86, .ldc2_w 112, 3), (89, .land, 1), (90, .l2i, 1), (91, .iastore, 1), (92, .lload 9, 2), (94, .bipush 31, 2), (96, .lshr, 1), (97, .lstore 6, 2), (99, .iinc 8 1, 3), (102, .goto (-87), 3), (105, .iload_n 2, 1), (106, .iload 5, 2), (108, .iadd, 1), (109, .istore 8, 2), (111, .iload 8, 2), (113, .aload_n 1, 1), (114, .getfield 74, 3), (117, .arraylength, 1), (118, .if_icmp .ge 17, 3), (121, .aload_n 1, 1), (122, .getfield 74, 3), (125, .iload 8, 2), (127, .iaload, 1), (128, .i2l, 1), (129, .lload 6, 2), (131, .ladd, 1), (132, .goto 4, 3), (135, .lconst 0, 1), (136, .lreturn, 1)]
theorem kX1_lessen_0 : cdOf kX1_lessen 0 = some (.aload_n 0, 1) := by decide +kernel
theorem kX1_lessen_1 : cdOf kX1_lessen 1 = some (.getfield 23, 3) := by decide +kernel
theorem kX1_lessen_4 : cdOf kX1_lessen 4 = some (.getfield 71, 3) := by decide +kernel
theorem kX1_lessen_7 : cdOf kX1_lessen 7 = some (.istore 5, 2) := by decide +kernel
theorem kX1_lessen_9 : cdOf kX1_lessen 9 = some (.lconst 0, 1) := by decide +kernel
theorem kX1_lessen_10 : cdOf kX1_lessen 10 = some (.lstore 6, 2) := by decide +kernel
theorem kX1_lessen_12 : cdOf kX1_lessen 12 = some (.iconst 0, 1) := by decide +kernel
theorem kX1_lessen_13 : cdOf kX1_lessen 13 = some (.istore 8, 2) := by decide +kernel
theorem kX1_lessen_15 : cdOf kX1_lessen 15 = some (.iload 8, 2) := by decide +kernel
theorem kX1_lessen_17 : cdOf kX1_lessen 17 = some (.iload 5, 2) := by decide +kernel
theorem kX1_lessen_19 : cdOf kX1_lessen 19 = some (.if_icmp .ge 86, 3) := by decide +kernel
theorem kX1_lessen_22 : cdOf kX1_lessen 22 = some (.iload_n 2, 1) := by decide +kernel
theorem kX1_lessen_23 : cdOf kX1_lessen 23 = some (.iload 8, 2) := by decide +kernel
theorem kX1_lessen_25 : cdOf kX1_lessen 25 = some (.iadd, 1) := by decide +kernel
theorem kX1_lessen_26 : cdOf kX1_lessen 26 = some (.aload_n 1, 1) := by decide +kernel
theorem kX1_lessen_27 : cdOf kX1_lessen 27 = some (.getfield 74, 3) := by decide +kernel
theorem kX1_lessen_30 : cdOf kX1_lessen 30 = some (.arraylength, 1) := by decide +kernel
theorem kX1_lessen_31 : cdOf kX1_lessen 31 = some (.if_icmp .ge 74, 3) := by decide +kernel
theorem kX1_lessen_34 : cdOf kX1_lessen 34 = some (.iload 8, 2) := by decide +kernel
theorem kX1_lessen_36 : cdOf kX1_lessen 36 = some (.aload_n 0, 1) := by decide +kernel
theorem kX1_lessen_37 : cdOf kX1_lessen 37 = some (.getfield 23, 3) := by decide +kernel
theorem kX1_lessen_40 : cdOf kX1_lessen 40 = some (.getfield 74, 3) := by decide +kernel
theorem kX1_lessen_43 : cdOf kX1_lessen 43 = some (.arraylength, 1) := by decide +kernel
theorem kX1_lessen_44 : cdOf kX1_lessen 44 = some (.if_icmp .ge 61, 3) := by decide +kernel
theorem kX1_lessen_47 : cdOf kX1_lessen 47 = some (.aload_n 1, 1) := by decide +kernel
theorem kX1_lessen_48 : cdOf kX1_lessen 48 = some (.getfield 74, 3) := by decide +kernel
theorem kX1_lessen_51 : cdOf kX1_lessen 51 = some (.iload_n 2, 1) := by decide +kernel
theorem kX1_lessen_52 : cdOf kX1_lessen 52 = some (.iload 8, 2) := by decide +kernel
theorem kX1_lessen_54 : cdOf kX1_lessen 54 = some (.iadd, 1) := by decide +kernel
theorem kX1_lessen_55 : cdOf kX1_lessen 55 = some (.iaload, 1) := by decide +kernel
theorem kX1_lessen_56 : cdOf kX1_lessen 56 = some (.i2l, 1) := by decide +kernel
theorem kX1_lessen_57 : cdOf kX1_lessen 57 = some (.lload_n 3, 1) := by decide +kernel
theorem kX1_lessen_58 : cdOf kX1_lessen 58 = some (.aload_n 0, 1) := by decide +kernel
theorem kX1_lessen_59 : cdOf kX1_lessen 59 = some (.getfield 23, 3) := by decide +kernel
theorem kX1_lessen_62 : cdOf kX1_lessen 62 = some (.getfield 74, 3) := by decide +kernel
theorem kX1_lessen_65 : cdOf kX1_lessen 65 = some (.iload 8, 2) := by decide +kernel
theorem kX1_lessen_67 : cdOf kX1_lessen 67 = some (.iaload, 1) := by decide +kernel
theorem kX1_lessen_68 : cdOf kX1_lessen 68 = some (.i2l, 1) := by decide +kernel
theorem kX1_lessen_69 : cdOf kX1_lessen 69 = some (.lmul, 1) := by decide +kernel
theorem kX1_lessen_70 : cdOf kX1_lessen 70 = some (.lsub, 1) := by decide +kernel
theorem kX1_lessen_71 : cdOf kX1_lessen 71 = some (.lload 6, 2) := by decide +kernel
theorem kX1_lessen_73 : cdOf kX1_lessen 73 = some (.ladd, 1) := by decide +kernel
theorem kX1_lessen_74 : cdOf kX1_lessen 74 = some (.lstore 9, 2) := by decide +kernel
theorem kX1_lessen_76 : cdOf kX1_lessen 76 = some (.aload_n 1, 1) := by decide +kernel
theorem kX1_lessen_77 : cdOf kX1_lessen 77 = some (.getfield 74, 3) := by decide +kernel
theorem kX1_lessen_80 : cdOf kX1_lessen 80 = some (.iload_n 2, 1) := by decide +kernel
theorem kX1_lessen_81 : cdOf kX1_lessen 81 = some (.iload 8, 2) := by decide +kernel
theorem kX1_lessen_83 : cdOf kX1_lessen 83 = some (.iadd, 1) := by decide +kernel
theorem kX1_lessen_84 : cdOf kX1_lessen 84 = some (.lload 9, 2) := by decide +kernel
theorem kX1_lessen_86 : cdOf kX1_lessen 86 = some (.ldc2_w 112, 3) := by decide +kernel
theorem kX1_lessen_89 : cdOf kX1_lessen 89 = some (.land, 1) := by decide +kernel
theorem kX1_lessen_90 : cdOf kX1_lessen 90 = some (.l2i, 1) := by decide +kernel
theorem kX1_lessen_91 : cdOf kX1_lessen 91 = some (.iastore, 1) := by decide +kernel
theorem kX1_lessen_92 : cdOf kX1_lessen 92 = some (.lload 9, 2) := by decide +kernel
theorem kX1_lessen_94 : cdOf kX1_lessen 94 = some (.bipush 31, 2) := by decide +kernel
theorem kX1_lessen_96 : cdOf kX1_lessen 96 = some (.lshr, 1) := by decide +kernel
theorem kX1_lessen_97 : cdOf kX1_lessen 97 = some (.lstore 6, 2) := by decide +kernel
theorem kX1_lessen_99 : cdOf kX1_lessen 99 = some (.iinc 8 1, 3) := by decide +kernel
theorem kX1_lessen_102 : cdOf kX1_lessen 102 = some (.goto (-87), 3) := by decide +kernel
theorem kX1_lessen_105 : cdOf kX1_lessen 105 = some (.iload_n 2, 1) := by decide +kernel
theorem kX1_lessen_106 : cdOf kX1_lessen 106 = some (.iload 5, 2) := by decide +kernel
theorem kX1_lessen_108 : cdOf kX1_lessen 108 = some (.iadd, 1) := by decide +kernel
theorem kX1_lessen_109 : cdOf kX1_lessen 109 = some (.istore 8, 2) := by decide +kernel
theorem kX1_lessen_111 : cdOf kX1_lessen 111 = some (.iload 8, 2) := by decide +kernel
theorem kX1_lessen_113 : cdOf kX1_lessen 113 = some (.aload_n 1, 1) := by decide +kernel
theorem kX1_lessen_114 : cdOf kX1_lessen 114 = some (.getfield 74, 3) := by decide +kernel
theorem kX1_lessen_117 : cdOf kX1_lessen 117 = some (.arraylength, 1) := by decide +kernel
theorem kX1_lessen_118 : cdOf kX1_lessen 118 = some (.if_icmp .ge 17, 3) := by decide +kernel
theorem kX1_lessen_121 : cdOf kX1_lessen 121 = some (.aload_n 1, 1) := by decide +kernel
theorem kX1_lessen_122 : cdOf kX1_lessen 122 = some (.getfield 74, 3) := by decide +kernel
theorem kX1_lessen_125 : cdOf kX1_lessen 125 = some (.iload 8, 2) := by decide +kernel
theorem kX1_lessen_127 : cdOf kX1_lessen 127 = some (.iaload, 1) := by decide +kernel
theorem kX1_lessen_128 : cdOf kX1_lessen 128 = some (.i2l, 1) := by decide +kernel
theorem kX1_lessen_129 : cdOf kX1_lessen 129 = some (.lload 6, 2) := by decide +kernel
theorem kX1_lessen_131 : cdOf kX1_lessen 131 = some (.ladd, 1) := by decide +kernel
theorem kX1_lessen_132 : cdOf kX1_lessen 132 = some (.goto 4, 3) := by decide +kernel
theorem kX1_lessen_135 : cdOf kX1_lessen 135 = some (.lconst 0, 1) := by decide +kernel
theorem kX1_lessen_136 : cdOf kX1_lessen 136 = some (.lreturn, 1) := by decide +kernel
set_option maxRecDepth 20000 in
theorem kX1_lessen_ok : ∀ pc i len, cdOf kX1_lessen pc = some (i, len) → decode cX1_lessen pc = .ok (i, len) ∧ stOK 11 i = true ∧ jOK pc i = true ∧ eLen i len = true := cdOf_ok cX1_lessen 11 kX1_lessen (by decide +kernel)
def vtX1_lessen : Nat → Option (Nat × eSp) := fun _ => none
def stX1_lessen : Nat → Option (Nat × eSp) := fun _ => none
abbrev TX1_lessen : eT := (fl_RX1, cl_RX1, dl_RX1, vtX1_lessen, stX1_lessen)
set_option maxRecDepth 20000 in
theorem caX1_lessen : eCalls RX1 { frames := 0, cells := 0, slots := 0, locals := 0 } TX1_lessen := by
  refine ⟨fun k n sp h => ?_, fun k n sp h => ?_⟩
  · cases h
  · cases h
set_option maxRecDepth 100000 in
set_option maxHeartbeats 4000000 in
theorem sX1_lessen : eSafe TX1_lessen (cdOf kX1_lessen) 11 (some .long) SX1_lessen := by
  intro K rt hK as M h
  obtain ⟨F, A, W, j, at_, L, g, rfl, rfl, hj, hn, hL, hL8, hat, hs, hu, hg, h⟩ := h
  refine ⟨by simp [eE], ?_⟩
  have lj := lw_b j
  have l2 := lw_d (k := 2) (by decide)
  have ts : ∀ f, uA W j f 2 = W 2 := fun f => uA_n _ _ (fun q => hn q.symm)
  have loop : ∀ (d i : Nat) (f : Int → Int) (cr : Int) (u9 : Option eV), i + d = L → (∀ t : Int, (t < at_ ∨ (at_ : Int) + i ≤ t) → f t = W j t) → (∀ t : Nat, at_ ≤ t → t < at_ + i → 0 ≤ f t ∧ f t < 2147483648) → -2147483648 ≤ cr → cr ≤ 0 → vL (sf f at_) i + cr * cB ^ i = vL (sf (W j) at_) i - g * vL (W 2) i →
      K 15 [some (eR (1, 2)), some (eR (2, j)), some (eI at_), some (eL g), none, some (eI L), some (eL cr), none, some (eI i), u9, none] [] (cC F A (uA W j f)) := by
    intro d
    induction d with
    | zero =>
      intro i f cr u9 hd he hf c0 c1 hv
      have : i = L := by omega
      subst this
      have r1 := hu (at_ + i) (by omega) (by omega)
      have e1 : ((at_ + i : Nat) : Int) = (at_ : Int) + i := by omega
      rw [e1] at r1
      have fh := he ((at_ : Int) + i) (by omega)
      refine x_iload hK kX1_lessen_15 (q := 17) rfl rfl ?_
      refine x_iload hK kX1_lessen_17 (q := 19) rfl rfl ?_
      refine x_icmp_ge hK kX1_lessen_19 (q := 22) rfl (tg := 105) rfl (by refine ⟨?_, ?_⟩ <;> omega) (fun c19 => ?_) (fun c19 => ?_)
      · refine x_iload_n hK kX1_lessen_105 (q := 106) rfl rfl ?_
        refine x_iload hK kX1_lessen_106 (q := 108) rfl rfl ?_
        refine x_iadd hK kX1_lessen_108 (q := 109) rfl ?_
        refine x_istore hK kX1_lessen_109 (q := 111) rfl ?_
        refine x_iload hK kX1_lessen_111 (q := 113) rfl rfl ?_
        refine x_aload_n hK kX1_lessen_113 (q := 114) rfl rfl ?_
        refine x_getfield hK kX1_lessen_114 (q := 117) rfl (gX1_74 ?_)
        refine x_arraylength hK kX1_lessen_117 (q := 118) rfl (nC7_0 ?_)
        simp only [lS, lS2, clr_0, clr_I, clr_L, clr_R]
        refine x_icmp_ge hK kX1_lessen_118 (q := 121) rfl (tg := 135) rfl (by refine ⟨?_, ?_⟩ <;> omega) (fun c118 => ?_) (fun c118 => ?_)
        · exfalso; omega
        · refine x_aload_n hK kX1_lessen_121 (q := 122) rfl rfl ?_
          refine x_getfield hK kX1_lessen_122 (q := 125) rfl (gX1_74 ?_)
          refine x_iload hK kX1_lessen_125 (q := 127) rfl rfl ?_
          refine x_iaload hK kX1_lessen_127 (q := 128) rfl (aC7_0 (by refine ⟨?_, ?_⟩ <;> omega) ?_)
          rw [uA_g, fh]
          refine x_i2l hK kX1_lessen_128 (q := 129) rfl (by omega) ?_
          refine x_lload hK kX1_lessen_129 (q := 131) rfl rfl ?_
          refine x_ladd hK kX1_lessen_131 (q := 132) rfl ?_
          refine x_goto hK kX1_lessen_132 (tg := 136) rfl ?_
          refine x_lreturn hK kX1_lessen_136 (by first | trivial | exact Or.inl rfl | exact Or.inr rfl) ?_
          refine h f _ he (fun t t0 t1 => hf t t0 t1) ?_ ⟨by omega, by omega⟩
          have e2 : vL (sf (W j) at_) (i + 1) = vL (sf (W j) at_) i + W j ((at_ : Int) + i) * cB ^ i := rfl
          rw [e2, Int.add_mul]
          omega
      · exfalso; omega
    | succ d ih =>
      intro i f cr u9 hd he hf c0 c1 hv
      have r1 := hu (at_ + i) (by omega) (by omega)
      have e1 : (at_ : Int) + (i : Int) = ((at_ + i : Nat) : Int) := by omega
      have fh := he ((at_ : Int) + i) (by omega)
      rw [e1] at fh
      have r2 : 0 ≤ W 2 i ∧ W 2 i < 2147483648 := hs i (by omega)
      have r4 := mul_lt hg r2
      refine x_iload hK kX1_lessen_15 (q := 17) rfl rfl ?_
      refine x_iload hK kX1_lessen_17 (q := 19) rfl rfl ?_
      refine x_icmp_ge hK kX1_lessen_19 (q := 22) rfl (tg := 105) rfl (by refine ⟨?_, ?_⟩ <;> omega) (fun c19 => ?_) (fun c19 => ?_)
      · exfalso; omega
      · refine x_iload_n hK kX1_lessen_22 (q := 23) rfl rfl ?_
        refine x_iload hK kX1_lessen_23 (q := 25) rfl rfl ?_
        refine x_iadd hK kX1_lessen_25 (q := 26) rfl ?_
        refine x_aload_n hK kX1_lessen_26 (q := 27) rfl rfl ?_
        refine x_getfield hK kX1_lessen_27 (q := 30) rfl (gX1_74 ?_)
        refine x_arraylength hK kX1_lessen_30 (q := 31) rfl (nC7_0 ?_)
        refine x_icmp_ge hK kX1_lessen_31 (q := 34) rfl (tg := 105) rfl (by refine ⟨?_, ?_⟩ <;> omega) (fun c31 => ?_) (fun c31 => ?_)
        · exfalso; omega
        · refine x_iload hK kX1_lessen_34 (q := 36) rfl rfl ?_
          refine x_aload_n hK kX1_lessen_36 (q := 37) rfl rfl ?_
          refine x_getfield hK kX1_lessen_37 (q := 40) rfl (gX1_23 ?_)
          refine x_getfield hK kX1_lessen_40 (q := 43) rfl (gX1_74 ?_)
          refine x_arraylength hK kX1_lessen_43 (q := 44) rfl (nC7_0 ?_)
          refine x_icmp_ge hK kX1_lessen_44 (q := 47) rfl (tg := 105) rfl (by refine ⟨?_, ?_⟩ <;> omega) (fun c44 => ?_) (fun c44 => ?_)
          · exfalso; omega
          · refine x_aload_n hK kX1_lessen_47 (q := 48) rfl rfl ?_
            refine x_getfield hK kX1_lessen_48 (q := 51) rfl (gX1_74 ?_)
            refine x_iload_n hK kX1_lessen_51 (q := 52) rfl rfl ?_
            refine x_iload hK kX1_lessen_52 (q := 54) rfl rfl ?_
            refine x_iadd hK kX1_lessen_54 (q := 55) rfl ?_
            rw [e1]
            refine x_iaload hK kX1_lessen_55 (q := 56) rfl (aC7_0 (by refine ⟨?_, ?_⟩ <;> omega) ?_)
            rw [uA_g, fh]
            refine x_i2l hK kX1_lessen_56 (q := 57) rfl (by omega) ?_
            refine x_lload_n hK kX1_lessen_57 (q := 58) rfl rfl ?_
            refine x_aload_n hK kX1_lessen_58 (q := 59) rfl rfl ?_
            refine x_getfield hK kX1_lessen_59 (q := 62) rfl (gX1_23 ?_)
            refine x_getfield hK kX1_lessen_62 (q := 65) rfl (gX1_74 ?_)
            refine x_iload hK kX1_lessen_65 (q := 67) rfl rfl ?_
            refine x_iaload hK kX1_lessen_67 (q := 68) rfl (aC7_0 (by refine ⟨?_, ?_⟩ <;> omega) ?_)
            rw [ts]
            refine x_i2l hK kX1_lessen_68 (q := 69) rfl (by omega) ?_
            refine x_lmul hK kX1_lessen_69 (q := 70) rfl ?_
            refine x_lsub hK kX1_lessen_70 (q := 71) rfl ?_
            refine x_lload hK kX1_lessen_71 (q := 73) rfl rfl ?_
            refine x_ladd hK kX1_lessen_73 (q := 74) rfl ?_
            refine x_lstore hK kX1_lessen_74 (q := 76) rfl ?_
            refine x_aload_n hK kX1_lessen_76 (q := 77) rfl rfl ?_
            refine x_getfield hK kX1_lessen_77 (q := 80) rfl (gX1_74 ?_)
            refine x_iload_n hK kX1_lessen_80 (q := 81) rfl rfl ?_
            refine x_iload hK kX1_lessen_81 (q := 83) rfl rfl ?_
            refine x_iadd hK kX1_lessen_83 (q := 84) rfl ?_
            simp only [lS, lS2, clr_0, clr_I, clr_L, clr_R]
            rw [e1]
            refine x_lload hK kX1_lessen_84 (q := 86) rfl rfl ?_
            refine x_ldc2_w hK kX1_lessen_86 (q := 89) rfl lc2_RX1_112 ?_
            refine x_land hK kX1_lessen_89 (q := 90) rfl ?_
            rw [m31]
            refine x_l2i hK kX1_lessen_90 (q := 91) rfl ?_
            refine x_iastore hK kX1_lessen_91 (q := 92) rfl (yC7_0 (by refine ⟨?_, ?_⟩ <;> omega) ?_)
            rw [uA_g, uA_u]
            refine x_lload hK kX1_lessen_92 (q := 94) rfl rfl ?_
            refine x_bipush hK kX1_lessen_94 (q := 96) rfl (by decide) ?_
            refine x_lshr hK kX1_lessen_96 (q := 97) rfl ?_
            rw [s31 ⟨by omega, by omega⟩]
            refine x_lstore hK kX1_lessen_97 (q := 99) rfl ?_
            refine x_iinc hK kX1_lessen_99 (q := 102) rfl rfl ?_
            simp only [lS, lS2, clr_0, clr_I, clr_L, clr_R]
            refine x_goto hK kX1_lessen_102 (tg := 15) rfl ?_
            rw [show (i : Int) + 1 = ((i + 1 : Nat) : Int) by omega]
            refine ih (i + 1) _ _ _ (by omega) (fun t ht => by rw [uI_n _ _ (by omega)]; exact he t (by omega)) (fun t t0 t1 => ?_) (by omega) (by omega) ?_
            · rcases Nat.lt_or_ge t (at_ + i) with q | q
              · rw [uI_n _ _ (by omega)]; exact hf t t0 q
              · rw [show t = at_ + i by omega, uI_s]
                exact ⟨by omega, by omega⟩
            · have q1 : vL (W 2) (i + 1) = vL (W 2) i + W 2 i * cB ^ i := rfl
              have q2 : vL (sf (W j) at_) (i + 1) = vL (sf (W j) at_) i + W j ((at_ : Int) + i) * cB ^ i := rfl
              have q3 : ∀ x, vL (sf (uI f ((at_ + i : Nat) : Int) x) at_) (i + 1) = vL (sf f at_) i + x * cB ^ i := fun x => by
                rw [vL, vL_cong (f := sf f at_) (fun t ht => by rw [sf_e, sf_e, uI_n _ _ (by omega)]), sf_e, e1, uI_s]
              rw [q1, q2, q3, cB_succ, e1]
              have q4 : W j ((at_ + i : Nat) : Int) - g * W 2 i + cr = (W j ((at_ + i : Nat) : Int) - g * W 2 i + cr) / 2147483648 * 2147483648 + (W j ((at_ + i : Nat) : Int) - g * W 2 i + cr) % 2147483648 := by omega
              generalize (W j ((at_ + i : Nat) : Int) - g * W 2 i + cr) / 2147483648 = Q at *
              generalize (W j ((at_ + i : Nat) : Int) - g * W 2 i + cr) % 2147483648 = R at *
              generalize W j ((at_ + i : Nat) : Int) = X at *
              generalize W 2 i = Y at *
              generalize cB ^ i = P at *
              generalize vL (sf f at_) i = V1 at *
              generalize vL (sf (W j) at_) i = V2 at *
              generalize vL (W 2) i = V3 at *
              have : cr = Q * 2147483648 + R - X + g * Y := by omega
              subst this
              show V1 + R * P + Q * (P * 2147483648) = V2 + X * P - g * (V3 + Y * P)
              grind
  simp only [eLoc, eE, List.length_cons, List.length_nil, List.replicate, List.cons_append, List.nil_append, Nat.reduceAdd, Nat.reduceSub]
  refine x_aload_n hK kX1_lessen_0 (q := 1) rfl rfl ?_
  refine x_getfield hK kX1_lessen_1 (q := 4) rfl (gX1_23 ?_)
  refine x_getfield hK kX1_lessen_4 (q := 7) rfl (gX1_71 ?_)
  rw [hL]
  refine x_istore hK kX1_lessen_7 (q := 9) rfl ?_
  refine x_lconst0 hK kX1_lessen_9 (q := 10) rfl ?_
  refine x_lstore hK kX1_lessen_10 (q := 12) rfl ?_
  refine x_iconst hK kX1_lessen_12 (q := 13) rfl ?_
  refine x_istore hK kX1_lessen_13 (q := 15) rfl ?_
  simp only [lS, lS2, clr_0, clr_I, clr_L, clr_R]
  exact x_to (loop L 0 (W j) 0 none (by omega) (fun t ht => rfl) (fun t t0 t1 => by omega) (by decide) (by decide) (by show (0 : Int) + 0 * _ = 0 - g * 0; omega)) rfl rfl (by rw [uA_s])
set_option maxRecDepth 20000 in
theorem mX1_lessen : eMet yX1_lessen cX1_lessen 11 (some .long) 0 0 SX1_lessen := eMet_of (by decide +kernel) sX1_lessen kX1_lessen_ok caX1_lessen tb_RX1
theorem wX1_lessen : eWV yX1_lessen cX1_lessen 11 (some .long) 4 1 SX1_lessen := ⟨(gW_at 500 (by decide +kernel) rfl), (gW_at 80 (by decide +kernel) rfl), (gW_at 499 (by decide +kernel) rfl), ⟨_, rfl, (gW_at 10 (by decide +kernel) rfl)⟩, by decide +kernel, SX1_lessen_r⟩
-- restore
def SX1_restore : eSp := fun as M rt => ∃ (F : Nat → Int) (A W : Nat → Int → Int) (j at_ L : Nat), as = [eR (1, 2), eR (2, j), eI at_] ∧ M = cC F A W ∧ (j < 332) ∧ (j ≠ 2) ∧ (W 2 80 = L) ∧ (L ≤ 64) ∧ (at_ + L < lw j) ∧ (lR (W 2) L) ∧ (∀ t : Nat, at_ ≤ t → t < at_ + L → 0 ≤ W j t ∧ W j t < 2147483648) ∧ (∀ (f : Int → Int) (c : Int), (∀ t : Int, (t < at_ ∨ (at_ : Int) + L ≤ t) → f t = W j t) → (∀ t : Nat, at_ ≤ t → t < at_ + L → 0 ≤ f t ∧ f t < 2147483648) → vL (sf f at_) L + c * cB ^ L = vL (sf (W j) at_) L + vL (W 2) L → rt none (cC F A (uA W j f)))
theorem SX1_restore_i {F : Nat → Int} {A W : Nat → Int → Int} {j at_ L : Nat} {rt : Option eV → eM → Prop} (hj : j < 332) (hn : j ≠ 2) (hL : W 2 80 = L) (hL8 : L ≤ 64) (hat : at_ + L < lw j) (hs : lR (W 2) L) (hu : ∀ t : Nat, at_ ≤ t → t < at_ + L → 0 ≤ W j t ∧ W j t < 2147483648) (h : ∀ (f : Int → Int) (c : Int), (∀ t : Int, (t < at_ ∨ (at_ : Int) + L ≤ t) → f t = W j t) → (∀ t : Nat, at_ ≤ t → t < at_ + L → 0 ≤ f t ∧ f t < 2147483648) → vL (sf f at_) L + c * cB ^ L = vL (sf (W j) at_) L + vL (W 2) L → rt none (cC F A (uA W j f))) : SX1_restore [eR (1, 2), eR (2, j), eI at_] (cC F A W) rt := ⟨F, A, W, j, at_, L, rfl, rfl, hj, hn, hL, hL8, hat, hs, hu, h⟩
theorem SX1_restore_r : ∀ as M rt, SX1_restore as M rt → ∃ a r fs, as = eR a :: r ∧ M a = some (.inl (1, fs)) := by
  rintro as M rt ⟨F, A, W, j, at_, L, rfl, rfl, -⟩
  exact ⟨_, _, _, rfl, rfl⟩
def kX1_restore : List (Nat × Jvm.ClassFile.Instr × Nat) := [(0, .aload_n 0, 1), (1, .getfield 23, 3), (4, .getfield 71, 3), (7, .istore_n 3, 1), (8, .lconst 0, 1), (9, .lstore 4, 2), (11, .iconst 0, 1), (12, .istore 6, 2), (14, .iload 6, 2), (16, .iload_n 3, 1), (17, .if_icmp .ge 84, 3), (20, .iload_n 2, 1), (21, .iload 6, 2), (23, .iadd, 1), (24, .aload_n 1, 1), (25, .getfield 74, 3), (28, .arraylength, 1), (29, .if_icmp .ge 72, 3), (32, .iload 6, 2), (34, .aload_n 0, 1), (35, .getfield 23, 3), (38, .getfield 74, 3), (41, .arraylength, 1), (42, .if_icmp .ge 59, 3), (45, .aload_n 1, 1), (46, .getfield 74, 3), (49, .iload_n 2, 1), (50, .iload 6, 2), (52, .iadd, 1), (53, .iaload, 1), (54, .i2l, 1), (55, .aload_n 0, 1), (56, .getfield 23, 3), (59, .getfield 74, 3), (62, .iload 6, 2), (64, .iaload, 1), (65, .i2l, 1), (66, .ladd, 1), (67, .lload 4, 2), (69, .ladd, 1), (70, .lstore 7, 2), (72, .aload_n 1, 1), (73, .getfield 74, 3), (76, .iload_n 2, 1), (77, .iload 6, 2), (79, .iadd, 1), (80, .lload 7, 2), (82, .ldc2_w 112, 3), (85, .land, 1), (86, .l2i, 1), (87, .iastore, 1), (88, .lload 7, 2), (90, .bipush 31, 2), (92, .lshr, 1), (93, .lstore 4, 2), (95, .iinc 6 1, 3), (98, .goto (-84), 3), (101, .return_, 1)]
theorem kX1_restore_0 : cdOf kX1_restore 0 = some (.aload_n 0, 1) := by decide +kernel
theorem kX1_restore_1 : cdOf kX1_restore 1 = some (.getfield 23, 3) := by decide +kernel
theorem kX1_restore_4 : cdOf kX1_restore 4 = some (.getfield 71, 3) := by decide +kernel
theorem kX1_restore_7 : cdOf kX1_restore 7 = some (.istore_n 3, 1) := by decide +kernel
theorem kX1_restore_8 : cdOf kX1_restore 8 = some (.lconst 0, 1) := by decide +kernel
theorem kX1_restore_9 : cdOf kX1_restore 9 = some (.lstore 4, 2) := by decide +kernel
theorem kX1_restore_11 : cdOf kX1_restore 11 = some (.iconst 0, 1) := by decide +kernel
theorem kX1_restore_12 : cdOf kX1_restore 12 = some (.istore 6, 2) := by decide +kernel
theorem kX1_restore_14 : cdOf kX1_restore 14 = some (.iload 6, 2) := by decide +kernel
theorem kX1_restore_16 : cdOf kX1_restore 16 = some (.iload_n 3, 1) := by decide +kernel
theorem kX1_restore_17 : cdOf kX1_restore 17 = some (.if_icmp .ge 84, 3) := by decide +kernel
theorem kX1_restore_20 : cdOf kX1_restore 20 = some (.iload_n 2, 1) := by decide +kernel
theorem kX1_restore_21 : cdOf kX1_restore 21 = some (.iload 6, 2) := by decide +kernel
theorem kX1_restore_23 : cdOf kX1_restore 23 = some (.iadd, 1) := by decide +kernel
theorem kX1_restore_24 : cdOf kX1_restore 24 = some (.aload_n 1, 1) := by decide +kernel
theorem kX1_restore_25 : cdOf kX1_restore 25 = some (.getfield 74, 3) := by decide +kernel
theorem kX1_restore_28 : cdOf kX1_restore 28 = some (.arraylength, 1) := by decide +kernel
theorem kX1_restore_29 : cdOf kX1_restore 29 = some (.if_icmp .ge 72, 3) := by decide +kernel
theorem kX1_restore_32 : cdOf kX1_restore 32 = some (.iload 6, 2) := by decide +kernel
theorem kX1_restore_34 : cdOf kX1_restore 34 = some (.aload_n 0, 1) := by decide +kernel
theorem kX1_restore_35 : cdOf kX1_restore 35 = some (.getfield 23, 3) := by decide +kernel
theorem kX1_restore_38 : cdOf kX1_restore 38 = some (.getfield 74, 3) := by decide +kernel
theorem kX1_restore_41 : cdOf kX1_restore 41 = some (.arraylength, 1) := by decide +kernel
theorem kX1_restore_42 : cdOf kX1_restore 42 = some (.if_icmp .ge 59, 3) := by decide +kernel
theorem kX1_restore_45 : cdOf kX1_restore 45 = some (.aload_n 1, 1) := by decide +kernel
theorem kX1_restore_46 : cdOf kX1_restore 46 = some (.getfield 74, 3) := by decide +kernel
theorem kX1_restore_49 : cdOf kX1_restore 49 = some (.iload_n 2, 1) := by decide +kernel
theorem kX1_restore_50 : cdOf kX1_restore 50 = some (.iload 6, 2) := by decide +kernel
theorem kX1_restore_52 : cdOf kX1_restore 52 = some (.iadd, 1) := by decide +kernel
theorem kX1_restore_53 : cdOf kX1_restore 53 = some (.iaload, 1) := by decide +kernel
theorem kX1_restore_54 : cdOf kX1_restore 54 = some (.i2l, 1) := by decide +kernel
theorem kX1_restore_55 : cdOf kX1_restore 55 = some (.aload_n 0, 1) := by decide +kernel
theorem kX1_restore_56 : cdOf kX1_restore 56 = some (.getfield 23, 3) := by decide +kernel
theorem kX1_restore_59 : cdOf kX1_restore 59 = some (.getfield 74, 3) := by decide +kernel
theorem kX1_restore_62 : cdOf kX1_restore 62 = some (.iload 6, 2) := by decide +kernel
theorem kX1_restore_64 : cdOf kX1_restore 64 = some (.iaload, 1) := by decide +kernel
theorem kX1_restore_65 : cdOf kX1_restore 65 = some (.i2l, 1) := by decide +kernel
theorem kX1_restore_66 : cdOf kX1_restore 66 = some (.ladd, 1) := by decide +kernel
theorem kX1_restore_67 : cdOf kX1_restore 67 = some (.lload 4, 2) := by decide +kernel
theorem kX1_restore_69 : cdOf kX1_restore 69 = some (.ladd, 1) := by decide +kernel
theorem kX1_restore_70 : cdOf kX1_restore 70 = some (.lstore 7, 2) := by decide +kernel
theorem kX1_restore_72 : cdOf kX1_restore 72 = some (.aload_n 1, 1) := by decide +kernel
theorem kX1_restore_73 : cdOf kX1_restore 73 = some (.getfield 74, 3) := by decide +kernel
theorem kX1_restore_76 : cdOf kX1_restore 76 = some (.iload_n 2, 1) := by decide +kernel
theorem kX1_restore_77 : cdOf kX1_restore 77 = some (.iload 6, 2) := by decide +kernel
theorem kX1_restore_79 : cdOf kX1_restore 79 = some (.iadd, 1) := by decide +kernel
theorem kX1_restore_80 : cdOf kX1_restore 80 = some (.lload 7, 2) := by decide +kernel
theorem kX1_restore_82 : cdOf kX1_restore 82 = some (.ldc2_w 112, 3) := by decide +kernel
theorem kX1_restore_85 : cdOf kX1_restore 85 = some (.land, 1) := by decide +kernel
theorem kX1_restore_86 : cdOf kX1_restore 86 = some (.l2i, 1) := by decide +kernel
theorem kX1_restore_87 : cdOf kX1_restore 87 = some (.iastore, 1) := by decide +kernel
theorem kX1_restore_88 : cdOf kX1_restore 88 = some (.lload 7, 2) := by decide +kernel
theorem kX1_restore_90 : cdOf kX1_restore 90 = some (.bipush 31, 2) := by decide +kernel
theorem kX1_restore_92 : cdOf kX1_restore 92 = some (.lshr, 1) := by decide +kernel
theorem kX1_restore_93 : cdOf kX1_restore 93 = some (.lstore 4, 2) := by decide +kernel
theorem kX1_restore_95 : cdOf kX1_restore 95 = some (.iinc 6 1, 3) := by decide +kernel
theorem kX1_restore_98 : cdOf kX1_restore 98 = some (.goto (-84), 3) := by decide +kernel
theorem kX1_restore_101 : cdOf kX1_restore 101 = some (.return_, 1) := by decide +kernel
set_option maxRecDepth 20000 in
theorem kX1_restore_ok : ∀ pc i len, cdOf kX1_restore pc = some (i, len) → decode cX1_restore pc = .ok (i, len) ∧ stOK 9 i = true ∧ jOK pc i = true ∧ eLen i len = true := cdOf_ok cX1_restore 9 kX1_restore (by decide +kernel)
def vtX1_restore : Nat → Option (Nat × eSp) := fun _ => none
def stX1_restore : Nat → Option (Nat × eSp) := fun _ => none
abbrev TX1_restore : eT := (fl_RX1, cl_RX1, dl_RX1, vtX1_restore, stX1_restore)
set_option maxRecDepth 20000 in
theorem caX1_restore : eCalls RX1 { frames := 0, cells := 0, slots := 0, locals := 0 } TX1_restore := by
  refine ⟨fun k n sp h => ?_, fun k n sp h => ?_⟩
  · cases h
  · cases h
set_option maxRecDepth 100000 in
set_option maxHeartbeats 4000000 in
theorem sX1_restore : eSafe TX1_restore (cdOf kX1_restore) 9 none SX1_restore := by
  intro K rt hK as M h
  obtain ⟨F, A, W, j, at_, L, rfl, rfl, hj, hn, hL, hL8, hat, hs, hu, h⟩ := h
  refine ⟨by simp [eE], ?_⟩
  have lj := lw_b j
  have l2 := lw_d (k := 2) (by decide)
  have ts : ∀ f, uA W j f 2 = W 2 := fun f => uA_n _ _ (fun q => hn q.symm)
  have loop : ∀ (d i : Nat) (f : Int → Int) (cr : Int) (u7 : Option eV), i + d = L → (∀ t : Int, (t < at_ ∨ (at_ : Int) + i ≤ t) → f t = W j t) → (∀ t : Nat, at_ ≤ t → t < at_ + i → 0 ≤ f t ∧ f t < 2147483648) → (cr = 0 ∨ cr = 1) → vL (sf f at_) i + cr * cB ^ i = vL (sf (W j) at_) i + vL (W 2) i →
      K 14 [some (eR (1, 2)), some (eR (2, j)), some (eI at_), some (eI L), some (eL cr), none, some (eI i), u7, none] [] (cC F A (uA W j f)) := by
    intro d
    induction d with
    | zero =>
      intro i f cr u7 hd he hf hc hv
      have : i = L := by omega
      subst this
      refine x_iload hK kX1_restore_14 (q := 16) rfl rfl ?_
      refine x_iload_n hK kX1_restore_16 (q := 17) rfl rfl ?_
      refine x_icmp_ge hK kX1_restore_17 (q := 20) rfl (tg := 101) rfl (by refine ⟨?_, ?_⟩ <;> omega) (fun c17 => ?_) (fun c17 => ?_)
      · refine x_return_ hK kX1_restore_101 (by first | trivial | exact Or.inl rfl | exact Or.inr rfl) ?_
        exact h f cr he (fun t t0 t1 => hf t t0 t1) hv
      · exfalso; omega
    | succ d ih =>
      intro i f cr u7 hd he hf hc hv
      have r1 := hu (at_ + i) (by omega) (by omega)
      have e1 : (at_ : Int) + (i : Int) = ((at_ + i : Nat) : Int) := by omega
      have fh := he ((at_ : Int) + i) (by omega)
      rw [e1] at fh
      have r2 : 0 ≤ W 2 i ∧ W 2 i < 2147483648 := hs i (by omega)
      refine x_iload hK kX1_restore_14 (q := 16) rfl rfl ?_
      refine x_iload_n hK kX1_restore_16 (q := 17) rfl rfl ?_
      refine x_icmp_ge hK kX1_restore_17 (q := 20) rfl (tg := 101) rfl (by refine ⟨?_, ?_⟩ <;> omega) (fun c17 => ?_) (fun c17 => ?_)
      · exfalso; omega
      · refine x_iload_n hK kX1_restore_20 (q := 21) rfl rfl ?_
        refine x_iload hK kX1_restore_21 (q := 23) rfl rfl ?_
        refine x_iadd hK kX1_restore_23 (q := 24) rfl ?_
        refine x_aload_n hK kX1_restore_24 (q := 25) rfl rfl ?_
        refine x_getfield hK kX1_restore_25 (q := 28) rfl (gX1_74 ?_)
        refine x_arraylength hK kX1_restore_28 (q := 29) rfl (nC7_0 ?_)
        refine x_icmp_ge hK kX1_restore_29 (q := 32) rfl (tg := 101) rfl (by refine ⟨?_, ?_⟩ <;> omega) (fun c29 => ?_) (fun c29 => ?_)
        · exfalso; omega
        · refine x_iload hK kX1_restore_32 (q := 34) rfl rfl ?_
          refine x_aload_n hK kX1_restore_34 (q := 35) rfl rfl ?_
          refine x_getfield hK kX1_restore_35 (q := 38) rfl (gX1_23 ?_)
          refine x_getfield hK kX1_restore_38 (q := 41) rfl (gX1_74 ?_)
          refine x_arraylength hK kX1_restore_41 (q := 42) rfl (nC7_0 ?_)
          refine x_icmp_ge hK kX1_restore_42 (q := 45) rfl (tg := 101) rfl (by refine ⟨?_, ?_⟩ <;> omega) (fun c42 => ?_) (fun c42 => ?_)
          · exfalso; omega
          · refine x_aload_n hK kX1_restore_45 (q := 46) rfl rfl ?_
            refine x_getfield hK kX1_restore_46 (q := 49) rfl (gX1_74 ?_)
            refine x_iload_n hK kX1_restore_49 (q := 50) rfl rfl ?_
            refine x_iload hK kX1_restore_50 (q := 52) rfl rfl ?_
            refine x_iadd hK kX1_restore_52 (q := 53) rfl ?_
            rw [e1]
            refine x_iaload hK kX1_restore_53 (q := 54) rfl (aC7_0 (by refine ⟨?_, ?_⟩ <;> omega) ?_)
            rw [uA_g, fh]
            refine x_i2l hK kX1_restore_54 (q := 55) rfl (by omega) ?_
            refine x_aload_n hK kX1_restore_55 (q := 56) rfl rfl ?_
            refine x_getfield hK kX1_restore_56 (q := 59) rfl (gX1_23 ?_)
            refine x_getfield hK kX1_restore_59 (q := 62) rfl (gX1_74 ?_)
            refine x_iload hK kX1_restore_62 (q := 64) rfl rfl ?_
            refine x_iaload hK kX1_restore_64 (q := 65) rfl (aC7_0 (by refine ⟨?_, ?_⟩ <;> omega) ?_)
            rw [ts]
            refine x_i2l hK kX1_restore_65 (q := 66) rfl (by omega) ?_
            refine x_ladd hK kX1_restore_66 (q := 67) rfl ?_
            refine x_lload hK kX1_restore_67 (q := 69) rfl rfl ?_
            refine x_ladd hK kX1_restore_69 (q := 70) rfl ?_
            refine x_lstore hK kX1_restore_70 (q := 72) rfl ?_
            refine x_aload_n hK kX1_restore_72 (q := 73) rfl rfl ?_
            refine x_getfield hK kX1_restore_73 (q := 76) rfl (gX1_74 ?_)
            refine x_iload_n hK kX1_restore_76 (q := 77) rfl rfl ?_
            refine x_iload hK kX1_restore_77 (q := 79) rfl rfl ?_
            refine x_iadd hK kX1_restore_79 (q := 80) rfl ?_
            simp only [lS, lS2, clr_0, clr_I, clr_L, clr_R]
            rw [e1]
            refine x_lload hK kX1_restore_80 (q := 82) rfl rfl ?_
            refine x_ldc2_w hK kX1_restore_82 (q := 85) rfl lc2_RX1_112 ?_
            refine x_land hK kX1_restore_85 (q := 86) rfl ?_
            rw [m31]
            refine x_l2i hK kX1_restore_86 (q := 87) rfl ?_
            refine x_iastore hK kX1_restore_87 (q := 88) rfl (yC7_0 (by refine ⟨?_, ?_⟩ <;> omega) ?_)
            rw [uA_g, uA_u]
            refine x_lload hK kX1_restore_88 (q := 90) rfl rfl ?_
            refine x_bipush hK kX1_restore_90 (q := 92) rfl (by decide) ?_
            refine x_lshr hK kX1_restore_92 (q := 93) rfl ?_
            rw [s31 ⟨by omega, by omega⟩]
            refine x_lstore hK kX1_restore_93 (q := 95) rfl ?_
            refine x_iinc hK kX1_restore_95 (q := 98) rfl rfl ?_
            simp only [lS, lS2, clr_0, clr_I, clr_L, clr_R]
            refine x_goto hK kX1_restore_98 (tg := 14) rfl ?_
            rw [show (i : Int) + 1 = ((i + 1 : Nat) : Int) by omega]
            refine ih (i + 1) _ _ _ (by omega) (fun t ht => by rw [uI_n _ _ (by omega)]; exact he t (by omega)) (fun t t0 t1 => ?_) (by omega) ?_
            · rcases Nat.lt_or_ge t (at_ + i) with q | q
              · rw [uI_n _ _ (by omega)]; exact hf t t0 q
              · rw [show t = at_ + i by omega, uI_s]
                exact ⟨by omega, by omega⟩
            · have q1 : vL (W 2) (i + 1) = vL (W 2) i + W 2 i * cB ^ i := rfl
              have q2 : vL (sf (W j) at_) (i + 1) = vL (sf (W j) at_) i + W j ((at_ : Int) + i) * cB ^ i := rfl
              have q3 : ∀ x, vL (sf (uI f ((at_ + i : Nat) : Int) x) at_) (i + 1) = vL (sf f at_) i + x * cB ^ i := fun x => by
                rw [vL, vL_cong (f := sf f at_) (fun t ht => by rw [sf_e, sf_e, uI_n _ _ (by omega)]), sf_e, e1, uI_s]
              rw [q1, q2, q3, cB_succ, e1]
              have q4 : W j ((at_ + i : Nat) : Int) + W 2 i + cr = (W j ((at_ + i : Nat) : Int) + W 2 i + cr) / 2147483648 * 2147483648 + (W j ((at_ + i : Nat) : Int) + W 2 i + cr) % 2147483648 := by omega
              generalize (W j ((at_ + i : Nat) : Int) + W 2 i + cr) / 2147483648 = Q at *
              generalize (W j ((at_ + i : Nat) : Int) + W 2 i + cr) % 2147483648 = R at *
              generalize W j ((at_ + i : Nat) : Int) = X at *
              generalize W 2 i = Y at *
              generalize cB ^ i = P at *
              generalize vL (sf f at_) i = V1 at *
              generalize vL (sf (W j) at_) i = V2 at *
              generalize vL (W 2) i = V3 at *
              have : cr = Q * 2147483648 + R - X - Y := by omega
              subst this
              show V1 + R * P + Q * (P * 2147483648) = V2 + X * P + (V3 + Y * P)
              grind
  simp only [eLoc, eE, List.length_cons, List.length_nil, List.replicate, List.cons_append, List.nil_append, Nat.reduceAdd, Nat.reduceSub]
  refine x_aload_n hK kX1_restore_0 (q := 1) rfl rfl ?_
  refine x_getfield hK kX1_restore_1 (q := 4) rfl (gX1_23 ?_)
  refine x_getfield hK kX1_restore_4 (q := 7) rfl (gX1_71 ?_)
  rw [hL]
  refine x_istore_n hK kX1_restore_7 (q := 8) (jn := 3) rfl rfl ?_
  refine x_lconst0 hK kX1_restore_8 (q := 9) rfl ?_
  refine x_lstore hK kX1_restore_9 (q := 11) rfl ?_
  refine x_iconst hK kX1_restore_11 (q := 12) rfl ?_
  refine x_istore hK kX1_restore_12 (q := 14) rfl ?_
  simp only [lS, lS2, clr_0, clr_I, clr_L, clr_R]
  exact x_to (loop L 0 (W j) 0 none (by omega) (fun t ht => rfl) (fun t t0 t1 => by omega) (Or.inl rfl) (by show (0 : Int) + 0 * _ = 0 + 0; omega)) rfl rfl (by rw [uA_s])
set_option maxRecDepth 20000 in
theorem mX1_restore : eMet yX1_restore cX1_restore 9 none 0 0 SX1_restore := eMet_of (by decide +kernel) sX1_restore kX1_restore_ok caX1_restore tb_RX1
theorem wX1_restore : eWV yX1_restore cX1_restore 9 none 3 1 SX1_restore := ⟨(gW_at 505 (by decide +kernel) rfl), (gW_at 80 (by decide +kernel) rfl), (gW_at 504 (by decide +kernel) rfl), ⟨_, rfl, (gW_at 11 (by decide +kernel) rfl)⟩, by decide +kernel, SX1_restore_r⟩
