/-! The face: remainder, coefficient. -/
def SX9_remainder : eSp := fun as M rt => ∃ (F : Nat → Int) (A W : Nat → Int → Int) (V : Nat → Int) (n : Nat) (i w : Int), as = [eR (0, 0), eI i, eI w] ∧ M = cC F A W ∧ (aR W V) ∧ (w32 (F 1)) ∧ (F 5 = n) ∧ (n ≤ 4) ∧ (w32 i) ∧ (w32 w) ∧ ((F 1 = 0 ∨ F 1 = 1) → 0 < V (gb 2 + 16) ∧ zAbs (V (gb 2 + 16)) ≤ 2 ^ 930 ∧ ∀ c, c < 16 → zAbs (V (gb 2 + c)) ≤ 2 ^ 930) ∧ ((¬ ((F 1 = 0 ∨ F 1 = 1) ∧ enI n i 0 w) → rt (some (eL (-1))) (cC F A W)) ∧ (((F 1 = 0 ∨ F 1 = 1) ∧ enI n i 0 w) → ∀ W', aR W' V → rt (some (eL (tel (V (gb 2 + 4 * i.toNat)) (V (gb 2 + 16)) w))) (cC F A W')))
theorem SX9_remainder_i {F : Nat → Int} {A W : Nat → Int → Int} {V : Nat → Int} {n : Nat} {i w : Int} {rt : Option eV → eM → Prop} (hV : aR W V) (hF : w32 (F 1)) (hn : F 5 = n) (n4 : n ≤ 4) (hi : w32 i) (hw : w32 w) (hg : (F 1 = 0 ∨ F 1 = 1) → 0 < V (gb 2 + 16) ∧ zAbs (V (gb 2 + 16)) ≤ 2 ^ 930 ∧ ∀ c, c < 16 → zAbs (V (gb 2 + c)) ≤ 2 ^ 930) (h : (¬ ((F 1 = 0 ∨ F 1 = 1) ∧ enI n i 0 w) → rt (some (eL (-1))) (cC F A W)) ∧ (((F 1 = 0 ∨ F 1 = 1) ∧ enI n i 0 w) → ∀ W', aR W' V → rt (some (eL (tel (V (gb 2 + 4 * i.toNat)) (V (gb 2 + 16)) w))) (cC F A W'))) : SX9_remainder [eR (0, 0), eI i, eI w] (cC F A W) rt := ⟨F, A, W, V, n, i, w, rfl, rfl, hV, hF, hn, n4, hi, hw, hg, h⟩
theorem SX9_remainder_r : ∀ as M rt, SX9_remainder as M rt → ∃ a r fs, as = eR a :: r ∧ M a = some (.inl (8, fs)) := by
  rintro as M rt ⟨F, A, W, V, n, i, w, rfl, rfl, -⟩
  exact ⟨_, _, _, rfl, rfl⟩
def kX9_remainder : List (Nat × Jvm.ClassFile.Instr × Nat) := [(0, .aload_n 0, 1), (1, .invokevirtual 111, 3), (4, .ifCond .eq 21, 3), (7, .aload_n 0, 1), (8, .aload_n 0, 1), (9, .getfield 40, 3), (12, .iconst 2, 1), (13, .invokevirtual 141, 3), (16, .iload_n 1, 1), (17, .iconst 0, 1), (18, .iload_n 2, 1), (19, .invokevirtual 145, 3), (22, .goto 6, 3), (25, .ldc2_w 128, 3), (28, .lreturn, 1)]
theorem kX9_remainder_0 : cdOf kX9_remainder 0 = some (.aload_n 0, 1) := by decide +kernel
theorem kX9_remainder_1 : cdOf kX9_remainder 1 = some (.invokevirtual 111, 3) := by decide +kernel
theorem kX9_remainder_4 : cdOf kX9_remainder 4 = some (.ifCond .eq 21, 3) := by decide +kernel
theorem kX9_remainder_7 : cdOf kX9_remainder 7 = some (.aload_n 0, 1) := by decide +kernel
theorem kX9_remainder_8 : cdOf kX9_remainder 8 = some (.aload_n 0, 1) := by decide +kernel
theorem kX9_remainder_9 : cdOf kX9_remainder 9 = some (.getfield 40, 3) := by decide +kernel
theorem kX9_remainder_12 : cdOf kX9_remainder 12 = some (.iconst 2, 1) := by decide +kernel
theorem kX9_remainder_13 : cdOf kX9_remainder 13 = some (.invokevirtual 141, 3) := by decide +kernel
theorem kX9_remainder_16 : cdOf kX9_remainder 16 = some (.iload_n 1, 1) := by decide +kernel
theorem kX9_remainder_17 : cdOf kX9_remainder 17 = some (.iconst 0, 1) := by decide +kernel
theorem kX9_remainder_18 : cdOf kX9_remainder 18 = some (.iload_n 2, 1) := by decide +kernel
theorem kX9_remainder_19 : cdOf kX9_remainder 19 = some (.invokevirtual 145, 3) := by decide +kernel
theorem kX9_remainder_22 : cdOf kX9_remainder 22 = some (.goto 6, 3) := by decide +kernel
theorem kX9_remainder_25 : cdOf kX9_remainder 25 = some (.ldc2_w 128, 3) := by decide +kernel
theorem kX9_remainder_28 : cdOf kX9_remainder 28 = some (.lreturn, 1) := by decide +kernel
set_option maxRecDepth 20000 in
theorem kX9_remainder_ok : ∀ pc i len, cdOf kX9_remainder pc = some (i, len) → decode cX9_remainder pc = .ok (i, len) ∧ stOK 3 i = true ∧ jOK pc i = true ∧ eLen i len = true := cdOf_ok cX9_remainder 3 kX9_remainder (by decide +kernel)
def vtX9_remainder : Nat → Option (Nat × eSp) := fun k => match k with
  | 111 => some (1, SX9_isFinite)
  | 141 => some (2, SX0_multiplier)
  | 145 => some (5, SX9_entry)
  | _ => none
theorem vtX9_remainder_111 : vtX9_remainder 111 = some (1, SX9_isFinite) := rfl
theorem vtX9_remainder_141 : vtX9_remainder 141 = some (2, SX0_multiplier) := rfl
theorem vtX9_remainder_145 : vtX9_remainder 145 = some (5, SX9_entry) := rfl
def stX9_remainder : Nat → Option (Nat × eSp) := fun _ => none
abbrev TX9_remainder : eT := (fl_RX9, cl_RX9, dl_RX9, vtX9_remainder, stX9_remainder)
set_option maxRecDepth 20000 in
theorem caX9_remainder : eCalls RX9 { frames := 5, cells := 0, slots := 0, locals := 138 } TX9_remainder := by
  refine ⟨fun k n sp h => ?_, fun k n sp h => ?_⟩
  · dsimp only [TX9_remainder] at h
    unfold vtX9_remainder at h
    split at h
    · cases h; exact eV_mk mX9_isFinite wX9_isFinite (by decide +kernel) (Or.inl (gW_at 720 (by decide +kernel) rfl))
    · cases h; exact eV_mk mX0_multiplier wX0_multiplier (by decide +kernel) (Or.inl (gW_at 801 (by decide +kernel) rfl))
    · cases h; exact eV_mk mX9_entry wX9_entry (by decide +kernel) (Or.inl (gW_at 805 (by decide +kernel) rfl))
    · cases h
  · cases h
set_option maxRecDepth 100000 in
set_option maxHeartbeats 4000000 in
theorem sX9_remainder : eSafe TX9_remainder (cdOf kX9_remainder) 3 (some .long) SX9_remainder := by
  intro K rt hK as M h
  obtain ⟨F, A, W, V, n, i, w, rfl, rfl, hV, hF, hn, n4, hi, hw, hg, h⟩ := h
  refine ⟨by simp [eE], ?_⟩
  simp only [eLoc, eE, List.length_cons, List.length_nil, List.replicate, List.cons_append, List.nil_append, Nat.reduceAdd, Nat.reduceSub]
  refine x_aload_n hK kX9_remainder_0 (q := 1) rfl rfl ?_
  refine x_cv1 hK kX9_remainder_1 (q := 4) rfl (vtX9_remainder_111) (Nat.le_of_ble_eq_true rfl) ?_
  refine SX9_isFinite_i hF ?_
  refine x_if_eq hK kX9_remainder_4 (q := 7) rfl (tg := 25) rfl (by unfold zE; split <;> decide) (fun c4 => ?_) (fun c4 => ?_)
  · have nf : ¬ (F 1 = 0 ∨ F 1 = 1) := fun q => by unfold zE at c4; rw [if_pos q] at c4; omega
    have hfin := h.1 (fun q => nf q.1)
    refine x_ldc2_w hK kX9_remainder_25 (q := 28) rfl lc2_RX9_128 ?_
    refine x_lreturn hK kX9_remainder_28 (by first | trivial | exact Or.inl rfl | exact Or.inr rfl) ?_
    exact hfin
  · have fi : F 1 = 0 ∨ F 1 = 1 := Decidable.of_not_not (fun q => c4 (by unfold zE; rw [if_neg q]))
    obtain ⟨g1, g2, g3⟩ := hg fi
    refine x_aload_n hK kX9_remainder_7 (q := 8) rfl rfl ?_
    refine x_aload_n hK kX9_remainder_8 (q := 9) rfl rfl ?_
    refine x_getfield hK kX9_remainder_9 (q := 12) rfl (gX9_40 ?_)
    refine x_iconst hK kX9_remainder_12 (q := 13) rfl ?_
    refine x_cv2 hK kX9_remainder_13 (q := 16) rfl (vtX9_remainder_141) (Nat.le_of_ble_eq_true rfl) ?_
    refine SX0_multiplier_i (by decide) ⟨fun m hm m3 => ?_, fun q => absurd ⟨by decide, by decide⟩ q⟩
    have : m = 2 := by omega
    subst this
    refine x_iload_n hK kX9_remainder_16 (q := 17) rfl rfl ?_
    refine x_iconst hK kX9_remainder_17 (q := 18) rfl ?_
    refine x_iload_n hK kX9_remainder_18 (q := 19) rfl rfl ?_
    refine x_cv5 hK kX9_remainder_19 (q := 22) rfl (vtX9_remainder_145) (Nat.le_of_ble_eq_true rfl) ?_
    refine SX9_entry_i (g := 2) (j := 0) hV hn n4 hi (by decide) hw (Or.inr ⟨rfl, by decide, g1, g2, g3⟩) ⟨fun q => ?_, fun q W' h1 => ?_⟩
    · refine x_goto hK kX9_remainder_22 (tg := 28) rfl ?_
      refine x_lreturn hK kX9_remainder_28 (by trivial) ?_
      refine h.1 (fun z => ?_)
      rcases q with q | q
      · cases q
      · exact q z.2
    have hfin := h.2 ⟨fi, q.2⟩ W' h1
    refine x_goto hK kX9_remainder_22 (tg := 28) rfl ?_
    refine x_lreturn hK kX9_remainder_28 (by first | trivial | exact Or.inl rfl | exact Or.inr rfl) ?_
    exact hfin
set_option maxRecDepth 20000 in
theorem mX9_remainder : eMet yX9_remainder cX9_remainder 3 (some .long) 5 138 SX9_remainder := eMet_of (by decide +kernel) sX9_remainder kX9_remainder_ok caX9_remainder tb_RX9
theorem wX9_remainder : eWV yX9_remainder cX9_remainder 3 (some .long) 3 8 SX9_remainder := ⟨(gW_at 825 (by decide +kernel) rfl), (gW_at 79 (by decide +kernel) rfl), (gW_at 823 (by decide +kernel) rfl), ⟨_, rfl, (gW_at 824 (by decide +kernel) rfl)⟩, by decide +kernel, SX9_remainder_r⟩
def SX9_coefficient : eSp := fun as M rt => ∃ (F : Nat → Int) (A W : Nat → Int → Int) (R : Nat → Nat → Int) (k a b w : Int), as = [eR (0, 0), eI k, eI a, eI b, eI w] ∧ M = cC F A W ∧ (iR W R) ∧ (w32 (F 1)) ∧ (w32 k) ∧ (w32 a) ∧ (w32 b) ∧ (w32 w) ∧ (∀ i : Int, 0 ≤ i → i < 10 → A 2 i = 0 ∨ A 2 i = 1) ∧ (∀ t : Nat, t < 10 → A 2 t = 1 → 0 < R t t ∧ ∀ q, q < 10 → zAbs (R t q) ≤ 2 ^ 930) ∧ (((F 1 = -1 ∨ w < 0 ∨ 1 < w) → rt (some (eL (-1))) (cC F A W)) ∧ (¬ (F 1 = -1 ∨ w < 0 ∨ 1 < w) → (tpF (A 2) k 10 0 0 = -1 ∨ oP a b 3 = -1) → rt (some (eL (if w = 0 then 0 else 1))) (cC F A W)) ∧ (¬ (F 1 = -1 ∨ w < 0 ∨ 1 < w) → ¬ (tpF (A 2) k 10 0 0 = -1 ∨ oP a b 3 = -1) → ∀ W', iR W' R → (∀ t : Nat, 10 ≤ t → W' t = W t) → rt (some (eL (tel (R (tpF (A 2) k 10 0 0).toNat (oP a b 3).toNat) (R (tpF (A 2) k 10 0 0).toNat (tpF (A 2) k 10 0 0).toNat) w))) (cC F A W')))
theorem SX9_coefficient_i {F : Nat → Int} {A W : Nat → Int → Int} {R : Nat → Nat → Int} {k a b w : Int} {rt : Option eV → eM → Prop} (hR : iR W R) (hF : w32 (F 1)) (hk : w32 k) (ha : w32 a) (hb : w32 b) (hw : w32 w) (hL : ∀ i : Int, 0 ≤ i → i < 10 → A 2 i = 0 ∨ A 2 i = 1) (hB : ∀ t : Nat, t < 10 → A 2 t = 1 → 0 < R t t ∧ ∀ q, q < 10 → zAbs (R t q) ≤ 2 ^ 930) (h : ((F 1 = -1 ∨ w < 0 ∨ 1 < w) → rt (some (eL (-1))) (cC F A W)) ∧ (¬ (F 1 = -1 ∨ w < 0 ∨ 1 < w) → (tpF (A 2) k 10 0 0 = -1 ∨ oP a b 3 = -1) → rt (some (eL (if w = 0 then 0 else 1))) (cC F A W)) ∧ (¬ (F 1 = -1 ∨ w < 0 ∨ 1 < w) → ¬ (tpF (A 2) k 10 0 0 = -1 ∨ oP a b 3 = -1) → ∀ W', iR W' R → (∀ t : Nat, 10 ≤ t → W' t = W t) → rt (some (eL (tel (R (tpF (A 2) k 10 0 0).toNat (oP a b 3).toNat) (R (tpF (A 2) k 10 0 0).toNat (tpF (A 2) k 10 0 0).toNat) w))) (cC F A W'))) : SX9_coefficient [eR (0, 0), eI k, eI a, eI b, eI w] (cC F A W) rt := ⟨F, A, W, R, k, a, b, w, rfl, rfl, hR, hF, hk, ha, hb, hw, hL, hB, h⟩
theorem SX9_coefficient_r : ∀ as M rt, SX9_coefficient as M rt → ∃ a r fs, as = eR a :: r ∧ M a = some (.inl (8, fs)) := by
  rintro as M rt ⟨F, A, W, R, k, a, b, w, rfl, rfl, -⟩
  exact ⟨_, _, _, rfl, rfl⟩
def kX9_coefficient : List (Nat × Jvm.ClassFile.Instr × Nat) := [(0, .aload_n 0, 1), (1, .getfield 48, 3), (4, .iconst (-1), 1), (5, .if_icmp .eq 14, 3), (8, .iload 4, 2), (10, .ifCond .lt 9, 3), (13, .iload 4, 2), (15, .iconst 1, 1), (16, .if_icmp .le 7, 3), (19, .ldc2_w 128, 3), (22, .lreturn, 1), (23, .aload_n 0, 1), (24, .getfield 33, 3), (27, .iload_n 1, 1), (28, .invokevirtual 122, 3), (31, .istore 5, 2), (33, .iload_n 2, 1), (34, .iload_n 3, 1), (35, .iconst 3, 1), (36, .invokestatic 69, 3), (39, .istore 6, 2), (41, .iload 5, 2), (43, .iconst (-1), 1), (44, .if_icmp .eq 9, 3), (47, .iload 6, 2), (49, .iconst (-1), 1), (50, .if_icmp .ne 14, 3), (53, .iload 4, 2), (55, .ifCond .ne 7, 3), (58, .lconst 0, 1), (59, .goto 4, 3), (62, .lconst 1, 1), (63, .lreturn, 1), (64, .aload_n 0, 1), (65, .getfield 24, 3), (68, .aload_n 0, 1), (69, .getfield 33, 3), (72, .iload 5, 2), (74, .iload 6, 2), (76, .invokevirtual 130, 3), (79, .aload_n 0, 1), (80, .getfield 33, 3), (83, .iload 5, 2), (85, .iload 5, 2), (87, .invokevirtual 130, 3), (90, .iload 4, 2), (92, .invokevirtual 134, 3), (95, .lreturn, 1)]
theorem kX9_coefficient_0 : cdOf kX9_coefficient 0 = some (.aload_n 0, 1) := by decide +kernel
theorem kX9_coefficient_1 : cdOf kX9_coefficient 1 = some (.getfield 48, 3) := by decide +kernel
theorem kX9_coefficient_4 : cdOf kX9_coefficient 4 = some (.iconst (-1), 1) := by decide +kernel
theorem kX9_coefficient_5 : cdOf kX9_coefficient 5 = some (.if_icmp .eq 14, 3) := by decide +kernel
theorem kX9_coefficient_8 : cdOf kX9_coefficient 8 = some (.iload 4, 2) := by decide +kernel
theorem kX9_coefficient_10 : cdOf kX9_coefficient 10 = some (.ifCond .lt 9, 3) := by decide +kernel
theorem kX9_coefficient_13 : cdOf kX9_coefficient 13 = some (.iload 4, 2) := by decide +kernel
theorem kX9_coefficient_15 : cdOf kX9_coefficient 15 = some (.iconst 1, 1) := by decide +kernel
theorem kX9_coefficient_16 : cdOf kX9_coefficient 16 = some (.if_icmp .le 7, 3) := by decide +kernel
theorem kX9_coefficient_19 : cdOf kX9_coefficient 19 = some (.ldc2_w 128, 3) := by decide +kernel
theorem kX9_coefficient_22 : cdOf kX9_coefficient 22 = some (.lreturn, 1) := by decide +kernel
theorem kX9_coefficient_23 : cdOf kX9_coefficient 23 = some (.aload_n 0, 1) := by decide +kernel
theorem kX9_coefficient_24 : cdOf kX9_coefficient 24 = some (.getfield 33, 3) := by decide +kernel
theorem kX9_coefficient_27 : cdOf kX9_coefficient 27 = some (.iload_n 1, 1) := by decide +kernel
theorem kX9_coefficient_28 : cdOf kX9_coefficient 28 = some (.invokevirtual 122, 3) := by decide +kernel
theorem kX9_coefficient_31 : cdOf kX9_coefficient 31 = some (.istore 5, 2) := by decide +kernel
theorem kX9_coefficient_33 : cdOf kX9_coefficient 33 = some (.iload_n 2, 1) := by decide +kernel
theorem kX9_coefficient_34 : cdOf kX9_coefficient 34 = some (.iload_n 3, 1) := by decide +kernel
theorem kX9_coefficient_35 : cdOf kX9_coefficient 35 = some (.iconst 3, 1) := by decide +kernel
theorem kX9_coefficient_36 : cdOf kX9_coefficient 36 = some (.invokestatic 69, 3) := by decide +kernel
theorem kX9_coefficient_39 : cdOf kX9_coefficient 39 = some (.istore 6, 2) := by decide +kernel
theorem kX9_coefficient_41 : cdOf kX9_coefficient 41 = some (.iload 5, 2) := by decide +kernel
theorem kX9_coefficient_43 : cdOf kX9_coefficient 43 = some (.iconst (-1), 1) := by decide +kernel
theorem kX9_coefficient_44 : cdOf kX9_coefficient 44 = some (.if_icmp .eq 9, 3) := by decide +kernel
theorem kX9_coefficient_47 : cdOf kX9_coefficient 47 = some (.iload 6, 2) := by decide +kernel
theorem kX9_coefficient_49 : cdOf kX9_coefficient 49 = some (.iconst (-1), 1) := by decide +kernel
theorem kX9_coefficient_50 : cdOf kX9_coefficient 50 = some (.if_icmp .ne 14, 3) := by decide +kernel
theorem kX9_coefficient_53 : cdOf kX9_coefficient 53 = some (.iload 4, 2) := by decide +kernel
theorem kX9_coefficient_55 : cdOf kX9_coefficient 55 = some (.ifCond .ne 7, 3) := by decide +kernel
theorem kX9_coefficient_58 : cdOf kX9_coefficient 58 = some (.lconst 0, 1) := by decide +kernel
theorem kX9_coefficient_59 : cdOf kX9_coefficient 59 = some (.goto 4, 3) := by decide +kernel
theorem kX9_coefficient_62 : cdOf kX9_coefficient 62 = some (.lconst 1, 1) := by decide +kernel
theorem kX9_coefficient_63 : cdOf kX9_coefficient 63 = some (.lreturn, 1) := by decide +kernel
theorem kX9_coefficient_64 : cdOf kX9_coefficient 64 = some (.aload_n 0, 1) := by decide +kernel
theorem kX9_coefficient_65 : cdOf kX9_coefficient 65 = some (.getfield 24, 3) := by decide +kernel
theorem kX9_coefficient_68 : cdOf kX9_coefficient 68 = some (.aload_n 0, 1) := by decide +kernel
theorem kX9_coefficient_69 : cdOf kX9_coefficient 69 = some (.getfield 33, 3) := by decide +kernel
theorem kX9_coefficient_72 : cdOf kX9_coefficient 72 = some (.iload 5, 2) := by decide +kernel
theorem kX9_coefficient_74 : cdOf kX9_coefficient 74 = some (.iload 6, 2) := by decide +kernel
theorem kX9_coefficient_76 : cdOf kX9_coefficient 76 = some (.invokevirtual 130, 3) := by decide +kernel
theorem kX9_coefficient_79 : cdOf kX9_coefficient 79 = some (.aload_n 0, 1) := by decide +kernel
theorem kX9_coefficient_80 : cdOf kX9_coefficient 80 = some (.getfield 33, 3) := by decide +kernel
theorem kX9_coefficient_83 : cdOf kX9_coefficient 83 = some (.iload 5, 2) := by decide +kernel
theorem kX9_coefficient_85 : cdOf kX9_coefficient 85 = some (.iload 5, 2) := by decide +kernel
theorem kX9_coefficient_87 : cdOf kX9_coefficient 87 = some (.invokevirtual 130, 3) := by decide +kernel
theorem kX9_coefficient_90 : cdOf kX9_coefficient 90 = some (.iload 4, 2) := by decide +kernel
theorem kX9_coefficient_92 : cdOf kX9_coefficient 92 = some (.invokevirtual 134, 3) := by decide +kernel
theorem kX9_coefficient_95 : cdOf kX9_coefficient 95 = some (.lreturn, 1) := by decide +kernel
set_option maxRecDepth 20000 in
theorem kX9_coefficient_ok : ∀ pc i len, cdOf kX9_coefficient pc = some (i, len) → decode cX9_coefficient pc = .ok (i, len) ∧ stOK 7 i = true ∧ jOK pc i = true ∧ eLen i len = true := cdOf_ok cX9_coefficient 7 kX9_coefficient (by decide +kernel)
def vtX9_coefficient : Nat → Option (Nat × eSp) := fun k => match k with
  | 122 => some (2, SX3_top)
  | 130 => some (3, SX3_part)
  | 134 => some (4, SX1_tell)
  | _ => none
theorem vtX9_coefficient_122 : vtX9_coefficient 122 = some (2, SX3_top) := rfl
theorem vtX9_coefficient_130 : vtX9_coefficient 130 = some (3, SX3_part) := rfl
theorem vtX9_coefficient_134 : vtX9_coefficient 134 = some (4, SX1_tell) := rfl
def stX9_coefficient : Nat → Option (Nat × eSp) := fun k => match k with
  | 69 => some (3, SX5_place)
  | _ => none
theorem stX9_coefficient_69 : stX9_coefficient 69 = some (3, SX5_place) := rfl
abbrev TX9_coefficient : eT := (fl_RX9, cl_RX9, dl_RX9, vtX9_coefficient, stX9_coefficient)
set_option maxRecDepth 20000 in
theorem caX9_coefficient : eCalls RX9 { frames := 5, cells := 0, slots := 0, locals := 113 } TX9_coefficient := by
  refine ⟨fun k n sp h => ?_, fun k n sp h => ?_⟩
  · dsimp only [TX9_coefficient] at h
    unfold vtX9_coefficient at h
    split at h
    · cases h; exact eV_mk mX3_top wX3_top (by decide +kernel) (Or.inl (gW_at 760 (by decide +kernel) rfl))
    · cases h; exact eV_mk mX3_part wX3_part (by decide +kernel) (Or.inl (gW_at 774 (by decide +kernel) rfl))
    · cases h; exact eV_mk mX1_tell wX1_tell (by decide +kernel) (Or.inl (gW_at 775 (by decide +kernel) rfl))
    · cases h
  · dsimp only [TX9_coefficient] at h
    unfold stX9_coefficient at h
    split at h
    · cases h; exact eS_mk mX5_place wX5_place (by decide +kernel) (Or.inl (gW_at 773 (by decide +kernel) rfl))
    · cases h
set_option maxRecDepth 100000 in
set_option maxHeartbeats 4000000 in
theorem sX9_coefficient : eSafe TX9_coefficient (cdOf kX9_coefficient) 7 (some .long) SX9_coefficient := by
  intro K rt hK as M h
  obtain ⟨F, A, W, R, k, a, b, w, rfl, rfl, hR, hF, hk, ha, hb, hw, hL, hB, h⟩ := h
  refine ⟨by simp [eE], ?_⟩
  obtain ⟨h1, h2, h3⟩ := h
  have op := oP_w (a := a) (b := b) (g := 3) ⟨by decide, by decide⟩
  have tw := tp_w (A 2) k 10 0 0
  obtain ⟨o, ho⟩ : ∃ o, oP a b 3 = o := ⟨_, rfl⟩
  obtain ⟨t, ht⟩ : ∃ t, tpF (A 2) k 10 0 0 = t := ⟨_, rfl⟩
  rw [ho] at op h2 h3
  rw [ht] at tw h2 h3
  simp only [eLoc, eE, List.length_cons, List.length_nil, List.replicate, List.cons_append, List.nil_append, Nat.reduceAdd, Nat.reduceSub]
  refine x_aload_n hK kX9_coefficient_0 (q := 1) rfl rfl ?_
  refine x_getfield hK kX9_coefficient_1 (q := 4) rfl (gX9_48 ?_)
  refine x_iconst hK kX9_coefficient_4 (q := 5) rfl ?_
  refine x_icmp_eq hK kX9_coefficient_5 (q := 8) rfl (tg := 19) rfl (by exact ⟨hF, by decide⟩) (fun c5 => ?_) (fun c5 => ?_)
  · refine x_ldc2_w hK kX9_coefficient_19 (q := 22) rfl lc2_RX9_128 ?_
    refine x_lreturn hK kX9_coefficient_22 (by first | trivial | exact Or.inl rfl | exact Or.inr rfl) ?_
    exact h1 (by omega)
  · refine x_iload hK kX9_coefficient_8 (q := 10) rfl rfl ?_
    refine x_if_lt hK kX9_coefficient_10 (q := 13) rfl (tg := 19) rfl (by exact hw) (fun c10 => ?_) (fun c10 => ?_)
    · refine x_ldc2_w hK kX9_coefficient_19 (q := 22) rfl lc2_RX9_128 ?_
      refine x_lreturn hK kX9_coefficient_22 (by first | trivial | exact Or.inl rfl | exact Or.inr rfl) ?_
      exact h1 (by omega)
    · refine x_iload hK kX9_coefficient_13 (q := 15) rfl rfl ?_
      refine x_iconst hK kX9_coefficient_15 (q := 16) rfl ?_
      refine x_icmp_le hK kX9_coefficient_16 (q := 19) rfl (tg := 23) rfl (by exact ⟨hw, by decide⟩) (fun c16 => ?_) (fun c16 => ?_)
      · refine x_aload_n hK kX9_coefficient_23 (q := 24) rfl rfl ?_
        refine x_getfield hK kX9_coefficient_24 (q := 27) rfl (gX9_33 ?_)
        refine x_iload_n hK kX9_coefficient_27 (q := 28) rfl rfl ?_
        refine x_cv2 hK kX9_coefficient_28 (q := 31) rfl (vtX9_coefficient_122) (Nat.le_of_ble_eq_true rfl) ?_
        refine SX3_top_i hk hL ?_
        rw [ht]
        refine x_istore hK kX9_coefficient_31 (q := 33) rfl ?_
        refine x_iload_n hK kX9_coefficient_33 (q := 34) rfl rfl ?_
        refine x_iload_n hK kX9_coefficient_34 (q := 35) rfl rfl ?_
        refine x_iconst hK kX9_coefficient_35 (q := 36) rfl ?_
        simp only [lS, lS2, clr_0, clr_I, clr_L, clr_R]
        refine x_cs3 hK kX9_coefficient_36 (q := 39) rfl (stX9_coefficient_69) (Nat.le_of_ble_eq_true rfl) ?_
        refine SX5_place_i ha hb ⟨by decide, by decide⟩ ?_
        rw [ho]
        refine x_istore hK kX9_coefficient_39 (q := 41) rfl ?_
        refine x_iload hK kX9_coefficient_41 (q := 43) rfl rfl ?_
        refine x_iconst hK kX9_coefficient_43 (q := 44) rfl ?_
        simp only [lS, lS2, clr_0, clr_I, clr_L, clr_R]
        refine x_icmp_eq hK kX9_coefficient_44 (q := 47) rfl (tg := 53) rfl (by exact ⟨⟨by omega, by omega⟩, by decide⟩) (fun c44 => ?_) (fun c44 => ?_)
        · refine x_iload hK kX9_coefficient_53 (q := 55) rfl rfl ?_
          refine x_if_ne hK kX9_coefficient_55 (q := 58) rfl (tg := 62) rfl (by exact hw) (fun c55 => ?_) (fun c55 => ?_)
          · have h2 := h2 (by omega) (by omega)
            rw [if_neg (by omega)] at h2
            refine x_lconst1 hK kX9_coefficient_62 (q := 63) rfl ?_
            refine x_lreturn hK kX9_coefficient_63 (by first | trivial | exact Or.inl rfl | exact Or.inr rfl) ?_
            exact h2
          · have h2 := h2 (by omega) (by omega)
            rw [if_pos (by omega)] at h2
            refine x_lconst0 hK kX9_coefficient_58 (q := 59) rfl ?_
            refine x_goto hK kX9_coefficient_59 (tg := 63) rfl ?_
            refine x_lreturn hK kX9_coefficient_63 (by first | trivial | exact Or.inl rfl | exact Or.inr rfl) ?_
            exact h2
        · refine x_iload hK kX9_coefficient_47 (q := 49) rfl rfl ?_
          refine x_iconst hK kX9_coefficient_49 (q := 50) rfl ?_
          refine x_icmp_ne hK kX9_coefficient_50 (q := 53) rfl (tg := 64) rfl (by exact ⟨⟨by omega, by omega⟩, by decide⟩) (fun c50 => ?_) (fun c50 => ?_)
          · refine x_aload_n hK kX9_coefficient_64 (q := 65) rfl rfl ?_
            refine x_getfield hK kX9_coefficient_65 (q := 68) rfl (gX9_24 ?_)
            refine x_aload_n hK kX9_coefficient_68 (q := 69) rfl rfl ?_
            refine x_getfield hK kX9_coefficient_69 (q := 72) rfl (gX9_33 ?_)
            refine x_iload hK kX9_coefficient_72 (q := 74) rfl rfl ?_
            refine x_iload hK kX9_coefficient_74 (q := 76) rfl rfl ?_
            refine x_cv3 hK kX9_coefficient_76 (q := 79) rfl (vtX9_coefficient_130) (Nat.le_of_ble_eq_true rfl) ?_
            obtain ⟨T, rfl⟩ : ∃ T : Nat, t = T := ⟨t.toNat, by omega⟩
            obtain ⟨Q, rfl⟩ : ∃ Q : Nat, o = Q := ⟨o.toNat, by omega⟩
            have h3 := h3 (by omega) (by omega)
            rw [Int.toNat_natCast, Int.toNat_natCast] at h3
            have T9 : T < 10 := by omega
            have Q9 : Q < 10 := by omega
            have lT : A 2 T = 1 := by
              rcases tw with q | q
              · omega
              · have q2 := q.2.2
                rw [Int.toNat_natCast] at q2
                unfold elb ldb at q2
                simp only [Bool.and_eq_true, decide_eq_true_eq] at q2
                exact q2.1.1.2
            obtain ⟨b0, b1⟩ := hB T T9 lT
            have rT : rb T = 10 + 10 * T := if_pos (by omega)
            refine SX3_part_i (t := T) (q := Q) T9 Q9 hL lT ?_
            refine x_aload_n hK kX9_coefficient_79 (q := 80) rfl rfl ?_
            refine x_getfield hK kX9_coefficient_80 (q := 83) rfl (gX9_33 ?_)
            refine x_iload hK kX9_coefficient_83 (q := 85) rfl rfl ?_
            refine x_iload hK kX9_coefficient_85 (q := 87) rfl rfl ?_
            refine x_cv3 hK kX9_coefficient_87 (q := 90) rfl (vtX9_coefficient_130) (Nat.le_of_ble_eq_true rfl) ?_
            refine SX3_part_i (t := T) (q := T) T9 T9 hL lT ?_
            refine x_iload hK kX9_coefficient_90 (q := 92) rfl rfl ?_
            refine x_cv4 hK kX9_coefficient_92 (q := 95) rfl (vtX9_coefficient_134) (Nat.le_of_ble_eq_true rfl) ?_
            refine SX1_tell_i (a := rb T + Q) (b := rb T + T) (by omega) (by omega) (by omega) (by omega) (hR.1 T (by omega) Q Q9) (hR.1 T (by omega) T T9) b0 (by rw [c1922]; exact Int.lt_of_le_of_lt (b1 Q Q9) (two_m (by decide))) (by rw [c1922]; exact Int.lt_of_le_of_lt (b1 T T9) (two_m (by decide))) hw hR.2 (fun W' f1 d1 => ?_)
            refine x_lreturn hK kX9_coefficient_95 (by first | trivial | exact Or.inl rfl | exact Or.inr rfl) ?_
            exact h3 W' ⟨fun r hr c hc => by
              have rr : rb r = 10 + 10 * r := if_pos hr
              rw [f1 _ (by omega)]
              exact hR.1 r hr c hc, d1⟩ (fun t ht => f1 t (by omega))
          · refine x_iload hK kX9_coefficient_53 (q := 55) rfl rfl ?_
            refine x_if_ne hK kX9_coefficient_55 (q := 58) rfl (tg := 62) rfl (by exact hw) (fun c55 => ?_) (fun c55 => ?_)
            · have h2 := h2 (by omega) (by omega)
              rw [if_neg (by omega)] at h2
              refine x_lconst1 hK kX9_coefficient_62 (q := 63) rfl ?_
              refine x_lreturn hK kX9_coefficient_63 (by first | trivial | exact Or.inl rfl | exact Or.inr rfl) ?_
              exact h2
            · have h2 := h2 (by omega) (by omega)
              rw [if_pos (by omega)] at h2
              refine x_lconst0 hK kX9_coefficient_58 (q := 59) rfl ?_
              refine x_goto hK kX9_coefficient_59 (tg := 63) rfl ?_
              refine x_lreturn hK kX9_coefficient_63 (by first | trivial | exact Or.inl rfl | exact Or.inr rfl) ?_
              exact h2
      · refine x_ldc2_w hK kX9_coefficient_19 (q := 22) rfl lc2_RX9_128 ?_
        refine x_lreturn hK kX9_coefficient_22 (by first | trivial | exact Or.inl rfl | exact Or.inr rfl) ?_
        exact h1 (by omega)
set_option maxRecDepth 20000 in
theorem mX9_coefficient : eMet yX9_coefficient cX9_coefficient 7 (some .long) 5 113 SX9_coefficient := eMet_of (by decide +kernel) sX9_coefficient kX9_coefficient_ok caX9_coefficient tb_RX9
theorem wX9_coefficient : eWV yX9_coefficient cX9_coefficient 7 (some .long) 5 8 SX9_coefficient := ⟨(gW_at 771 (by decide +kernel) rfl), (gW_at 79 (by decide +kernel) rfl), (gW_at 769 (by decide +kernel) rfl), ⟨_, rfl, (gW_at 770 (by decide +kernel) rfl)⟩, by decide +kernel, SX9_coefficient_r⟩
