/-! Wholes: slack, shiftUp, shiftDown. -/
theorem zAnd_b {a : Int} (h0 : 0 ≤ a) (h1 : a < 2147483648) : zAnd a 1073741824 = if 1073741824 ≤ a then 1073741824 else 0 := by
  unfold zAnd
  have e : (Int32.ofInt a &&& Int32.ofInt 1073741824) = Int32.ofInt (if 1073741824 ≤ a then 1073741824 else 0) := by
    apply Int32.toBitVec_inj.mp
    apply BitVec.eq_of_toNat_eq
    rw [Int32.toBitVec_and, BitVec.toNat_and, zb_tn, zb_tn, zb_tn, show ((1073741824 : Int) % 4294967296).toNat = 2 ^ 30 by decide]
    have e1 : (a % 4294967296).toNat = a.toNat := by rw [Int.emod_eq_of_lt h0 (by omega)]
    rw [e1]
    obtain ⟨x, hx⟩ : ∃ x, a.toNat = x := ⟨_, rfl⟩
    have hb : x.testBit 30 = decide (1073741824 ≤ a) := by
      rw [Nat.testBit_eq_decide_div_mod_eq]
      rcases Int.lt_or_le a 1073741824 with g | g
      · have : x / 1073741824 = 0 := by omega
        rw [show x / 2 ^ 30 = 0 from this, decide_eq_false (show ¬ 1073741824 ≤ a by omega)]
        rfl
      · have : x / 1073741824 = 1 := by omega
        rw [show x / 2 ^ 30 = 1 from this, decide_eq_true g]
        rfl
    rw [hx]
    apply Nat.eq_of_testBit_eq
    intro j
    rw [Nat.testBit_and, Nat.testBit_two_pow]
    rcases Int.lt_or_le a 1073741824 with g | g
    · rw [if_neg (by omega), show ((0 : Int) % 4294967296).toNat = 0 by decide, Nat.zero_testBit]
      by_cases e2 : 30 = j
      · rw [← e2, hb, decide_eq_false (show ¬ 1073741824 ≤ a by omega)]
        rfl
      · rw [decide_eq_false e2, Bool.and_false]
    · rw [if_pos g, show ((1073741824 : Int) % 4294967296).toNat = 2 ^ 30 by decide, Nat.testBit_two_pow]
      by_cases e2 : 30 = j
      · rw [← e2, hb, decide_eq_true g]
        rfl
      · rw [decide_eq_false e2, Bool.and_false]
  rw [e, z_i]
  split
  · decide
  · decide
theorem p2_pos (b : Nat) : (0 : Int) < 2 ^ b := Int.pow_pos (by decide)
theorem p2_30 {b : Nat} (h : b ≤ 30) : (2 : Int) ^ b ≤ 1073741824 := by
  have := zb_ple h
  rw [show (2 : Int) ^ 30 = 1073741824 by decide] at this
  exact this
def SX8_slack : eSp := fun as M rt => ∃ (F : Nat → Int) (A W : Nat → Int → Int) (k n : Nat), as = [eR (2, k)] ∧ M = cC F A W ∧ (k < 332) ∧ (0 < n) ∧ (n ≤ lw k) ∧ (W k 80 = n) ∧ (0 < W k ((n : Int) - 1) ∧ W k ((n : Int) - 1) < 2147483648) ∧ (∀ b : Nat, b ≤ 30 → 1073741824 ≤ W k ((n : Int) - 1) * 2 ^ b → W k ((n : Int) - 1) * 2 ^ b < 2147483648 → rt (some (eI b)) (cC F A W))
theorem SX8_slack_i {F : Nat → Int} {A W : Nat → Int → Int} {k n : Nat} {rt : Option eV → eM → Prop} (hk : k < 332) (h0 : 0 < n) (h8 : n ≤ lw k) (hu : W k 80 = n) (ht : 0 < W k ((n : Int) - 1) ∧ W k ((n : Int) - 1) < 2147483648) (h : ∀ b : Nat, b ≤ 30 → 1073741824 ≤ W k ((n : Int) - 1) * 2 ^ b → W k ((n : Int) - 1) * 2 ^ b < 2147483648 → rt (some (eI b)) (cC F A W)) : SX8_slack [eR (2, k)] (cC F A W) rt := ⟨F, A, W, k, n, rfl, rfl, hk, h0, h8, hu, ht, h⟩
theorem SX8_slack_r : ∀ as M rt, SX8_slack as M rt → ∃ a r fs, as = eR a :: r ∧ M a = some (.inl (7, fs)) := by
  rintro as M rt ⟨F, A, W, k, n, rfl, rfl, hk, -⟩
  exact ⟨_, _, _, rfl, cC_2 hk⟩
def kX8_slack : List (Nat × Jvm.ClassFile.Instr × Nat) := [(0, .iconst 0, 1), (1, .istore_n 1, 1), (2, .aload_n 0, 1), (3, .getfield 9, 3), (6, .ifCond .le 48, 3), (9, .aload_n 0, 1), (10, .getfield 9, 3), (13, .aload_n 0, 1), (14, .getfield 22, 3), (17, .arraylength, 1), (18, .if_icmp .gt 36, 3), (21, .aload_n 0, 1), (22, .getfield 22, 3), (25, .aload_n 0, 1), (26, .getfield 9, 3), (29, .iconst 1, 1), (30, .isub, 1), (31, .iaload, 1), (32, .istore_n 2, 1), (33, .iload_n 1, 1), (34, .bipush 30, 2), (36, .if_icmp .ge 18, 3), (39, .iload_n 2, 1), (40, .iload_n 1, 1), (41, .ishl, 1), (42, .ldc 51, 2), (44, .iand, 1), (45, .ifCond .ne 9, 3), (48, .iinc 1 1, 3), (51, .goto (-18), 3), (54, .iload_n 1, 1), (55, .ireturn, 1)]
theorem kX8_slack_0 : cdOf kX8_slack 0 = some (.iconst 0, 1) := by decide +kernel
theorem kX8_slack_1 : cdOf kX8_slack 1 = some (.istore_n 1, 1) := by decide +kernel
theorem kX8_slack_2 : cdOf kX8_slack 2 = some (.aload_n 0, 1) := by decide +kernel
theorem kX8_slack_3 : cdOf kX8_slack 3 = some (.getfield 9, 3) := by decide +kernel
theorem kX8_slack_6 : cdOf kX8_slack 6 = some (.ifCond .le 48, 3) := by decide +kernel
theorem kX8_slack_9 : cdOf kX8_slack 9 = some (.aload_n 0, 1) := by decide +kernel
theorem kX8_slack_10 : cdOf kX8_slack 10 = some (.getfield 9, 3) := by decide +kernel
theorem kX8_slack_13 : cdOf kX8_slack 13 = some (.aload_n 0, 1) := by decide +kernel
theorem kX8_slack_14 : cdOf kX8_slack 14 = some (.getfield 22, 3) := by decide +kernel
theorem kX8_slack_17 : cdOf kX8_slack 17 = some (.arraylength, 1) := by decide +kernel
theorem kX8_slack_18 : cdOf kX8_slack 18 = some (.if_icmp .gt 36, 3) := by decide +kernel
theorem kX8_slack_21 : cdOf kX8_slack 21 = some (.aload_n 0, 1) := by decide +kernel
theorem kX8_slack_22 : cdOf kX8_slack 22 = some (.getfield 22, 3) := by decide +kernel
theorem kX8_slack_25 : cdOf kX8_slack 25 = some (.aload_n 0, 1) := by decide +kernel
theorem kX8_slack_26 : cdOf kX8_slack 26 = some (.getfield 9, 3) := by decide +kernel
theorem kX8_slack_29 : cdOf kX8_slack 29 = some (.iconst 1, 1) := by decide +kernel
theorem kX8_slack_30 : cdOf kX8_slack 30 = some (.isub, 1) := by decide +kernel
theorem kX8_slack_31 : cdOf kX8_slack 31 = some (.iaload, 1) := by decide +kernel
theorem kX8_slack_32 : cdOf kX8_slack 32 = some (.istore_n 2, 1) := by decide +kernel
theorem kX8_slack_33 : cdOf kX8_slack 33 = some (.iload_n 1, 1) := by decide +kernel
theorem kX8_slack_34 : cdOf kX8_slack 34 = some (.bipush 30, 2) := by decide +kernel
theorem kX8_slack_36 : cdOf kX8_slack 36 = some (.if_icmp .ge 18, 3) := by decide +kernel
theorem kX8_slack_39 : cdOf kX8_slack 39 = some (.iload_n 2, 1) := by decide +kernel
theorem kX8_slack_40 : cdOf kX8_slack 40 = some (.iload_n 1, 1) := by decide +kernel
theorem kX8_slack_41 : cdOf kX8_slack 41 = some (.ishl, 1) := by decide +kernel
theorem kX8_slack_42 : cdOf kX8_slack 42 = some (.ldc 51, 2) := by decide +kernel
theorem kX8_slack_44 : cdOf kX8_slack 44 = some (.iand, 1) := by decide +kernel
theorem kX8_slack_45 : cdOf kX8_slack 45 = some (.ifCond .ne 9, 3) := by decide +kernel
theorem kX8_slack_48 : cdOf kX8_slack 48 = some (.iinc 1 1, 3) := by decide +kernel
theorem kX8_slack_51 : cdOf kX8_slack 51 = some (.goto (-18), 3) := by decide +kernel
theorem kX8_slack_54 : cdOf kX8_slack 54 = some (.iload_n 1, 1) := by decide +kernel
theorem kX8_slack_55 : cdOf kX8_slack 55 = some (.ireturn, 1) := by decide +kernel
set_option maxRecDepth 20000 in
theorem kX8_slack_ok : ∀ pc i len, cdOf kX8_slack pc = some (i, len) → decode cX8_slack pc = .ok (i, len) ∧ stOK 3 i = true ∧ jOK pc i = true ∧ eLen i len = true := cdOf_ok cX8_slack 3 kX8_slack (by decide +kernel)
def vtX8_slack : Nat → Option (Nat × eSp) := fun _ => none
def stX8_slack : Nat → Option (Nat × eSp) := fun _ => none
abbrev TX8_slack : eT := (fl_RX8, cl_RX8, dl_RX8, vtX8_slack, stX8_slack)
set_option maxRecDepth 20000 in
theorem caX8_slack : eCalls RX8 { frames := 0, cells := 0, slots := 0, locals := 0 } TX8_slack := by
  refine ⟨fun k n sp h => ?_, fun k n sp h => ?_⟩
  · cases h
  · cases h
set_option maxRecDepth 100000 in
set_option maxHeartbeats 4000000 in
theorem sX8_slack : eSafe TX8_slack (cdOf kX8_slack) 3 (some .int) SX8_slack := by
  intro K rt hK as M h
  obtain ⟨F, A, W, k, n, rfl, rfl, hk, h0, h8, hu, ht, h⟩ := h
  refine ⟨by simp [eE], ?_⟩
  obtain ⟨t, ht'⟩ : ∃ t, W k ((n : Int) - 1) = t := ⟨_, rfl⟩
  rw [ht'] at ht h
  have lk := lw_b k
  have loop : ∀ (d b : Nat), b + d = 30 → t * 2 ^ b < 2147483648 → K 33 [some (eR (2, k)), some (eI b), some (eI t)] [] (cC F A W) := by
    intro d
    induction d with
    | zero =>
      intro b hd hb
      have : b = 30 := by omega
      subst this
      refine x_iload_n hK kX8_slack_33 (q := 34) rfl rfl ?_
      refine x_bipush hK kX8_slack_34 (q := 36) rfl (by decide) ?_
      refine x_icmp_ge hK kX8_slack_36 (q := 39) rfl (tg := 54) rfl (by refine ⟨?_, ?_⟩ <;> omega) (fun c36 => ?_) (fun c36 => ?_)
      · refine x_iload_n hK kX8_slack_54 (q := 55) rfl rfl ?_
        refine x_ireturn hK kX8_slack_55 (by first | trivial | exact Or.inl rfl | exact Or.inr rfl) ?_
        have p30 : (2 : Int) ^ 30 = 1073741824 := by decide
        exact h 30 (by omega) (by rw [p30]; omega) hb
      · exfalso; omega
    | succ d ih =>
      intro b hd hb
      have p := p2_pos b
      have q : 0 ≤ t * 2 ^ b := Int.mul_nonneg (by omega) (by omega)
      have e := zShl_n t b (by omega) ⟨by omega, by omega⟩
      have e2 := zAnd_b q hb
      refine x_iload_n hK kX8_slack_33 (q := 34) rfl rfl ?_
      refine x_bipush hK kX8_slack_34 (q := 36) rfl (by decide) ?_
      refine x_icmp_ge hK kX8_slack_36 (q := 39) rfl (tg := 54) rfl (by refine ⟨?_, ?_⟩ <;> omega) (fun c36 => ?_) (fun c36 => ?_)
      · exfalso; omega
      · refine x_iload_n hK kX8_slack_39 (q := 40) rfl rfl ?_
        refine x_iload_n hK kX8_slack_40 (q := 41) rfl rfl ?_
        refine x_ishl hK kX8_slack_41 (q := 42) rfl ?_
        refine x_ldc hK kX8_slack_42 (q := 44) rfl lc_RX8_51 ?_
        rw [e]
        refine x_iand hK kX8_slack_44 (q := 45) rfl ?_
        rw [e2]
        refine x_if_ne hK kX8_slack_45 (q := 48) rfl (tg := 54) rfl (by split <;> decide) (fun c45 => ?_) (fun c45 => ?_)
        · have g : 1073741824 ≤ t * 2 ^ b := by
            rcases Int.lt_or_le (t * 2 ^ b) 1073741824 with g | g
            · rw [if_neg (by omega)] at c45; exact absurd rfl c45
            · exact g
          refine x_iload_n hK kX8_slack_54 (q := 55) rfl rfl ?_
          refine x_ireturn hK kX8_slack_55 (by first | trivial | exact Or.inl rfl | exact Or.inr rfl) ?_
          exact h b (by omega) g hb
        · have g : t * 2 ^ b < 1073741824 := by
            rcases Int.lt_or_le (t * 2 ^ b) 1073741824 with g | g
            · exact g
            · rw [if_pos g] at c45; exact absurd (by decide) c45
          refine x_iinc hK kX8_slack_48 (q := 51) rfl rfl ?_
          simp only [lS, lS2, clr_0, clr_I, clr_L, clr_R]
          refine x_goto hK kX8_slack_51 (tg := 33) rfl ?_
          rw [show (b : Int) + 1 = ((b + 1 : Nat) : Int) by omega]
          exact ih (b + 1) (by omega) (by rw [Int.pow_succ, ← Int.mul_assoc]; omega)
  simp only [eLoc, eE, List.length_cons, List.length_nil, List.replicate, List.cons_append, List.nil_append, Nat.reduceAdd, Nat.reduceSub]
  refine x_iconst hK kX8_slack_0 (q := 1) rfl ?_
  refine x_istore_n hK kX8_slack_1 (q := 2) (jn := 1) rfl rfl ?_
  refine x_aload_n hK kX8_slack_2 (q := 3) rfl rfl ?_
  refine x_getfield hK kX8_slack_3 (q := 6) rfl (gX8_9 ?_)
  simp only [lS, lS2, clr_0, clr_I, clr_L, clr_R]
  rw [hu]
  refine x_if_le hK kX8_slack_6 (q := 9) rfl (tg := 54) rfl (by omega) (fun c6 => ?_) (fun c6 => ?_)
  · exfalso; omega
  · refine x_aload_n hK kX8_slack_9 (q := 10) rfl rfl ?_
    refine x_getfield hK kX8_slack_10 (q := 13) rfl (gX8_9 ?_)
    refine x_aload_n hK kX8_slack_13 (q := 14) rfl rfl ?_
    refine x_getfield hK kX8_slack_14 (q := 17) rfl (gX8_22 ?_)
    refine x_arraylength hK kX8_slack_17 (q := 18) rfl (nC7_0 ?_)
    rw [hu]
    refine x_icmp_gt hK kX8_slack_18 (q := 21) rfl (tg := 54) rfl (by refine ⟨?_, ?_⟩ <;> omega) (fun c18 => ?_) (fun c18 => ?_)
    · exfalso; omega
    · refine x_aload_n hK kX8_slack_21 (q := 22) rfl rfl ?_
      refine x_getfield hK kX8_slack_22 (q := 25) rfl (gX8_22 ?_)
      refine x_aload_n hK kX8_slack_25 (q := 26) rfl rfl ?_
      refine x_getfield hK kX8_slack_26 (q := 29) rfl (gX8_9 ?_)
      rw [hu]
      refine x_iconst hK kX8_slack_29 (q := 30) rfl ?_
      refine x_isub hK kX8_slack_30 (q := 31) rfl ?_
      refine x_iaload hK kX8_slack_31 (q := 32) rfl (aC7_0 (by refine ⟨?_, ?_⟩ <;> omega) ?_)
      rw [ht']
      refine x_istore_n hK kX8_slack_32 (q := 33) (jn := 2) rfl rfl ?_
      simp only [lS, lS2, clr_0, clr_I, clr_L, clr_R]
      exact loop 30 0 rfl (by rw [Int.pow_zero]; omega)
set_option maxRecDepth 20000 in
theorem mX8_slack : eMet yX8_slack cX8_slack 3 (some .int) 0 0 SX8_slack := eMet_of (by decide +kernel) sX8_slack kX8_slack_ok caX8_slack tb_RX8
theorem wX8_slack : eWV yX8_slack cX8_slack 3 (some .int) 1 7 SX8_slack := ⟨(gW_at 485 (by decide +kernel) rfl), (gW_at 81 (by decide +kernel) rfl), (gW_at 483 (by decide +kernel) rfl), ⟨_, rfl, (gW_at 484 (by decide +kernel) rfl)⟩, by decide +kernel, SX8_slack_r⟩
-- shiftUp
def SX8_shiftUp : eSp := fun as M rt => ∃ (F : Nat → Int) (A W : Nat → Int → Int) (k b : Nat) (z : Int), as = [eR (2, k), eI b] ∧ M = cC F A W ∧ (k < 332) ∧ (b ≤ 30) ∧ (wq (lw k) (W k) z) ∧ (zAbs z * 2 ^ b < cB ^ lw k) ∧ (∀ f, wq (lw k) f (z * 2 ^ b) → rt none (cC F A (uA W k f)))
theorem SX8_shiftUp_i {F : Nat → Int} {A W : Nat → Int → Int} {k b : Nat} {z : Int} {rt : Option eV → eM → Prop} (hk : k < 332) (hb : b ≤ 30) (hz : wq (lw k) (W k) z) (hf : zAbs z * 2 ^ b < cB ^ lw k) (h : ∀ f, wq (lw k) f (z * 2 ^ b) → rt none (cC F A (uA W k f))) : SX8_shiftUp [eR (2, k), eI b] (cC F A W) rt := ⟨F, A, W, k, b, z, rfl, rfl, hk, hb, hz, hf, h⟩
theorem SX8_shiftUp_r : ∀ as M rt, SX8_shiftUp as M rt → ∃ a r fs, as = eR a :: r ∧ M a = some (.inl (7, fs)) := by
  rintro as M rt ⟨F, A, W, k, b, z, rfl, rfl, hk, -⟩
  exact ⟨_, _, _, rfl, cC_2 hk⟩
def kX8_shiftUp : List (Nat × Jvm.ClassFile.Instr × Nat) := [(0, .lconst 0, 1), (1, .lstore_n 2, 1), (2, .iconst 0, 1), (3, .istore 4, 2), (5, .iload 4, 2), (7, .aload_n 0, 1), (8, .getfield 9, 3), (11, .if_icmp .ge 53, 3), (14, .iload 4, 2), (16, .aload_n 0, 1), (17, .getfield 22, 3), (20, .arraylength, 1), (21, .if_icmp .ge 43, 3), (24, .aload_n 0, 1), (25, .getfield 22, 3), (28, .iload 4, 2), (30, .iaload, 1), (31, .i2l, 1), (32, .iload_n 1, 1), (33, .lshl, 1), (34, .lload_n 2, 1), (35, .lor, 1), (36, .lstore 5, 2), (38, .aload_n 0, 1), (39, .getfield 22, 3), (42, .iload 4, 2), (44, .lload 5, 2), (46, .ldc2_w 43, 3), (49, .land, 1), (50, .l2i, 1), (51, .iastore, 1), (52, .lload 5, 2), (54, .bipush 31, 2), (56, .lshr, 1), (57, .lstore_n 2, 1), (58, .iinc 4 1, 3), (61, .goto (-56), 3), (64, .lload_n 2, 1), (65, .lconst 0, 1), (66, .lcmp, 1), (67, .ifCond .eq 36, 3), (70, .aload_n 0, 1), (71, .getfield 9, 3), (74, .aload_n 0, 1), (75, .getfield 22, 3), (78, .arraylength, 1), (79, .if_icmp .ge 24, 3), (82, .aload_n 0, 1), (83, .getfield 22, 3), (86, .aload_n 0, 1), (87, .getfield 9, 3), (90, .lload_n 2, 1), (91, .l2i, 1), (92, .iastore, 1), (93, .aload_n 0, 1), (94, .dup, 1), (95, .getfield 9, 3), (98, .iconst 1, 1), (99, .iadd, 1), (100, .putfield 9, 3), (103, .return_, 1)]
theorem kX8_shiftUp_0 : cdOf kX8_shiftUp 0 = some (.lconst 0, 1) := by decide +kernel
theorem kX8_shiftUp_1 : cdOf kX8_shiftUp 1 = some (.lstore_n 2, 1) := by decide +kernel
theorem kX8_shiftUp_2 : cdOf kX8_shiftUp 2 = some (.iconst 0, 1) := by decide +kernel
theorem kX8_shiftUp_3 : cdOf kX8_shiftUp 3 = some (.istore 4, 2) := by decide +kernel
theorem kX8_shiftUp_5 : cdOf kX8_shiftUp 5 = some (.iload 4, 2) := by decide +kernel
theorem kX8_shiftUp_7 : cdOf kX8_shiftUp 7 = some (.aload_n 0, 1) := by decide +kernel
theorem kX8_shiftUp_8 : cdOf kX8_shiftUp 8 = some (.getfield 9, 3) := by decide +kernel
theorem kX8_shiftUp_11 : cdOf kX8_shiftUp 11 = some (.if_icmp .ge 53, 3) := by decide +kernel
theorem kX8_shiftUp_14 : cdOf kX8_shiftUp 14 = some (.iload 4, 2) := by decide +kernel
theorem kX8_shiftUp_16 : cdOf kX8_shiftUp 16 = some (.aload_n 0, 1) := by decide +kernel
theorem kX8_shiftUp_17 : cdOf kX8_shiftUp 17 = some (.getfield 22, 3) := by decide +kernel
theorem kX8_shiftUp_20 : cdOf kX8_shiftUp 20 = some (.arraylength, 1) := by decide +kernel
theorem kX8_shiftUp_21 : cdOf kX8_shiftUp 21 = some (.if_icmp .ge 43, 3) := by decide +kernel
theorem kX8_shiftUp_24 : cdOf kX8_shiftUp 24 = some (.aload_n 0, 1) := by decide +kernel
theorem kX8_shiftUp_25 : cdOf kX8_shiftUp 25 = some (.getfield 22, 3) := by decide +kernel
theorem kX8_shiftUp_28 : cdOf kX8_shiftUp 28 = some (.iload 4, 2) := by decide +kernel
theorem kX8_shiftUp_30 : cdOf kX8_shiftUp 30 = some (.iaload, 1) := by decide +kernel
theorem kX8_shiftUp_31 : cdOf kX8_shiftUp 31 = some (.i2l, 1) := by decide +kernel
theorem kX8_shiftUp_32 : cdOf kX8_shiftUp 32 = some (.iload_n 1, 1) := by decide +kernel
theorem kX8_shiftUp_33 : cdOf kX8_shiftUp 33 = some (.lshl, 1) := by decide +kernel
theorem kX8_shiftUp_34 : cdOf kX8_shiftUp 34 = some (.lload_n 2, 1) := by decide +kernel
theorem kX8_shiftUp_35 : cdOf kX8_shiftUp 35 = some (.lor, 1) := by decide +kernel
theorem kX8_shiftUp_36 : cdOf kX8_shiftUp 36 = some (.lstore 5, 2) := by decide +kernel
theorem kX8_shiftUp_38 : cdOf kX8_shiftUp 38 = some (.aload_n 0, 1) := by decide +kernel
theorem kX8_shiftUp_39 : cdOf kX8_shiftUp 39 = some (.getfield 22, 3) := by decide +kernel
theorem kX8_shiftUp_42 : cdOf kX8_shiftUp 42 = some (.iload 4, 2) := by decide +kernel
theorem kX8_shiftUp_44 : cdOf kX8_shiftUp 44 = some (.lload 5, 2) := by decide +kernel
theorem kX8_shiftUp_46 : cdOf kX8_shiftUp 46 = some (.ldc2_w 43, 3) := by decide +kernel
theorem kX8_shiftUp_49 : cdOf kX8_shiftUp 49 = some (.land, 1) := by decide +kernel
theorem kX8_shiftUp_50 : cdOf kX8_shiftUp 50 = some (.l2i, 1) := by decide +kernel
theorem kX8_shiftUp_51 : cdOf kX8_shiftUp 51 = some (.iastore, 1) := by decide +kernel
theorem kX8_shiftUp_52 : cdOf kX8_shiftUp 52 = some (.lload 5, 2) := by decide +kernel
theorem kX8_shiftUp_54 : cdOf kX8_shiftUp 54 = some (.bipush 31, 2) := by decide +kernel
theorem kX8_shiftUp_56 : cdOf kX8_shiftUp 56 = some (.lshr, 1) := by decide +kernel
theorem kX8_shiftUp_57 : cdOf kX8_shiftUp 57 = some (.lstore_n 2, 1) := by decide +kernel
theorem kX8_shiftUp_58 : cdOf kX8_shiftUp 58 = some (.iinc 4 1, 3) := by decide +kernel
theorem kX8_shiftUp_61 : cdOf kX8_shiftUp 61 = some (.goto (-56), 3) := by decide +kernel
theorem kX8_shiftUp_64 : cdOf kX8_shiftUp 64 = some (.lload_n 2, 1) := by decide +kernel
theorem kX8_shiftUp_65 : cdOf kX8_shiftUp 65 = some (.lconst 0, 1) := by decide +kernel
theorem kX8_shiftUp_66 : cdOf kX8_shiftUp 66 = some (.lcmp, 1) := by decide +kernel
theorem kX8_shiftUp_67 : cdOf kX8_shiftUp 67 = some (.ifCond .eq 36, 3) := by decide +kernel
theorem kX8_shiftUp_70 : cdOf kX8_shiftUp 70 = some (.aload_n 0, 1) := by decide +kernel
theorem kX8_shiftUp_71 : cdOf kX8_shiftUp 71 = some (.getfield 9, 3) := by decide +kernel
theorem kX8_shiftUp_74 : cdOf kX8_shiftUp 74 = some (.aload_n 0, 1) := by decide +kernel
theorem kX8_shiftUp_75 : cdOf kX8_shiftUp 75 = some (.getfield 22, 3) := by decide +kernel
theorem kX8_shiftUp_78 : cdOf kX8_shiftUp 78 = some (.arraylength, 1) := by decide +kernel
theorem kX8_shiftUp_79 : cdOf kX8_shiftUp 79 = some (.if_icmp .ge 24, 3) := by decide +kernel
theorem kX8_shiftUp_82 : cdOf kX8_shiftUp 82 = some (.aload_n 0, 1) := by decide +kernel
theorem kX8_shiftUp_83 : cdOf kX8_shiftUp 83 = some (.getfield 22, 3) := by decide +kernel
theorem kX8_shiftUp_86 : cdOf kX8_shiftUp 86 = some (.aload_n 0, 1) := by decide +kernel
theorem kX8_shiftUp_87 : cdOf kX8_shiftUp 87 = some (.getfield 9, 3) := by decide +kernel
theorem kX8_shiftUp_90 : cdOf kX8_shiftUp 90 = some (.lload_n 2, 1) := by decide +kernel
theorem kX8_shiftUp_91 : cdOf kX8_shiftUp 91 = some (.l2i, 1) := by decide +kernel
theorem kX8_shiftUp_92 : cdOf kX8_shiftUp 92 = some (.iastore, 1) := by decide +kernel
theorem kX8_shiftUp_93 : cdOf kX8_shiftUp 93 = some (.aload_n 0, 1) := by decide +kernel
theorem kX8_shiftUp_94 : cdOf kX8_shiftUp 94 = some (.dup, 1) := by decide +kernel
theorem kX8_shiftUp_95 : cdOf kX8_shiftUp 95 = some (.getfield 9, 3) := by decide +kernel
theorem kX8_shiftUp_98 : cdOf kX8_shiftUp 98 = some (.iconst 1, 1) := by decide +kernel
theorem kX8_shiftUp_99 : cdOf kX8_shiftUp 99 = some (.iadd, 1) := by decide +kernel
theorem kX8_shiftUp_100 : cdOf kX8_shiftUp 100 = some (.putfield 9, 3) := by decide +kernel
theorem kX8_shiftUp_103 : cdOf kX8_shiftUp 103 = some (.return_, 1) := by decide +kernel
set_option maxRecDepth 20000 in
theorem kX8_shiftUp_ok : ∀ pc i len, cdOf kX8_shiftUp pc = some (i, len) → decode cX8_shiftUp pc = .ok (i, len) ∧ stOK 7 i = true ∧ jOK pc i = true ∧ eLen i len = true := cdOf_ok cX8_shiftUp 7 kX8_shiftUp (by decide +kernel)
def vtX8_shiftUp : Nat → Option (Nat × eSp) := fun _ => none
def stX8_shiftUp : Nat → Option (Nat × eSp) := fun _ => none
abbrev TX8_shiftUp : eT := (fl_RX8, cl_RX8, dl_RX8, vtX8_shiftUp, stX8_shiftUp)
set_option maxRecDepth 20000 in
theorem caX8_shiftUp : eCalls RX8 { frames := 0, cells := 0, slots := 0, locals := 0 } TX8_shiftUp := by
  refine ⟨fun k n sp h => ?_, fun k n sp h => ?_⟩
  · cases h
  · cases h
set_option maxRecDepth 100000 in
set_option maxHeartbeats 4000000 in
theorem sX8_shiftUp : eSafe TX8_shiftUp (cdOf kX8_shiftUp) 7 none SX8_shiftUp := by
  intro K rt hK as M h
  obtain ⟨F, A, W, k, b, z, rfl, rfl, hk, hb, hz, hf, h⟩ := h
  refine ⟨by simp [eE], ?_⟩
  obtain ⟨n, n8, h8, c, d, e1, e2⟩ := hz
  have hn := wq_n c d e1
  have p := p2_pos b
  have p30 := p2_30 hb
  have lk := lw_b k
  have az : zAbs (z * 2 ^ b) = zAbs z * 2 ^ b := by
    rw [zAbs_x, zAbs_nn (show (0 : Int) ≤ 2 ^ b by omega)]
  have sz : zSg (z * 2 ^ b) = zSg z := by
    rcases zSg_c z with g | g | g
    · have := Int.mul_neg_of_neg_of_pos g.1 p
      rcases zSg_c (z * 2 ^ b) with q | q | q <;> omega
    · rw [g.1, Int.zero_mul]
    · have := Int.mul_pos g.1 p
      rcases zSg_c (z * 2 ^ b) with q | q | q <;> omega
  have loop : ∀ (dd i : Nat) (f : Int → Int) (cr : Int) (u5 : Option eV), i + dd = n → (∀ t : Int, i ≤ t → f t = W k t) → lR f i → 0 ≤ cr → cr < 2 ^ b → vL f i + cr * cB ^ i = vL (W k) i * 2 ^ b →
      K 5 [some (eR (2, k)), some (eI b), some (eL cr), none, some (eI i), u5, none] [] (cC F A (uA W k f)) := by
    intro dd
    induction dd with
    | zero =>
      intro i f cr u5 hd he hr c0 c1 hv
      have : i = n := by omega
      subst this
      have f80 : f 80 = i := by rw [he 80 (by omega)]; exact h8
      have f81 : f 81 = zSg z := by rw [he 81 (by omega)]; exact e2
      rw [e1] at hv
      have fin0 : cr = 0 → rt none (cC F A (uA W k f)) := fun q => by
        subst q
        refine h f ⟨i, n8, f80, hr, fun g => ?_, by rw [az]; omega, by rw [sz, f81]⟩
        obtain ⟨i', rfl⟩ : ∃ i', i = i' + 1 := ⟨i - 1, by omega⟩
        rw [show ((i' + 1 : Nat) : Int) - 1 = i' by omega]
        refine vL_top hr ?_
        have h1 := hn.2.2 g
        rw [show i' + 1 - 1 = i' by omega] at h1
        have h2 := Int.mul_le_mul_of_nonneg_left (show (1 : Int) ≤ 2 ^ b by omega) (zAbs_0 z)
        omega
      have i80 : cr ≠ 0 → i < lw k := fun q => by
        rcases Nat.lt_or_ge i (lw k) with g | g
        · exact g
        · exfalso
          have : i = lw k := by omega
          have h1 := vL_nn hr
          rw [this] at hv h1
          have h2 := Int.mul_le_mul_of_nonneg_right (show 1 ≤ cr by omega) (Int.le_of_lt (cB_pos (lw k)))
          omega
      have fin1 : cr ≠ 0 → rt none (cC F A (uA W k (uI (uI f i cr) 80 (i + 1)))) := fun q => by
        have i80 := i80 q
        refine h _ ⟨i + 1, by omega, by rw [uI_s]; rfl, lR_cong (lR_up hr ⟨c0, by omega⟩) (fun t ht => uI_n _ _ (by omega)), fun _ => ?_, ?_, ?_⟩
        · rw [uI_n _ _ (by omega), show ((i + 1 : Nat) : Int) - 1 = i by omega, uI_s]
          exact q
        · rw [vL_cong (f := uI f i cr) (fun t ht => uI_n _ _ (by omega)), vL_up, az]
          omega
        · rw [uI_n _ _ (by decide), uI_n _ _ (by omega), f81, sz]
      refine x_iload hK kX8_shiftUp_5 (q := 7) rfl rfl ?_
      refine x_aload_n hK kX8_shiftUp_7 (q := 8) rfl rfl ?_
      refine x_getfield hK kX8_shiftUp_8 (q := 11) rfl (gX8_9 ?_)
      rw [uA_g, f80]
      refine x_icmp_ge hK kX8_shiftUp_11 (q := 14) rfl (tg := 64) rfl (by refine ⟨?_, ?_⟩ <;> omega) (fun c11 => ?_) (fun c11 => ?_)
      · refine x_lload_n hK kX8_shiftUp_64 (q := 65) rfl rfl ?_
        refine x_lconst0 hK kX8_shiftUp_65 (q := 66) rfl ?_
        refine x_lcmp hK kX8_shiftUp_66 (q := 67) rfl (by refine ⟨⟨by omega, by omega⟩, by decide⟩) ?_
        refine x_ifc_eq hK kX8_shiftUp_67 (q := 70) rfl (tg := 103) rfl (fun c67 => ?_) (fun c67 => ?_)
        · refine x_return_ hK kX8_shiftUp_103 (by first | trivial | exact Or.inl rfl | exact Or.inr rfl) ?_
          first | exact fin0 (by omega) | (rw [uA_g, uA_u]; exact fin1 c67)
        · refine x_aload_n hK kX8_shiftUp_70 (q := 71) rfl rfl ?_
          refine x_getfield hK kX8_shiftUp_71 (q := 74) rfl (gX8_9 ?_)
          refine x_aload_n hK kX8_shiftUp_74 (q := 75) rfl rfl ?_
          refine x_getfield hK kX8_shiftUp_75 (q := 78) rfl (gX8_22 ?_)
          refine x_arraylength hK kX8_shiftUp_78 (q := 79) rfl (nC7_0 ?_)
          rw [uA_g, f80]
          refine x_icmp_ge hK kX8_shiftUp_79 (q := 82) rfl (tg := 103) rfl (by refine ⟨?_, ?_⟩ <;> omega) (fun c79 => ?_) (fun c79 => ?_)
          · exfalso; have := i80 c67; omega
          · refine x_aload_n hK kX8_shiftUp_82 (q := 83) rfl rfl ?_
            refine x_getfield hK kX8_shiftUp_83 (q := 86) rfl (gX8_22 ?_)
            refine x_aload_n hK kX8_shiftUp_86 (q := 87) rfl rfl ?_
            refine x_getfield hK kX8_shiftUp_87 (q := 90) rfl (gX8_9 ?_)
            refine x_lload_n hK kX8_shiftUp_90 (q := 91) rfl rfl ?_
            rw [uA_g, f80]
            refine x_l2i hK kX8_shiftUp_91 (q := 92) rfl ?_
            refine x_iastore hK kX8_shiftUp_92 (q := 93) rfl (yC7_0 (by refine ⟨?_, ?_⟩ <;> omega) ?_)
            rw [uA_g, uA_u]
            refine x_aload_n hK kX8_shiftUp_93 (q := 94) rfl rfl ?_
            refine x_dupR hK kX8_shiftUp_94 (q := 95) rfl ?_
            refine x_getfield hK kX8_shiftUp_95 (q := 98) rfl (gX8_9 ?_)
            rw [uA_g, uI_n _ _ (by have := i80 c67; omega), f80]
            refine x_iconst hK kX8_shiftUp_98 (q := 99) rfl ?_
            refine x_iadd hK kX8_shiftUp_99 (q := 100) rfl ?_
            refine x_putfield hK kX8_shiftUp_100 (q := 103) rfl (pX8_9 ?_)
            refine x_return_ hK kX8_shiftUp_103 (by first | trivial | exact Or.inl rfl | exact Or.inr rfl) ?_
            first | exact fin0 (by omega) | (rw [uA_g, uA_u]; exact fin1 c67)
      · exfalso; omega
    | succ dd ih =>
      intro i f cr u5 hd he hr c0 c1 hv
      have r1 : 0 ≤ W k i ∧ W k i < 2147483648 := c i (by omega)
      have f80 : f 80 = n := by rw [he 80 (by omega)]; exact h8
      have fi : f i = W k i := he i (by omega)
      have q0 : 0 ≤ W k i * 2 ^ b := Int.mul_nonneg r1.1 (by omega)
      have q1 := Int.mul_le_mul (show W k i ≤ 2147483647 by omega) (show (2 : Int) ^ b ≤ 2 ^ b by omega) (by omega) (by decide)
      have e3 := zShlL_n (W k i) b (by omega) ⟨by omega, by omega⟩
      have e4 := zOrL_s (W k i) cr b (by omega) r1.1 c0 c1 (by omega)
      refine x_iload hK kX8_shiftUp_5 (q := 7) rfl rfl ?_
      refine x_aload_n hK kX8_shiftUp_7 (q := 8) rfl rfl ?_
      refine x_getfield hK kX8_shiftUp_8 (q := 11) rfl (gX8_9 ?_)
      rw [uA_g, f80]
      refine x_icmp_ge hK kX8_shiftUp_11 (q := 14) rfl (tg := 64) rfl (by refine ⟨?_, ?_⟩ <;> omega) (fun c11 => ?_) (fun c11 => ?_)
      · exfalso; omega
      · refine x_iload hK kX8_shiftUp_14 (q := 16) rfl rfl ?_
        refine x_aload_n hK kX8_shiftUp_16 (q := 17) rfl rfl ?_
        refine x_getfield hK kX8_shiftUp_17 (q := 20) rfl (gX8_22 ?_)
        refine x_arraylength hK kX8_shiftUp_20 (q := 21) rfl (nC7_0 ?_)
        refine x_icmp_ge hK kX8_shiftUp_21 (q := 24) rfl (tg := 64) rfl (by refine ⟨?_, ?_⟩ <;> omega) (fun c21 => ?_) (fun c21 => ?_)
        · exfalso; omega
        · refine x_aload_n hK kX8_shiftUp_24 (q := 25) rfl rfl ?_
          refine x_getfield hK kX8_shiftUp_25 (q := 28) rfl (gX8_22 ?_)
          refine x_iload hK kX8_shiftUp_28 (q := 30) rfl rfl ?_
          refine x_iaload hK kX8_shiftUp_30 (q := 31) rfl (aC7_0 (by refine ⟨?_, ?_⟩ <;> omega) ?_)
          rw [uA_g, fi]
          refine x_i2l hK kX8_shiftUp_31 (q := 32) rfl (by omega) ?_
          refine x_iload_n hK kX8_shiftUp_32 (q := 33) rfl rfl ?_
          refine x_lshl hK kX8_shiftUp_33 (q := 34) rfl ?_
          rw [e3]
          refine x_lload_n hK kX8_shiftUp_34 (q := 35) rfl rfl ?_
          refine x_lor hK kX8_shiftUp_35 (q := 36) rfl ?_
          rw [e4]
          refine x_lstore hK kX8_shiftUp_36 (q := 38) rfl ?_
          refine x_aload_n hK kX8_shiftUp_38 (q := 39) rfl rfl ?_
          refine x_getfield hK kX8_shiftUp_39 (q := 42) rfl (gX8_22 ?_)
          refine x_iload hK kX8_shiftUp_42 (q := 44) rfl rfl ?_
          refine x_lload hK kX8_shiftUp_44 (q := 46) rfl rfl ?_
          refine x_ldc2_w hK kX8_shiftUp_46 (q := 49) rfl lc2_RX8_43 ?_
          refine x_land hK kX8_shiftUp_49 (q := 50) rfl ?_
          simp only [lS, lS2, clr_0, clr_I, clr_L, clr_R]
          rw [m31]
          refine x_l2i hK kX8_shiftUp_50 (q := 51) rfl ?_
          refine x_iastore hK kX8_shiftUp_51 (q := 52) rfl (yC7_0 (by refine ⟨?_, ?_⟩ <;> omega) ?_)
          rw [uA_g, uA_u]
          refine x_lload hK kX8_shiftUp_52 (q := 54) rfl rfl ?_
          refine x_bipush hK kX8_shiftUp_54 (q := 56) rfl (by decide) ?_
          refine x_lshr hK kX8_shiftUp_56 (q := 57) rfl ?_
          rw [s31 ⟨by omega, by omega⟩]
          refine x_lstore_n hK kX8_shiftUp_57 (q := 58) (jn := 2) rfl rfl ?_
          refine x_iinc hK kX8_shiftUp_58 (q := 61) rfl rfl ?_
          simp only [lS, lS2, clr_0, clr_I, clr_L, clr_R]
          refine x_goto hK kX8_shiftUp_61 (tg := 5) rfl ?_
          rw [show (i : Int) + 1 = ((i + 1 : Nat) : Int) by omega]
          refine ih (i + 1) _ _ _ (by omega) (fun t ht => by rw [uI_n _ _ (by omega)]; exact he t (by omega)) (lR_up hr (by omega)) (by omega) (by omega) ?_
          have g1 : vL (W k) (i + 1) = vL (W k) i + W k i * cB ^ i := rfl
          rw [vL_up, g1, cB_succ]
          have g2 : W k i * 2 ^ b + cr = (W k i * 2 ^ b + cr) / 2147483648 * 2147483648 + (W k i * 2 ^ b + cr) % 2147483648 := by omega
          generalize (W k i * 2 ^ b + cr) / 2147483648 = Q at *
          generalize (W k i * 2 ^ b + cr) % 2147483648 = R at *
          generalize W k i = X at *
          generalize (2 : Int) ^ b = T at *
          generalize cB ^ i = P at *
          have : cr = Q * 2147483648 + R - X * T := by omega
          subst this
          show vL f i + R * P + Q * (P * 2147483648) = _
          grind
  simp only [eLoc, eE, List.length_cons, List.length_nil, List.replicate, List.cons_append, List.nil_append, Nat.reduceAdd, Nat.reduceSub]
  refine x_lconst0 hK kX8_shiftUp_0 (q := 1) rfl ?_
  refine x_lstore_n hK kX8_shiftUp_1 (q := 2) (jn := 2) rfl rfl ?_
  refine x_iconst hK kX8_shiftUp_2 (q := 3) rfl ?_
  refine x_istore hK kX8_shiftUp_3 (q := 5) rfl ?_
  simp only [lS, lS2, clr_0, clr_I, clr_L, clr_R]
  exact x_to (loop n 0 (W k) 0 none (by omega) (fun t ht => rfl) (fun i hi => absurd hi (by omega)) (Int.le_refl _) p (by show (0 : Int) + 0 * _ = 0 * _; omega)) rfl rfl (by rw [uA_s])
set_option maxRecDepth 20000 in
theorem mX8_shiftUp : eMet yX8_shiftUp cX8_shiftUp 7 none 0 0 SX8_shiftUp := eMet_of (by decide +kernel) sX8_shiftUp kX8_shiftUp_ok caX8_shiftUp tb_RX8
theorem wX8_shiftUp : eWV yX8_shiftUp cX8_shiftUp 7 none 2 7 SX8_shiftUp := ⟨(gW_at 490 (by decide +kernel) rfl), (gW_at 81 (by decide +kernel) rfl), (gW_at 488 (by decide +kernel) rfl), ⟨_, rfl, (gW_at 489 (by decide +kernel) rfl)⟩, by decide +kernel, SX8_shiftUp_r⟩
-- shiftDown
theorem vL_hd (f : Int → Int) (n : Nat) : vL f (n + 1) = f 0 + vL (fun i => f (1 + i)) n * cB := by
  have := vL_split (f := f) 1 n
  rw [Nat.add_comm 1 n] at this
  rw [this]
  show 0 + f 0 * cB ^ 0 + vL (fun i => f (((1 : Nat) : Int) + i)) n * cB ^ 1 = _
  rw [Int.pow_zero, show cB ^ 1 = cB from Int.pow_one cB]
  show 0 + f 0 * 1 + vL (fun i => f (1 + i)) n * cB = _
  omega
theorem sft0 (f : Int → Int) (d : Nat) : vL (fun t => f (((0 : Nat) : Int) + t)) d = vL f d := by
  refine vL_cong (fun t _ => ?_)
  show f (((0 : Nat) : Int) + t) = f t
  rw [show ((0 : Nat) : Int) + (t : Int) = t by omega]
theorem sft1 (f : Int → Int) (i d : Nat) : vL (fun t => f ((i : Int) + (1 + t))) d = vL (fun t => f (((i + 1 : Nat) : Int) + t)) d := by
  refine vL_cong (fun t _ => ?_)
  show f ((i : Int) + (1 + t)) = f (((i + 1 : Nat) : Int) + t)
  rw [show (i : Int) + (1 + (t : Int)) = ((i + 1 : Nat) : Int) + t by omega]
theorem sft2 (f : Int → Int) (i d : Nat) (q : Int) : vL (fun t => uI f i q ((i : Int) + (1 + t))) d = vL (fun t => f (((i + 1 : Nat) : Int) + t)) d := by
  rw [← sft1]
  refine vL_cong (fun t _ => ?_)
  show uI f i q ((i : Int) + (1 + t)) = f ((i : Int) + (1 + t))
  rw [uI_n _ _ (by omega)]
def SX8_shiftDown : eSp := fun as M rt => ∃ (F : Nat → Int) (A W : Nat → Int → Int) (k b n : Nat), as = [eR (2, k), eI b] ∧ M = cC F A W ∧ (k < 332) ∧ (b ≤ 30) ∧ (n ≤ lw k) ∧ (W k 80 = n) ∧ (lR (W k) n) ∧ (∀ f : Int → Int, f 80 = n → f 81 = W k 81 → lR f n → vL f n = vL (W k) n / 2 ^ b → rt none (cC F A (uA W k f)))
theorem SX8_shiftDown_i {F : Nat → Int} {A W : Nat → Int → Int} {k b n : Nat} {rt : Option eV → eM → Prop} (hk : k < 332) (hb : b ≤ 30) (n8 : n ≤ lw k) (h8 : W k 80 = n) (hr : lR (W k) n) (h : ∀ f : Int → Int, f 80 = n → f 81 = W k 81 → lR f n → vL f n = vL (W k) n / 2 ^ b → rt none (cC F A (uA W k f))) : SX8_shiftDown [eR (2, k), eI b] (cC F A W) rt := ⟨F, A, W, k, b, n, rfl, rfl, hk, hb, n8, h8, hr, h⟩
theorem SX8_shiftDown_r : ∀ as M rt, SX8_shiftDown as M rt → ∃ a r fs, as = eR a :: r ∧ M a = some (.inl (7, fs)) := by
  rintro as M rt ⟨F, A, W, k, b, n, rfl, rfl, hk, -⟩
  exact ⟨_, _, _, rfl, cC_2 hk⟩
def kX8_shiftDown : List (Nat × Jvm.ClassFile.Instr × Nat) := [(0, .lconst 0, 1), (1, .lstore_n 2, 1), (2, .aload_n 0, 1), (3, .getfield 9, 3), (6, .iconst 1, 1), (7, .isub, 1), (8, .istore 4, 2), (10, .iload 4, 2), (12, .ifCond .lt 59, 3), (15, .iload 4, 2), (17, .aload_n 0, 1), (18, .getfield 22, 3), (21, .arraylength, 1), (22, .if_icmp .ge 49, 3), (25, .lload_n 2, 1), (26, .bipush 31, 2), (28, .lshl, 1), (29, .aload_n 0, 1), (30, .getfield 22, 3), (33, .iload 4, 2), (35, .iaload, 1), (36, .i2l, 1), (37, .lor, 1), (38, .lstore 5, 2), (40, .aload_n 0, 1), (41, .getfield 22, 3), (44, .iload 4, 2), (46, .lload 5, 2), (48, .iload_n 1, 1), (49, .lshr, 1), (50, .ldc2_w 43, 3), (53, .land, 1), (54, .l2i, 1), (55, .iastore, 1), (56, .lload 5, 2), (58, .lconst 1, 1), (59, .iload_n 1, 1), (60, .lshl, 1), (61, .lconst 1, 1), (62, .lsub, 1), (63, .land, 1), (64, .lstore_n 2, 1), (65, .iinc 4 (-1), 3), (68, .goto (-58), 3), (71, .return_, 1)]
theorem kX8_shiftDown_0 : cdOf kX8_shiftDown 0 = some (.lconst 0, 1) := by decide +kernel
theorem kX8_shiftDown_1 : cdOf kX8_shiftDown 1 = some (.lstore_n 2, 1) := by decide +kernel
theorem kX8_shiftDown_2 : cdOf kX8_shiftDown 2 = some (.aload_n 0, 1) := by decide +kernel
theorem kX8_shiftDown_3 : cdOf kX8_shiftDown 3 = some (.getfield 9, 3) := by decide +kernel
theorem kX8_shiftDown_6 : cdOf kX8_shiftDown 6 = some (.iconst 1, 1) := by decide +kernel
theorem kX8_shiftDown_7 : cdOf kX8_shiftDown 7 = some (.isub, 1) := by decide +kernel
theorem kX8_shiftDown_8 : cdOf kX8_shiftDown 8 = some (.istore 4, 2) := by decide +kernel
theorem kX8_shiftDown_10 : cdOf kX8_shiftDown 10 = some (.iload 4, 2) := by decide +kernel
theorem kX8_shiftDown_12 : cdOf kX8_shiftDown 12 = some (.ifCond .lt 59, 3) := by decide +kernel
theorem kX8_shiftDown_15 : cdOf kX8_shiftDown 15 = some (.iload 4, 2) := by decide +kernel
theorem kX8_shiftDown_17 : cdOf kX8_shiftDown 17 = some (.aload_n 0, 1) := by decide +kernel
theorem kX8_shiftDown_18 : cdOf kX8_shiftDown 18 = some (.getfield 22, 3) := by decide +kernel
theorem kX8_shiftDown_21 : cdOf kX8_shiftDown 21 = some (.arraylength, 1) := by decide +kernel
theorem kX8_shiftDown_22 : cdOf kX8_shiftDown 22 = some (.if_icmp .ge 49, 3) := by decide +kernel
theorem kX8_shiftDown_25 : cdOf kX8_shiftDown 25 = some (.lload_n 2, 1) := by decide +kernel
theorem kX8_shiftDown_26 : cdOf kX8_shiftDown 26 = some (.bipush 31, 2) := by decide +kernel
theorem kX8_shiftDown_28 : cdOf kX8_shiftDown 28 = some (.lshl, 1) := by decide +kernel
theorem kX8_shiftDown_29 : cdOf kX8_shiftDown 29 = some (.aload_n 0, 1) := by decide +kernel
theorem kX8_shiftDown_30 : cdOf kX8_shiftDown 30 = some (.getfield 22, 3) := by decide +kernel
theorem kX8_shiftDown_33 : cdOf kX8_shiftDown 33 = some (.iload 4, 2) := by decide +kernel
theorem kX8_shiftDown_35 : cdOf kX8_shiftDown 35 = some (.iaload, 1) := by decide +kernel
theorem kX8_shiftDown_36 : cdOf kX8_shiftDown 36 = some (.i2l, 1) := by decide +kernel
theorem kX8_shiftDown_37 : cdOf kX8_shiftDown 37 = some (.lor, 1) := by decide +kernel
theorem kX8_shiftDown_38 : cdOf kX8_shiftDown 38 = some (.lstore 5, 2) := by decide +kernel
theorem kX8_shiftDown_40 : cdOf kX8_shiftDown 40 = some (.aload_n 0, 1) := by decide +kernel
theorem kX8_shiftDown_41 : cdOf kX8_shiftDown 41 = some (.getfield 22, 3) := by decide +kernel
theorem kX8_shiftDown_44 : cdOf kX8_shiftDown 44 = some (.iload 4, 2) := by decide +kernel
theorem kX8_shiftDown_46 : cdOf kX8_shiftDown 46 = some (.lload 5, 2) := by decide +kernel
theorem kX8_shiftDown_48 : cdOf kX8_shiftDown 48 = some (.iload_n 1, 1) := by decide +kernel
theorem kX8_shiftDown_49 : cdOf kX8_shiftDown 49 = some (.lshr, 1) := by decide +kernel
theorem kX8_shiftDown_50 : cdOf kX8_shiftDown 50 = some (.ldc2_w 43, 3) := by decide +kernel
theorem kX8_shiftDown_53 : cdOf kX8_shiftDown 53 = some (.land, 1) := by decide +kernel
theorem kX8_shiftDown_54 : cdOf kX8_shiftDown 54 = some (.l2i, 1) := by decide +kernel
theorem kX8_shiftDown_55 : cdOf kX8_shiftDown 55 = some (.iastore, 1) := by decide +kernel
theorem kX8_shiftDown_56 : cdOf kX8_shiftDown 56 = some (.lload 5, 2) := by decide +kernel
theorem kX8_shiftDown_58 : cdOf kX8_shiftDown 58 = some (.lconst 1, 1) := by decide +kernel
theorem kX8_shiftDown_59 : cdOf kX8_shiftDown 59 = some (.iload_n 1, 1) := by decide +kernel
theorem kX8_shiftDown_60 : cdOf kX8_shiftDown 60 = some (.lshl, 1) := by decide +kernel
theorem kX8_shiftDown_61 : cdOf kX8_shiftDown 61 = some (.lconst 1, 1) := by decide +kernel
theorem kX8_shiftDown_62 : cdOf kX8_shiftDown 62 = some (.lsub, 1) := by decide +kernel
theorem kX8_shiftDown_63 : cdOf kX8_shiftDown 63 = some (.land, 1) := by decide +kernel
theorem kX8_shiftDown_64 : cdOf kX8_shiftDown 64 = some (.lstore_n 2, 1) := by decide +kernel
theorem kX8_shiftDown_65 : cdOf kX8_shiftDown 65 = some (.iinc 4 (-1), 3) := by decide +kernel
theorem kX8_shiftDown_68 : cdOf kX8_shiftDown 68 = some (.goto (-58), 3) := by decide +kernel
theorem kX8_shiftDown_71 : cdOf kX8_shiftDown 71 = some (.return_, 1) := by decide +kernel
set_option maxRecDepth 20000 in
theorem kX8_shiftDown_ok : ∀ pc i len, cdOf kX8_shiftDown pc = some (i, len) → decode cX8_shiftDown pc = .ok (i, len) ∧ stOK 7 i = true ∧ jOK pc i = true ∧ eLen i len = true := cdOf_ok cX8_shiftDown 7 kX8_shiftDown (by decide +kernel)
def vtX8_shiftDown : Nat → Option (Nat × eSp) := fun _ => none
def stX8_shiftDown : Nat → Option (Nat × eSp) := fun _ => none
abbrev TX8_shiftDown : eT := (fl_RX8, cl_RX8, dl_RX8, vtX8_shiftDown, stX8_shiftDown)
set_option maxRecDepth 20000 in
theorem caX8_shiftDown : eCalls RX8 { frames := 0, cells := 0, slots := 0, locals := 0 } TX8_shiftDown := by
  refine ⟨fun k n sp h => ?_, fun k n sp h => ?_⟩
  · cases h
  · cases h
set_option maxRecDepth 100000 in
set_option maxHeartbeats 4000000 in
theorem sX8_shiftDown : eSafe TX8_shiftDown (cdOf kX8_shiftDown) 7 none SX8_shiftDown := by
  intro K rt hK as M h
  obtain ⟨F, A, W, k, b, n, rfl, rfl, hk, hb, n8, h8, hr, h⟩ := h
  refine ⟨by simp [eE], ?_⟩
  have p := p2_pos b
  have p30 := p2_30 hb
  have lk := lw_b k
  have loop : ∀ (i d : Nat) (f : Int → Int) (ab : Int) (u5 : Option eV), i + d = n → (∀ t : Int, (t < i ∨ n ≤ t) → f t = W k t) → (∀ t : Nat, i ≤ t → t < n → 0 ≤ f t ∧ f t < 2147483648) → 0 ≤ ab → ab < 2 ^ b → vL (fun t => W k ((i : Int) + t)) d = vL (fun t => f ((i : Int) + t)) d * 2 ^ b + ab →
      K 10 [some (eR (2, k)), some (eI b), some (eL ab), none, some (eI ((i : Int) - 1)), u5, none] [] (cC F A (uA W k f)) := by
    intro i
    induction i with
    | zero =>
      intro d f ab u5 hd he hf a0 a1 hv
      have : d = n := by omega
      subst this
      refine x_iload hK kX8_shiftDown_10 (q := 12) rfl rfl ?_
      refine x_if_lt hK kX8_shiftDown_12 (q := 15) rfl (tg := 71) rfl (by omega) (fun c12 => ?_) (fun c12 => ?_)
      · refine x_return_ hK kX8_shiftDown_71 (by first | trivial | exact Or.inl rfl | exact Or.inr rfl) ?_
        refine h f (by rw [he 80 (by omega)]; exact h8) (he 81 (by omega)) (fun t ht => hf t (by omega) ht) ?_
        rw [sft0, sft0] at hv
        rw [hv, Int.add_comm, Int.add_mul_ediv_right _ _ (by omega), Int.ediv_eq_zero_of_lt a0 a1]
        omega
      · exfalso; omega
    | succ i ih =>
      intro d f ab u5 hd he hf a0 a1 hv
      have r1 : 0 ≤ W k i ∧ W k i < 2147483648 := hr i (by omega)
      have fi : f i = W k i := he i (by omega)
      have ei : ((i + 1 : Nat) : Int) - 1 = i := by omega
      have q1 := Int.mul_le_mul_of_nonneg_right (show ab ≤ 2 ^ b - 1 by omega) (show (0 : Int) ≤ 2147483648 by decide)
      have p31 : (2 : Int) ^ 31 = 2147483648 := by decide
      have e3 : zShlL ab 31 = ab * 2 ^ 31 := zShlL_n ab 31 (by decide) ⟨by omega, by omega⟩
      have e4 := zOrL_s ab (W k i) 31 (by decide) a0 r1.1 (by omega) (by omega)
      rw [p31] at e3 e4
      have q2 : 0 ≤ (ab * 2147483648 + W k i) / 2 ^ b ∧ (ab * 2147483648 + W k i) / 2 ^ b < 2147483648 := by
        refine ⟨Int.ediv_nonneg (by omega) (by omega), Int.ediv_lt_of_lt_mul p (by omega)⟩
      have e5 := zShrL_n (ab * 2147483648 + W k i) ⟨by omega, by omega⟩ b (by omega)
      have e6 : zShlL 1 b = 1 * 2 ^ b := zShlL_n 1 b (by omega) ⟨by omega, by omega⟩
      have e7 := zAndL_m (ab * 2147483648 + W k i) (1 * 2 ^ b - 1) b (by omega) (by omega)
      have q3 := Int.emod_nonneg (ab * 2147483648 + W k i) (show (2 : Int) ^ b ≠ 0 by omega)
      have q4 := Int.emod_lt_of_pos (ab * 2147483648 + W k i) p
      rw [ei]
      refine x_iload hK kX8_shiftDown_10 (q := 12) rfl rfl ?_
      refine x_if_lt hK kX8_shiftDown_12 (q := 15) rfl (tg := 71) rfl (by omega) (fun c12 => ?_) (fun c12 => ?_)
      · exfalso; omega
      · refine x_iload hK kX8_shiftDown_15 (q := 17) rfl rfl ?_
        refine x_aload_n hK kX8_shiftDown_17 (q := 18) rfl rfl ?_
        refine x_getfield hK kX8_shiftDown_18 (q := 21) rfl (gX8_22 ?_)
        refine x_arraylength hK kX8_shiftDown_21 (q := 22) rfl (nC7_0 ?_)
        refine x_icmp_ge hK kX8_shiftDown_22 (q := 25) rfl (tg := 71) rfl (by refine ⟨?_, ?_⟩ <;> omega) (fun c22 => ?_) (fun c22 => ?_)
        · exfalso; omega
        · refine x_lload_n hK kX8_shiftDown_25 (q := 26) rfl rfl ?_
          refine x_bipush hK kX8_shiftDown_26 (q := 28) rfl (by decide) ?_
          refine x_lshl hK kX8_shiftDown_28 (q := 29) rfl ?_
          rw [e3]
          refine x_aload_n hK kX8_shiftDown_29 (q := 30) rfl rfl ?_
          refine x_getfield hK kX8_shiftDown_30 (q := 33) rfl (gX8_22 ?_)
          refine x_iload hK kX8_shiftDown_33 (q := 35) rfl rfl ?_
          refine x_iaload hK kX8_shiftDown_35 (q := 36) rfl (aC7_0 (by refine ⟨?_, ?_⟩ <;> omega) ?_)
          rw [uA_g, fi]
          refine x_i2l hK kX8_shiftDown_36 (q := 37) rfl (by omega) ?_
          refine x_lor hK kX8_shiftDown_37 (q := 38) rfl ?_
          rw [e4]
          refine x_lstore hK kX8_shiftDown_38 (q := 40) rfl ?_
          refine x_aload_n hK kX8_shiftDown_40 (q := 41) rfl rfl ?_
          refine x_getfield hK kX8_shiftDown_41 (q := 44) rfl (gX8_22 ?_)
          refine x_iload hK kX8_shiftDown_44 (q := 46) rfl rfl ?_
          refine x_lload hK kX8_shiftDown_46 (q := 48) rfl rfl ?_
          refine x_iload_n hK kX8_shiftDown_48 (q := 49) rfl rfl ?_
          refine x_lshr hK kX8_shiftDown_49 (q := 50) rfl ?_
          simp only [lS, lS2, clr_0, clr_I, clr_L, clr_R]
          rw [e5]
          refine x_ldc2_w hK kX8_shiftDown_50 (q := 53) rfl lc2_RX8_43 ?_
          refine x_land hK kX8_shiftDown_53 (q := 54) rfl ?_
          rw [m31, Int.emod_eq_of_lt q2.1 q2.2]
          refine x_l2i hK kX8_shiftDown_54 (q := 55) rfl ?_
          refine x_iastore hK kX8_shiftDown_55 (q := 56) rfl (yC7_0 (by refine ⟨?_, ?_⟩ <;> omega) ?_)
          rw [uA_g, uA_u]
          refine x_lload hK kX8_shiftDown_56 (q := 58) rfl rfl ?_
          refine x_lconst1 hK kX8_shiftDown_58 (q := 59) rfl ?_
          refine x_iload_n hK kX8_shiftDown_59 (q := 60) rfl rfl ?_
          refine x_lshl hK kX8_shiftDown_60 (q := 61) rfl ?_
          rw [e6]
          refine x_lconst1 hK kX8_shiftDown_61 (q := 62) rfl ?_
          refine x_lsub hK kX8_shiftDown_62 (q := 63) rfl ?_
          refine x_land hK kX8_shiftDown_63 (q := 64) rfl ?_
          rw [e7]
          refine x_lstore_n hK kX8_shiftDown_64 (q := 65) (jn := 2) rfl rfl ?_
          refine x_iinc hK kX8_shiftDown_65 (q := 68) rfl rfl ?_
          simp only [lS, lS2, clr_0, clr_I, clr_L, clr_R]
          refine x_goto hK kX8_shiftDown_68 (tg := 10) rfl ?_
          rw [show (i : Int) + -1 = (i : Int) - 1 by omega]
          refine ih (d + 1) _ _ _ (by omega) (fun t ht => by rw [uI_n _ _ (by omega)]; exact he t (by omega)) (fun t t0 t1 => ?_) q3 q4 ?_
          · rcases Nat.lt_or_ge i t with g | g
            · rw [uI_n _ _ (by omega)]; exact hf t g t1
            · rw [show t = i by omega, uI_s]; exact q2
          · rw [vL_hd, vL_hd]
            rw [sft1, sft2, hv, Int.add_zero, uI_s]
            have g3 := Int.emod_add_mul_ediv (ab * 2147483648 + W k i) (2 ^ b)
            generalize (ab * 2147483648 + W k i) / 2 ^ b = Q at *
            generalize (ab * 2147483648 + W k i) % 2 ^ b = R at *
            generalize vL (fun t => f (((i + 1 : Nat) : Int) + t)) d = V at *
            generalize (2 : Int) ^ b = T at *
            generalize W k i = X at *
            show X + (V * T + ab) * 2147483648 = (Q + V * 2147483648) * T + R
            grind
  simp only [eLoc, eE, List.length_cons, List.length_nil, List.replicate, List.cons_append, List.nil_append, Nat.reduceAdd, Nat.reduceSub]
  refine x_lconst0 hK kX8_shiftDown_0 (q := 1) rfl ?_
  refine x_lstore_n hK kX8_shiftDown_1 (q := 2) (jn := 2) rfl rfl ?_
  refine x_aload_n hK kX8_shiftDown_2 (q := 3) rfl rfl ?_
  refine x_getfield hK kX8_shiftDown_3 (q := 6) rfl (gX8_9 ?_)
  refine x_iconst hK kX8_shiftDown_6 (q := 7) rfl ?_
  refine x_isub hK kX8_shiftDown_7 (q := 8) rfl ?_
  simp only [lS, lS2, clr_0, clr_I, clr_L, clr_R]
  rw [h8]
  refine x_istore hK kX8_shiftDown_8 (q := 10) rfl ?_
  simp only [lS, lS2, clr_0, clr_I, clr_L, clr_R]
  exact x_to (loop n 0 (W k) 0 none (by omega) (fun t ht => rfl) (fun t t0 t1 => by omega) (Int.le_refl _) p (by show (0 : Int) = 0 * _ + 0; omega)) rfl rfl (by rw [uA_s])
set_option maxRecDepth 20000 in
theorem mX8_shiftDown : eMet yX8_shiftDown cX8_shiftDown 7 none 0 0 SX8_shiftDown := eMet_of (by decide +kernel) sX8_shiftDown kX8_shiftDown_ok caX8_shiftDown tb_RX8
theorem wX8_shiftDown : eWV yX8_shiftDown cX8_shiftDown 7 none 2 7 SX8_shiftDown := ⟨(gW_at 509 (by decide +kernel) rfl), (gW_at 81 (by decide +kernel) rfl), (gW_at 507 (by decide +kernel) rfl), ⟨_, rfl, (gW_at 508 (by decide +kernel) rfl)⟩, by decide +kernel, SX8_shiftDown_r⟩
