/-! fraction and what it needs. -/
def SX10_isShort : eSp := fun as M rt => ∃ (F : Nat → Int) (A : Nat → Int → Int) (s : Int → Int) (p : Int), as = [eRR, eI p] ∧ M = cR F A ∧ rn (A 0) s ∧ (0 ≤ p ∧ p < 2666) ∧ ∀ b : Int, (b = 0 ∨ b = 1) → (b = 1 ↔ zAbs (s p) < 9223372036854775808) → rt (some (eI b)) (cR F A)
theorem SX10_isShort_i {F : Nat → Int} {A : Nat → Int → Int} {s : Int → Int} {p : Int} {rt : Option eV → eM → Prop} (hr : rn (A 0) s) (h0 : 0 ≤ p ∧ p < 2666) (h : ∀ b : Int, (b = 0 ∨ b = 1) → (b = 1 ↔ zAbs (s p) < 9223372036854775808) → rt (some (eI b)) (cR F A)) : SX10_isShort [eRR, eI p] (cR F A) rt := ⟨F, A, s, p, rfl, rfl, hr, h0, h⟩
theorem SX10_isShort_r : ∀ as M rt, SX10_isShort as M rt → ∃ a r fs, as = eR a :: r ∧ M a = some (.inl (9, fs)) := by
  rintro as M rt ⟨F, A, s, p, rfl, rfl, -⟩
  exact ⟨_, _, _, rfl, rfl⟩
theorem bB_2 : bB ^ 2 = 72057594037927936 := by decide
theorem bB_3 : bB ^ 3 = 19342813113834066795298816 := by decide
def kX10_isShort : List (Nat × Jvm.ClassFile.Instr × Nat) := [(0, .aload_n 0, 1), (1, .iload_n 1, 1), (2, .invokevirtual 75, 3), (5, .istore_n 2, 1), (6, .iload_n 2, 1), (7, .iconst 3, 1), (8, .if_icmp .lt 25, 3), (11, .iload_n 2, 1), (12, .iconst 3, 1), (13, .if_icmp .ne 24, 3), (16, .aload_n 0, 1), (17, .getfield 12, 3), (20, .iload_n 1, 1), (21, .invokestatic 64, 3), (24, .iconst 3, 1), (25, .iadd, 1), (26, .iaload, 1), (27, .sipush 128, 3), (30, .if_icmp .ge 7, 3), (33, .iconst 1, 1), (34, .goto 4, 3), (37, .iconst 0, 1), (38, .ireturn, 1)]
theorem kX10_isShort_0 : cdOf kX10_isShort 0 = some (.aload_n 0, 1) := by decide +kernel
theorem kX10_isShort_1 : cdOf kX10_isShort 1 = some (.iload_n 1, 1) := by decide +kernel
theorem kX10_isShort_2 : cdOf kX10_isShort 2 = some (.invokevirtual 75, 3) := by decide +kernel
theorem kX10_isShort_5 : cdOf kX10_isShort 5 = some (.istore_n 2, 1) := by decide +kernel
theorem kX10_isShort_6 : cdOf kX10_isShort 6 = some (.iload_n 2, 1) := by decide +kernel
theorem kX10_isShort_7 : cdOf kX10_isShort 7 = some (.iconst 3, 1) := by decide +kernel
theorem kX10_isShort_8 : cdOf kX10_isShort 8 = some (.if_icmp .lt 25, 3) := by decide +kernel
theorem kX10_isShort_11 : cdOf kX10_isShort 11 = some (.iload_n 2, 1) := by decide +kernel
theorem kX10_isShort_12 : cdOf kX10_isShort 12 = some (.iconst 3, 1) := by decide +kernel
theorem kX10_isShort_13 : cdOf kX10_isShort 13 = some (.if_icmp .ne 24, 3) := by decide +kernel
theorem kX10_isShort_16 : cdOf kX10_isShort 16 = some (.aload_n 0, 1) := by decide +kernel
theorem kX10_isShort_17 : cdOf kX10_isShort 17 = some (.getfield 12, 3) := by decide +kernel
theorem kX10_isShort_20 : cdOf kX10_isShort 20 = some (.iload_n 1, 1) := by decide +kernel
theorem kX10_isShort_21 : cdOf kX10_isShort 21 = some (.invokestatic 64, 3) := by decide +kernel
theorem kX10_isShort_24 : cdOf kX10_isShort 24 = some (.iconst 3, 1) := by decide +kernel
theorem kX10_isShort_25 : cdOf kX10_isShort 25 = some (.iadd, 1) := by decide +kernel
theorem kX10_isShort_26 : cdOf kX10_isShort 26 = some (.iaload, 1) := by decide +kernel
theorem kX10_isShort_27 : cdOf kX10_isShort 27 = some (.sipush 128, 3) := by decide +kernel
theorem kX10_isShort_30 : cdOf kX10_isShort 30 = some (.if_icmp .ge 7, 3) := by decide +kernel
theorem kX10_isShort_33 : cdOf kX10_isShort 33 = some (.iconst 1, 1) := by decide +kernel
theorem kX10_isShort_34 : cdOf kX10_isShort 34 = some (.goto 4, 3) := by decide +kernel
theorem kX10_isShort_37 : cdOf kX10_isShort 37 = some (.iconst 0, 1) := by decide +kernel
theorem kX10_isShort_38 : cdOf kX10_isShort 38 = some (.ireturn, 1) := by decide +kernel
set_option maxRecDepth 20000 in
theorem kX10_isShort_ok : ∀ pc i len, cdOf kX10_isShort pc = some (i, len) → decode cX10_isShort pc = .ok (i, len) ∧ stOK 3 i = true ∧ jOK pc i = true ∧ eLen i len = true := cdOf_ok cX10_isShort 3 kX10_isShort (by decide +kernel)
def vtX10_isShort : Nat → Option (Nat × eSp) := fun k => match k with
  | 75 => some (2, SX10_length)
  | _ => none
theorem vtX10_isShort_75 : vtX10_isShort 75 = some (2, SX10_length) := rfl
def stX10_isShort : Nat → Option (Nat × eSp) := fun k => match k with
  | 64 => some (1, SX10_at)
  | _ => none
theorem stX10_isShort_64 : stX10_isShort 64 = some (1, SX10_at) := rfl
abbrev TX10_isShort : eT := (fl_RX10, cl_RX10, dl_RX10, vtX10_isShort, stX10_isShort)
set_option maxRecDepth 20000 in
theorem caX10_isShort : eCalls RX10 { frames := 2, cells := 0, slots := 0, locals := 42 } TX10_isShort := by
  refine ⟨fun k n sp h => ?_, fun k n sp h => ?_⟩
  · dsimp only [TX10_isShort] at h
    unfold vtX10_isShort at h
    split at h
    · cases h; exact eV_mk mX10_length wX10_length (by decide +kernel) (Or.inl (gW_at 1101 (by decide +kernel) rfl))
    · cases h
  · dsimp only [TX10_isShort] at h
    unfold stX10_isShort at h
    split at h
    · cases h; exact eS_mk mX10_at wX10_at (by decide +kernel) (Or.inl (gW_at 1070 (by decide +kernel) rfl))
    · cases h
set_option maxRecDepth 100000 in
set_option maxHeartbeats 4000000 in
theorem sX10_isShort : eSafe TX10_isShort (cdOf kX10_isShort) 3 (some .boolean) SX10_isShort := by
  intro K rt hK as M h
  obtain ⟨F, A, s, p, rfl, rfl, hr, hp, h⟩ := h
  refine ⟨by simp [eE], ?_⟩
  have hnm := hr p hp.1 hp.2
  have hw := nm_w hnm
  obtain ⟨n, hn, lr1, top, a1, a2, a3, a4, a5, a6, a7, a8⟩ := nm_h hnm
  have hlt : n < 3 → zAbs (s p) < 9223372036854775808 := fun g => by
    have := bB_mono (show n ≤ 2 by omega)
    rw [bB_2] at this
    omega
  have hgt : 3 < n → ¬ zAbs (s p) < 9223372036854775808 := fun g => by
    have h1 := a6 (fun e => by have := a3.mp e; omega)
    have := bB_mono (show 3 ≤ n - 1 by omega)
    rw [bB_3] at this
    omega
  have heq : n = 3 → (A 0 (p * 601 + 3) < 128 ↔ zAbs (s p) < 9223372036854775808) := fun g => by
    subst g
    have b0 : bB = 268435456 := rfl
    have l0 := lr1 0 (by decide)
    have l1 := lr1 1 (by decide)
    have l2 := lr1 2 (by decide)
    rw [a2]
    simp only [vl]
    rw [show p * 601 + 1 + ((0 : Nat) : Int) = p * 601 + 1 by omega] at *
    rw [show p * 601 + 1 + ((1 : Nat) : Int) = p * 601 + 2 by omega] at *
    rw [show p * 601 + 1 + ((2 : Nat) : Int) = p * 601 + 3 by omega] at *
    rw [bB_2, Int.pow_zero, show bB ^ 1 = 268435456 by decide]
    omega
  have wn : w32 (n : Int) := by constructor <;> omega
  have w3 : w32 (A 0 (p * 601 + 3)) ∨ n ≠ 3 := by
    rcases Decidable.em (n = 3) with g | g
    · left
      have b0 : bB = 268435456 := rfl
      have l2 := lr1 2 (by omega)
      rw [show p * 601 + 1 + ((2 : Nat) : Int) = p * 601 + 3 by omega] at l2
      constructor <;> omega
    · exact Or.inr g
  simp only [eLoc, eE, List.length_cons, List.length_nil, List.replicate, List.cons_append, List.nil_append, Nat.reduceAdd, Nat.reduceSub]
  refine x_aload_n hK kX10_isShort_0 (q := 1) rfl rfl ?_
  refine x_iload_n hK kX10_isShort_1 (q := 2) rfl rfl ?_
  refine x_cv2 hK kX10_isShort_2 (q := 5) rfl (vtX10_isShort_75) (Nat.le_of_ble_eq_true rfl) ?_
  refine SX10_length_i (by omega) hw ?_
  rw [a1]
  refine x_istore_n hK kX10_isShort_5 (q := 6) (jn := 2) rfl rfl ?_
  refine x_iload_n hK kX10_isShort_6 (q := 7) rfl rfl ?_
  refine x_iconst hK kX10_isShort_7 (q := 8) rfl ?_
  simp only [lS, lS2, clr_0, clr_I, clr_L, clr_R]
  refine x_icmp_lt hK kX10_isShort_8 (q := 11) rfl (tg := 33) rfl (by refine ⟨?_, ?_⟩ <;> omega) (fun c8 => ?_) (fun c8 => ?_)
  · refine x_iconst hK kX10_isShort_33 (q := 34) rfl ?_
    refine x_goto hK kX10_isShort_34 (tg := 38) rfl ?_
    refine x_ireturn hK kX10_isShort_38 (by first | exact Or.inl rfl | exact Or.inr rfl) ?_
    first
    | exact h 1 (Or.inr rfl) ⟨fun _ => hlt (by omega), fun _ => rfl⟩
    | exact h 1 (Or.inr rfl) ⟨fun _ => (heq (by omega)).mp (by omega), fun _ => rfl⟩
    | exact h 0 (Or.inl rfl) ⟨fun q => absurd q (by decide), fun q => absurd ((heq (by omega)).mpr q) (by omega)⟩
    | exact h 0 (Or.inl rfl) ⟨fun q => absurd q (by decide), fun q => absurd q (hgt (by omega))⟩
  · refine x_iload_n hK kX10_isShort_11 (q := 12) rfl rfl ?_
    refine x_iconst hK kX10_isShort_12 (q := 13) rfl ?_
    refine x_icmp_ne hK kX10_isShort_13 (q := 16) rfl (tg := 37) rfl (by refine ⟨?_, ?_⟩ <;> omega) (fun c13 => ?_) (fun c13 => ?_)
    · refine x_iconst hK kX10_isShort_37 (q := 38) rfl ?_
      refine x_ireturn hK kX10_isShort_38 (by first | exact Or.inl rfl | exact Or.inr rfl) ?_
      first
      | exact h 1 (Or.inr rfl) ⟨fun _ => hlt (by omega), fun _ => rfl⟩
      | exact h 1 (Or.inr rfl) ⟨fun _ => (heq (by omega)).mp (by omega), fun _ => rfl⟩
      | exact h 0 (Or.inl rfl) ⟨fun q => absurd q (by decide), fun q => absurd ((heq (by omega)).mpr q) (by omega)⟩
      | exact h 0 (Or.inl rfl) ⟨fun q => absurd q (by decide), fun q => absurd q (hgt (by omega))⟩
    · refine x_aload_n hK kX10_isShort_16 (q := 17) rfl rfl ?_
      refine x_getfield hK kX10_isShort_17 (q := 20) rfl (gX10_12 ?_)
      refine x_iload_n hK kX10_isShort_20 (q := 21) rfl rfl ?_
      refine x_cs1 hK kX10_isShort_21 (q := 24) rfl (stX10_isShort_64) (Nat.le_of_ble_eq_true rfl) ?_
      refine SX10_at_i ?_
      refine x_iconst hK kX10_isShort_24 (q := 25) rfl ?_
      refine x_iadd hK kX10_isShort_25 (q := 26) rfl ?_
      refine x_iaload hK kX10_isShort_26 (q := 27) rfl (aX10_A0 (by refine ⟨?_, ?_⟩ <;> omega) ?_)
      refine x_sipush hK kX10_isShort_27 (q := 30) rfl (by decide) ?_
      refine x_icmp_ge hK kX10_isShort_30 (q := 33) rfl (tg := 37) rfl (by exact ⟨by rcases w3 with g | g; exact g; exact absurd (by omega) g, by decide⟩) (fun c30 => ?_) (fun c30 => ?_)
      · refine x_iconst hK kX10_isShort_37 (q := 38) rfl ?_
        refine x_ireturn hK kX10_isShort_38 (by first | exact Or.inl rfl | exact Or.inr rfl) ?_
        first
        | exact h 1 (Or.inr rfl) ⟨fun _ => hlt (by omega), fun _ => rfl⟩
        | exact h 1 (Or.inr rfl) ⟨fun _ => (heq (by omega)).mp (by omega), fun _ => rfl⟩
        | exact h 0 (Or.inl rfl) ⟨fun q => absurd q (by decide), fun q => absurd ((heq (by omega)).mpr q) (by omega)⟩
        | exact h 0 (Or.inl rfl) ⟨fun q => absurd q (by decide), fun q => absurd q (hgt (by omega))⟩
      · refine x_iconst hK kX10_isShort_33 (q := 34) rfl ?_
        refine x_goto hK kX10_isShort_34 (tg := 38) rfl ?_
        refine x_ireturn hK kX10_isShort_38 (by first | exact Or.inl rfl | exact Or.inr rfl) ?_
        first
        | exact h 1 (Or.inr rfl) ⟨fun _ => hlt (by omega), fun _ => rfl⟩
        | exact h 1 (Or.inr rfl) ⟨fun _ => (heq (by omega)).mp (by omega), fun _ => rfl⟩
        | exact h 0 (Or.inl rfl) ⟨fun q => absurd q (by decide), fun q => absurd ((heq (by omega)).mpr q) (by omega)⟩
        | exact h 0 (Or.inl rfl) ⟨fun q => absurd q (by decide), fun q => absurd q (hgt (by omega))⟩
set_option maxRecDepth 20000 in
theorem mX10_isShort : eMet yX10_isShort cX10_isShort 3 (some .boolean) 2 42 SX10_isShort := eMet_of (by decide +kernel) sX10_isShort kX10_isShort_ok caX10_isShort tb_RX10
theorem wX10_isShort : eWV yX10_isShort cX10_isShort 3 (some .boolean) 2 9 SX10_isShort := ⟨(gW_at 1306 (by decide +kernel) rfl), (gW_at 89 (by decide +kernel) rfl), (gW_at 1305 (by decide +kernel) rfl), ⟨_, rfl, (gW_at 74 (by decide +kernel) rfl)⟩, by decide +kernel, SX10_isShort_r⟩
def SX10_value : eSp := fun as M rt => ∃ (F : Nat → Int) (A : Nat → Int → Int) (s : Int → Int) (p : Int), as = [eRR, eI p] ∧ M = cR F A ∧ rn (A 0) s ∧ (0 ≤ p ∧ p < 2666) ∧ zAbs (s p) < 9223372036854775808 ∧ rt (some (eL (s p))) (cR F A)
theorem SX10_value_i {F : Nat → Int} {A : Nat → Int → Int} {s : Int → Int} {p : Int} {rt : Option eV → eM → Prop} (hr : rn (A 0) s) (h0 : 0 ≤ p ∧ p < 2666) (h1 : zAbs (s p) < 9223372036854775808) (h : rt (some (eL (s p))) (cR F A)) : SX10_value [eRR, eI p] (cR F A) rt := ⟨F, A, s, p, rfl, rfl, hr, h0, h1, h⟩
theorem SX10_value_r : ∀ as M rt, SX10_value as M rt → ∃ a r fs, as = eR a :: r ∧ M a = some (.inl (9, fs)) := by
  rintro as M rt ⟨F, A, s, p, rfl, rfl, -⟩
  exact ⟨_, _, _, rfl, rfl⟩
def kX10_value : List (Nat × Jvm.ClassFile.Instr × Nat) := [(0, .lconst 0, 1), (1, .lstore_n 2, 1), (2, .aload_n 0, 1), (3, .iload_n 1, 1), (4, .invokevirtual 75, 3), (7, .istore 4, 2), (9, .iload 4, 2), (11, .ifCond .le 28, 3), (14, .lload_n 2, 1), (15, .bipush 28, 2), (17, .lshl, 1), (18, .aload_n 0, 1), (19, .getfield 12, 3), (22, .iload_n 1, 1), (23, .invokestatic 64, 3), (26, .iload 4, 2), (28, .iadd, 1), (29, .iaload, 1), (30, .i2l, 1), (31, .lor, 1), (32, .lstore_n 2, 1), (33, .iinc 4 (-1), 3), (36, .goto (-27), 3), (39, .aload_n 0, 1), (40, .iload_n 1, 1), (41, .invokevirtual 78, 3), (44, .ifCond .ge 8, 3), (47, .lload_n 2, 1), (48, .lneg, 1), (49, .goto 4, 3), (52, .lload_n 2, 1), (53, .lreturn, 1)]
theorem kX10_value_0 : cdOf kX10_value 0 = some (.lconst 0, 1) := by decide +kernel
theorem kX10_value_1 : cdOf kX10_value 1 = some (.lstore_n 2, 1) := by decide +kernel
theorem kX10_value_2 : cdOf kX10_value 2 = some (.aload_n 0, 1) := by decide +kernel
theorem kX10_value_3 : cdOf kX10_value 3 = some (.iload_n 1, 1) := by decide +kernel
theorem kX10_value_4 : cdOf kX10_value 4 = some (.invokevirtual 75, 3) := by decide +kernel
theorem kX10_value_7 : cdOf kX10_value 7 = some (.istore 4, 2) := by decide +kernel
theorem kX10_value_9 : cdOf kX10_value 9 = some (.iload 4, 2) := by decide +kernel
theorem kX10_value_11 : cdOf kX10_value 11 = some (.ifCond .le 28, 3) := by decide +kernel
theorem kX10_value_14 : cdOf kX10_value 14 = some (.lload_n 2, 1) := by decide +kernel
theorem kX10_value_15 : cdOf kX10_value 15 = some (.bipush 28, 2) := by decide +kernel
theorem kX10_value_17 : cdOf kX10_value 17 = some (.lshl, 1) := by decide +kernel
theorem kX10_value_18 : cdOf kX10_value 18 = some (.aload_n 0, 1) := by decide +kernel
theorem kX10_value_19 : cdOf kX10_value 19 = some (.getfield 12, 3) := by decide +kernel
theorem kX10_value_22 : cdOf kX10_value 22 = some (.iload_n 1, 1) := by decide +kernel
theorem kX10_value_23 : cdOf kX10_value 23 = some (.invokestatic 64, 3) := by decide +kernel
theorem kX10_value_26 : cdOf kX10_value 26 = some (.iload 4, 2) := by decide +kernel
theorem kX10_value_28 : cdOf kX10_value 28 = some (.iadd, 1) := by decide +kernel
theorem kX10_value_29 : cdOf kX10_value 29 = some (.iaload, 1) := by decide +kernel
theorem kX10_value_30 : cdOf kX10_value 30 = some (.i2l, 1) := by decide +kernel
theorem kX10_value_31 : cdOf kX10_value 31 = some (.lor, 1) := by decide +kernel
theorem kX10_value_32 : cdOf kX10_value 32 = some (.lstore_n 2, 1) := by decide +kernel
theorem kX10_value_33 : cdOf kX10_value 33 = some (.iinc 4 (-1), 3) := by decide +kernel
theorem kX10_value_36 : cdOf kX10_value 36 = some (.goto (-27), 3) := by decide +kernel
theorem kX10_value_39 : cdOf kX10_value 39 = some (.aload_n 0, 1) := by decide +kernel
theorem kX10_value_40 : cdOf kX10_value 40 = some (.iload_n 1, 1) := by decide +kernel
theorem kX10_value_41 : cdOf kX10_value 41 = some (.invokevirtual 78, 3) := by decide +kernel
theorem kX10_value_44 : cdOf kX10_value 44 = some (.ifCond .ge 8, 3) := by decide +kernel
theorem kX10_value_47 : cdOf kX10_value 47 = some (.lload_n 2, 1) := by decide +kernel
theorem kX10_value_48 : cdOf kX10_value 48 = some (.lneg, 1) := by decide +kernel
theorem kX10_value_49 : cdOf kX10_value 49 = some (.goto 4, 3) := by decide +kernel
theorem kX10_value_52 : cdOf kX10_value 52 = some (.lload_n 2, 1) := by decide +kernel
theorem kX10_value_53 : cdOf kX10_value 53 = some (.lreturn, 1) := by decide +kernel
set_option maxRecDepth 20000 in
theorem kX10_value_ok : ∀ pc i len, cdOf kX10_value pc = some (i, len) → decode cX10_value pc = .ok (i, len) ∧ stOK 5 i = true ∧ jOK pc i = true ∧ eLen i len = true := cdOf_ok cX10_value 5 kX10_value (by decide +kernel)
def vtX10_value : Nat → Option (Nat × eSp) := fun k => match k with
  | 75 => some (2, SX10_length)
  | 78 => some (2, SX10_sign)
  | _ => none
theorem vtX10_value_75 : vtX10_value 75 = some (2, SX10_length) := rfl
theorem vtX10_value_78 : vtX10_value 78 = some (2, SX10_sign) := rfl
def stX10_value : Nat → Option (Nat × eSp) := fun k => match k with
  | 64 => some (1, SX10_at)
  | _ => none
theorem stX10_value_64 : stX10_value 64 = some (1, SX10_at) := rfl
abbrev TX10_value : eT := (fl_RX10, cl_RX10, dl_RX10, vtX10_value, stX10_value)
set_option maxRecDepth 20000 in
theorem caX10_value : eCalls RX10 { frames := 2, cells := 0, slots := 0, locals := 42 } TX10_value := by
  refine ⟨fun k n sp h => ?_, fun k n sp h => ?_⟩
  · dsimp only [TX10_value] at h
    unfold vtX10_value at h
    split at h
    · cases h; exact eV_mk mX10_length wX10_length (by decide +kernel) (Or.inl (gW_at 1101 (by decide +kernel) rfl))
    · cases h; exact eV_mk mX10_sign wX10_sign (by decide +kernel) (Or.inl (gW_at 1142 (by decide +kernel) rfl))
    · cases h
  · dsimp only [TX10_value] at h
    unfold stX10_value at h
    split at h
    · cases h; exact eS_mk mX10_at wX10_at (by decide +kernel) (Or.inl (gW_at 1070 (by decide +kernel) rfl))
    · cases h
set_option maxRecDepth 100000 in
set_option maxHeartbeats 4000000 in
theorem sX10_value : eSafe TX10_value (cdOf kX10_value) 5 (some .long) SX10_value := by
  intro K rt hK as M h
  obtain ⟨F, A, s, p, rfl, rfl, hr, hp, hb, h⟩ := h
  refine ⟨by simp [eE], ?_⟩
  have hnm := hr p hp.1 hp.2
  have hw := nm_w hnm
  have hsg := zSgn_h hnm
  obtain ⟨n, hn, lr1, top, a1, a2, a3, a4, a5, a6, a7, a8⟩ := nm_h hnm
  have loop : ∀ (k : Nat), k ≤ n → K 9 [some eRR, some (eI p), some (eL (vl (A 0) (p * 601 + 1 + k) (n - k))), none, some (eI k)] [] (cR F A) := by
    intro k
    induction k with
    | zero =>
      intro hk
      rw [show p * 601 + 1 + ((0 : Nat) : Int) = p * 601 + 1 by omega, Nat.sub_zero, ← a2]
      have sg : (0 ≤ zSgn (s p) → 0 ≤ s p) ∧ (¬ 0 ≤ zSgn (s p) → s p < 0) := by
        unfold zSgn
        split
        · omega
        · split <;> omega
      refine x_iload hK kX10_value_9 (q := 11) rfl rfl ?_
      refine x_if_le hK kX10_value_11 (q := 14) rfl (tg := 39) rfl (by omega) (fun c11 => ?_) (fun c11 => ?_)
      · refine x_aload_n hK kX10_value_39 (q := 40) rfl rfl ?_
        refine x_iload_n hK kX10_value_40 (q := 41) rfl rfl ?_
        refine x_cv2 hK kX10_value_41 (q := 44) rfl (vtX10_value_78) (Nat.le_of_ble_eq_true rfl) ?_
        refine SX10_sign_i (by omega) hw ?_
        rw [hsg]
        refine x_if_ge hK kX10_value_44 (q := 47) rfl (tg := 52) rfl (by rcases zSgn_3 (s p) with e | e | e <;> rw [e] <;> decide) (fun c44 => ?_) (fun c44 => ?_)
        · have e : zAbs (s p) = s p := zAbs_nn (sg.1 c44)
          refine x_lload_n hK kX10_value_52 (q := 53) rfl rfl ?_
          refine x_lreturn hK kX10_value_53 (by first | trivial | exact Or.inl rfl | exact Or.inr rfl) ?_
          rw [e]; exact h
        · have e : -zAbs (s p) = s p := by have := sg.2 c44; unfold zAbs; rw [if_pos this]; omega
          refine x_lload_n hK kX10_value_47 (q := 48) rfl rfl ?_
          refine x_lneg hK kX10_value_48 (q := 49) rfl ?_
          refine x_goto hK kX10_value_49 (tg := 53) rfl ?_
          refine x_lreturn hK kX10_value_53 (by first | trivial | exact Or.inl rfl | exact Or.inr rfl) ?_
          rw [e]; exact h
      · exfalso; omega
    | succ k ih =>
      intro hk
      obtain ⟨v, hv⟩ : ∃ v, vl (A 0) (p * 601 + 1 + ((k + 1 : Nat) : Int)) (n - (k + 1)) = v := ⟨_, rfl⟩
      have b0 : bB = 268435456 := rfl
      have l0 := lr1 k (by omega)
      have e1 := vl_split (f := A 0) (o := p * 601 + 1 + (k : Int)) 1 (n - (k + 1))
      rw [show p * 601 + 1 + (k : Int) + ((1 : Nat) : Int) = p * 601 + 1 + ((k + 1 : Nat) : Int) by omega, hv, show 1 + (n - (k + 1)) = n - k by omega] at e1
      have e2 : vl (A 0) (p * 601 + 1 + (k : Int)) 1 = A 0 (p * 601 + 1 + (k : Int)) := by simp [vl]
      rw [e2, Int.pow_one] at e1
      have e3 := vl_split (f := A 0) (o := p * 601 + 1) k (n - k)
      rw [show k + (n - k) = n by omega, ← a2] at e3
      have n1 := vl_nn (lr1.sub (show k ≤ n by omega))
      have n2 : 0 ≤ v := by
        rw [← hv]
        exact vl_nn (fun j hj => by
          have := lr1 (k + 1 + j) (by omega)
          rw [show p * 601 + 1 + ((k + 1 + j : Nat) : Int) = p * 601 + 1 + ((k + 1 : Nat) : Int) + (j : Int) by omega] at this
          exact this)
      have n3 : 0 ≤ vl (A 0) (p * 601 + 1 + (k : Int)) (n - k) := by rw [e1]; show 0 ≤ _ + v * 268435456; omega
      have n4 : vl (A 0) (p * 601 + 1 + (k : Int)) (n - k) * 1 ≤ vl (A 0) (p * 601 + 1 + (k : Int)) (n - k) * bB ^ k := Int.mul_le_mul_of_nonneg_left (by have := bB_pos k; omega) n3
      have n5 : A 0 (p * 601 + 1 + (k : Int)) + v * 268435456 < 9223372036854775808 := by
        have : vl (A 0) (p * 601 + 1 + (k : Int)) (n - k) = A 0 (p * 601 + 1 + (k : Int)) + v * 268435456 := e1
        omega
      have e4 : zShlL v 28 = v * 2 ^ 28 := zShlL_n v 28 (by decide) (by constructor <;> omega)
      have e5 := zOrL_s v (A 0 (p * 601 + 1 + (k : Int))) 28 (by decide) n2 l0.1 (by have := l0.2; omega) (by omega)
      have e6 : p * 601 + ((k + 1 : Nat) : Int) = p * 601 + 1 + (k : Int) := by omega
      rw [hv]
      refine x_iload hK kX10_value_9 (q := 11) rfl rfl ?_
      refine x_if_le hK kX10_value_11 (q := 14) rfl (tg := 39) rfl (by omega) (fun c11 => ?_) (fun c11 => ?_)
      · exfalso; omega
      · refine x_lload_n hK kX10_value_14 (q := 15) rfl rfl ?_
        refine x_bipush hK kX10_value_15 (q := 17) rfl (by decide) ?_
        refine x_lshl hK kX10_value_17 (q := 18) rfl ?_
        rw [e4]
        refine x_aload_n hK kX10_value_18 (q := 19) rfl rfl ?_
        refine x_getfield hK kX10_value_19 (q := 22) rfl (gX10_12 ?_)
        refine x_iload_n hK kX10_value_22 (q := 23) rfl rfl ?_
        refine x_cs1 hK kX10_value_23 (q := 26) rfl (stX10_value_64) (Nat.le_of_ble_eq_true rfl) ?_
        refine SX10_at_i ?_
        refine x_iload hK kX10_value_26 (q := 28) rfl rfl ?_
        refine x_iadd hK kX10_value_28 (q := 29) rfl ?_
        refine x_iaload hK kX10_value_29 (q := 30) rfl (aX10_A0 (by refine ⟨?_, ?_⟩ <;> omega) ?_)
        rw [e6]
        refine x_i2l hK kX10_value_30 (q := 31) rfl (by constructor <;> omega) ?_
        refine x_lor hK kX10_value_31 (q := 32) rfl ?_
        rw [e5]
        refine x_lstore_n hK kX10_value_32 (q := 33) (jn := 2) rfl rfl ?_
        refine x_iinc hK kX10_value_33 (q := 36) rfl rfl ?_
        simp only [lS, lS2, clr_0, clr_I, clr_L, clr_R]
        refine x_goto hK kX10_value_36 (tg := 9) rfl ?_
        refine x_to (ih (by omega)) ?_ rfl rfl
        rw [e1, show v * 2 ^ 28 + A 0 (p * 601 + 1 + (k : Int)) = A 0 (p * 601 + 1 + (k : Int)) + v * bB by show v * 268435456 + _ = _ + v * 268435456; omega, show ((k + 1 : Nat) : Int) + -1 = (k : Int) by omega]
  simp only [eLoc, eE, List.length_cons, List.length_nil, List.replicate, List.cons_append, List.nil_append, Nat.reduceAdd, Nat.reduceSub]
  refine x_lconst0 hK kX10_value_0 (q := 1) rfl ?_
  refine x_lstore_n hK kX10_value_1 (q := 2) (jn := 2) rfl rfl ?_
  refine x_aload_n hK kX10_value_2 (q := 3) rfl rfl ?_
  refine x_iload_n hK kX10_value_3 (q := 4) rfl rfl ?_
  simp only [lS, lS2, clr_0, clr_I, clr_L, clr_R]
  refine x_cv2 hK kX10_value_4 (q := 7) rfl (vtX10_value_75) (Nat.le_of_ble_eq_true rfl) ?_
  refine SX10_length_i (by omega) hw ?_
  rw [a1]
  refine x_istore hK kX10_value_7 (q := 9) rfl ?_
  simp only [lS, lS2, clr_0, clr_I, clr_L, clr_R]
  refine x_to (loop n (Nat.le_refl n)) ?_ rfl rfl
  rw [Nat.sub_self]
  rfl
set_option maxRecDepth 20000 in
theorem mX10_value : eMet yX10_value cX10_value 5 (some .long) 2 42 SX10_value := eMet_of (by decide +kernel) sX10_value kX10_value_ok caX10_value tb_RX10
theorem wX10_value : eWV yX10_value cX10_value 5 (some .long) 2 9 SX10_value := ⟨(gW_at 1311 (by decide +kernel) rfl), (gW_at 89 (by decide +kernel) rfl), (gW_at 1310 (by decide +kernel) rfl), ⟨_, rfl, (gW_at 75 (by decide +kernel) rfl)⟩, by decide +kernel, SX10_value_r⟩
-- fraction
def frac (x y what : Int) : Int := if zAbs (x / (Int.gcd x y : Int)) < 9223372036854775808 ∧ zAbs (y / (Int.gcd x y : Int)) < 9223372036854775808 then (if what = 0 then x / (Int.gcd x y : Int) else y / (Int.gcd x y : Int)) else -9223372036854775808
def SX10_fraction : eSp := fun as M rt => ∃ (F : Nat → Int) (A : Nat → Int → Int) (s : Int → Int) (a b what : Int), as = [eRR, eI a, eI b, eI what] ∧ M = cR F A ∧ rn (A 0) s ∧ (0 ≤ a ∧ a < 2666 ∧ (a < 2070 ∨ 2073 ≤ a)) ∧ (0 ≤ b ∧ b < 2666 ∧ (b < 2070 ∨ 2073 ≤ b)) ∧ s b ≠ 0 ∧ (zAbs (s a) < bB ^ 598 ∧ zAbs (s b) < bB ^ 598) ∧ w32 what ∧ ∀ (A' : Nat → Int → Int) (s' : Int → Int), sN A A' → rn (A' 0) s' → (∀ p, p < 2070 ∨ 2073 ≤ p → s' p = s p) → rt (some (eL (frac (s a) (s b) what))) (cR F A')
theorem SX10_fraction_i {F : Nat → Int} {A : Nat → Int → Int} {s : Int → Int} {a b what : Int} {rt : Option eV → eM → Prop} (hr : rn (A 0) s) (h0 : 0 ≤ a ∧ a < 2666 ∧ (a < 2070 ∨ 2073 ≤ a)) (h1 : 0 ≤ b ∧ b < 2666 ∧ (b < 2070 ∨ 2073 ≤ b)) (h2 : s b ≠ 0) (h3 : zAbs (s a) < bB ^ 598 ∧ zAbs (s b) < bB ^ 598) (h4 : w32 what) (h : ∀ (A' : Nat → Int → Int) (s' : Int → Int), sN A A' → rn (A' 0) s' → (∀ p, p < 2070 ∨ 2073 ≤ p → s' p = s p) → rt (some (eL (frac (s a) (s b) what))) (cR F A')) : SX10_fraction [eRR, eI a, eI b, eI what] (cR F A) rt := ⟨F, A, s, a, b, what, rfl, rfl, hr, h0, h1, h2, h3, h4, h⟩
theorem SX10_fraction_r : ∀ as M rt, SX10_fraction as M rt → ∃ a r fs, as = eR a :: r ∧ M a = some (.inl (9, fs)) := by
  rintro as M rt ⟨F, A, s, a, b, what, rfl, rfl, -⟩
  exact ⟨_, _, _, rfl, rfl⟩
def kX10_fraction : List (Nat × Jvm.ClassFile.Instr × Nat) := [(0, .aload_n 0, 1), (1, .sipush 2070, 3), (4, .iload_n 1, 1), (5, .iload_n 2, 1), (6, .invokevirtual 148, 3), (9, .aload_n 0, 1), (10, .sipush 2071, 3), (13, .iload_n 1, 1), (14, .invokevirtual 85, 3), (17, .aload_n 0, 1), (18, .sipush 2071, 3), (21, .sipush 2070, 3), (24, .invokevirtual 155, 3), (27, .aload_n 0, 1), (28, .sipush 2072, 3), (31, .iload_n 2, 1), (32, .invokevirtual 85, 3), (35, .aload_n 0, 1), (36, .sipush 2072, 3), (39, .sipush 2070, 3), (42, .invokevirtual 155, 3), (45, .aload_n 0, 1), (46, .sipush 2071, 3), (49, .invokevirtual 280, 3), (52, .ifCond .eq 13, 3), (55, .aload_n 0, 1), (56, .sipush 2072, 3), (59, .invokevirtual 280, 3), (62, .ifCond .ne 7, 3), (65, .ldc2_w 283, 3), (68, .lreturn, 1), (69, .aload_n 0, 1), (70, .iload_n 3, 1), (71, .ifCond .ne 9, 3), (74, .sipush 2071, 3), (77, .goto 6, 3), (80, .sipush 2072, 3), (83, .invokevirtual 285, 3), (86, .lreturn, 1)]
theorem kX10_fraction_0 : cdOf kX10_fraction 0 = some (.aload_n 0, 1) := by decide +kernel
theorem kX10_fraction_1 : cdOf kX10_fraction 1 = some (.sipush 2070, 3) := by decide +kernel
theorem kX10_fraction_4 : cdOf kX10_fraction 4 = some (.iload_n 1, 1) := by decide +kernel
theorem kX10_fraction_5 : cdOf kX10_fraction 5 = some (.iload_n 2, 1) := by decide +kernel
theorem kX10_fraction_6 : cdOf kX10_fraction 6 = some (.invokevirtual 148, 3) := by decide +kernel
theorem kX10_fraction_9 : cdOf kX10_fraction 9 = some (.aload_n 0, 1) := by decide +kernel
theorem kX10_fraction_10 : cdOf kX10_fraction 10 = some (.sipush 2071, 3) := by decide +kernel
theorem kX10_fraction_13 : cdOf kX10_fraction 13 = some (.iload_n 1, 1) := by decide +kernel
theorem kX10_fraction_14 : cdOf kX10_fraction 14 = some (.invokevirtual 85, 3) := by decide +kernel
theorem kX10_fraction_17 : cdOf kX10_fraction 17 = some (.aload_n 0, 1) := by decide +kernel
theorem kX10_fraction_18 : cdOf kX10_fraction 18 = some (.sipush 2071, 3) := by decide +kernel
theorem kX10_fraction_21 : cdOf kX10_fraction 21 = some (.sipush 2070, 3) := by decide +kernel
theorem kX10_fraction_24 : cdOf kX10_fraction 24 = some (.invokevirtual 155, 3) := by decide +kernel
theorem kX10_fraction_27 : cdOf kX10_fraction 27 = some (.aload_n 0, 1) := by decide +kernel
theorem kX10_fraction_28 : cdOf kX10_fraction 28 = some (.sipush 2072, 3) := by decide +kernel
theorem kX10_fraction_31 : cdOf kX10_fraction 31 = some (.iload_n 2, 1) := by decide +kernel
theorem kX10_fraction_32 : cdOf kX10_fraction 32 = some (.invokevirtual 85, 3) := by decide +kernel
theorem kX10_fraction_35 : cdOf kX10_fraction 35 = some (.aload_n 0, 1) := by decide +kernel
theorem kX10_fraction_36 : cdOf kX10_fraction 36 = some (.sipush 2072, 3) := by decide +kernel
theorem kX10_fraction_39 : cdOf kX10_fraction 39 = some (.sipush 2070, 3) := by decide +kernel
theorem kX10_fraction_42 : cdOf kX10_fraction 42 = some (.invokevirtual 155, 3) := by decide +kernel
theorem kX10_fraction_45 : cdOf kX10_fraction 45 = some (.aload_n 0, 1) := by decide +kernel
theorem kX10_fraction_46 : cdOf kX10_fraction 46 = some (.sipush 2071, 3) := by decide +kernel
theorem kX10_fraction_49 : cdOf kX10_fraction 49 = some (.invokevirtual 280, 3) := by decide +kernel
theorem kX10_fraction_52 : cdOf kX10_fraction 52 = some (.ifCond .eq 13, 3) := by decide +kernel
theorem kX10_fraction_55 : cdOf kX10_fraction 55 = some (.aload_n 0, 1) := by decide +kernel
theorem kX10_fraction_56 : cdOf kX10_fraction 56 = some (.sipush 2072, 3) := by decide +kernel
theorem kX10_fraction_59 : cdOf kX10_fraction 59 = some (.invokevirtual 280, 3) := by decide +kernel
theorem kX10_fraction_62 : cdOf kX10_fraction 62 = some (.ifCond .ne 7, 3) := by decide +kernel
theorem kX10_fraction_65 : cdOf kX10_fraction 65 = some (.ldc2_w 283, 3) := by decide +kernel
theorem kX10_fraction_68 : cdOf kX10_fraction 68 = some (.lreturn, 1) := by decide +kernel
theorem kX10_fraction_69 : cdOf kX10_fraction 69 = some (.aload_n 0, 1) := by decide +kernel
theorem kX10_fraction_70 : cdOf kX10_fraction 70 = some (.iload_n 3, 1) := by decide +kernel
theorem kX10_fraction_71 : cdOf kX10_fraction 71 = some (.ifCond .ne 9, 3) := by decide +kernel
theorem kX10_fraction_74 : cdOf kX10_fraction 74 = some (.sipush 2071, 3) := by decide +kernel
theorem kX10_fraction_77 : cdOf kX10_fraction 77 = some (.goto 6, 3) := by decide +kernel
theorem kX10_fraction_80 : cdOf kX10_fraction 80 = some (.sipush 2072, 3) := by decide +kernel
theorem kX10_fraction_83 : cdOf kX10_fraction 83 = some (.invokevirtual 285, 3) := by decide +kernel
theorem kX10_fraction_86 : cdOf kX10_fraction 86 = some (.lreturn, 1) := by decide +kernel
set_option maxRecDepth 20000 in
theorem kX10_fraction_ok : ∀ pc i len, cdOf kX10_fraction pc = some (i, len) → decode cX10_fraction pc = .ok (i, len) ∧ stOK 4 i = true ∧ jOK pc i = true ∧ eLen i len = true := cdOf_ok cX10_fraction 4 kX10_fraction (by decide +kernel)
def vtX10_fraction : Nat → Option (Nat × eSp) := fun k => match k with
  | 148 => some (4, SX10_divisor)
  | 85 => some (3, SX10_copy)
  | 155 => some (3, SX10_over)
  | 280 => some (2, SX10_isShort)
  | 285 => some (2, SX10_value)
  | _ => none
theorem vtX10_fraction_148 : vtX10_fraction 148 = some (4, SX10_divisor) := rfl
theorem vtX10_fraction_85 : vtX10_fraction 85 = some (3, SX10_copy) := rfl
theorem vtX10_fraction_155 : vtX10_fraction 155 = some (3, SX10_over) := rfl
theorem vtX10_fraction_280 : vtX10_fraction 280 = some (2, SX10_isShort) := rfl
theorem vtX10_fraction_285 : vtX10_fraction 285 = some (2, SX10_value) := rfl
def stX10_fraction : Nat → Option (Nat × eSp) := fun _ => none
abbrev TX10_fraction : eT := (fl_RX10, cl_RX10, dl_RX10, vtX10_fraction, stX10_fraction)
set_option maxRecDepth 20000 in
theorem caX10_fraction : eCalls RX10 { frames := 4, cells := 0, slots := 0, locals := 103 } TX10_fraction := by
  refine ⟨fun k n sp h => ?_, fun k n sp h => ?_⟩
  · dsimp only [TX10_fraction] at h
    unfold vtX10_fraction at h
    split at h
    · cases h; exact eV_mk mX10_divisor wX10_divisor (by decide +kernel) (Or.inl (gW_at 1093 (by decide +kernel) rfl))
    · cases h; exact eV_mk mX10_copy wX10_copy (by decide +kernel) (Or.inl (gW_at 1134 (by decide +kernel) rfl))
    · cases h; exact eV_mk mX10_over wX10_over (by decide +kernel) (Or.inl (gW_at 1138 (by decide +kernel) rfl))
    · cases h; exact eV_mk mX10_isShort wX10_isShort (by decide +kernel) (Or.inl (gW_at 1303 (by decide +kernel) rfl))
    · cases h; exact eV_mk mX10_value wX10_value (by decide +kernel) (Or.inl (gW_at 1308 (by decide +kernel) rfl))
    · cases h
  · cases h
set_option maxRecDepth 100000 in
set_option maxHeartbeats 4000000 in
theorem sX10_fraction : eSafe TX10_fraction (cdOf kX10_fraction) 4 (some .long) SX10_fraction := by
  intro K rt hK as M h
  obtain ⟨F, A, s, a, b, what, rfl, rfl, hr, ha, hb, hne, hB, hw, h⟩ := h
  refine ⟨by simp [eE], ?_⟩
  obtain ⟨g, hg⟩ : ∃ g : Int, (Int.gcd (s a) (s b) : Int) = g := ⟨_, rfl⟩
  have g0 : g ≠ 0 := by
    rw [← hg]
    have := Int.gcd_pos_of_ne_zero_right (s a) hne
    omega
  obtain ⟨x, hx⟩ : ∃ x, s a / g = x := ⟨_, rfl⟩
  obtain ⟨y, hy⟩ : ∃ y, s b / g = y := ⟨_, rfl⟩
  have ex : s a = g * x := by rw [← hx, ← hg]; exact (Int.mul_ediv_cancel' (Int.gcd_dvd_left ..)).symm
  have ey : s b = g * y := by rw [← hy, ← hg]; exact (Int.mul_ediv_cancel' (Int.gcd_dvd_right ..)).symm
  have hfr : frac (s a) (s b) what = if zAbs x < 9223372036854775808 ∧ zAbs y < 9223372036854775808 then (if what = 0 then x else y) else -9223372036854775808 := by
    unfold frac
    rw [hg, hx, hy]
  rw [hfr] at h
  simp only [eLoc, eE, List.length_cons, List.length_nil, List.replicate, List.cons_append, List.nil_append, Nat.reduceAdd, Nat.reduceSub]
  refine x_aload_n hK kX10_fraction_0 (q := 1) rfl rfl ?_
  refine x_sipush hK kX10_fraction_1 (q := 4) rfl (by decide) ?_
  refine x_iload_n hK kX10_fraction_4 (q := 5) rfl rfl ?_
  refine x_iload_n hK kX10_fraction_5 (q := 6) rfl rfl ?_
  refine x_cv4 hK kX10_fraction_6 (q := 9) rfl (vtX10_fraction_148) (Nat.le_of_ble_eq_true rfl) ?_
  refine SX10_divisor_n hr (by decide) ⟨ha.1, ha.2.1⟩ ⟨hb.1, hb.2.1⟩ hB (fun A1 k1 r1 => ?_)
  rw [hg] at r1
  have v1 : uI s 2070 g a = s a := uI_n _ _ (by omega)
  have v2 : uI s 2070 g b = s b := uI_n _ _ (by omega)
  refine x_aload_n hK kX10_fraction_9 (q := 10) rfl rfl ?_
  refine x_sipush hK kX10_fraction_10 (q := 13) rfl (by decide) ?_
  refine x_iload_n hK kX10_fraction_13 (q := 14) rfl rfl ?_
  refine x_cv3 hK kX10_fraction_14 (q := 17) rfl (vtX10_fraction_85) (Nat.le_of_ble_eq_true rfl) ?_
  refine SX10_copy_n r1 (by decide) ⟨ha.1, ha.2.1⟩ (fun A2 k2 r2 => ?_)
  rw [v1] at r2
  refine x_aload_n hK kX10_fraction_17 (q := 18) rfl rfl ?_
  refine x_sipush hK kX10_fraction_18 (q := 21) rfl (by decide) ?_
  refine x_sipush hK kX10_fraction_21 (q := 24) rfl (by decide) ?_
  refine x_cv3 hK kX10_fraction_24 (q := 27) rfl (vtX10_fraction_155) (Nat.le_of_ble_eq_true rfl) ?_
  refine SX10_over_n x r2 (by decide) (by decide) (by rw [uI_s, uI_n _ _ (by decide), uI_s]; exact ex) (by rw [uI_n _ _ (by decide), uI_s]; exact g0) (fun A3 k3 r3 => ?_)
  rw [uI_uI] at r3
  have v3 : uI (uI s 2070 g) 2071 x b = s b := by rw [uI_n _ _ (by omega)]; exact v2
  refine x_aload_n hK kX10_fraction_27 (q := 28) rfl rfl ?_
  refine x_sipush hK kX10_fraction_28 (q := 31) rfl (by decide) ?_
  refine x_iload_n hK kX10_fraction_31 (q := 32) rfl rfl ?_
  refine x_cv3 hK kX10_fraction_32 (q := 35) rfl (vtX10_fraction_85) (Nat.le_of_ble_eq_true rfl) ?_
  refine SX10_copy_n r3 (by decide) ⟨hb.1, hb.2.1⟩ (fun A4 k4 r4 => ?_)
  rw [v3] at r4
  refine x_aload_n hK kX10_fraction_35 (q := 36) rfl rfl ?_
  refine x_sipush hK kX10_fraction_36 (q := 39) rfl (by decide) ?_
  refine x_sipush hK kX10_fraction_39 (q := 42) rfl (by decide) ?_
  refine x_cv3 hK kX10_fraction_42 (q := 45) rfl (vtX10_fraction_155) (Nat.le_of_ble_eq_true rfl) ?_
  refine SX10_over_n y r4 (by decide) (by decide) (by rw [uI_s, uI_n _ _ (by decide), uI_n _ _ (by decide), uI_s]; exact ey) (by rw [uI_n _ _ (by decide), uI_n _ _ (by decide), uI_s]; exact g0) (fun A5 k5 r5 => ?_)
  rw [uI_uI] at r5
  have v4 : uI (uI (uI s 2070 g) 2071 x) 2072 y 2071 = x := by rw [uI_n _ _ (by decide), uI_s]
  have v5 : uI (uI (uI s 2070 g) 2071 x) 2072 y 2072 = y := uI_s _ _ _
  have fin := h A5 _ (sN_tr k1 (sN_tr k2 (sN_tr k3 (sN_tr k4 k5)))) r5 (fun p p0 => by rw [uI_n _ _ (by omega), uI_n _ _ (by omega), uI_n _ _ (by omega)])
  refine x_aload_n hK kX10_fraction_45 (q := 46) rfl rfl ?_
  refine x_sipush hK kX10_fraction_46 (q := 49) rfl (by decide) ?_
  refine x_cv2 hK kX10_fraction_49 (q := 52) rfl (vtX10_fraction_280) (Nat.le_of_ble_eq_true rfl) ?_
  refine SX10_isShort_i r5 (by decide) (fun b1 b10 b11 => ?_)
  rw [v4] at b11
  refine x_if_eq hK kX10_fraction_52 (q := 55) rfl (tg := 65) rfl (by rcases b10 with e | e <;> rw [e] <;> decide) (fun c52 => ?_) (fun c52 => ?_)
  · refine x_ldc2_w hK kX10_fraction_65 (q := 68) rfl lc2_RX10_283 ?_
    refine x_lreturn hK kX10_fraction_68 (by first | trivial | exact Or.inl rfl | exact Or.inr rfl) ?_
    first
    | (rw [if_neg (fun q => by have := b21.mpr q.2; omega)] at fin; exact fin)
    | (rw [if_neg (fun q => by have := b11.mpr q.1; omega)] at fin; exact fin)
  · refine x_aload_n hK kX10_fraction_55 (q := 56) rfl rfl ?_
    refine x_sipush hK kX10_fraction_56 (q := 59) rfl (by decide) ?_
    refine x_cv2 hK kX10_fraction_59 (q := 62) rfl (vtX10_fraction_280) (Nat.le_of_ble_eq_true rfl) ?_
    refine SX10_isShort_i r5 (by decide) (fun b2 b20 b21 => ?_)
    rw [v5] at b21
    refine x_if_ne hK kX10_fraction_62 (q := 65) rfl (tg := 69) rfl (by rcases b20 with e | e <;> rw [e] <;> decide) (fun c62 => ?_) (fun c62 => ?_)
    · refine x_aload_n hK kX10_fraction_69 (q := 70) rfl rfl ?_
      refine x_iload_n hK kX10_fraction_70 (q := 71) rfl rfl ?_
      refine x_if_ne hK kX10_fraction_71 (q := 74) rfl (tg := 80) rfl (by omega) (fun c71 => ?_) (fun c71 => ?_)
      · refine x_sipush hK kX10_fraction_80 (q := 83) rfl (by decide) ?_
        refine x_cv2 hK kX10_fraction_83 (q := 86) rfl (vtX10_fraction_285) (Nat.le_of_ble_eq_true rfl) ?_
        have s1 := b11.mp (by omega)
        have s2 := b21.mp (by omega)
        rw [if_pos ⟨s1, s2⟩] at fin
        first
        | (rw [if_pos (by omega)] at fin; refine SX10_value_i r5 (by decide) (by rw [v4]; exact s1) ?_; rw [v4])
        | (rw [if_neg c71] at fin; refine SX10_value_i r5 (by decide) (by rw [v5]; exact s2) ?_; rw [v5])
        refine x_lreturn hK kX10_fraction_86 (by first | trivial | exact Or.inl rfl | exact Or.inr rfl) ?_
        exact fin
      · refine x_sipush hK kX10_fraction_74 (q := 77) rfl (by decide) ?_
        refine x_goto hK kX10_fraction_77 (tg := 83) rfl ?_
        refine x_cv2 hK kX10_fraction_83 (q := 86) rfl (vtX10_fraction_285) (Nat.le_of_ble_eq_true rfl) ?_
        have s1 := b11.mp (by omega)
        have s2 := b21.mp (by omega)
        rw [if_pos ⟨s1, s2⟩] at fin
        first
        | (rw [if_pos (by omega)] at fin; refine SX10_value_i r5 (by decide) (by rw [v4]; exact s1) ?_; rw [v4])
        | (rw [if_neg c71] at fin; refine SX10_value_i r5 (by decide) (by rw [v5]; exact s2) ?_; rw [v5])
        refine x_lreturn hK kX10_fraction_86 (by first | trivial | exact Or.inl rfl | exact Or.inr rfl) ?_
        exact fin
    · refine x_ldc2_w hK kX10_fraction_65 (q := 68) rfl lc2_RX10_283 ?_
      refine x_lreturn hK kX10_fraction_68 (by first | trivial | exact Or.inl rfl | exact Or.inr rfl) ?_
      first
      | (rw [if_neg (fun q => by have := b21.mpr q.2; omega)] at fin; exact fin)
      | (rw [if_neg (fun q => by have := b11.mpr q.1; omega)] at fin; exact fin)
set_option maxRecDepth 20000 in
theorem mX10_fraction : eMet yX10_fraction cX10_fraction 4 (some .long) 4 103 SX10_fraction := eMet_of (by decide +kernel) sX10_fraction kX10_fraction_ok caX10_fraction tb_RX10
theorem wX10_fraction : eWV yX10_fraction cX10_fraction 4 (some .long) 4 9 SX10_fraction := ⟨(gW_at 1302 (by decide +kernel) rfl), (gW_at 89 (by decide +kernel) rfl), (gW_at 1301 (by decide +kernel) rfl), ⟨_, rfl, (gW_at 73 (by decide +kernel) rfl)⟩, by decide +kernel, SX10_fraction_r⟩
-- denominator
def SX10_denominator : eSp := fun as M rt => ∃ (F : Nat → Int) (A : Nat → Int → Int) (s : Int → Int) (n : Nat), as = [eRR, eI n] ∧ M = cR F A ∧ rn (A 0) s ∧ n ≤ 20 ∧ 1 ≤ s 2076 ∧ s 2076 ^ n < bB ^ 598 ∧ ∀ (A' : Nat → Int → Int), sN A A' → rn (A' 0) (uI s 2074 (s 2076 ^ n)) → rt none (cR F A')
theorem SX10_denominator_i {F : Nat → Int} {A : Nat → Int → Int} {s : Int → Int} (n : Nat) {rt : Option eV → eM → Prop} (hr : rn (A 0) s) (h0 : n ≤ 20) (h1 : 1 ≤ s 2076) (h2 : s 2076 ^ n < bB ^ 598) (h : ∀ (A' : Nat → Int → Int), sN A A' → rn (A' 0) (uI s 2074 (s 2076 ^ n)) → rt none (cR F A')) : SX10_denominator [eRR, eI n] (cR F A) rt := ⟨F, A, s, n, rfl, rfl, hr, h0, h1, h2, h⟩
theorem SX10_denominator_r : ∀ as M rt, SX10_denominator as M rt → ∃ a r fs, as = eR a :: r ∧ M a = some (.inl (9, fs)) := by
  rintro as M rt ⟨F, A, s, n, rfl, rfl, -⟩
  exact ⟨_, _, _, rfl, rfl⟩
theorem pow_mo {D : Int} (h : 1 ≤ D) : ∀ (n d : Nat), 0 < D ^ n ∧ D ^ n ≤ D ^ (n + d)
  | n, 0 => ⟨Int.pow_pos (by omega), Int.le_refl _⟩
  | n, d + 1 => by
    have h1 := pow_mo h n d
    refine ⟨h1.1, ?_⟩
    rw [← Nat.add_assoc, Int.pow_succ]
    have := Int.mul_le_mul_of_nonneg_left h (show 0 ≤ D ^ (n + d) by omega)
    omega
def kX10_denominator : List (Nat × Jvm.ClassFile.Instr × Nat) := [(0, .aload_n 0, 1), (1, .sipush 2074, 3), (4, .lconst 1, 1), (5, .invokevirtual 132, 3), (8, .iconst 0, 1), (9, .istore_n 2, 1), (10, .iload_n 2, 1), (11, .iload_n 1, 1), (12, .if_icmp .ge 22, 3), (15, .aload_n 0, 1), (16, .sipush 2074, 3), (19, .sipush 2074, 3), (22, .sipush 2076, 3), (25, .invokevirtual 161, 3), (28, .iinc 2 1, 3), (31, .goto (-21), 3), (34, .return_, 1)]
theorem kX10_denominator_0 : cdOf kX10_denominator 0 = some (.aload_n 0, 1) := by decide +kernel
theorem kX10_denominator_1 : cdOf kX10_denominator 1 = some (.sipush 2074, 3) := by decide +kernel
theorem kX10_denominator_4 : cdOf kX10_denominator 4 = some (.lconst 1, 1) := by decide +kernel
theorem kX10_denominator_5 : cdOf kX10_denominator 5 = some (.invokevirtual 132, 3) := by decide +kernel
theorem kX10_denominator_8 : cdOf kX10_denominator 8 = some (.iconst 0, 1) := by decide +kernel
theorem kX10_denominator_9 : cdOf kX10_denominator 9 = some (.istore_n 2, 1) := by decide +kernel
theorem kX10_denominator_10 : cdOf kX10_denominator 10 = some (.iload_n 2, 1) := by decide +kernel
theorem kX10_denominator_11 : cdOf kX10_denominator 11 = some (.iload_n 1, 1) := by decide +kernel
theorem kX10_denominator_12 : cdOf kX10_denominator 12 = some (.if_icmp .ge 22, 3) := by decide +kernel
theorem kX10_denominator_15 : cdOf kX10_denominator 15 = some (.aload_n 0, 1) := by decide +kernel
theorem kX10_denominator_16 : cdOf kX10_denominator 16 = some (.sipush 2074, 3) := by decide +kernel
theorem kX10_denominator_19 : cdOf kX10_denominator 19 = some (.sipush 2074, 3) := by decide +kernel
theorem kX10_denominator_22 : cdOf kX10_denominator 22 = some (.sipush 2076, 3) := by decide +kernel
theorem kX10_denominator_25 : cdOf kX10_denominator 25 = some (.invokevirtual 161, 3) := by decide +kernel
theorem kX10_denominator_28 : cdOf kX10_denominator 28 = some (.iinc 2 1, 3) := by decide +kernel
theorem kX10_denominator_31 : cdOf kX10_denominator 31 = some (.goto (-21), 3) := by decide +kernel
theorem kX10_denominator_34 : cdOf kX10_denominator 34 = some (.return_, 1) := by decide +kernel
set_option maxRecDepth 20000 in
theorem kX10_denominator_ok : ∀ pc i len, cdOf kX10_denominator pc = some (i, len) → decode cX10_denominator pc = .ok (i, len) ∧ stOK 3 i = true ∧ jOK pc i = true ∧ eLen i len = true := cdOf_ok cX10_denominator 3 kX10_denominator (by decide +kernel)
def vtX10_denominator : Nat → Option (Nat × eSp) := fun k => match k with
  | 132 => some (3, SX10_set)
  | 161 => some (4, SX10_times)
  | _ => none
theorem vtX10_denominator_132 : vtX10_denominator 132 = some (3, SX10_set) := rfl
theorem vtX10_denominator_161 : vtX10_denominator 161 = some (4, SX10_times) := rfl
def stX10_denominator : Nat → Option (Nat × eSp) := fun _ => none
abbrev TX10_denominator : eT := (fl_RX10, cl_RX10, dl_RX10, vtX10_denominator, stX10_denominator)
set_option maxRecDepth 20000 in
theorem caX10_denominator : eCalls RX10 { frames := 3, cells := 0, slots := 0, locals := 76 } TX10_denominator := by
  refine ⟨fun k n sp h => ?_, fun k n sp h => ?_⟩
  · dsimp only [TX10_denominator] at h
    unfold vtX10_denominator at h
    split at h
    · cases h; exact eV_mk mX10_set wX10_set (by decide +kernel) (Or.inl (gW_at 1073 (by decide +kernel) rfl))
    · cases h; exact eV_mk mX10_times wX10_times (by decide +kernel) (Or.inl (gW_at 1149 (by decide +kernel) rfl))
    · cases h
  · cases h
set_option maxRecDepth 100000 in
set_option maxHeartbeats 4000000 in
theorem sX10_denominator : eSafe TX10_denominator (cdOf kX10_denominator) 3 none SX10_denominator := by
  intro K rt hK as M h
  obtain ⟨F, A, s, n, rfl, rfl, hr, hn, hD, hB, h⟩ := h
  refine ⟨by simp [eE], ?_⟩
  obtain ⟨D, hDD⟩ : ∃ D, s 2076 = D := ⟨_, rfl⟩
  rw [hDD] at hD hB h
  have wn : w32 (n : Int) := by constructor <;> omega
  have loop : ∀ (d k : Nat) (A' : Nat → Int → Int), k + d = n → sN A A' → rn (A' 0) (uI s 2074 (D ^ k)) → K 10 [some eRR, some (eI n), some (eI k)] [] (cR F A') := by
    intro d
    induction d with
    | zero =>
      intro k A' hk hA hr'
      have e : k = n := by omega
      subst e
      refine x_iload_n hK kX10_denominator_10 (q := 11) rfl rfl ?_
      refine x_iload_n hK kX10_denominator_11 (q := 12) rfl rfl ?_
      refine x_icmp_ge hK kX10_denominator_12 (q := 15) rfl (tg := 34) rfl (by refine ⟨?_, ?_⟩ <;> omega) (fun c12 => ?_) (fun c12 => ?_)
      · refine x_return_ hK kX10_denominator_34 (by first | trivial | exact Or.inl rfl | exact Or.inr rfl) ?_
        exact h A' hA hr'
      · exfalso; omega
    | succ d ih =>
      intro k A' hk hA hr'
      have wk : w32 (k : Int) := by constructor <;> omega
      have v1 : uI s 2074 (D ^ k) 2076 = D := by rw [uI_n _ _ (by decide)]; exact hDD
      have m1 := pow_mo hD (k + 1) d
      rw [show k + 1 + d = n by omega] at m1
      refine x_iload_n hK kX10_denominator_10 (q := 11) rfl rfl ?_
      refine x_iload_n hK kX10_denominator_11 (q := 12) rfl rfl ?_
      refine x_icmp_ge hK kX10_denominator_12 (q := 15) rfl (tg := 34) rfl (by exact ⟨wk, wn⟩) (fun c12 => ?_) (fun c12 => ?_)
      · exfalso; omega
      · refine x_aload_n hK kX10_denominator_15 (q := 16) rfl rfl ?_
        refine x_sipush hK kX10_denominator_16 (q := 19) rfl (by decide) ?_
        refine x_sipush hK kX10_denominator_19 (q := 22) rfl (by decide) ?_
        refine x_sipush hK kX10_denominator_22 (q := 25) rfl (by decide) ?_
        refine x_cv4 hK kX10_denominator_25 (q := 28) rfl (vtX10_denominator_161) (Nat.le_of_ble_eq_true rfl) ?_
        refine SX10_times_n hr' (by decide) (by decide) (by decide) (by rw [uI_s, v1, ← zAbs_x, ← Int.pow_succ, zAbs_nn (Int.le_of_lt m1.1)]; omega) (fun A1 k1 r1 => ?_)
        rw [uI_s, v1, ← Int.pow_succ, uI_uI] at r1
        refine x_iinc hK kX10_denominator_28 (q := 31) rfl rfl ?_
        simp only [lS, lS2, clr_0, clr_I, clr_L, clr_R]
        refine x_goto hK kX10_denominator_31 (tg := 10) rfl ?_
        rw [show (k : Int) + 1 = ((k + 1 : Nat) : Int) by omega]
        exact ih (k + 1) A1 (by omega) (sN_tr hA k1) r1
  simp only [eLoc, eE, List.length_cons, List.length_nil, List.replicate, List.cons_append, List.nil_append, Nat.reduceAdd, Nat.reduceSub]
  refine x_aload_n hK kX10_denominator_0 (q := 1) rfl rfl ?_
  refine x_sipush hK kX10_denominator_1 (q := 4) rfl (by decide) ?_
  refine x_lconst1 hK kX10_denominator_4 (q := 5) rfl ?_
  refine x_cv3 hK kX10_denominator_5 (q := 8) rfl (vtX10_denominator_132) (Nat.le_of_ble_eq_true rfl) ?_
  refine SX10_set_n hr (by decide) (by decide) (fun A1 k1 r1 => ?_)
  refine x_iconst hK kX10_denominator_8 (q := 9) rfl ?_
  refine x_istore_n hK kX10_denominator_9 (q := 10) (jn := 2) rfl rfl ?_
  simp only [lS, lS2, clr_0, clr_I, clr_L, clr_R]
  exact loop n 0 A1 (by omega) k1 (by rw [Int.pow_zero]; exact r1)
set_option maxRecDepth 20000 in
theorem mX10_denominator : eMet yX10_denominator cX10_denominator 3 none 3 76 SX10_denominator := eMet_of (by decide +kernel) sX10_denominator kX10_denominator_ok caX10_denominator tb_RX10
theorem wX10_denominator : eWV yX10_denominator cX10_denominator 3 none 2 9 SX10_denominator := ⟨(gW_at 1331 (by decide +kernel) rfl), (gW_at 89 (by decide +kernel) rfl), (gW_at 1330 (by decide +kernel) rfl), ⟨_, rfl, (gW_at 77 (by decide +kernel) rfl)⟩, by decide +kernel, SX10_denominator_r⟩
