/-! Trailing zeros. -/
theorem ntz_t (a e q : Nat) (h : a = 2 ^ (e + 1) * q + 2 ^ e) (ha : a < 2 ^ 28) : zAnd (zXor (a : Int) (-1)) ((a : Int) - 1) = 2 ^ e - 1 := by
  have he : e < 28 := by
    have h1 : 2 ^ e ≤ a := by omega
    rcases Nat.lt_or_ge e 28 with q1 | q1
    · exact q1
    · have := Nat.pow_le_pow_right (n := 2) (by decide) q1
      omega
  have hp := Nat.two_pow_pos e
  have hp2 : 2 ^ e ≤ 2 ^ 27 := Nat.pow_le_pow_right (by decide) (by omega)
  unfold zAnd zXor
  rw [z_to]
  have e1 : (Int32.ofInt (a : Int) ^^^ Int32.ofInt (-1)) &&& Int32.ofInt ((a : Int) - 1) = Int32.ofInt (2 ^ e - 1) := by
    apply Int32.toBitVec_inj.mp
    rw [Int32.toBitVec_and, Int32.toBitVec_xor]
    have x1 : (Int32.ofInt (a : Int)).toBitVec = BitVec.ofNat 32 (2 ^ (e + 1) * q + 2 ^ e) := by
      apply BitVec.eq_of_toNat_eq
      rw [zb_tn, BitVec.toNat_ofNat, ← h]
      omega
    have x2 : (Int32.ofInt ((a : Int) - 1)).toBitVec = BitVec.ofNat 32 (2 ^ (e + 1) * q + (2 ^ e - 1)) := by
      apply BitVec.eq_of_toNat_eq
      rw [zb_tn, BitVec.toNat_ofNat]
      omega
    have x3 : (Int32.ofInt (-1)).toBitVec = BitVec.allOnes 32 := by decide
    have x4 : (Int32.ofInt (2 ^ e - 1)).toBitVec = BitVec.ofNat 32 (2 ^ e - 1) := by
      apply BitVec.eq_of_toNat_eq
      rw [zb_tn, BitVec.toNat_ofNat]
      have := zb_p2 e
      omega
    rw [x1, x2, x3, x4]
    apply BitVec.eq_of_getLsbD_eq
    intro i hi
    rw [BitVec.getLsbD_and, BitVec.getLsbD_xor, BitVec.getLsbD_allOnes, BitVec.getLsbD_ofNat, BitVec.getLsbD_ofNat, BitVec.getLsbD_ofNat]
    rw [Nat.testBit_two_pow_mul_add _ (show 2 ^ e < 2 ^ (e + 1) by rw [Nat.pow_succ]; omega), Nat.testBit_two_pow_mul_add _ (show 2 ^ e - 1 < 2 ^ (e + 1) by rw [Nat.pow_succ]; omega), Nat.testBit_two_pow, Nat.testBit_two_pow_sub_one]
    by_cases c1 : i < e
    · have : ¬ e = i := by omega
      simp [c1, this, hi, show i < e + 1 by omega]
    · by_cases c2 : i = e
      · subst c2
        simp [hi]
      · simp [c1, hi, show ¬ i < e + 1 by omega]
  rw [e1, z_i]
  have := zb_p2 e
  omega
def nz1 (i n : Int) : Int := n + i / 2
def nz2 (i n : Int) : Int := if i ≤ 4 then nz1 i n else nz1 (i / 4) (n + 2)
def nz3 (i n : Int) : Int := if i ≤ 16 then nz2 i n else nz2 (i / 16) (n + 4)
def nz4 (i n : Int) : Int := if i ≤ 256 then nz3 i n else nz3 (i / 256) (n + 8)
def nz5 (i n : Int) : Int := if i ≤ 65536 then nz4 i n else nz4 (i / 65536) (n + 16)
theorem nz_e : ∀ e : Nat, e < 28 → 0 < e → nz5 (2 ^ e - 1) 1 = e := by decide +kernel
theorem odd_split : ∀ a : Nat, 0 < a → ∃ e q, a = 2 ^ (e + 1) * q + 2 ^ e := by
  intro a
  induction a using Nat.strongRecOn with
  | ind a ih =>
    intro h
    rcases Nat.mod_two_eq_zero_or_one a with h1 | h1
    · obtain ⟨e, q, he⟩ := ih (a / 2) (by omega) (by omega)
      refine ⟨e + 1, q, ?_⟩
      have : a = 2 * (a / 2) := by omega
      rw [this, he, Nat.mul_add, Nat.pow_succ 2 (e + 1), Nat.pow_succ 2 e]
      rw [Nat.mul_comm 2 (2 ^ e), ← Nat.mul_assoc, Nat.mul_comm 2 (2 ^ e * 2)]
    · exact ⟨0, a / 2, by omega⟩
def SJ6_numberOfTrailingZeros_0f7a4 : eSp := fun as M rt => ∃ a e q : Nat, as = [eI a] ∧ a < 268435456 ∧ a = 2 ^ (e + 1) * q + 2 ^ e ∧ rt (some (eI e)) M
theorem SJ6_ntz_i {z : Int} {M : eM} {rt : Option eV → eM → Prop} (h0 : 0 < z ∧ z < 268435456) (h : ∀ e q : Nat, z = 2 ^ (e + 1) * q + 2 ^ e → e < 28 → rt (some (eI e)) M) : SJ6_numberOfTrailingZeros_0f7a4 [eI z] M rt := by
  obtain ⟨a, rfl⟩ := Int.eq_ofNat_of_zero_le (show 0 ≤ z by omega)
  obtain ⟨e, q, he⟩ := odd_split a (by omega)
  have he28 : e < 28 := by
    have h1 : 2 ^ e ≤ a := by omega
    rcases Nat.lt_or_ge e 28 with q1 | q1
    · exact q1
    · have := Nat.pow_le_pow_right (n := 2) (by decide) q1
      omega
  refine ⟨a, e, q, rfl, by omega, he, h e q ?_ he28⟩
  rw [he]
  simp
def kJ6_numberOfTrailingZeros_0f7a4 : List (Nat × Jvm.ClassFile.Instr × Nat) := [(0, .iload_n 0, 1), (1, .iconst (-1), 1), (2, .ixor, 1), (3, .iload_n 0, 1), (4, .iconst 1, 1), (5, .isub, 1), (6, .iand, 1), (7, .istore_n 0, 1), (8, .iload_n 0, 1), (9, .ifCond .gt 8, 3), (12, .iload_n 0, 1), (13, .bipush 32, 2), (15, .iand, 1), (16, .ireturn, 1), (17, .iconst 1, 1), (18, .istore_n 1, 1), (19, .iload_n 0, 1), (20, .ldc_w 264, 3), (23, .if_icmp .le 11, 3), (26, .iinc 1 16, 3), (29, .iload_n 0, 1), (30, .bipush 16, 2), (32, .iushr, 1), (33, .istore_n 0, 1), (34, .iload_n 0, 1), (35, .sipush 256, 3), (38, .if_icmp .le 11, 3), (41, .iinc 1 8, 3), (44, .iload_n 0, 1), (45, .bipush 8, 2), (47, .iushr, 1), (48, .istore_n 0, 1), (49, .iload_n 0, 1), (50, .bipush 16, 2), (52, .if_icmp .le 10, 3), (55, .iinc 1 4, 3), (58, .iload_n 0, 1), (59, .iconst 4, 1), (60, .iushr, 1), (61, .istore_n 0, 1), (62, .iload_n 0, 1), (63, .iconst 4, 1), (64, .if_icmp .le 10, 3), (67, .iinc 1 2, 3), (70, .iload_n 0, 1), (71, .iconst 2, 1), (72, .iushr, 1), (73, .istore_n 0, 1), (74, .iload_n 1, 1), (75, .iload_n 0, 1), (76, .iconst 1, 1), (77, .iushr, 1), (78, .iadd, 1), (79, .ireturn, 1)]
theorem kJ6_numberOfTrailingZeros_0f7a4_0 : cdOf kJ6_numberOfTrailingZeros_0f7a4 0 = some (.iload_n 0, 1) := by decide +kernel
theorem kJ6_numberOfTrailingZeros_0f7a4_1 : cdOf kJ6_numberOfTrailingZeros_0f7a4 1 = some (.iconst (-1), 1) := by decide +kernel
theorem kJ6_numberOfTrailingZeros_0f7a4_2 : cdOf kJ6_numberOfTrailingZeros_0f7a4 2 = some (.ixor, 1) := by decide +kernel
theorem kJ6_numberOfTrailingZeros_0f7a4_3 : cdOf kJ6_numberOfTrailingZeros_0f7a4 3 = some (.iload_n 0, 1) := by decide +kernel
theorem kJ6_numberOfTrailingZeros_0f7a4_4 : cdOf kJ6_numberOfTrailingZeros_0f7a4 4 = some (.iconst 1, 1) := by decide +kernel
theorem kJ6_numberOfTrailingZeros_0f7a4_5 : cdOf kJ6_numberOfTrailingZeros_0f7a4 5 = some (.isub, 1) := by decide +kernel
theorem kJ6_numberOfTrailingZeros_0f7a4_6 : cdOf kJ6_numberOfTrailingZeros_0f7a4 6 = some (.iand, 1) := by decide +kernel
theorem kJ6_numberOfTrailingZeros_0f7a4_7 : cdOf kJ6_numberOfTrailingZeros_0f7a4 7 = some (.istore_n 0, 1) := by decide +kernel
theorem kJ6_numberOfTrailingZeros_0f7a4_8 : cdOf kJ6_numberOfTrailingZeros_0f7a4 8 = some (.iload_n 0, 1) := by decide +kernel
theorem kJ6_numberOfTrailingZeros_0f7a4_9 : cdOf kJ6_numberOfTrailingZeros_0f7a4 9 = some (.ifCond .gt 8, 3) := by decide +kernel
theorem kJ6_numberOfTrailingZeros_0f7a4_12 : cdOf kJ6_numberOfTrailingZeros_0f7a4 12 = some (.iload_n 0, 1) := by decide +kernel
theorem kJ6_numberOfTrailingZeros_0f7a4_13 : cdOf kJ6_numberOfTrailingZeros_0f7a4 13 = some (.bipush 32, 2) := by decide +kernel
theorem kJ6_numberOfTrailingZeros_0f7a4_15 : cdOf kJ6_numberOfTrailingZeros_0f7a4 15 = some (.iand, 1) := by decide +kernel
theorem kJ6_numberOfTrailingZeros_0f7a4_16 : cdOf kJ6_numberOfTrailingZeros_0f7a4 16 = some (.ireturn, 1) := by decide +kernel
theorem kJ6_numberOfTrailingZeros_0f7a4_17 : cdOf kJ6_numberOfTrailingZeros_0f7a4 17 = some (.iconst 1, 1) := by decide +kernel
theorem kJ6_numberOfTrailingZeros_0f7a4_18 : cdOf kJ6_numberOfTrailingZeros_0f7a4 18 = some (.istore_n 1, 1) := by decide +kernel
theorem kJ6_numberOfTrailingZeros_0f7a4_19 : cdOf kJ6_numberOfTrailingZeros_0f7a4 19 = some (.iload_n 0, 1) := by decide +kernel
theorem kJ6_numberOfTrailingZeros_0f7a4_20 : cdOf kJ6_numberOfTrailingZeros_0f7a4 20 = some (.ldc_w 264, 3) := by decide +kernel
theorem kJ6_numberOfTrailingZeros_0f7a4_23 : cdOf kJ6_numberOfTrailingZeros_0f7a4 23 = some (.if_icmp .le 11, 3) := by decide +kernel
theorem kJ6_numberOfTrailingZeros_0f7a4_26 : cdOf kJ6_numberOfTrailingZeros_0f7a4 26 = some (.iinc 1 16, 3) := by decide +kernel
theorem kJ6_numberOfTrailingZeros_0f7a4_29 : cdOf kJ6_numberOfTrailingZeros_0f7a4 29 = some (.iload_n 0, 1) := by decide +kernel
theorem kJ6_numberOfTrailingZeros_0f7a4_30 : cdOf kJ6_numberOfTrailingZeros_0f7a4 30 = some (.bipush 16, 2) := by decide +kernel
theorem kJ6_numberOfTrailingZeros_0f7a4_32 : cdOf kJ6_numberOfTrailingZeros_0f7a4 32 = some (.iushr, 1) := by decide +kernel
theorem kJ6_numberOfTrailingZeros_0f7a4_33 : cdOf kJ6_numberOfTrailingZeros_0f7a4 33 = some (.istore_n 0, 1) := by decide +kernel
theorem kJ6_numberOfTrailingZeros_0f7a4_34 : cdOf kJ6_numberOfTrailingZeros_0f7a4 34 = some (.iload_n 0, 1) := by decide +kernel
theorem kJ6_numberOfTrailingZeros_0f7a4_35 : cdOf kJ6_numberOfTrailingZeros_0f7a4 35 = some (.sipush 256, 3) := by decide +kernel
theorem kJ6_numberOfTrailingZeros_0f7a4_38 : cdOf kJ6_numberOfTrailingZeros_0f7a4 38 = some (.if_icmp .le 11, 3) := by decide +kernel
theorem kJ6_numberOfTrailingZeros_0f7a4_41 : cdOf kJ6_numberOfTrailingZeros_0f7a4 41 = some (.iinc 1 8, 3) := by decide +kernel
theorem kJ6_numberOfTrailingZeros_0f7a4_44 : cdOf kJ6_numberOfTrailingZeros_0f7a4 44 = some (.iload_n 0, 1) := by decide +kernel
theorem kJ6_numberOfTrailingZeros_0f7a4_45 : cdOf kJ6_numberOfTrailingZeros_0f7a4 45 = some (.bipush 8, 2) := by decide +kernel
theorem kJ6_numberOfTrailingZeros_0f7a4_47 : cdOf kJ6_numberOfTrailingZeros_0f7a4 47 = some (.iushr, 1) := by decide +kernel
theorem kJ6_numberOfTrailingZeros_0f7a4_48 : cdOf kJ6_numberOfTrailingZeros_0f7a4 48 = some (.istore_n 0, 1) := by decide +kernel
theorem kJ6_numberOfTrailingZeros_0f7a4_49 : cdOf kJ6_numberOfTrailingZeros_0f7a4 49 = some (.iload_n 0, 1) := by decide +kernel
theorem kJ6_numberOfTrailingZeros_0f7a4_50 : cdOf kJ6_numberOfTrailingZeros_0f7a4 50 = some (.bipush 16, 2) := by decide +kernel
theorem kJ6_numberOfTrailingZeros_0f7a4_52 : cdOf kJ6_numberOfTrailingZeros_0f7a4 52 = some (.if_icmp .le 10, 3) := by decide +kernel
theorem kJ6_numberOfTrailingZeros_0f7a4_55 : cdOf kJ6_numberOfTrailingZeros_0f7a4 55 = some (.iinc 1 4, 3) := by decide +kernel
theorem kJ6_numberOfTrailingZeros_0f7a4_58 : cdOf kJ6_numberOfTrailingZeros_0f7a4 58 = some (.iload_n 0, 1) := by decide +kernel
theorem kJ6_numberOfTrailingZeros_0f7a4_59 : cdOf kJ6_numberOfTrailingZeros_0f7a4 59 = some (.iconst 4, 1) := by decide +kernel
theorem kJ6_numberOfTrailingZeros_0f7a4_60 : cdOf kJ6_numberOfTrailingZeros_0f7a4 60 = some (.iushr, 1) := by decide +kernel
theorem kJ6_numberOfTrailingZeros_0f7a4_61 : cdOf kJ6_numberOfTrailingZeros_0f7a4 61 = some (.istore_n 0, 1) := by decide +kernel
theorem kJ6_numberOfTrailingZeros_0f7a4_62 : cdOf kJ6_numberOfTrailingZeros_0f7a4 62 = some (.iload_n 0, 1) := by decide +kernel
theorem kJ6_numberOfTrailingZeros_0f7a4_63 : cdOf kJ6_numberOfTrailingZeros_0f7a4 63 = some (.iconst 4, 1) := by decide +kernel
theorem kJ6_numberOfTrailingZeros_0f7a4_64 : cdOf kJ6_numberOfTrailingZeros_0f7a4 64 = some (.if_icmp .le 10, 3) := by decide +kernel
theorem kJ6_numberOfTrailingZeros_0f7a4_67 : cdOf kJ6_numberOfTrailingZeros_0f7a4 67 = some (.iinc 1 2, 3) := by decide +kernel
theorem kJ6_numberOfTrailingZeros_0f7a4_70 : cdOf kJ6_numberOfTrailingZeros_0f7a4 70 = some (.iload_n 0, 1) := by decide +kernel
theorem kJ6_numberOfTrailingZeros_0f7a4_71 : cdOf kJ6_numberOfTrailingZeros_0f7a4 71 = some (.iconst 2, 1) := by decide +kernel
theorem kJ6_numberOfTrailingZeros_0f7a4_72 : cdOf kJ6_numberOfTrailingZeros_0f7a4 72 = some (.iushr, 1) := by decide +kernel
theorem kJ6_numberOfTrailingZeros_0f7a4_73 : cdOf kJ6_numberOfTrailingZeros_0f7a4 73 = some (.istore_n 0, 1) := by decide +kernel
theorem kJ6_numberOfTrailingZeros_0f7a4_74 : cdOf kJ6_numberOfTrailingZeros_0f7a4 74 = some (.iload_n 1, 1) := by decide +kernel
theorem kJ6_numberOfTrailingZeros_0f7a4_75 : cdOf kJ6_numberOfTrailingZeros_0f7a4 75 = some (.iload_n 0, 1) := by decide +kernel
theorem kJ6_numberOfTrailingZeros_0f7a4_76 : cdOf kJ6_numberOfTrailingZeros_0f7a4 76 = some (.iconst 1, 1) := by decide +kernel
theorem kJ6_numberOfTrailingZeros_0f7a4_77 : cdOf kJ6_numberOfTrailingZeros_0f7a4 77 = some (.iushr, 1) := by decide +kernel
theorem kJ6_numberOfTrailingZeros_0f7a4_78 : cdOf kJ6_numberOfTrailingZeros_0f7a4 78 = some (.iadd, 1) := by decide +kernel
theorem kJ6_numberOfTrailingZeros_0f7a4_79 : cdOf kJ6_numberOfTrailingZeros_0f7a4 79 = some (.ireturn, 1) := by decide +kernel
set_option maxRecDepth 20000 in
theorem kJ6_numberOfTrailingZeros_0f7a4_ok : ∀ pc i len, cdOf kJ6_numberOfTrailingZeros_0f7a4 pc = some (i, len) → decode cJ6_numberOfTrailingZeros_0f7a4 pc = .ok (i, len) ∧ stOK 2 i = true ∧ jOK pc i = true ∧ eLen i len = true := cdOf_ok cJ6_numberOfTrailingZeros_0f7a4 2 kJ6_numberOfTrailingZeros_0f7a4 (by decide +kernel)
def vtJ6_numberOfTrailingZeros_0f7a4 : Nat → Option (Nat × eSp) := fun _ => none
def stJ6_numberOfTrailingZeros_0f7a4 : Nat → Option (Nat × eSp) := fun _ => none
abbrev TJ6_numberOfTrailingZeros_0f7a4 : eT := (fl_RJ6, cl_RJ6, dl_RJ6, vtJ6_numberOfTrailingZeros_0f7a4, stJ6_numberOfTrailingZeros_0f7a4)
set_option maxRecDepth 20000 in
theorem caJ6_numberOfTrailingZeros_0f7a4 : eCalls RJ6 { frames := 0, cells := 0, slots := 0, locals := 0 } TJ6_numberOfTrailingZeros_0f7a4 := by
  refine ⟨fun k n sp h => ?_, fun k n sp h => ?_⟩
  · cases h
  · cases h
set_option maxRecDepth 100000 in
set_option maxHeartbeats 4000000 in
theorem sJ6_numberOfTrailingZeros_0f7a4 : eSafe TJ6_numberOfTrailingZeros_0f7a4 (cdOf kJ6_numberOfTrailingZeros_0f7a4) 2 (some .int) SJ6_numberOfTrailingZeros_0f7a4 := by
  intro K rt hK as M h
  obtain ⟨a, e, q, rfl, ha, hq, h⟩ := h
  refine ⟨by simp [eE], ?_⟩
  have he28 : e < 28 := by
    have h1 : 2 ^ e ≤ a := by have := Nat.two_pow_pos e; omega
    rcases Nat.lt_or_ge e 28 with q1 | q1
    · exact q1
    · have := Nat.pow_le_pow_right (n := 2) (by decide) q1
      omega
  have us : ∀ (i : Int) (k : Nat), 0 ≤ i → i < 2147483648 → k < 32 → zUshr i (k : Int) = i / 2 ^ k := fun i k a b c => zUshr_n i a b k c
  have f1 : ∀ i n : Int, 0 ≤ i → i < 2147483648 → rt (some (eI (nz1 i n))) M → K 74 [some (eI i), some (eI n)] [] M := by
    intro i n a b hr
    refine x_iload_n hK kJ6_numberOfTrailingZeros_0f7a4_74 (q := 75) rfl rfl ?_
    refine x_iload_n hK kJ6_numberOfTrailingZeros_0f7a4_75 (q := 76) rfl rfl ?_
    refine x_iconst hK kJ6_numberOfTrailingZeros_0f7a4_76 (q := 77) rfl ?_
    refine x_iushr hK kJ6_numberOfTrailingZeros_0f7a4_77 (q := 78) rfl ?_
    rw [show zUshr i 1 = i / 2 from us i 1 a b (by decide)]
    refine x_iadd hK kJ6_numberOfTrailingZeros_0f7a4_78 (q := 79) rfl ?_
    refine x_ireturn hK kJ6_numberOfTrailingZeros_0f7a4_79 (by first | trivial | exact Or.inl rfl | exact Or.inr rfl) ?_
    exact hr
  have f2 : ∀ i n : Int, 0 ≤ i → i < 2147483648 → rt (some (eI (nz2 i n))) M → K 62 [some (eI i), some (eI n)] [] M := by
    intro i n a b hr
    unfold nz2 at hr
    refine x_iload_n hK kJ6_numberOfTrailingZeros_0f7a4_62 (q := 63) rfl rfl ?_
    refine x_iconst hK kJ6_numberOfTrailingZeros_0f7a4_63 (q := 64) rfl ?_
    refine x_icmp_le hK kJ6_numberOfTrailingZeros_0f7a4_64 (q := 67) rfl (tg := 74) rfl (by refine ⟨?_, ?_⟩ <;> omega) (fun c64 => ?_) (fun c64 => ?_)
    · rw [if_pos c64] at hr
      first | exact f1 _ _ a b hr | exact f1 _ _ (by omega) (by omega) hr
    · rw [if_neg c64] at hr
      refine x_iinc hK kJ6_numberOfTrailingZeros_0f7a4_67 (q := 70) rfl rfl ?_
      refine x_iload_n hK kJ6_numberOfTrailingZeros_0f7a4_70 (q := 71) rfl rfl ?_
      refine x_iconst hK kJ6_numberOfTrailingZeros_0f7a4_71 (q := 72) rfl ?_
      refine x_iushr hK kJ6_numberOfTrailingZeros_0f7a4_72 (q := 73) rfl ?_
      simp only [lS, lS2, clr_0, clr_I, clr_L, clr_R]
      rw [show zUshr i 2 = i / 4 from us i 2 a b (by decide)]
      refine x_istore_n hK kJ6_numberOfTrailingZeros_0f7a4_73 (q := 74) (jn := 0) rfl rfl ?_
      simp only [lS, lS2, clr_0, clr_I, clr_L, clr_R]
      first | exact f1 _ _ a b hr | exact f1 _ _ (by omega) (by omega) hr
  have f3 : ∀ i n : Int, 0 ≤ i → i < 2147483648 → rt (some (eI (nz3 i n))) M → K 49 [some (eI i), some (eI n)] [] M := by
    intro i n a b hr
    unfold nz3 at hr
    refine x_iload_n hK kJ6_numberOfTrailingZeros_0f7a4_49 (q := 50) rfl rfl ?_
    refine x_bipush hK kJ6_numberOfTrailingZeros_0f7a4_50 (q := 52) rfl (by decide) ?_
    refine x_icmp_le hK kJ6_numberOfTrailingZeros_0f7a4_52 (q := 55) rfl (tg := 62) rfl (by refine ⟨?_, ?_⟩ <;> omega) (fun c52 => ?_) (fun c52 => ?_)
    · rw [if_pos c52] at hr
      first | exact f2 _ _ a b hr | exact f2 _ _ (by omega) (by omega) hr
    · rw [if_neg c52] at hr
      refine x_iinc hK kJ6_numberOfTrailingZeros_0f7a4_55 (q := 58) rfl rfl ?_
      refine x_iload_n hK kJ6_numberOfTrailingZeros_0f7a4_58 (q := 59) rfl rfl ?_
      refine x_iconst hK kJ6_numberOfTrailingZeros_0f7a4_59 (q := 60) rfl ?_
      refine x_iushr hK kJ6_numberOfTrailingZeros_0f7a4_60 (q := 61) rfl ?_
      simp only [lS, lS2, clr_0, clr_I, clr_L, clr_R]
      rw [show zUshr i 4 = i / 16 from us i 4 a b (by decide)]
      refine x_istore_n hK kJ6_numberOfTrailingZeros_0f7a4_61 (q := 62) (jn := 0) rfl rfl ?_
      simp only [lS, lS2, clr_0, clr_I, clr_L, clr_R]
      first | exact f2 _ _ a b hr | exact f2 _ _ (by omega) (by omega) hr
  have f4 : ∀ i n : Int, 0 ≤ i → i < 2147483648 → rt (some (eI (nz4 i n))) M → K 34 [some (eI i), some (eI n)] [] M := by
    intro i n a b hr
    unfold nz4 at hr
    refine x_iload_n hK kJ6_numberOfTrailingZeros_0f7a4_34 (q := 35) rfl rfl ?_
    refine x_sipush hK kJ6_numberOfTrailingZeros_0f7a4_35 (q := 38) rfl (by decide) ?_
    refine x_icmp_le hK kJ6_numberOfTrailingZeros_0f7a4_38 (q := 41) rfl (tg := 49) rfl (by refine ⟨?_, ?_⟩ <;> omega) (fun c38 => ?_) (fun c38 => ?_)
    · rw [if_pos c38] at hr
      first | exact f3 _ _ a b hr | exact f3 _ _ (by omega) (by omega) hr
    · rw [if_neg c38] at hr
      refine x_iinc hK kJ6_numberOfTrailingZeros_0f7a4_41 (q := 44) rfl rfl ?_
      refine x_iload_n hK kJ6_numberOfTrailingZeros_0f7a4_44 (q := 45) rfl rfl ?_
      refine x_bipush hK kJ6_numberOfTrailingZeros_0f7a4_45 (q := 47) rfl (by decide) ?_
      refine x_iushr hK kJ6_numberOfTrailingZeros_0f7a4_47 (q := 48) rfl ?_
      simp only [lS, lS2, clr_0, clr_I, clr_L, clr_R]
      rw [show zUshr i 8 = i / 256 from us i 8 a b (by decide)]
      refine x_istore_n hK kJ6_numberOfTrailingZeros_0f7a4_48 (q := 49) (jn := 0) rfl rfl ?_
      simp only [lS, lS2, clr_0, clr_I, clr_L, clr_R]
      first | exact f3 _ _ a b hr | exact f3 _ _ (by omega) (by omega) hr
  have f5 : ∀ i n : Int, 0 ≤ i → i < 2147483648 → rt (some (eI (nz5 i n))) M → K 19 [some (eI i), some (eI n)] [] M := by
    intro i n a b hr
    unfold nz5 at hr
    refine x_iload_n hK kJ6_numberOfTrailingZeros_0f7a4_19 (q := 20) rfl rfl ?_
    refine x_ldc_w hK kJ6_numberOfTrailingZeros_0f7a4_20 (q := 23) rfl lc_RJ6_264 ?_
    refine x_icmp_le hK kJ6_numberOfTrailingZeros_0f7a4_23 (q := 26) rfl (tg := 34) rfl (by refine ⟨?_, ?_⟩ <;> omega) (fun c23 => ?_) (fun c23 => ?_)
    · rw [if_pos c23] at hr
      first | exact f4 _ _ a b hr | exact f4 _ _ (by omega) (by omega) hr
    · rw [if_neg c23] at hr
      refine x_iinc hK kJ6_numberOfTrailingZeros_0f7a4_26 (q := 29) rfl rfl ?_
      refine x_iload_n hK kJ6_numberOfTrailingZeros_0f7a4_29 (q := 30) rfl rfl ?_
      refine x_bipush hK kJ6_numberOfTrailingZeros_0f7a4_30 (q := 32) rfl (by decide) ?_
      refine x_iushr hK kJ6_numberOfTrailingZeros_0f7a4_32 (q := 33) rfl ?_
      simp only [lS, lS2, clr_0, clr_I, clr_L, clr_R]
      rw [show zUshr i 16 = i / 65536 from us i 16 a b (by decide)]
      refine x_istore_n hK kJ6_numberOfTrailingZeros_0f7a4_33 (q := 34) (jn := 0) rfl rfl ?_
      simp only [lS, lS2, clr_0, clr_I, clr_L, clr_R]
      first | exact f4 _ _ a b hr | exact f4 _ _ (by omega) (by omega) hr
  have hb : (0 : Int) < 2 ^ e ∧ (2 : Int) ^ e ≤ 2 ^ 27 := ⟨Int.pow_pos (by decide), zb_ple (by omega)⟩
  simp only [eLoc, eE, List.length_cons, List.length_nil, List.replicate, List.cons_append, List.nil_append, Nat.reduceAdd, Nat.reduceSub]
  refine x_iload_n hK kJ6_numberOfTrailingZeros_0f7a4_0 (q := 1) rfl rfl ?_
  refine x_iconst hK kJ6_numberOfTrailingZeros_0f7a4_1 (q := 2) rfl ?_
  refine x_ixor hK kJ6_numberOfTrailingZeros_0f7a4_2 (q := 3) rfl ?_
  refine x_iload_n hK kJ6_numberOfTrailingZeros_0f7a4_3 (q := 4) rfl rfl ?_
  refine x_iconst hK kJ6_numberOfTrailingZeros_0f7a4_4 (q := 5) rfl ?_
  refine x_isub hK kJ6_numberOfTrailingZeros_0f7a4_5 (q := 6) rfl ?_
  refine x_iand hK kJ6_numberOfTrailingZeros_0f7a4_6 (q := 7) rfl ?_
  rw [ntz_t a e q hq ha]
  refine x_istore_n hK kJ6_numberOfTrailingZeros_0f7a4_7 (q := 8) (jn := 0) rfl rfl ?_
  refine x_iload_n hK kJ6_numberOfTrailingZeros_0f7a4_8 (q := 9) rfl rfl ?_
  simp only [lS, lS2, clr_0, clr_I, clr_L, clr_R]
  refine x_if_gt hK kJ6_numberOfTrailingZeros_0f7a4_9 (q := 12) rfl (tg := 17) rfl (by constructor <;> omega) (fun c9 => ?_) (fun c9 => ?_)
  · have e0 : 0 < e := by
      rcases Nat.eq_zero_or_pos e with q1 | q1
      · subst q1; simp at c9
      · exact q1
    rw [← nz_e e he28 e0] at h
    refine x_iconst hK kJ6_numberOfTrailingZeros_0f7a4_17 (q := 18) rfl ?_
    refine x_istore_n hK kJ6_numberOfTrailingZeros_0f7a4_18 (q := 19) (jn := 1) rfl rfl ?_
    simp only [lS, lS2, clr_0, clr_I, clr_L, clr_R]
    exact f5 _ 1 (by omega) (by omega) h
  · have e0 : e = 0 := by
      rcases Nat.eq_zero_or_pos e with q1 | q1
      · exact q1
      · have : (2 : Int) ^ 1 ≤ 2 ^ e := zb_ple q1
        omega
    subst e0
    refine x_iload_n hK kJ6_numberOfTrailingZeros_0f7a4_12 (q := 13) rfl rfl ?_
    refine x_bipush hK kJ6_numberOfTrailingZeros_0f7a4_13 (q := 15) rfl (by decide) ?_
    refine x_iand hK kJ6_numberOfTrailingZeros_0f7a4_15 (q := 16) rfl ?_
    have e5 : zAnd (2 ^ 0 - 1) 32 = 0 := by decide
    rw [e5]
    refine x_ireturn hK kJ6_numberOfTrailingZeros_0f7a4_16 (by first | trivial | exact Or.inl rfl | exact Or.inr rfl) ?_
    exact h
set_option maxRecDepth 20000 in
theorem mJ6_numberOfTrailingZeros_0f7a4 : eMet yJ6_numberOfTrailingZeros_0f7a4 cJ6_numberOfTrailingZeros_0f7a4 2 (some .int) 0 0 SJ6_numberOfTrailingZeros_0f7a4 := eMet_of (by decide +kernel) sJ6_numberOfTrailingZeros_0f7a4 kJ6_numberOfTrailingZeros_0f7a4_ok caJ6_numberOfTrailingZeros_0f7a4 tb_RJ6
theorem wJ6_numberOfTrailingZeros_0f7a4 : eWS yJ6_numberOfTrailingZeros_0f7a4 cJ6_numberOfTrailingZeros_0f7a4 2 (some .int) 1 := ⟨(gW_at 1110 (by decide +kernel) rfl), (gW_at 96 (by decide +kernel) rfl), (gW_at 1109 (by decide +kernel) rfl), by decide +kernel⟩
