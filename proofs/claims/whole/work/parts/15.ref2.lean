/-! Signs, zero, negation, trimming, laying. -/
def zSgn (a : Int) : Int := if a < 0 then -1 else if a = 0 then 0 else 1
theorem zSgn_e (a : Int) (h : w32 a) : zOr (zShr a 31) (zUshr (-a) 31) = zSgn a := by
  have e := zShr_n a h 31 (by decide)
  have e2 : zShr a 31 = a / 2147483648 := e
  rw [e2]
  unfold zSgn
  split
  · have : a / 2147483648 = -1 := by omega
    rw [this, zOr_m1]
  · have : a / 2147483648 = 0 := by omega
    rw [this]
    split
    · rename_i h1; subst h1; decide
    · rename_i h1 h2
      have h3 : zUshr (-a) 31 = 1 := by
        unfold zUshr
        have e3 := pk_ushr (Int32.ofInt (-a)) (Int32.ofInt 31) 31 (zb_cntU 31 (by decide))
        rw [zb_tn] at e3
        have e4 : (-a % 4294967296).toNat / 2 ^ 31 = 1 := by omega
        rw [e4] at e3
        have e5 : ((Int32.ofInt (-a)).toUInt32 >>> ((Int32.ofInt 31).toUInt32 &&& Int32.toUInt32 31)).toInt32 = Int32.ofInt 1 := by
          apply Int32.toBitVec_inj.mp
          apply BitVec.eq_of_toNat_eq
          rw [e3]
          decide
        rw [e5]
        decide
      rw [h3]
      decide
def SJ6_signum_0f7a4 : eSp := fun as M rt => ∃ a : Int, as = [eI a] ∧ w32 a ∧ rt (some (eI (zSgn a))) M
theorem SJ6_signum_0f7a4_i {a : Int} {M : eM} {rt : Option eV → eM → Prop} (h0 : w32 a) (h : rt (some (eI (zSgn a))) M) : SJ6_signum_0f7a4 [eI a] M rt := ⟨a, rfl, h0, h⟩
def kJ6_signum_0f7a4 : List (Nat × Jvm.ClassFile.Instr × Nat) := [(0, .iload_n 0, 1), (1, .bipush 31, 2), (3, .ishr, 1), (4, .iload_n 0, 1), (5, .ineg, 1), (6, .bipush 31, 2), (8, .iushr, 1), (9, .ior, 1), (10, .ireturn, 1)]
theorem kJ6_signum_0f7a4_0 : cdOf kJ6_signum_0f7a4 0 = some (.iload_n 0, 1) := by decide +kernel
theorem kJ6_signum_0f7a4_1 : cdOf kJ6_signum_0f7a4 1 = some (.bipush 31, 2) := by decide +kernel
theorem kJ6_signum_0f7a4_3 : cdOf kJ6_signum_0f7a4 3 = some (.ishr, 1) := by decide +kernel
theorem kJ6_signum_0f7a4_4 : cdOf kJ6_signum_0f7a4 4 = some (.iload_n 0, 1) := by decide +kernel
theorem kJ6_signum_0f7a4_5 : cdOf kJ6_signum_0f7a4 5 = some (.ineg, 1) := by decide +kernel
theorem kJ6_signum_0f7a4_6 : cdOf kJ6_signum_0f7a4 6 = some (.bipush 31, 2) := by decide +kernel
theorem kJ6_signum_0f7a4_8 : cdOf kJ6_signum_0f7a4 8 = some (.iushr, 1) := by decide +kernel
theorem kJ6_signum_0f7a4_9 : cdOf kJ6_signum_0f7a4 9 = some (.ior, 1) := by decide +kernel
theorem kJ6_signum_0f7a4_10 : cdOf kJ6_signum_0f7a4 10 = some (.ireturn, 1) := by decide +kernel
set_option maxRecDepth 20000 in
theorem kJ6_signum_0f7a4_ok : ∀ pc i len, cdOf kJ6_signum_0f7a4 pc = some (i, len) → decode cJ6_signum_0f7a4 pc = .ok (i, len) ∧ stOK 1 i = true ∧ jOK pc i = true ∧ eLen i len = true := cdOf_ok cJ6_signum_0f7a4 1 kJ6_signum_0f7a4 (by decide +kernel)
def vtJ6_signum_0f7a4 : Nat → Option (Nat × eSp) := fun _ => none
def stJ6_signum_0f7a4 : Nat → Option (Nat × eSp) := fun _ => none
abbrev TJ6_signum_0f7a4 : eT := (fl_RJ6, cl_RJ6, dl_RJ6, vtJ6_signum_0f7a4, stJ6_signum_0f7a4)
set_option maxRecDepth 20000 in
theorem caJ6_signum_0f7a4 : eCalls RJ6 { frames := 0, cells := 0, slots := 0, locals := 0 } TJ6_signum_0f7a4 := by
  refine ⟨fun k n sp h => ?_, fun k n sp h => ?_⟩
  · cases h
  · cases h
set_option maxRecDepth 100000 in
set_option maxHeartbeats 4000000 in
theorem sJ6_signum_0f7a4 : eSafe TJ6_signum_0f7a4 (cdOf kJ6_signum_0f7a4) 1 (some .int) SJ6_signum_0f7a4 := by
  intro K rt hK as M h
  obtain ⟨a, rfl, h0, h⟩ := h
  rw [← zSgn_e a h0] at h
  refine ⟨by simp [eE], ?_⟩
  simp only [eLoc, eE, List.length_cons, List.length_nil, List.replicate, List.cons_append, List.nil_append, Nat.reduceAdd, Nat.reduceSub]
  refine x_iload_n hK kJ6_signum_0f7a4_0 (q := 1) rfl rfl ?_
  refine x_bipush hK kJ6_signum_0f7a4_1 (q := 3) rfl (by decide) ?_
  refine x_ishr hK kJ6_signum_0f7a4_3 (q := 4) rfl ?_
  refine x_iload_n hK kJ6_signum_0f7a4_4 (q := 5) rfl rfl ?_
  refine x_ineg hK kJ6_signum_0f7a4_5 (q := 6) rfl ?_
  refine x_bipush hK kJ6_signum_0f7a4_6 (q := 8) rfl (by decide) ?_
  refine x_iushr hK kJ6_signum_0f7a4_8 (q := 9) rfl ?_
  refine x_ior hK kJ6_signum_0f7a4_9 (q := 10) rfl ?_
  refine x_ireturn hK kJ6_signum_0f7a4_10 (by first | trivial | exact Or.inl rfl | exact Or.inr rfl) ?_
  exact h
set_option maxRecDepth 20000 in
theorem mJ6_signum_0f7a4 : eMet yJ6_signum_0f7a4 cJ6_signum_0f7a4 1 (some .int) 0 0 SJ6_signum_0f7a4 := eMet_of (by decide +kernel) sJ6_signum_0f7a4 kJ6_signum_0f7a4_ok caJ6_signum_0f7a4 tb_RJ6
theorem wJ6_signum_0f7a4 : eWS yJ6_signum_0f7a4 cJ6_signum_0f7a4 1 (some .int) 1 := ⟨(gW_at 1148 (by decide +kernel) rfl), (gW_at 96 (by decide +kernel) rfl), (gW_at 1147 (by decide +kernel) rfl), by decide +kernel⟩
-- sign(p)
def SX10_sign : eSp := fun as M rt => ∃ (F : Nat → Int) (A : Nat → Int → Int) (p : Int), as = [eRR, eI p] ∧ M = cR F A ∧ (0 ≤ p * 601 ∧ p * 601 < 1602266) ∧ w32 (A 0 (p * 601)) ∧ rt (some (eI (zSgn (A 0 (p * 601))))) (cR F A)
theorem SX10_sign_i {F : Nat → Int} {A : Nat → Int → Int} {p : Int} {rt : Option eV → eM → Prop} (h0 : 0 ≤ p * 601 ∧ p * 601 < 1602266) (h1 : w32 (A 0 (p * 601))) (h : rt (some (eI (zSgn (A 0 (p * 601))))) (cR F A)) : SX10_sign [eRR, eI p] (cR F A) rt := ⟨F, A, p, rfl, rfl, h0, h1, h⟩
theorem SX10_sign_r : ∀ as M rt, SX10_sign as M rt → ∃ a r fs, as = eR a :: r ∧ M a = some (.inl (9, fs)) := by
  rintro as M rt ⟨F, A, p, rfl, rfl, -⟩
  exact ⟨_, _, _, rfl, rfl⟩
def kX10_sign : List (Nat × Jvm.ClassFile.Instr × Nat) := [(0, .aload_n 0, 1), (1, .getfield 12, 3), (4, .iload_n 1, 1), (5, .invokestatic 64, 3), (8, .iaload, 1), (9, .invokestatic 68, 3), (12, .ireturn, 1)]
theorem kX10_sign_0 : cdOf kX10_sign 0 = some (.aload_n 0, 1) := by decide +kernel
theorem kX10_sign_1 : cdOf kX10_sign 1 = some (.getfield 12, 3) := by decide +kernel
theorem kX10_sign_4 : cdOf kX10_sign 4 = some (.iload_n 1, 1) := by decide +kernel
theorem kX10_sign_5 : cdOf kX10_sign 5 = some (.invokestatic 64, 3) := by decide +kernel
theorem kX10_sign_8 : cdOf kX10_sign 8 = some (.iaload, 1) := by decide +kernel
theorem kX10_sign_9 : cdOf kX10_sign 9 = some (.invokestatic 68, 3) := by decide +kernel
theorem kX10_sign_12 : cdOf kX10_sign 12 = some (.ireturn, 1) := by decide +kernel
set_option maxRecDepth 20000 in
theorem kX10_sign_ok : ∀ pc i len, cdOf kX10_sign pc = some (i, len) → decode cX10_sign pc = .ok (i, len) ∧ stOK 2 i = true ∧ jOK pc i = true ∧ eLen i len = true := cdOf_ok cX10_sign 2 kX10_sign (by decide +kernel)
def vtX10_sign : Nat → Option (Nat × eSp) := fun _ => none
def stX10_sign : Nat → Option (Nat × eSp) := fun k => match k with
  | 64 => some (1, SX10_at)
  | 68 => some (1, SJ6_signum_0f7a4)
  | _ => none
theorem stX10_sign_64 : stX10_sign 64 = some (1, SX10_at) := rfl
theorem stX10_sign_68 : stX10_sign 68 = some (1, SJ6_signum_0f7a4) := rfl
abbrev TX10_sign : eT := (fl_RX10, cl_RX10, dl_RX10, vtX10_sign, stX10_sign)
set_option maxRecDepth 20000 in
theorem caX10_sign : eCalls RX10 { frames := 1, cells := 0, slots := 0, locals := 20 } TX10_sign := by
  refine ⟨fun k n sp h => ?_, fun k n sp h => ?_⟩
  · cases h
  · dsimp only [TX10_sign] at h
    unfold stX10_sign at h
    split at h
    · cases h; exact eS_mk mX10_at wX10_at (by decide +kernel) (Or.inl (gW_at 1070 (by decide +kernel) rfl))
    · cases h; exact eS_mk mJ6_signum_0f7a4 wJ6_signum_0f7a4 (by decide +kernel) (Or.inl (gW_at 1146 (by decide +kernel) rfl))
    · cases h
set_option maxRecDepth 100000 in
set_option maxHeartbeats 4000000 in
theorem sX10_sign : eSafe TX10_sign (cdOf kX10_sign) 2 (some .int) SX10_sign := by
  intro K rt hK as M h
  obtain ⟨F, A, p, rfl, rfl, h0, h1, h⟩ := h
  refine ⟨by simp [eE], ?_⟩
  simp only [eLoc, eE, List.length_cons, List.length_nil, List.replicate, List.cons_append, List.nil_append, Nat.reduceAdd, Nat.reduceSub]
  refine x_aload_n hK kX10_sign_0 (q := 1) rfl rfl ?_
  refine x_getfield hK kX10_sign_1 (q := 4) rfl (gX10_12 ?_)
  refine x_iload_n hK kX10_sign_4 (q := 5) rfl rfl ?_
  refine x_cs1 hK kX10_sign_5 (q := 8) rfl (stX10_sign_64) (Nat.le_of_ble_eq_true rfl) ?_
  refine SX10_at_i ?_
  refine x_iaload hK kX10_sign_8 (q := 9) rfl (aX10_A0 (by refine ⟨?_, ?_⟩ <;> omega) ?_)
  refine x_cs1 hK kX10_sign_9 (q := 12) rfl (stX10_sign_68) (Nat.le_of_ble_eq_true rfl) ?_
  refine SJ6_signum_0f7a4_i h1 ?_
  refine x_ireturn hK kX10_sign_12 (by first | trivial | exact Or.inl rfl | exact Or.inr rfl) ?_
  exact h
set_option maxRecDepth 20000 in
theorem mX10_sign : eMet yX10_sign cX10_sign 2 (some .int) 1 20 SX10_sign := eMet_of (by decide +kernel) sX10_sign kX10_sign_ok caX10_sign tb_RX10
theorem wX10_sign : eWV yX10_sign cX10_sign 2 (some .int) 2 9 SX10_sign := ⟨(gW_at 1145 (by decide +kernel) rfl), (gW_at 89 (by decide +kernel) rfl), (gW_at 1144 (by decide +kernel) rfl), ⟨_, rfl, (gW_at 50 (by decide +kernel) rfl)⟩, by decide +kernel, SX10_sign_r⟩
-- isZero(p)
def SX10_isZero : eSp := fun as M rt => ∃ (F : Nat → Int) (A : Nat → Int → Int) (p : Int), as = [eRR, eI p] ∧ M = cR F A ∧ (0 ≤ p * 601 ∧ p * 601 < 1602266) ∧ w32 (A 0 (p * 601)) ∧ (A 0 (p * 601) = 0 → rt (some (eI 1)) (cR F A)) ∧ (A 0 (p * 601) ≠ 0 → rt (some (eI 0)) (cR F A))
theorem SX10_isZero_i {F : Nat → Int} {A : Nat → Int → Int} {p : Int} {rt : Option eV → eM → Prop} (h0 : 0 ≤ p * 601 ∧ p * 601 < 1602266) (h1 : w32 (A 0 (p * 601))) (h : A 0 (p * 601) = 0 → rt (some (eI 1)) (cR F A)) (h' : A 0 (p * 601) ≠ 0 → rt (some (eI 0)) (cR F A)) : SX10_isZero [eRR, eI p] (cR F A) rt := ⟨F, A, p, rfl, rfl, h0, h1, h, h'⟩
theorem SX10_isZero_r : ∀ as M rt, SX10_isZero as M rt → ∃ a r fs, as = eR a :: r ∧ M a = some (.inl (9, fs)) := by
  rintro as M rt ⟨F, A, p, rfl, rfl, -⟩
  exact ⟨_, _, _, rfl, rfl⟩
def kX10_isZero : List (Nat × Jvm.ClassFile.Instr × Nat) := [(0, .aload_n 0, 1), (1, .getfield 12, 3), (4, .iload_n 1, 1), (5, .invokestatic 64, 3), (8, .iaload, 1), (9, .ifCond .ne 7, 3), (12, .iconst 1, 1), (13, .goto 4, 3), (16, .iconst 0, 1), (17, .ireturn, 1)]
theorem kX10_isZero_0 : cdOf kX10_isZero 0 = some (.aload_n 0, 1) := by decide +kernel
theorem kX10_isZero_1 : cdOf kX10_isZero 1 = some (.getfield 12, 3) := by decide +kernel
theorem kX10_isZero_4 : cdOf kX10_isZero 4 = some (.iload_n 1, 1) := by decide +kernel
theorem kX10_isZero_5 : cdOf kX10_isZero 5 = some (.invokestatic 64, 3) := by decide +kernel
theorem kX10_isZero_8 : cdOf kX10_isZero 8 = some (.iaload, 1) := by decide +kernel
theorem kX10_isZero_9 : cdOf kX10_isZero 9 = some (.ifCond .ne 7, 3) := by decide +kernel
theorem kX10_isZero_12 : cdOf kX10_isZero 12 = some (.iconst 1, 1) := by decide +kernel
theorem kX10_isZero_13 : cdOf kX10_isZero 13 = some (.goto 4, 3) := by decide +kernel
theorem kX10_isZero_16 : cdOf kX10_isZero 16 = some (.iconst 0, 1) := by decide +kernel
theorem kX10_isZero_17 : cdOf kX10_isZero 17 = some (.ireturn, 1) := by decide +kernel
set_option maxRecDepth 20000 in
theorem kX10_isZero_ok : ∀ pc i len, cdOf kX10_isZero pc = some (i, len) → decode cX10_isZero pc = .ok (i, len) ∧ stOK 2 i = true ∧ jOK pc i = true ∧ eLen i len = true := cdOf_ok cX10_isZero 2 kX10_isZero (by decide +kernel)
def vtX10_isZero : Nat → Option (Nat × eSp) := fun _ => none
def stX10_isZero : Nat → Option (Nat × eSp) := fun k => match k with
  | 64 => some (1, SX10_at)
  | _ => none
theorem stX10_isZero_64 : stX10_isZero 64 = some (1, SX10_at) := rfl
abbrev TX10_isZero : eT := (fl_RX10, cl_RX10, dl_RX10, vtX10_isZero, stX10_isZero)
set_option maxRecDepth 20000 in
theorem caX10_isZero : eCalls RX10 { frames := 1, cells := 0, slots := 0, locals := 20 } TX10_isZero := by
  refine ⟨fun k n sp h => ?_, fun k n sp h => ?_⟩
  · cases h
  · dsimp only [TX10_isZero] at h
    unfold stX10_isZero at h
    split at h
    · cases h; exact eS_mk mX10_at wX10_at (by decide +kernel) (Or.inl (gW_at 1070 (by decide +kernel) rfl))
    · cases h
set_option maxRecDepth 100000 in
set_option maxHeartbeats 4000000 in
theorem sX10_isZero : eSafe TX10_isZero (cdOf kX10_isZero) 2 (some .boolean) SX10_isZero := by
  intro K rt hK as M h
  obtain ⟨F, A, p, rfl, rfl, h0, h1, h, h'⟩ := h
  refine ⟨by simp [eE], ?_⟩
  simp only [eLoc, eE, List.length_cons, List.length_nil, List.replicate, List.cons_append, List.nil_append, Nat.reduceAdd, Nat.reduceSub]
  refine x_aload_n hK kX10_isZero_0 (q := 1) rfl rfl ?_
  refine x_getfield hK kX10_isZero_1 (q := 4) rfl (gX10_12 ?_)
  refine x_iload_n hK kX10_isZero_4 (q := 5) rfl rfl ?_
  refine x_cs1 hK kX10_isZero_5 (q := 8) rfl (stX10_isZero_64) (Nat.le_of_ble_eq_true rfl) ?_
  refine SX10_at_i ?_
  refine x_iaload hK kX10_isZero_8 (q := 9) rfl (aX10_A0 (by refine ⟨?_, ?_⟩ <;> omega) ?_)
  refine x_if_ne hK kX10_isZero_9 (q := 12) rfl (tg := 16) rfl (by omega) (fun c9 => ?_) (fun c9 => ?_)
  · refine x_iconst hK kX10_isZero_16 (q := 17) rfl ?_
    refine x_ireturn hK kX10_isZero_17 (by first | exact Or.inl rfl | exact Or.inr rfl) ?_
    first | exact h (by omega) | exact h' c9
  · refine x_iconst hK kX10_isZero_12 (q := 13) rfl ?_
    refine x_goto hK kX10_isZero_13 (tg := 17) rfl ?_
    refine x_ireturn hK kX10_isZero_17 (by first | exact Or.inl rfl | exact Or.inr rfl) ?_
    first | exact h (by omega) | exact h' c9
set_option maxRecDepth 20000 in
theorem mX10_isZero : eMet yX10_isZero cX10_isZero 2 (some .boolean) 1 20 SX10_isZero := eMet_of (by decide +kernel) sX10_isZero kX10_isZero_ok caX10_isZero tb_RX10
theorem wX10_isZero : eWV yX10_isZero cX10_isZero 2 (some .boolean) 2 9 SX10_isZero := ⟨(gW_at 1089 (by decide +kernel) rfl), (gW_at 89 (by decide +kernel) rfl), (gW_at 1088 (by decide +kernel) rfl), ⟨_, rfl, (gW_at 42 (by decide +kernel) rfl)⟩, by decide +kernel, SX10_isZero_r⟩
-- negate(p)
def SX10_negate : eSp := fun as M rt => ∃ (F : Nat → Int) (A : Nat → Int → Int) (p : Int), as = [eRR, eI p] ∧ M = cR F A ∧ (0 ≤ p * 601 ∧ p * 601 < 1602266) ∧ rt none (cR F (uA A 0 (uI (A 0) (p * 601) (-A 0 (p * 601)))))
theorem SX10_negate_i {F : Nat → Int} {A : Nat → Int → Int} {p : Int} {rt : Option eV → eM → Prop} (h0 : 0 ≤ p * 601 ∧ p * 601 < 1602266) (h : rt none (cR F (uA A 0 (uI (A 0) (p * 601) (-A 0 (p * 601)))))) : SX10_negate [eRR, eI p] (cR F A) rt := ⟨F, A, p, rfl, rfl, h0, h⟩
theorem SX10_negate_r : ∀ as M rt, SX10_negate as M rt → ∃ a r fs, as = eR a :: r ∧ M a = some (.inl (9, fs)) := by
  rintro as M rt ⟨F, A, p, rfl, rfl, -⟩
  exact ⟨_, _, _, rfl, rfl⟩
def kX10_negate : List (Nat × Jvm.ClassFile.Instr × Nat) := [(0, .aload_n 0, 1), (1, .getfield 12, 3), (4, .iload_n 1, 1), (5, .invokestatic 64, 3), (8, .aload_n 0, 1), (9, .getfield 12, 3), (12, .iload_n 1, 1), (13, .invokestatic 64, 3), (16, .iaload, 1), (17, .ineg, 1), (18, .iastore, 1), (19, .return_, 1)]
theorem kX10_negate_0 : cdOf kX10_negate 0 = some (.aload_n 0, 1) := by decide +kernel
theorem kX10_negate_1 : cdOf kX10_negate 1 = some (.getfield 12, 3) := by decide +kernel
theorem kX10_negate_4 : cdOf kX10_negate 4 = some (.iload_n 1, 1) := by decide +kernel
theorem kX10_negate_5 : cdOf kX10_negate 5 = some (.invokestatic 64, 3) := by decide +kernel
theorem kX10_negate_8 : cdOf kX10_negate 8 = some (.aload_n 0, 1) := by decide +kernel
theorem kX10_negate_9 : cdOf kX10_negate 9 = some (.getfield 12, 3) := by decide +kernel
theorem kX10_negate_12 : cdOf kX10_negate 12 = some (.iload_n 1, 1) := by decide +kernel
theorem kX10_negate_13 : cdOf kX10_negate 13 = some (.invokestatic 64, 3) := by decide +kernel
theorem kX10_negate_16 : cdOf kX10_negate 16 = some (.iaload, 1) := by decide +kernel
theorem kX10_negate_17 : cdOf kX10_negate 17 = some (.ineg, 1) := by decide +kernel
theorem kX10_negate_18 : cdOf kX10_negate 18 = some (.iastore, 1) := by decide +kernel
theorem kX10_negate_19 : cdOf kX10_negate 19 = some (.return_, 1) := by decide +kernel
set_option maxRecDepth 20000 in
theorem kX10_negate_ok : ∀ pc i len, cdOf kX10_negate pc = some (i, len) → decode cX10_negate pc = .ok (i, len) ∧ stOK 2 i = true ∧ jOK pc i = true ∧ eLen i len = true := cdOf_ok cX10_negate 2 kX10_negate (by decide +kernel)
def vtX10_negate : Nat → Option (Nat × eSp) := fun _ => none
def stX10_negate : Nat → Option (Nat × eSp) := fun k => match k with
  | 64 => some (1, SX10_at)
  | _ => none
theorem stX10_negate_64 : stX10_negate 64 = some (1, SX10_at) := rfl
abbrev TX10_negate : eT := (fl_RX10, cl_RX10, dl_RX10, vtX10_negate, stX10_negate)
set_option maxRecDepth 20000 in
theorem caX10_negate : eCalls RX10 { frames := 1, cells := 0, slots := 0, locals := 20 } TX10_negate := by
  refine ⟨fun k n sp h => ?_, fun k n sp h => ?_⟩
  · cases h
  · dsimp only [TX10_negate] at h
    unfold stX10_negate at h
    split at h
    · cases h; exact eS_mk mX10_at wX10_at (by decide +kernel) (Or.inl (gW_at 1070 (by decide +kernel) rfl))
    · cases h
set_option maxRecDepth 100000 in
set_option maxHeartbeats 4000000 in
theorem sX10_negate : eSafe TX10_negate (cdOf kX10_negate) 2 none SX10_negate := by
  intro K rt hK as M h
  obtain ⟨F, A, p, rfl, rfl, h0, h⟩ := h
  refine ⟨by simp [eE], ?_⟩
  simp only [eLoc, eE, List.length_cons, List.length_nil, List.replicate, List.cons_append, List.nil_append, Nat.reduceAdd, Nat.reduceSub]
  refine x_aload_n hK kX10_negate_0 (q := 1) rfl rfl ?_
  refine x_getfield hK kX10_negate_1 (q := 4) rfl (gX10_12 ?_)
  refine x_iload_n hK kX10_negate_4 (q := 5) rfl rfl ?_
  refine x_cs1 hK kX10_negate_5 (q := 8) rfl (stX10_negate_64) (Nat.le_of_ble_eq_true rfl) ?_
  refine SX10_at_i ?_
  refine x_aload_n hK kX10_negate_8 (q := 9) rfl rfl ?_
  refine x_getfield hK kX10_negate_9 (q := 12) rfl (gX10_12 ?_)
  refine x_iload_n hK kX10_negate_12 (q := 13) rfl rfl ?_
  refine x_cs1 hK kX10_negate_13 (q := 16) rfl (stX10_negate_64) (Nat.le_of_ble_eq_true rfl) ?_
  refine SX10_at_i ?_
  refine x_iaload hK kX10_negate_16 (q := 17) rfl (aX10_A0 (by refine ⟨?_, ?_⟩ <;> omega) ?_)
  refine x_ineg hK kX10_negate_17 (q := 18) rfl ?_
  refine x_iastore hK kX10_negate_18 (q := 19) rfl (yX10_A0 (by refine ⟨?_, ?_⟩ <;> omega) ?_)
  refine x_return_ hK kX10_negate_19 (by first | trivial | exact Or.inl rfl | exact Or.inr rfl) ?_
  exact h
set_option maxRecDepth 20000 in
theorem mX10_negate : eMet yX10_negate cX10_negate 2 none 1 20 SX10_negate := eMet_of (by decide +kernel) sX10_negate kX10_negate_ok caX10_negate tb_RX10
theorem wX10_negate : eWV yX10_negate cX10_negate 2 none 2 9 SX10_negate := ⟨(gW_at 1173 (by decide +kernel) rfl), (gW_at 89 (by decide +kernel) rfl), (gW_at 1172 (by decide +kernel) rfl), ⟨_, rfl, (gW_at 56 (by decide +kernel) rfl)⟩, by decide +kernel, SX10_negate_r⟩
-- trim(o, n, s)
def SX10_trim : eSp := fun as M rt => ∃ (F : Nat → Int) (A : Nat → Int → Int) (o s : Int) (n : Nat), as = [eRR, eI o, eI n, eI s] ∧ M = cR F A ∧ 0 ≤ o ∧ o + n < 1602266 ∧ (∀ k : Nat, k < n → w32 (A 0 (o + 1 + k))) ∧ rt none (cR F (uA A 0 (uI (A 0) o (s * (tk (A 0) (o + 1) n : Int)))))
theorem SX10_trim_i {F : Nat → Int} {A : Nat → Int → Int} {o s : Int} {rt : Option eV → eM → Prop} (n : Nat) {nz : Int} (hn : nz = n) (h0 : 0 ≤ o) (h1 : o + n < 1602266) (h2 : ∀ k : Nat, k < n → w32 (A 0 (o + 1 + k))) (h : rt none (cR F (uA A 0 (uI (A 0) o (s * (tk (A 0) (o + 1) n : Int)))))) : SX10_trim [eRR, eI o, eI nz, eI s] (cR F A) rt := ⟨F, A, o, s, n, by rw [hn], rfl, h0, h1, h2, h⟩
theorem SX10_trim_r : ∀ as M rt, SX10_trim as M rt → ∃ a r fs, as = eR a :: r ∧ M a = some (.inl (9, fs)) := by
  rintro as M rt ⟨F, A, o, s, n, rfl, rfl, -⟩
  exact ⟨_, _, _, rfl, rfl⟩
def kX10_trim : List (Nat × Jvm.ClassFile.Instr × Nat) := [(0, .iload_n 2, 1), (1, .istore 4, 2), (3, .iload 4, 2), (5, .ifCond .le 21, 3), (8, .aload_n 0, 1), (9, .getfield 12, 3), (12, .iload_n 1, 1), (13, .iload 4, 2), (15, .iadd, 1), (16, .iaload, 1), (17, .ifCond .ne 9, 3), (20, .iinc 4 (-1), 3), (23, .goto (-20), 3), (26, .aload_n 0, 1), (27, .getfield 12, 3), (30, .iload_n 1, 1), (31, .iload_n 3, 1), (32, .iload 4, 2), (34, .imul, 1), (35, .iastore, 1), (36, .return_, 1)]
theorem kX10_trim_0 : cdOf kX10_trim 0 = some (.iload_n 2, 1) := by decide +kernel
theorem kX10_trim_1 : cdOf kX10_trim 1 = some (.istore 4, 2) := by decide +kernel
theorem kX10_trim_3 : cdOf kX10_trim 3 = some (.iload 4, 2) := by decide +kernel
theorem kX10_trim_5 : cdOf kX10_trim 5 = some (.ifCond .le 21, 3) := by decide +kernel
theorem kX10_trim_8 : cdOf kX10_trim 8 = some (.aload_n 0, 1) := by decide +kernel
theorem kX10_trim_9 : cdOf kX10_trim 9 = some (.getfield 12, 3) := by decide +kernel
theorem kX10_trim_12 : cdOf kX10_trim 12 = some (.iload_n 1, 1) := by decide +kernel
theorem kX10_trim_13 : cdOf kX10_trim 13 = some (.iload 4, 2) := by decide +kernel
theorem kX10_trim_15 : cdOf kX10_trim 15 = some (.iadd, 1) := by decide +kernel
theorem kX10_trim_16 : cdOf kX10_trim 16 = some (.iaload, 1) := by decide +kernel
theorem kX10_trim_17 : cdOf kX10_trim 17 = some (.ifCond .ne 9, 3) := by decide +kernel
theorem kX10_trim_20 : cdOf kX10_trim 20 = some (.iinc 4 (-1), 3) := by decide +kernel
theorem kX10_trim_23 : cdOf kX10_trim 23 = some (.goto (-20), 3) := by decide +kernel
theorem kX10_trim_26 : cdOf kX10_trim 26 = some (.aload_n 0, 1) := by decide +kernel
theorem kX10_trim_27 : cdOf kX10_trim 27 = some (.getfield 12, 3) := by decide +kernel
theorem kX10_trim_30 : cdOf kX10_trim 30 = some (.iload_n 1, 1) := by decide +kernel
theorem kX10_trim_31 : cdOf kX10_trim 31 = some (.iload_n 3, 1) := by decide +kernel
theorem kX10_trim_32 : cdOf kX10_trim 32 = some (.iload 4, 2) := by decide +kernel
theorem kX10_trim_34 : cdOf kX10_trim 34 = some (.imul, 1) := by decide +kernel
theorem kX10_trim_35 : cdOf kX10_trim 35 = some (.iastore, 1) := by decide +kernel
theorem kX10_trim_36 : cdOf kX10_trim 36 = some (.return_, 1) := by decide +kernel
set_option maxRecDepth 20000 in
theorem kX10_trim_ok : ∀ pc i len, cdOf kX10_trim pc = some (i, len) → decode cX10_trim pc = .ok (i, len) ∧ stOK 5 i = true ∧ jOK pc i = true ∧ eLen i len = true := cdOf_ok cX10_trim 5 kX10_trim (by decide +kernel)
def vtX10_trim : Nat → Option (Nat × eSp) := fun _ => none
def stX10_trim : Nat → Option (Nat × eSp) := fun _ => none
abbrev TX10_trim : eT := (fl_RX10, cl_RX10, dl_RX10, vtX10_trim, stX10_trim)
set_option maxRecDepth 20000 in
theorem caX10_trim : eCalls RX10 { frames := 0, cells := 0, slots := 0, locals := 0 } TX10_trim := by
  refine ⟨fun k n sp h => ?_, fun k n sp h => ?_⟩
  · cases h
  · cases h
set_option maxRecDepth 100000 in
set_option maxHeartbeats 4000000 in
theorem sX10_trim : eSafe TX10_trim (cdOf kX10_trim) 5 none SX10_trim := by
  intro K rt hK as M h
  obtain ⟨F, A, o, s, n, rfl, rfl, h0, h1, h2, h⟩ := h
  refine ⟨by simp [eE], ?_⟩
  have loop : ∀ k : Nat, k ≤ n → tk (A 0) (o + 1) n = tk (A 0) (o + 1) k → K 3 [some eRR, some (eI o), some (eI n), some (eI s), some (eI k)] [] (cR F A) := by
    intro k
    induction k with
    | zero =>
      intro hk e
      refine x_iload hK kX10_trim_3 (q := 5) rfl rfl ?_
      refine x_if_le hK kX10_trim_5 (q := 8) rfl (tg := 26) rfl (by omega) (fun c5 => ?_) (fun c5 => ?_)
      · refine x_aload_n hK kX10_trim_26 (q := 27) rfl rfl ?_
        refine x_getfield hK kX10_trim_27 (q := 30) rfl (gX10_12 ?_)
        refine x_iload_n hK kX10_trim_30 (q := 31) rfl rfl ?_
        refine x_iload_n hK kX10_trim_31 (q := 32) rfl rfl ?_
        refine x_iload hK kX10_trim_32 (q := 34) rfl rfl ?_
        refine x_imul hK kX10_trim_34 (q := 35) rfl ?_
        refine x_iastore hK kX10_trim_35 (q := 36) rfl (yX10_A0 (by omega) ?_)
        refine x_return_ hK kX10_trim_36 (by first | trivial | exact Or.inl rfl | exact Or.inr rfl) ?_
        rw [e] at h; exact h
      · exact absurd (Int.le_refl 0) c5
    | succ k ih =>
      intro hk e
      have hw := h2 k (by omega)
      have e1 : o + ((k + 1 : Nat) : Int) = o + 1 + k := by omega
      refine x_iload hK kX10_trim_3 (q := 5) rfl rfl ?_
      refine x_if_le hK kX10_trim_5 (q := 8) rfl (tg := 26) rfl (by omega) (fun c5 => ?_) (fun c5 => ?_)
      · exact absurd c5 (by omega)
      · refine x_aload_n hK kX10_trim_8 (q := 9) rfl rfl ?_
        refine x_getfield hK kX10_trim_9 (q := 12) rfl (gX10_12 ?_)
        refine x_iload_n hK kX10_trim_12 (q := 13) rfl rfl ?_
        refine x_iload hK kX10_trim_13 (q := 15) rfl rfl ?_
        refine x_iadd hK kX10_trim_15 (q := 16) rfl ?_
        refine x_iaload hK kX10_trim_16 (q := 17) rfl (aX10_A0 (by omega) ?_)
        refine x_if_ne hK kX10_trim_17 (q := 20) rfl (tg := 26) rfl (by rw [e1]; exact hw) (fun c17 => ?_) (fun c17 => ?_)
        · refine x_aload_n hK kX10_trim_26 (q := 27) rfl rfl ?_
          refine x_getfield hK kX10_trim_27 (q := 30) rfl (gX10_12 ?_)
          refine x_iload_n hK kX10_trim_30 (q := 31) rfl rfl ?_
          refine x_iload_n hK kX10_trim_31 (q := 32) rfl rfl ?_
          refine x_iload hK kX10_trim_32 (q := 34) rfl rfl ?_
          refine x_imul hK kX10_trim_34 (q := 35) rfl ?_
          refine x_iastore hK kX10_trim_35 (q := 36) rfl (yX10_A0 (by omega) ?_)
          refine x_return_ hK kX10_trim_36 (by first | trivial | exact Or.inl rfl | exact Or.inr rfl) ?_
          have e2 : tk (A 0) (o + 1) (k + 1) = k + 1 := by
            rw [tk, if_neg (by rw [e1] at c17; exact c17)]
          rw [e, e2] at h; exact h
        · refine x_iinc hK kX10_trim_20 (q := 23) rfl rfl ?_
          simp only [lS, lS2, clr_0, clr_I, clr_L, clr_R]
          refine x_goto hK kX10_trim_23 (tg := 3) rfl ?_
          refine x_to (ih (by omega) ?_) ?_ rfl rfl
          · rw [e, tk, if_pos (by rw [e1] at c17; omega)]
          · simp; omega
  simp only [eLoc, eE, List.length_cons, List.length_nil, List.replicate, List.cons_append, List.nil_append, Nat.reduceAdd, Nat.reduceSub]
  refine x_iload_n hK kX10_trim_0 (q := 1) rfl rfl ?_
  refine x_istore hK kX10_trim_1 (q := 3) rfl ?_
  simp only [lS, lS2, clr_0, clr_I, clr_L, clr_R]
  exact loop n (Nat.le_refl n) rfl
set_option maxRecDepth 20000 in
theorem mX10_trim : eMet yX10_trim cX10_trim 5 none 0 0 SX10_trim := eMet_of (by decide +kernel) sX10_trim kX10_trim_ok caX10_trim tb_RX10
theorem wX10_trim : eWV yX10_trim cX10_trim 5 none 4 9 SX10_trim := ⟨(gW_at 1133 (by decide +kernel) rfl), (gW_at 89 (by decide +kernel) rfl), (gW_at 1132 (by decide +kernel) rfl), ⟨_, rfl, (gW_at 47 (by decide +kernel) rfl)⟩, by decide +kernel, SX10_trim_r⟩
