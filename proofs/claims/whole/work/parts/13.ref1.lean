/-! The reference's small methods. -/
theorem rR_o (F : Nat → Int) (A : Nat → Int → Int) : ∃ fs, cR F A (0, 0) = some (.inl (9, fs)) := ⟨_, rfl⟩
def zAbs (z : Int) : Int := if z < 0 then -z else z
-- at(p) = 601 p
def SX10_at : eSp := fun as M rt => ∃ p : Int, as = [eI p] ∧ rt (some (eI (p * 601))) M
theorem SX10_at_i {p : Int} {M : eM} {rt : Option eV → eM → Prop} (h : rt (some (eI (p * 601))) M) : SX10_at [eI p] M rt := ⟨p, rfl, h⟩
def kX10_at : List (Nat × Jvm.ClassFile.Instr × Nat) := [(0, .iload_n 0, 1), (1, .sipush 601, 3), (4, .imul, 1), (5, .ireturn, 1)]
theorem kX10_at_0 : cdOf kX10_at 0 = some (.iload_n 0, 1) := by decide +kernel
theorem kX10_at_1 : cdOf kX10_at 1 = some (.sipush 601, 3) := by decide +kernel
theorem kX10_at_4 : cdOf kX10_at 4 = some (.imul, 1) := by decide +kernel
theorem kX10_at_5 : cdOf kX10_at 5 = some (.ireturn, 1) := by decide +kernel
set_option maxRecDepth 20000 in
theorem kX10_at_ok : ∀ pc i len, cdOf kX10_at pc = some (i, len) → decode cX10_at pc = .ok (i, len) ∧ stOK 1 i = true ∧ jOK pc i = true ∧ eLen i len = true := cdOf_ok cX10_at 1 kX10_at (by decide +kernel)
def vtX10_at : Nat → Option (Nat × eSp) := fun _ => none
def stX10_at : Nat → Option (Nat × eSp) := fun _ => none
abbrev TX10_at : eT := (fl_RX10, cl_RX10, dl_RX10, vtX10_at, stX10_at)
set_option maxRecDepth 20000 in
theorem caX10_at : eCalls RX10 { frames := 0, cells := 0, slots := 0, locals := 0 } TX10_at := by
  refine ⟨fun k n sp h => ?_, fun k n sp h => ?_⟩
  · cases h
  · cases h
set_option maxRecDepth 100000 in
set_option maxHeartbeats 4000000 in
theorem sX10_at : eSafe TX10_at (cdOf kX10_at) 1 (some .int) SX10_at := by
  intro K rt hK as M h
  obtain ⟨p, rfl, h⟩ := h
  refine ⟨by simp [eE], ?_⟩
  simp only [eLoc, eE, List.length_cons, List.length_nil, List.replicate, List.cons_append, List.nil_append, Nat.reduceAdd, Nat.reduceSub]
  refine x_iload_n hK kX10_at_0 (q := 1) rfl rfl ?_
  refine x_sipush hK kX10_at_1 (q := 4) rfl (by decide) ?_
  refine x_imul hK kX10_at_4 (q := 5) rfl ?_
  refine x_ireturn hK kX10_at_5 (by first | trivial | exact Or.inl rfl | exact Or.inr rfl) ?_
  exact h
set_option maxRecDepth 20000 in
theorem mX10_at : eMet yX10_at cX10_at 1 (some .int) 0 0 SX10_at := eMet_of (by decide +kernel) sX10_at kX10_at_ok caX10_at tb_RX10
theorem wX10_at : eWS yX10_at cX10_at 1 (some .int) 1 := ⟨(gW_at 1072 (by decide +kernel) rfl), (gW_at 89 (by decide +kernel) rfl), (gW_at 1071 (by decide +kernel) rfl), by decide +kernel⟩
-- length(p)
def SX10_length : eSp := fun as M rt => ∃ (F : Nat → Int) (A : Nat → Int → Int) (p : Int), as = [eRR, eI p] ∧ M = cR F A ∧ (0 ≤ p * 601 ∧ p * 601 < 1602266) ∧ w32 (A 0 (p * 601)) ∧ rt (some (eI (zAbs (A 0 (p * 601))))) (cR F A)
theorem SX10_length_i {F : Nat → Int} {A : Nat → Int → Int} {p : Int} {rt : Option eV → eM → Prop} (h0 : 0 ≤ p * 601 ∧ p * 601 < 1602266) (h1 : w32 (A 0 (p * 601))) (h : rt (some (eI (zAbs (A 0 (p * 601))))) (cR F A)) : SX10_length [eRR, eI p] (cR F A) rt := ⟨F, A, p, rfl, rfl, h0, h1, h⟩
theorem SX10_length_r : ∀ as M rt, SX10_length as M rt → ∃ a r fs, as = eR a :: r ∧ M a = some (.inl (9, fs)) := by
  rintro as M rt ⟨F, A, p, rfl, rfl, -⟩
  exact ⟨_, _, _, rfl, rfl⟩
def kX10_length : List (Nat × Jvm.ClassFile.Instr × Nat) := [(0, .aload_n 0, 1), (1, .getfield 12, 3), (4, .iload_n 1, 1), (5, .invokestatic 64, 3), (8, .iaload, 1), (9, .istore_n 2, 1), (10, .iload_n 2, 1), (11, .ifCond .ge 8, 3), (14, .iload_n 2, 1), (15, .ineg, 1), (16, .goto 4, 3), (19, .iload_n 2, 1), (20, .ireturn, 1)]
theorem kX10_length_0 : cdOf kX10_length 0 = some (.aload_n 0, 1) := by decide +kernel
theorem kX10_length_1 : cdOf kX10_length 1 = some (.getfield 12, 3) := by decide +kernel
theorem kX10_length_4 : cdOf kX10_length 4 = some (.iload_n 1, 1) := by decide +kernel
theorem kX10_length_5 : cdOf kX10_length 5 = some (.invokestatic 64, 3) := by decide +kernel
theorem kX10_length_8 : cdOf kX10_length 8 = some (.iaload, 1) := by decide +kernel
theorem kX10_length_9 : cdOf kX10_length 9 = some (.istore_n 2, 1) := by decide +kernel
theorem kX10_length_10 : cdOf kX10_length 10 = some (.iload_n 2, 1) := by decide +kernel
theorem kX10_length_11 : cdOf kX10_length 11 = some (.ifCond .ge 8, 3) := by decide +kernel
theorem kX10_length_14 : cdOf kX10_length 14 = some (.iload_n 2, 1) := by decide +kernel
theorem kX10_length_15 : cdOf kX10_length 15 = some (.ineg, 1) := by decide +kernel
theorem kX10_length_16 : cdOf kX10_length 16 = some (.goto 4, 3) := by decide +kernel
theorem kX10_length_19 : cdOf kX10_length 19 = some (.iload_n 2, 1) := by decide +kernel
theorem kX10_length_20 : cdOf kX10_length 20 = some (.ireturn, 1) := by decide +kernel
set_option maxRecDepth 20000 in
theorem kX10_length_ok : ∀ pc i len, cdOf kX10_length pc = some (i, len) → decode cX10_length pc = .ok (i, len) ∧ stOK 3 i = true ∧ jOK pc i = true ∧ eLen i len = true := cdOf_ok cX10_length 3 kX10_length (by decide +kernel)
def vtX10_length : Nat → Option (Nat × eSp) := fun _ => none
def stX10_length : Nat → Option (Nat × eSp) := fun k => match k with
  | 64 => some (1, SX10_at)
  | _ => none
theorem stX10_length_64 : stX10_length 64 = some (1, SX10_at) := rfl
abbrev TX10_length : eT := (fl_RX10, cl_RX10, dl_RX10, vtX10_length, stX10_length)
set_option maxRecDepth 20000 in
theorem caX10_length : eCalls RX10 { frames := 1, cells := 0, slots := 0, locals := 20 } TX10_length := by
  refine ⟨fun k n sp h => ?_, fun k n sp h => ?_⟩
  · cases h
  · dsimp only [TX10_length] at h
    unfold stX10_length at h
    split at h
    · cases h; exact eS_mk mX10_at wX10_at (by decide +kernel) (Or.inl (gW_at 1070 (by decide +kernel) rfl))
    · cases h
set_option maxRecDepth 100000 in
set_option maxHeartbeats 4000000 in
theorem sX10_length : eSafe TX10_length (cdOf kX10_length) 3 (some .int) SX10_length := by
  intro K rt hK as M h
  obtain ⟨F, A, p, rfl, rfl, h0, h1, h⟩ := h
  refine ⟨by simp [eE], ?_⟩
  simp only [eLoc, eE, List.length_cons, List.length_nil, List.replicate, List.cons_append, List.nil_append, Nat.reduceAdd, Nat.reduceSub]
  refine x_aload_n hK kX10_length_0 (q := 1) rfl rfl ?_
  refine x_getfield hK kX10_length_1 (q := 4) rfl (gX10_12 ?_)
  refine x_iload_n hK kX10_length_4 (q := 5) rfl rfl ?_
  refine x_cs1 hK kX10_length_5 (q := 8) rfl (stX10_length_64) (Nat.le_of_ble_eq_true rfl) ?_
  refine SX10_at_i ?_
  refine x_iaload hK kX10_length_8 (q := 9) rfl (aX10_A0 (by refine ⟨?_, ?_⟩ <;> omega) ?_)
  refine x_istore_n hK kX10_length_9 (q := 10) (jn := 2) rfl rfl ?_
  refine x_iload_n hK kX10_length_10 (q := 11) rfl rfl ?_
  simp only [lS, lS2, clr_0, clr_I, clr_L, clr_R]
  refine x_if_ge hK kX10_length_11 (q := 14) rfl (tg := 19) rfl (by omega) (fun c11 => ?_) (fun c11 => ?_)
  · refine x_iload_n hK kX10_length_19 (q := 20) rfl rfl ?_
    refine x_ireturn hK kX10_length_20 (by first | trivial | exact Or.inl rfl | exact Or.inr rfl) ?_
    unfold zAbs at h
    first | (rw [if_pos (by omega)] at h; exact h) | (rw [if_neg (by omega)] at h; exact h)
  · refine x_iload_n hK kX10_length_14 (q := 15) rfl rfl ?_
    refine x_ineg hK kX10_length_15 (q := 16) rfl ?_
    refine x_goto hK kX10_length_16 (tg := 20) rfl ?_
    refine x_ireturn hK kX10_length_20 (by first | trivial | exact Or.inl rfl | exact Or.inr rfl) ?_
    unfold zAbs at h
    first | (rw [if_pos (by omega)] at h; exact h) | (rw [if_neg (by omega)] at h; exact h)
set_option maxRecDepth 20000 in
theorem mX10_length : eMet yX10_length cX10_length 3 (some .int) 1 20 SX10_length := eMet_of (by decide +kernel) sX10_length kX10_length_ok caX10_length tb_RX10
theorem wX10_length : eWV yX10_length cX10_length 3 (some .int) 2 9 SX10_length := ⟨(gW_at 1104 (by decide +kernel) rfl), (gW_at 89 (by decide +kernel) rfl), (gW_at 1103 (by decide +kernel) rfl), ⟨_, rfl, (gW_at 45 (by decide +kernel) rfl)⟩, by decide +kernel, SX10_length_r⟩
