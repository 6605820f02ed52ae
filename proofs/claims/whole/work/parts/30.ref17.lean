/-! The reference's small questions. -/
theorem eRR_fs (F : Nat → Int) (A : Nat → Int → Int) : ∃ fs, cR F A (0, 0) = some (.inl (9, fs)) := ⟨_, rfl⟩
def SX10_entry : eSp := fun as M rt => ∃ (F : Nat → Int) (A : Nat → Int → Int) (s i j : Int), as = [eRR, eI s, eI i, eI j] ∧ M = cR F A ∧ rt (some (eI (s + 6 * i + j))) (cR F A)
theorem SX10_entry_i {F : Nat → Int} {A : Nat → Int → Int} {s i j : Int} {rt : Option eV → eM → Prop} (h : rt (some (eI (s + 6 * i + j))) (cR F A)) : SX10_entry [eRR, eI s, eI i, eI j] (cR F A) rt := ⟨F, A, s, i, j, rfl, rfl, h⟩
theorem SX10_entry_r : ∀ as M rt, SX10_entry as M rt → ∃ a r fs, as = eR a :: r ∧ M a = some (.inl (9, fs)) := by
  rintro as M rt ⟨F, A, s, i, j, rfl, rfl, -⟩
  exact ⟨_, _, _, rfl, rfl⟩
def kX10_entry : List (Nat × Jvm.ClassFile.Instr × Nat) := [(0, .iload_n 1, 1), (1, .bipush 6, 2), (3, .iload_n 2, 1), (4, .imul, 1), (5, .iadd, 1), (6, .iload_n 3, 1), (7, .iadd, 1), (8, .ireturn, 1)]
theorem kX10_entry_0 : cdOf kX10_entry 0 = some (.iload_n 1, 1) := by decide +kernel
theorem kX10_entry_1 : cdOf kX10_entry 1 = some (.bipush 6, 2) := by decide +kernel
theorem kX10_entry_3 : cdOf kX10_entry 3 = some (.iload_n 2, 1) := by decide +kernel
theorem kX10_entry_4 : cdOf kX10_entry 4 = some (.imul, 1) := by decide +kernel
theorem kX10_entry_5 : cdOf kX10_entry 5 = some (.iadd, 1) := by decide +kernel
theorem kX10_entry_6 : cdOf kX10_entry 6 = some (.iload_n 3, 1) := by decide +kernel
theorem kX10_entry_7 : cdOf kX10_entry 7 = some (.iadd, 1) := by decide +kernel
theorem kX10_entry_8 : cdOf kX10_entry 8 = some (.ireturn, 1) := by decide +kernel
set_option maxRecDepth 20000 in
theorem kX10_entry_ok : ∀ pc i len, cdOf kX10_entry pc = some (i, len) → decode cX10_entry pc = .ok (i, len) ∧ stOK 4 i = true ∧ jOK pc i = true ∧ eLen i len = true := cdOf_ok cX10_entry 4 kX10_entry (by decide +kernel)
def vtX10_entry : Nat → Option (Nat × eSp) := fun _ => none
def stX10_entry : Nat → Option (Nat × eSp) := fun _ => none
abbrev TX10_entry : eT := (fl_RX10, cl_RX10, dl_RX10, vtX10_entry, stX10_entry)
set_option maxRecDepth 20000 in
theorem caX10_entry : eCalls RX10 { frames := 0, cells := 0, slots := 0, locals := 0 } TX10_entry := by
  refine ⟨fun k n sp h => ?_, fun k n sp h => ?_⟩
  · cases h
  · cases h
set_option maxRecDepth 100000 in
set_option maxHeartbeats 4000000 in
theorem sX10_entry : eSafe TX10_entry (cdOf kX10_entry) 4 (some .int) SX10_entry := by
  intro K rt hK as M h
  obtain ⟨F, A, s, i, j, rfl, rfl, h⟩ := h
  refine ⟨by simp [eE], ?_⟩
  simp only [eLoc, eE, List.length_cons, List.length_nil, List.replicate, List.cons_append, List.nil_append, Nat.reduceAdd, Nat.reduceSub]
  refine x_iload_n hK kX10_entry_0 (q := 1) rfl rfl ?_
  refine x_bipush hK kX10_entry_1 (q := 3) rfl (by decide) ?_
  refine x_iload_n hK kX10_entry_3 (q := 4) rfl rfl ?_
  refine x_imul hK kX10_entry_4 (q := 5) rfl ?_
  refine x_iadd hK kX10_entry_5 (q := 6) rfl ?_
  refine x_iload_n hK kX10_entry_6 (q := 7) rfl rfl ?_
  refine x_iadd hK kX10_entry_7 (q := 8) rfl ?_
  refine x_ireturn hK kX10_entry_8 (by first | trivial | exact Or.inl rfl | exact Or.inr rfl) ?_
  exact h
set_option maxRecDepth 20000 in
theorem mX10_entry : eMet yX10_entry cX10_entry 4 (some .int) 0 0 SX10_entry := eMet_of (by decide +kernel) sX10_entry kX10_entry_ok caX10_entry tb_RX10
theorem wX10_entry : eWV yX10_entry cX10_entry 4 (some .int) 4 9 SX10_entry := ⟨(gW_at 1220 (by decide +kernel) rfl), (gW_at 89 (by decide +kernel) rfl), (gW_at 1219 (by decide +kernel) rfl), ⟨_, rfl, (gW_at 64 (by decide +kernel) rfl)⟩, by decide +kernel, SX10_entry_r⟩
def SX10_divides : eSp := fun as M rt => ∃ u v : Int, as = [eI u, eI v] ∧ (0 ≤ u ∧ u < 45) ∧ (0 ≤ v ∧ v < 45) ∧ ∀ b : Int, (b = 0 ∨ b = 1) → (b = 1 ↔ mX u ≤ mX v ∧ mY u ≤ mY v) → rt (some (eI b)) M
theorem SX10_divides_i {u v : Int} {M : eM} {rt : Option eV → eM → Prop} (h0 : 0 ≤ u ∧ u < 45) (h1 : 0 ≤ v ∧ v < 45) (h : ∀ b : Int, (b = 0 ∨ b = 1) → (b = 1 ↔ mX u ≤ mX v ∧ mY u ≤ mY v) → rt (some (eI b)) M) : SX10_divides [eI u, eI v] M rt := ⟨u, v, rfl, h0, h1, h⟩
def kX10_divides : List (Nat × Jvm.ClassFile.Instr × Nat) := [(0, .iload_n 0, 1), (1, .invokestatic 142, 3), (4, .iload_n 1, 1), (5, .invokestatic 142, 3), (8, .if_icmp .gt 18, 3), (11, .iload_n 0, 1), (12, .invokestatic 145, 3), (15, .iload_n 1, 1), (16, .invokestatic 145, 3), (19, .if_icmp .gt 7, 3), (22, .iconst 1, 1), (23, .goto 4, 3), (26, .iconst 0, 1), (27, .ireturn, 1)]
theorem kX10_divides_0 : cdOf kX10_divides 0 = some (.iload_n 0, 1) := by decide +kernel
theorem kX10_divides_1 : cdOf kX10_divides 1 = some (.invokestatic 142, 3) := by decide +kernel
theorem kX10_divides_4 : cdOf kX10_divides 4 = some (.iload_n 1, 1) := by decide +kernel
theorem kX10_divides_5 : cdOf kX10_divides 5 = some (.invokestatic 142, 3) := by decide +kernel
theorem kX10_divides_8 : cdOf kX10_divides 8 = some (.if_icmp .gt 18, 3) := by decide +kernel
theorem kX10_divides_11 : cdOf kX10_divides 11 = some (.iload_n 0, 1) := by decide +kernel
theorem kX10_divides_12 : cdOf kX10_divides 12 = some (.invokestatic 145, 3) := by decide +kernel
theorem kX10_divides_15 : cdOf kX10_divides 15 = some (.iload_n 1, 1) := by decide +kernel
theorem kX10_divides_16 : cdOf kX10_divides 16 = some (.invokestatic 145, 3) := by decide +kernel
theorem kX10_divides_19 : cdOf kX10_divides 19 = some (.if_icmp .gt 7, 3) := by decide +kernel
theorem kX10_divides_22 : cdOf kX10_divides 22 = some (.iconst 1, 1) := by decide +kernel
theorem kX10_divides_23 : cdOf kX10_divides 23 = some (.goto 4, 3) := by decide +kernel
theorem kX10_divides_26 : cdOf kX10_divides 26 = some (.iconst 0, 1) := by decide +kernel
theorem kX10_divides_27 : cdOf kX10_divides 27 = some (.ireturn, 1) := by decide +kernel
set_option maxRecDepth 20000 in
theorem kX10_divides_ok : ∀ pc i len, cdOf kX10_divides pc = some (i, len) → decode cX10_divides pc = .ok (i, len) ∧ stOK 2 i = true ∧ jOK pc i = true ∧ eLen i len = true := cdOf_ok cX10_divides 2 kX10_divides (by decide +kernel)
def vtX10_divides : Nat → Option (Nat × eSp) := fun _ => none
def stX10_divides : Nat → Option (Nat × eSp) := fun k => match k with
  | 142 => some (1, SX10_xOf)
  | 145 => some (1, SX10_yOf)
  | _ => none
theorem stX10_divides_142 : stX10_divides 142 = some (1, SX10_xOf) := rfl
theorem stX10_divides_145 : stX10_divides 145 = some (1, SX10_yOf) := rfl
abbrev TX10_divides : eT := (fl_RX10, cl_RX10, dl_RX10, vtX10_divides, stX10_divides)
set_option maxRecDepth 20000 in
theorem caX10_divides : eCalls RX10 { frames := 3, cells := 0, slots := 0, locals := 62 } TX10_divides := by
  refine ⟨fun k n sp h => ?_, fun k n sp h => ?_⟩
  · cases h
  · dsimp only [TX10_divides] at h
    unfold stX10_divides at h
    split at h
    · cases h; exact eS_mk mX10_xOf wX10_xOf (by decide +kernel) (Or.inl (gW_at 1181 (by decide +kernel) rfl))
    · cases h; exact eS_mk mX10_yOf wX10_yOf (by decide +kernel) (Or.inl (gW_at 1184 (by decide +kernel) rfl))
    · cases h
set_option maxRecDepth 100000 in
set_option maxHeartbeats 4000000 in
theorem sX10_divides : eSafe TX10_divides (cdOf kX10_divides) 2 (some .boolean) SX10_divides := by
  intro K rt hK as M h
  obtain ⟨u, v, rfl, h0, h1, h⟩ := h
  refine ⟨by simp [eE], ?_⟩
  have a0 := mD_h h0
  have a1 := mX_h h0
  have a2 := mY_h h0
  have b0 := mD_h h1
  have b1 := mX_h h1
  have b2 := mY_h h1
  have w0 : w32 (mX u) := by constructor <;> omega
  have w1 : w32 (mX v) := by constructor <;> omega
  have w2 : w32 (mY u) := by constructor <;> omega
  have w3 : w32 (mY v) := by constructor <;> omega
  clear a0 a1 a2 b0 b1 b2
  simp only [eLoc, eE, List.length_cons, List.length_nil, List.replicate, List.cons_append, List.nil_append, Nat.reduceAdd, Nat.reduceSub]
  refine x_iload_n hK kX10_divides_0 (q := 1) rfl rfl ?_
  refine x_cs1 hK kX10_divides_1 (q := 4) rfl (stX10_divides_142) (Nat.le_of_ble_eq_true rfl) ?_
  refine SX10_xOf_i (by omega) ?_
  refine x_iload_n hK kX10_divides_4 (q := 5) rfl rfl ?_
  refine x_cs1 hK kX10_divides_5 (q := 8) rfl (stX10_divides_142) (Nat.le_of_ble_eq_true rfl) ?_
  refine SX10_xOf_i (by omega) ?_
  refine x_icmp_gt hK kX10_divides_8 (q := 11) rfl (tg := 26) rfl (by exact ⟨w0, w1⟩) (fun c8 => ?_) (fun c8 => ?_)
  · refine x_iconst hK kX10_divides_26 (q := 27) rfl ?_
    refine x_ireturn hK kX10_divides_27 (by exact Or.inl rfl) ?_
    exact h 0 (Or.inl rfl) ⟨fun g => absurd g (by decide), fun g => absurd g.1 (by omega)⟩
  · refine x_iload_n hK kX10_divides_11 (q := 12) rfl rfl ?_
    refine x_cs1 hK kX10_divides_12 (q := 15) rfl (stX10_divides_145) (Nat.le_of_ble_eq_true rfl) ?_
    refine SX10_yOf_i (by omega) ?_
    refine x_iload_n hK kX10_divides_15 (q := 16) rfl rfl ?_
    refine x_cs1 hK kX10_divides_16 (q := 19) rfl (stX10_divides_145) (Nat.le_of_ble_eq_true rfl) ?_
    refine SX10_yOf_i (by omega) ?_
    refine x_icmp_gt hK kX10_divides_19 (q := 22) rfl (tg := 26) rfl (by exact ⟨w2, w3⟩) (fun c19 => ?_) (fun c19 => ?_)
    · refine x_iconst hK kX10_divides_26 (q := 27) rfl ?_
      refine x_ireturn hK kX10_divides_27 (by exact Or.inl rfl) ?_
      exact h 0 (Or.inl rfl) ⟨fun g => absurd g (by decide), fun g => absurd g.2 (by omega)⟩
    · refine x_iconst hK kX10_divides_22 (q := 23) rfl ?_
      refine x_goto hK kX10_divides_23 (tg := 27) rfl ?_
      refine x_ireturn hK kX10_divides_27 (by first | exact Or.inl rfl | exact Or.inr rfl) ?_
      exact h 1 (Or.inr rfl) ⟨fun _ => ⟨by omega, by omega⟩, fun _ => rfl⟩
set_option maxRecDepth 20000 in
theorem mX10_divides : eMet yX10_divides cX10_divides 2 (some .boolean) 3 62 SX10_divides := eMet_of (by decide +kernel) sX10_divides kX10_divides_ok caX10_divides tb_RX10
theorem wX10_divides : eWS yX10_divides cX10_divides 2 (some .boolean) 2 := ⟨(gW_at 1196 (by decide +kernel) rfl), (gW_at 89 (by decide +kernel) rfl), (gW_at 1195 (by decide +kernel) rfl), by decide +kernel⟩
def SX10_isTerm : eSp := fun as M rt => ∃ a c : Int, as = [eI a, eI c] ∧ w32 a ∧ w32 c ∧ ∀ b : Int, (b = 0 ∨ b = 1) → (b = 1 ↔ 0 ≤ a ∧ 0 ≤ c ∧ a + c ≤ 2) → rt (some (eI b)) M
theorem SX10_isTerm_i {a c : Int} {M : eM} {rt : Option eV → eM → Prop} (h0 : w32 a) (h1 : w32 c) (h : ∀ b : Int, (b = 0 ∨ b = 1) → (b = 1 ↔ 0 ≤ a ∧ 0 ≤ c ∧ a + c ≤ 2) → rt (some (eI b)) M) : SX10_isTerm [eI a, eI c] M rt := ⟨a, c, rfl, h0, h1, h⟩
def kX10_isTerm : List (Nat × Jvm.ClassFile.Instr × Nat) := [(0, .iload_n 0, 1), (1, .ifCond .lt 23, 3), (4, .iload_n 1, 1), (5, .ifCond .lt 19, 3), (8, .iload_n 0, 1), (9, .i2l, 1), (10, .iload_n 1, 1), (11, .i2l, 1), (12, .ladd, 1), (13, .ldc2_w 265, 3), (16, .lcmp, 1), (17, .ifCond .gt 7, 3), (20, .iconst 1, 1), (21, .goto 4, 3), (24, .iconst 0, 1), (25, .ireturn, 1)]
theorem kX10_isTerm_0 : cdOf kX10_isTerm 0 = some (.iload_n 0, 1) := by decide +kernel
theorem kX10_isTerm_1 : cdOf kX10_isTerm 1 = some (.ifCond .lt 23, 3) := by decide +kernel
theorem kX10_isTerm_4 : cdOf kX10_isTerm 4 = some (.iload_n 1, 1) := by decide +kernel
theorem kX10_isTerm_5 : cdOf kX10_isTerm 5 = some (.ifCond .lt 19, 3) := by decide +kernel
theorem kX10_isTerm_8 : cdOf kX10_isTerm 8 = some (.iload_n 0, 1) := by decide +kernel
theorem kX10_isTerm_9 : cdOf kX10_isTerm 9 = some (.i2l, 1) := by decide +kernel
theorem kX10_isTerm_10 : cdOf kX10_isTerm 10 = some (.iload_n 1, 1) := by decide +kernel
theorem kX10_isTerm_11 : cdOf kX10_isTerm 11 = some (.i2l, 1) := by decide +kernel
theorem kX10_isTerm_12 : cdOf kX10_isTerm 12 = some (.ladd, 1) := by decide +kernel
theorem kX10_isTerm_13 : cdOf kX10_isTerm 13 = some (.ldc2_w 265, 3) := by decide +kernel
theorem kX10_isTerm_16 : cdOf kX10_isTerm 16 = some (.lcmp, 1) := by decide +kernel
theorem kX10_isTerm_17 : cdOf kX10_isTerm 17 = some (.ifCond .gt 7, 3) := by decide +kernel
theorem kX10_isTerm_20 : cdOf kX10_isTerm 20 = some (.iconst 1, 1) := by decide +kernel
theorem kX10_isTerm_21 : cdOf kX10_isTerm 21 = some (.goto 4, 3) := by decide +kernel
theorem kX10_isTerm_24 : cdOf kX10_isTerm 24 = some (.iconst 0, 1) := by decide +kernel
theorem kX10_isTerm_25 : cdOf kX10_isTerm 25 = some (.ireturn, 1) := by decide +kernel
set_option maxRecDepth 20000 in
theorem kX10_isTerm_ok : ∀ pc i len, cdOf kX10_isTerm pc = some (i, len) → decode cX10_isTerm pc = .ok (i, len) ∧ stOK 2 i = true ∧ jOK pc i = true ∧ eLen i len = true := cdOf_ok cX10_isTerm 2 kX10_isTerm (by decide +kernel)
def vtX10_isTerm : Nat → Option (Nat × eSp) := fun _ => none
def stX10_isTerm : Nat → Option (Nat × eSp) := fun _ => none
abbrev TX10_isTerm : eT := (fl_RX10, cl_RX10, dl_RX10, vtX10_isTerm, stX10_isTerm)
set_option maxRecDepth 20000 in
theorem caX10_isTerm : eCalls RX10 { frames := 0, cells := 0, slots := 0, locals := 0 } TX10_isTerm := by
  refine ⟨fun k n sp h => ?_, fun k n sp h => ?_⟩
  · cases h
  · cases h
set_option maxRecDepth 100000 in
set_option maxHeartbeats 4000000 in
theorem sX10_isTerm : eSafe TX10_isTerm (cdOf kX10_isTerm) 2 (some .boolean) SX10_isTerm := by
  intro K rt hK as M h
  obtain ⟨a, c, rfl, h0, h1, h⟩ := h
  refine ⟨by simp [eE], ?_⟩
  obtain ⟨a0, a1⟩ := h0
  obtain ⟨c0, c1⟩ := h1
  simp only [eLoc, eE, List.length_cons, List.length_nil, List.replicate, List.cons_append, List.nil_append, Nat.reduceAdd, Nat.reduceSub]
  refine x_iload_n hK kX10_isTerm_0 (q := 1) rfl rfl ?_
  refine x_if_lt hK kX10_isTerm_1 (q := 4) rfl (tg := 24) rfl (by omega) (fun c1 => ?_) (fun c1 => ?_)
  · refine x_iconst hK kX10_isTerm_24 (q := 25) rfl ?_
    refine x_ireturn hK kX10_isTerm_25 (by exact Or.inl rfl) ?_
    exact h 0 (Or.inl rfl) ⟨fun g => absurd g (by decide), fun g => absurd g.1 (by omega)⟩
  · refine x_iload_n hK kX10_isTerm_4 (q := 5) rfl rfl ?_
    refine x_if_lt hK kX10_isTerm_5 (q := 8) rfl (tg := 24) rfl (by omega) (fun c5 => ?_) (fun c5 => ?_)
    · refine x_iconst hK kX10_isTerm_24 (q := 25) rfl ?_
      refine x_ireturn hK kX10_isTerm_25 (by exact Or.inl rfl) ?_
      exact h 0 (Or.inl rfl) ⟨fun g => absurd g (by decide), fun g => absurd g.2.1 (by omega)⟩
    · refine x_iload_n hK kX10_isTerm_8 (q := 9) rfl rfl ?_
      refine x_i2l hK kX10_isTerm_9 (q := 10) rfl (by omega) ?_
      refine x_iload_n hK kX10_isTerm_10 (q := 11) rfl rfl ?_
      refine x_i2l hK kX10_isTerm_11 (q := 12) rfl (by omega) ?_
      refine x_ladd hK kX10_isTerm_12 (q := 13) rfl ?_
      refine x_ldc2_w hK kX10_isTerm_13 (q := 16) rfl lc2_RX10_265 ?_
      refine x_lcmp hK kX10_isTerm_16 (q := 17) rfl (by refine ⟨?_, ?_⟩ <;> omega) ?_
      refine x_ifc_gt hK kX10_isTerm_17 (q := 20) rfl (tg := 24) rfl (fun c17 => ?_) (fun c17 => ?_)
      · have c18 : ¬ (a + c ≤ 2) := by omega
        refine x_iconst hK kX10_isTerm_24 (q := 25) rfl ?_
        refine x_ireturn hK kX10_isTerm_25 (by exact Or.inl rfl) ?_
        exact h 0 (Or.inl rfl) ⟨fun g => absurd g (by decide), fun g => absurd g.2.2 c18⟩
      · have c18 : a + c ≤ 2 := by omega
        refine x_iconst hK kX10_isTerm_20 (q := 21) rfl ?_
        refine x_goto hK kX10_isTerm_21 (tg := 25) rfl ?_
        refine x_ireturn hK kX10_isTerm_25 (by first | exact Or.inl rfl | exact Or.inr rfl) ?_
        exact h 1 (Or.inr rfl) ⟨fun _ => ⟨by omega, by omega, c18⟩, fun _ => rfl⟩
set_option maxRecDepth 20000 in
theorem mX10_isTerm : eMet yX10_isTerm cX10_isTerm 2 (some .boolean) 0 0 SX10_isTerm := eMet_of (by decide +kernel) sX10_isTerm kX10_isTerm_ok caX10_isTerm tb_RX10
theorem wX10_isTerm : eWS yX10_isTerm cX10_isTerm 2 (some .boolean) 2 := ⟨(gW_at 1263 (by decide +kernel) rfl), (gW_at 89 (by decide +kernel) rfl), (gW_at 1262 (by decide +kernel) rfl), by decide +kernel⟩
def SX10_told : eSp := fun as M rt => ∃ u : Int, as = [eI u] ∧ (0 ≤ u ∧ u < 45) ∧ rt (some (eI (16 * mX u + mY u))) M
theorem SX10_told_i {u : Int} {M : eM} {rt : Option eV → eM → Prop} (h0 : 0 ≤ u ∧ u < 45) (h : rt (some (eI (16 * mX u + mY u))) M) : SX10_told [eI u] M rt := ⟨u, rfl, h0, h⟩
def kX10_told : List (Nat × Jvm.ClassFile.Instr × Nat) := [(0, .bipush 16, 2), (2, .iload_n 0, 1), (3, .invokestatic 142, 3), (6, .imul, 1), (7, .iload_n 0, 1), (8, .invokestatic 145, 3), (11, .iadd, 1), (12, .ireturn, 1)]
theorem kX10_told_0 : cdOf kX10_told 0 = some (.bipush 16, 2) := by decide +kernel
theorem kX10_told_2 : cdOf kX10_told 2 = some (.iload_n 0, 1) := by decide +kernel
theorem kX10_told_3 : cdOf kX10_told 3 = some (.invokestatic 142, 3) := by decide +kernel
theorem kX10_told_6 : cdOf kX10_told 6 = some (.imul, 1) := by decide +kernel
theorem kX10_told_7 : cdOf kX10_told 7 = some (.iload_n 0, 1) := by decide +kernel
theorem kX10_told_8 : cdOf kX10_told 8 = some (.invokestatic 145, 3) := by decide +kernel
theorem kX10_told_11 : cdOf kX10_told 11 = some (.iadd, 1) := by decide +kernel
theorem kX10_told_12 : cdOf kX10_told 12 = some (.ireturn, 1) := by decide +kernel
set_option maxRecDepth 20000 in
theorem kX10_told_ok : ∀ pc i len, cdOf kX10_told pc = some (i, len) → decode cX10_told pc = .ok (i, len) ∧ stOK 1 i = true ∧ jOK pc i = true ∧ eLen i len = true := cdOf_ok cX10_told 1 kX10_told (by decide +kernel)
def vtX10_told : Nat → Option (Nat × eSp) := fun _ => none
def stX10_told : Nat → Option (Nat × eSp) := fun k => match k with
  | 142 => some (1, SX10_xOf)
  | 145 => some (1, SX10_yOf)
  | _ => none
theorem stX10_told_142 : stX10_told 142 = some (1, SX10_xOf) := rfl
theorem stX10_told_145 : stX10_told 145 = some (1, SX10_yOf) := rfl
abbrev TX10_told : eT := (fl_RX10, cl_RX10, dl_RX10, vtX10_told, stX10_told)
set_option maxRecDepth 20000 in
theorem caX10_told : eCalls RX10 { frames := 3, cells := 0, slots := 0, locals := 62 } TX10_told := by
  refine ⟨fun k n sp h => ?_, fun k n sp h => ?_⟩
  · cases h
  · dsimp only [TX10_told] at h
    unfold stX10_told at h
    split at h
    · cases h; exact eS_mk mX10_xOf wX10_xOf (by decide +kernel) (Or.inl (gW_at 1181 (by decide +kernel) rfl))
    · cases h; exact eS_mk mX10_yOf wX10_yOf (by decide +kernel) (Or.inl (gW_at 1184 (by decide +kernel) rfl))
    · cases h
set_option maxRecDepth 100000 in
set_option maxHeartbeats 4000000 in
theorem sX10_told : eSafe TX10_told (cdOf kX10_told) 1 (some .int) SX10_told := by
  intro K rt hK as M h
  obtain ⟨u, rfl, h0, h⟩ := h
  refine ⟨by simp [eE], ?_⟩
  simp only [eLoc, eE, List.length_cons, List.length_nil, List.replicate, List.cons_append, List.nil_append, Nat.reduceAdd, Nat.reduceSub]
  refine x_bipush hK kX10_told_0 (q := 2) rfl (by decide) ?_
  refine x_iload_n hK kX10_told_2 (q := 3) rfl rfl ?_
  refine x_cs1 hK kX10_told_3 (q := 6) rfl (stX10_told_142) (Nat.le_of_ble_eq_true rfl) ?_
  refine SX10_xOf_i (by omega) ?_
  refine x_imul hK kX10_told_6 (q := 7) rfl ?_
  refine x_iload_n hK kX10_told_7 (q := 8) rfl rfl ?_
  refine x_cs1 hK kX10_told_8 (q := 11) rfl (stX10_told_145) (Nat.le_of_ble_eq_true rfl) ?_
  refine SX10_yOf_i (by omega) ?_
  refine x_iadd hK kX10_told_11 (q := 12) rfl ?_
  refine x_ireturn hK kX10_told_12 (by first | trivial | exact Or.inl rfl | exact Or.inr rfl) ?_
  exact h
set_option maxRecDepth 20000 in
theorem mX10_told : eMet yX10_told cX10_told 1 (some .int) 3 62 SX10_told := eMet_of (by decide +kernel) sX10_told kX10_told_ok caX10_told tb_RX10
theorem wX10_told : eWS yX10_told cX10_told 1 (some .int) 1 := ⟨(gW_at 1293 (by decide +kernel) rfl), (gW_at 89 (by decide +kernel) rfl), (gW_at 1292 (by decide +kernel) rfl), by decide +kernel⟩
