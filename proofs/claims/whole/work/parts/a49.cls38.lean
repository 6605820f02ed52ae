/-! The face: clear, start, count, at, isFinite, complex, standard, rank, elements. -/
def SX9_clear : eSp := fun as M rt => ∃ (F : Nat → Int) (A W : Nat → Int → Int), as = [eR (0, 0)] ∧ M = cC F A W ∧ (∀ f : Int → Int, (∀ i : Int, 0 ≤ i → i < 30 → f i = 0) → rt none (cC (uF F 2 0) (uA A 0 f) W))
theorem SX9_clear_i {F : Nat → Int} {A W : Nat → Int → Int} {rt : Option eV → eM → Prop} (h : ∀ f : Int → Int, (∀ i : Int, 0 ≤ i → i < 30 → f i = 0) → rt none (cC (uF F 2 0) (uA A 0 f) W)) : SX9_clear [eR (0, 0)] (cC F A W) rt := ⟨F, A, W, rfl, rfl, h⟩
theorem SX9_clear_r : ∀ as M rt, SX9_clear as M rt → ∃ a r fs, as = eR a :: r ∧ M a = some (.inl (8, fs)) := by
  rintro as M rt ⟨F, A, W, rfl, rfl, -⟩
  exact ⟨_, _, _, rfl, rfl⟩
def kX9_clear : List (Nat × Jvm.ClassFile.Instr × Nat) := [(0, .aload_n 0, 1), (1, .getfield 15, 3), (4, .invokevirtual 51, 3), (7, .return_, 1)]
theorem kX9_clear_0 : cdOf kX9_clear 0 = some (.aload_n 0, 1) := by decide +kernel
theorem kX9_clear_1 : cdOf kX9_clear 1 = some (.getfield 15, 3) := by decide +kernel
theorem kX9_clear_4 : cdOf kX9_clear 4 = some (.invokevirtual 51, 3) := by decide +kernel
theorem kX9_clear_7 : cdOf kX9_clear 7 = some (.return_, 1) := by decide +kernel
set_option maxRecDepth 20000 in
theorem kX9_clear_ok : ∀ pc i len, cdOf kX9_clear pc = some (i, len) → decode cX9_clear pc = .ok (i, len) ∧ stOK 1 i = true ∧ jOK pc i = true ∧ eLen i len = true := cdOf_ok cX9_clear 1 kX9_clear (by decide +kernel)
def vtX9_clear : Nat → Option (Nat × eSp) := fun k => match k with
  | 51 => some (1, SX6_empty)
  | _ => none
theorem vtX9_clear_51 : vtX9_clear 51 = some (1, SX6_empty) := rfl
def stX9_clear : Nat → Option (Nat × eSp) := fun _ => none
abbrev TX9_clear : eT := (fl_RX9, cl_RX9, dl_RX9, vtX9_clear, stX9_clear)
set_option maxRecDepth 20000 in
theorem caX9_clear : eCalls RX9 { frames := 4, cells := 0, slots := 0, locals := 88 } TX9_clear := by
  refine ⟨fun k n sp h => ?_, fun k n sp h => ?_⟩
  · dsimp only [TX9_clear] at h
    unfold vtX9_clear at h
    split at h
    · cases h; exact eV_mk mX6_empty wX6_empty (by decide +kernel) (Or.inl (gW_at 368 (by decide +kernel) rfl))
    · cases h
  · cases h
set_option maxRecDepth 100000 in
set_option maxHeartbeats 4000000 in
theorem sX9_clear : eSafe TX9_clear (cdOf kX9_clear) 1 none SX9_clear := by
  intro K rt hK as M h
  obtain ⟨F, A, W, rfl, rfl, h⟩ := h
  refine ⟨by simp [eE], ?_⟩
  simp only [eLoc, eE, List.length_cons, List.length_nil, List.replicate, List.cons_append, List.nil_append, Nat.reduceAdd, Nat.reduceSub]
  refine x_aload_n hK kX9_clear_0 (q := 1) rfl rfl ?_
  refine x_getfield hK kX9_clear_1 (q := 4) rfl (gX9_15 ?_)
  refine x_cv1 hK kX9_clear_4 (q := 7) rfl (vtX9_clear_51) (Nat.le_of_ble_eq_true rfl) ?_
  refine SX6_empty_i (p := 0) (by decide) (fun f hf => ?_)
  refine x_return_ hK kX9_clear_7 (by first | trivial | exact Or.inl rfl | exact Or.inr rfl) ?_
  exact h f hf
set_option maxRecDepth 20000 in
theorem mX9_clear : eMet yX9_clear cX9_clear 1 none 4 88 SX9_clear := eMet_of (by decide +kernel) sX9_clear kX9_clear_ok caX9_clear tb_RX9
theorem wX9_clear : eWV yX9_clear cX9_clear 1 none 1 8 SX9_clear := ⟨(gW_at 367 (by decide +kernel) rfl), (gW_at 79 (by decide +kernel) rfl), (gW_at 365 (by decide +kernel) rfl), ⟨_, rfl, (gW_at 366 (by decide +kernel) rfl)⟩, by decide +kernel, SX9_clear_r⟩
def SX9_start : eSp := fun as M rt => ∃ (F : Nat → Int) (A W : Nat → Int → Int), as = [eR (0, 0)] ∧ M = cC F A W ∧ (0 ≤ F 2 ∧ F 2 ≤ 4) ∧ ((4 ≤ F 2 → rt (some (eI (-1))) (cC F A W)) ∧ (F 2 < 4 → rt (some (eI (F 2))) (cC (uF F 2 (F 2 + 1)) A W)))
theorem SX9_start_i {F : Nat → Int} {A W : Nat → Int → Int} {rt : Option eV → eM → Prop} (hF : 0 ≤ F 2 ∧ F 2 ≤ 4) (h : (4 ≤ F 2 → rt (some (eI (-1))) (cC F A W)) ∧ (F 2 < 4 → rt (some (eI (F 2))) (cC (uF F 2 (F 2 + 1)) A W))) : SX9_start [eR (0, 0)] (cC F A W) rt := ⟨F, A, W, rfl, rfl, hF, h⟩
theorem SX9_start_r : ∀ as M rt, SX9_start as M rt → ∃ a r fs, as = eR a :: r ∧ M a = some (.inl (8, fs)) := by
  rintro as M rt ⟨F, A, W, rfl, rfl, -⟩
  exact ⟨_, _, _, rfl, rfl⟩
def kX9_start : List (Nat × Jvm.ClassFile.Instr × Nat) := [(0, .aload_n 0, 1), (1, .getfield 15, 3), (4, .invokevirtual 54, 3), (7, .ireturn, 1)]
theorem kX9_start_0 : cdOf kX9_start 0 = some (.aload_n 0, 1) := by decide +kernel
theorem kX9_start_1 : cdOf kX9_start 1 = some (.getfield 15, 3) := by decide +kernel
theorem kX9_start_4 : cdOf kX9_start 4 = some (.invokevirtual 54, 3) := by decide +kernel
theorem kX9_start_7 : cdOf kX9_start 7 = some (.ireturn, 1) := by decide +kernel
set_option maxRecDepth 20000 in
theorem kX9_start_ok : ∀ pc i len, cdOf kX9_start pc = some (i, len) → decode cX9_start pc = .ok (i, len) ∧ stOK 1 i = true ∧ jOK pc i = true ∧ eLen i len = true := cdOf_ok cX9_start 1 kX9_start (by decide +kernel)
def vtX9_start : Nat → Option (Nat × eSp) := fun k => match k with
  | 54 => some (1, SX6_open)
  | _ => none
theorem vtX9_start_54 : vtX9_start 54 = some (1, SX6_open) := rfl
def stX9_start : Nat → Option (Nat × eSp) := fun _ => none
abbrev TX9_start : eT := (fl_RX9, cl_RX9, dl_RX9, vtX9_start, stX9_start)
set_option maxRecDepth 20000 in
theorem caX9_start : eCalls RX9 { frames := 1, cells := 0, slots := 0, locals := 20 } TX9_start := by
  refine ⟨fun k n sp h => ?_, fun k n sp h => ?_⟩
  · dsimp only [TX9_start] at h
    unfold vtX9_start at h
    split at h
    · cases h; exact eV_mk mX6_open wX6_open (by decide +kernel) (Or.inl (gW_at 388 (by decide +kernel) rfl))
    · cases h
  · cases h
set_option maxRecDepth 100000 in
set_option maxHeartbeats 4000000 in
theorem sX9_start : eSafe TX9_start (cdOf kX9_start) 1 (some .int) SX9_start := by
  intro K rt hK as M h
  obtain ⟨F, A, W, rfl, rfl, hF, h⟩ := h
  refine ⟨by simp [eE], ?_⟩
  simp only [eLoc, eE, List.length_cons, List.length_nil, List.replicate, List.cons_append, List.nil_append, Nat.reduceAdd, Nat.reduceSub]
  refine x_aload_n hK kX9_start_0 (q := 1) rfl rfl ?_
  refine x_getfield hK kX9_start_1 (q := 4) rfl (gX9_15 ?_)
  refine x_cv1 hK kX9_start_4 (q := 7) rfl (vtX9_start_54) (Nat.le_of_ble_eq_true rfl) ?_
  refine SX6_open_i (p := 0) (by decide) hF ⟨fun q => ?_, fun q => ?_⟩
  · refine x_ireturn hK kX9_start_7 (by trivial) ?_
    exact h.1 q
  refine x_ireturn hK kX9_start_7 (by first | trivial | exact Or.inl rfl | exact Or.inr rfl) ?_
  exact h.2 q
set_option maxRecDepth 20000 in
theorem mX9_start : eMet yX9_start cX9_start 1 (some .int) 1 20 SX9_start := eMet_of (by decide +kernel) sX9_start kX9_start_ok caX9_start tb_RX9
theorem wX9_start : eWV yX9_start cX9_start 1 (some .int) 1 8 SX9_start := ⟨(gW_at 387 (by decide +kernel) rfl), (gW_at 79 (by decide +kernel) rfl), (gW_at 385 (by decide +kernel) rfl), ⟨_, rfl, (gW_at 386 (by decide +kernel) rfl)⟩, by decide +kernel, SX9_start_r⟩
def SX9_isFinite : eSp := fun as M rt => ∃ (F : Nat → Int) (A W : Nat → Int → Int), as = [eR (0, 0)] ∧ M = cC F A W ∧ (w32 (F 1)) ∧ (rt (some (eI (zE (F 1 = 0 ∨ F 1 = 1)))) (cC F A W))
theorem SX9_isFinite_i {F : Nat → Int} {A W : Nat → Int → Int} {rt : Option eV → eM → Prop} (hF : w32 (F 1)) (h : rt (some (eI (zE (F 1 = 0 ∨ F 1 = 1)))) (cC F A W)) : SX9_isFinite [eR (0, 0)] (cC F A W) rt := ⟨F, A, W, rfl, rfl, hF, h⟩
theorem SX9_isFinite_r : ∀ as M rt, SX9_isFinite as M rt → ∃ a r fs, as = eR a :: r ∧ M a = some (.inl (8, fs)) := by
  rintro as M rt ⟨F, A, W, rfl, rfl, -⟩
  exact ⟨_, _, _, rfl, rfl⟩
def kX9_isFinite : List (Nat × Jvm.ClassFile.Instr × Nat) := [(0, .aload_n 0, 1), (1, .getfield 48, 3), (4, .ifCond .eq 11, 3), (7, .aload_n 0, 1), (8, .getfield 48, 3), (11, .iconst 1, 1), (12, .if_icmp .ne 7, 3), (15, .iconst 1, 1), (16, .goto 4, 3), (19, .iconst 0, 1), (20, .ireturn, 1)]
theorem kX9_isFinite_0 : cdOf kX9_isFinite 0 = some (.aload_n 0, 1) := by decide +kernel
theorem kX9_isFinite_1 : cdOf kX9_isFinite 1 = some (.getfield 48, 3) := by decide +kernel
theorem kX9_isFinite_4 : cdOf kX9_isFinite 4 = some (.ifCond .eq 11, 3) := by decide +kernel
theorem kX9_isFinite_7 : cdOf kX9_isFinite 7 = some (.aload_n 0, 1) := by decide +kernel
theorem kX9_isFinite_8 : cdOf kX9_isFinite 8 = some (.getfield 48, 3) := by decide +kernel
theorem kX9_isFinite_11 : cdOf kX9_isFinite 11 = some (.iconst 1, 1) := by decide +kernel
theorem kX9_isFinite_12 : cdOf kX9_isFinite 12 = some (.if_icmp .ne 7, 3) := by decide +kernel
theorem kX9_isFinite_15 : cdOf kX9_isFinite 15 = some (.iconst 1, 1) := by decide +kernel
theorem kX9_isFinite_16 : cdOf kX9_isFinite 16 = some (.goto 4, 3) := by decide +kernel
theorem kX9_isFinite_19 : cdOf kX9_isFinite 19 = some (.iconst 0, 1) := by decide +kernel
theorem kX9_isFinite_20 : cdOf kX9_isFinite 20 = some (.ireturn, 1) := by decide +kernel
set_option maxRecDepth 20000 in
theorem kX9_isFinite_ok : ∀ pc i len, cdOf kX9_isFinite pc = some (i, len) → decode cX9_isFinite pc = .ok (i, len) ∧ stOK 1 i = true ∧ jOK pc i = true ∧ eLen i len = true := cdOf_ok cX9_isFinite 1 kX9_isFinite (by decide +kernel)
def vtX9_isFinite : Nat → Option (Nat × eSp) := fun _ => none
def stX9_isFinite : Nat → Option (Nat × eSp) := fun _ => none
abbrev TX9_isFinite : eT := (fl_RX9, cl_RX9, dl_RX9, vtX9_isFinite, stX9_isFinite)
set_option maxRecDepth 20000 in
theorem caX9_isFinite : eCalls RX9 { frames := 0, cells := 0, slots := 0, locals := 0 } TX9_isFinite := by
  refine ⟨fun k n sp h => ?_, fun k n sp h => ?_⟩
  · cases h
  · cases h
set_option maxRecDepth 100000 in
set_option maxHeartbeats 4000000 in
theorem sX9_isFinite : eSafe TX9_isFinite (cdOf kX9_isFinite) 1 (some .boolean) SX9_isFinite := by
  intro K rt hK as M h
  obtain ⟨F, A, W, rfl, rfl, hF, h⟩ := h
  refine ⟨by simp [eE], ?_⟩
  unfold zE at h
  simp only [eLoc, eE, List.length_cons, List.length_nil, List.replicate, List.cons_append, List.nil_append, Nat.reduceAdd, Nat.reduceSub]
  refine x_aload_n hK kX9_isFinite_0 (q := 1) rfl rfl ?_
  refine x_getfield hK kX9_isFinite_1 (q := 4) rfl (gX9_48 ?_)
  refine x_if_eq hK kX9_isFinite_4 (q := 7) rfl (tg := 15) rfl (by exact hF) (fun c4 => ?_) (fun c4 => ?_)
  · refine x_iconst hK kX9_isFinite_15 (q := 16) rfl ?_
    refine x_goto hK kX9_isFinite_16 (tg := 20) rfl ?_
    refine x_ireturn hK kX9_isFinite_20 (by first | exact Or.inl rfl | exact Or.inr rfl) ?_
    first | (rw [if_pos (by omega)] at h; exact h) | (rw [if_neg (by omega)] at h; exact h)
  · refine x_aload_n hK kX9_isFinite_7 (q := 8) rfl rfl ?_
    refine x_getfield hK kX9_isFinite_8 (q := 11) rfl (gX9_48 ?_)
    refine x_iconst hK kX9_isFinite_11 (q := 12) rfl ?_
    refine x_icmp_ne hK kX9_isFinite_12 (q := 15) rfl (tg := 19) rfl (by exact ⟨hF, by decide⟩) (fun c12 => ?_) (fun c12 => ?_)
    · refine x_iconst hK kX9_isFinite_19 (q := 20) rfl ?_
      refine x_ireturn hK kX9_isFinite_20 (by first | exact Or.inl rfl | exact Or.inr rfl) ?_
      first | (rw [if_pos (by omega)] at h; exact h) | (rw [if_neg (by omega)] at h; exact h)
    · refine x_iconst hK kX9_isFinite_15 (q := 16) rfl ?_
      refine x_goto hK kX9_isFinite_16 (tg := 20) rfl ?_
      refine x_ireturn hK kX9_isFinite_20 (by first | exact Or.inl rfl | exact Or.inr rfl) ?_
      first | (rw [if_pos (by omega)] at h; exact h) | (rw [if_neg (by omega)] at h; exact h)
set_option maxRecDepth 20000 in
theorem mX9_isFinite : eMet yX9_isFinite cX9_isFinite 1 (some .boolean) 0 0 SX9_isFinite := eMet_of (by decide +kernel) sX9_isFinite kX9_isFinite_ok caX9_isFinite tb_RX9
theorem wX9_isFinite : eWV yX9_isFinite cX9_isFinite 1 (some .boolean) 1 8 SX9_isFinite := ⟨(gW_at 723 (by decide +kernel) rfl), (gW_at 79 (by decide +kernel) rfl), (gW_at 722 (by decide +kernel) rfl), ⟨_, rfl, (gW_at 31 (by decide +kernel) rfl)⟩, by decide +kernel, SX9_isFinite_r⟩
def SX9_complex : eSp := fun as M rt => ∃ (F : Nat → Int) (A W : Nat → Int → Int), as = [eR (0, 0)] ∧ M = cC F A W ∧ (w32 (F 1)) ∧ (rt (some (eI (if F 1 = 0 ∨ F 1 = 1 then p3I (A 5) (-1) 0 else -1))) (cC F A W))
theorem SX9_complex_i {F : Nat → Int} {A W : Nat → Int → Int} {rt : Option eV → eM → Prop} (hF : w32 (F 1)) (h : rt (some (eI (if F 1 = 0 ∨ F 1 = 1 then p3I (A 5) (-1) 0 else -1))) (cC F A W)) : SX9_complex [eR (0, 0)] (cC F A W) rt := ⟨F, A, W, rfl, rfl, hF, h⟩
theorem SX9_complex_r : ∀ as M rt, SX9_complex as M rt → ∃ a r fs, as = eR a :: r ∧ M a = some (.inl (8, fs)) := by
  rintro as M rt ⟨F, A, W, rfl, rfl, -⟩
  exact ⟨_, _, _, rfl, rfl⟩
def kX9_complex : List (Nat × Jvm.ClassFile.Instr × Nat) := [(0, .aload_n 0, 1), (1, .invokevirtual 111, 3), (4, .ifCond .eq 14, 3), (7, .aload_n 0, 1), (8, .getfield 40, 3), (11, .iconst 0, 1), (12, .invokevirtual 112, 3), (15, .goto 4, 3), (18, .iconst (-1), 1), (19, .ireturn, 1)]
theorem kX9_complex_0 : cdOf kX9_complex 0 = some (.aload_n 0, 1) := by decide +kernel
theorem kX9_complex_1 : cdOf kX9_complex 1 = some (.invokevirtual 111, 3) := by decide +kernel
theorem kX9_complex_4 : cdOf kX9_complex 4 = some (.ifCond .eq 14, 3) := by decide +kernel
theorem kX9_complex_7 : cdOf kX9_complex 7 = some (.aload_n 0, 1) := by decide +kernel
theorem kX9_complex_8 : cdOf kX9_complex 8 = some (.getfield 40, 3) := by decide +kernel
theorem kX9_complex_11 : cdOf kX9_complex 11 = some (.iconst 0, 1) := by decide +kernel
theorem kX9_complex_12 : cdOf kX9_complex 12 = some (.invokevirtual 112, 3) := by decide +kernel
theorem kX9_complex_15 : cdOf kX9_complex 15 = some (.goto 4, 3) := by decide +kernel
theorem kX9_complex_18 : cdOf kX9_complex 18 = some (.iconst (-1), 1) := by decide +kernel
theorem kX9_complex_19 : cdOf kX9_complex 19 = some (.ireturn, 1) := by decide +kernel
set_option maxRecDepth 20000 in
theorem kX9_complex_ok : ∀ pc i len, cdOf kX9_complex pc = some (i, len) → decode cX9_complex pc = .ok (i, len) ∧ stOK 1 i = true ∧ jOK pc i = true ∧ eLen i len = true := cdOf_ok cX9_complex 1 kX9_complex (by decide +kernel)
def vtX9_complex : Nat → Option (Nat × eSp) := fun k => match k with
  | 111 => some (1, SX9_isFinite)
  | 112 => some (2, SX0_breadth)
  | _ => none
theorem vtX9_complex_111 : vtX9_complex 111 = some (1, SX9_isFinite) := rfl
theorem vtX9_complex_112 : vtX9_complex 112 = some (2, SX0_breadth) := rfl
def stX9_complex : Nat → Option (Nat × eSp) := fun _ => none
abbrev TX9_complex : eT := (fl_RX9, cl_RX9, dl_RX9, vtX9_complex, stX9_complex)
set_option maxRecDepth 20000 in
theorem caX9_complex : eCalls RX9 { frames := 1, cells := 0, slots := 0, locals := 21 } TX9_complex := by
  refine ⟨fun k n sp h => ?_, fun k n sp h => ?_⟩
  · dsimp only [TX9_complex] at h
    unfold vtX9_complex at h
    split at h
    · cases h; exact eV_mk mX9_isFinite wX9_isFinite (by decide +kernel) (Or.inl (gW_at 720 (by decide +kernel) rfl))
    · cases h; exact eV_mk mX0_breadth wX0_breadth (by decide +kernel) (Or.inl (gW_at 724 (by decide +kernel) rfl))
    · cases h
  · cases h
set_option maxRecDepth 100000 in
set_option maxHeartbeats 4000000 in
theorem sX9_complex : eSafe TX9_complex (cdOf kX9_complex) 1 (some .int) SX9_complex := by
  intro K rt hK as M h
  obtain ⟨F, A, W, rfl, rfl, hF, h⟩ := h
  refine ⟨by simp [eE], ?_⟩
  simp only [eLoc, eE, List.length_cons, List.length_nil, List.replicate, List.cons_append, List.nil_append, Nat.reduceAdd, Nat.reduceSub]
  refine x_aload_n hK kX9_complex_0 (q := 1) rfl rfl ?_
  refine x_cv1 hK kX9_complex_1 (q := 4) rfl (vtX9_complex_111) (Nat.le_of_ble_eq_true rfl) ?_
  refine SX9_isFinite_i hF ?_
  refine x_if_eq hK kX9_complex_4 (q := 7) rfl (tg := 18) rfl (by unfold zE; split <;> decide) (fun c4 => ?_) (fun c4 => ?_)
  · rw [if_neg (fun q => by unfold zE at c4; rw [if_pos q] at c4; omega)] at h
    refine x_iconst hK kX9_complex_18 (q := 19) rfl ?_
    refine x_ireturn hK kX9_complex_19 (by first | trivial | exact Or.inl rfl | exact Or.inr rfl) ?_
    exact h
  · rw [if_pos (Decidable.of_not_not (fun q => c4 (by unfold zE; rw [if_neg q])))] at h
    refine x_aload_n hK kX9_complex_7 (q := 8) rfl rfl ?_
    refine x_getfield hK kX9_complex_8 (q := 11) rfl (gX9_40 ?_)
    refine x_iconst hK kX9_complex_11 (q := 12) rfl ?_
    refine x_cv2 hK kX9_complex_12 (q := 15) rfl (vtX9_complex_112) (Nat.le_of_ble_eq_true rfl) ?_
    refine SX0_breadth_i (by decide) ?_
    refine x_goto hK kX9_complex_15 (tg := 19) rfl ?_
    refine x_ireturn hK kX9_complex_19 (by first | trivial | exact Or.inl rfl | exact Or.inr rfl) ?_
    exact h
set_option maxRecDepth 20000 in
theorem mX9_complex : eMet yX9_complex cX9_complex 1 (some .int) 1 21 SX9_complex := eMet_of (by decide +kernel) sX9_complex kX9_complex_ok caX9_complex tb_RX9
theorem wX9_complex : eWV yX9_complex cX9_complex 1 (some .int) 1 8 SX9_complex := ⟨(gW_at 719 (by decide +kernel) rfl), (gW_at 79 (by decide +kernel) rfl), (gW_at 717 (by decide +kernel) rfl), ⟨_, rfl, (gW_at 718 (by decide +kernel) rfl)⟩, by decide +kernel, SX9_complex_r⟩
def SX9_rank : eSp := fun as M rt => ∃ (F : Nat → Int) (A W : Nat → Int → Int) (i : Int), as = [eR (0, 0), eI i] ∧ M = cC F A W ∧ (w32 (F 1)) ∧ (w32 i) ∧ (rt (some (eI (if F 1 = 0 ∨ F 1 = 1 then p3I (A 5) (-1) i else -1))) (cC F A W))
theorem SX9_rank_i {F : Nat → Int} {A W : Nat → Int → Int} {i : Int} {rt : Option eV → eM → Prop} (hF : w32 (F 1)) (hi : w32 i) (h : rt (some (eI (if F 1 = 0 ∨ F 1 = 1 then p3I (A 5) (-1) i else -1))) (cC F A W)) : SX9_rank [eR (0, 0), eI i] (cC F A W) rt := ⟨F, A, W, i, rfl, rfl, hF, hi, h⟩
theorem SX9_rank_r : ∀ as M rt, SX9_rank as M rt → ∃ a r fs, as = eR a :: r ∧ M a = some (.inl (8, fs)) := by
  rintro as M rt ⟨F, A, W, i, rfl, rfl, -⟩
  exact ⟨_, _, _, rfl, rfl⟩
def kX9_rank : List (Nat × Jvm.ClassFile.Instr × Nat) := [(0, .aload_n 0, 1), (1, .invokevirtual 111, 3), (4, .ifCond .eq 14, 3), (7, .aload_n 0, 1), (8, .getfield 40, 3), (11, .iload_n 1, 1), (12, .invokevirtual 112, 3), (15, .goto 4, 3), (18, .iconst (-1), 1), (19, .ireturn, 1)]
theorem kX9_rank_0 : cdOf kX9_rank 0 = some (.aload_n 0, 1) := by decide +kernel
theorem kX9_rank_1 : cdOf kX9_rank 1 = some (.invokevirtual 111, 3) := by decide +kernel
theorem kX9_rank_4 : cdOf kX9_rank 4 = some (.ifCond .eq 14, 3) := by decide +kernel
theorem kX9_rank_7 : cdOf kX9_rank 7 = some (.aload_n 0, 1) := by decide +kernel
theorem kX9_rank_8 : cdOf kX9_rank 8 = some (.getfield 40, 3) := by decide +kernel
theorem kX9_rank_11 : cdOf kX9_rank 11 = some (.iload_n 1, 1) := by decide +kernel
theorem kX9_rank_12 : cdOf kX9_rank 12 = some (.invokevirtual 112, 3) := by decide +kernel
theorem kX9_rank_15 : cdOf kX9_rank 15 = some (.goto 4, 3) := by decide +kernel
theorem kX9_rank_18 : cdOf kX9_rank 18 = some (.iconst (-1), 1) := by decide +kernel
theorem kX9_rank_19 : cdOf kX9_rank 19 = some (.ireturn, 1) := by decide +kernel
set_option maxRecDepth 20000 in
theorem kX9_rank_ok : ∀ pc i len, cdOf kX9_rank pc = some (i, len) → decode cX9_rank pc = .ok (i, len) ∧ stOK 2 i = true ∧ jOK pc i = true ∧ eLen i len = true := cdOf_ok cX9_rank 2 kX9_rank (by decide +kernel)
def vtX9_rank : Nat → Option (Nat × eSp) := fun k => match k with
  | 111 => some (1, SX9_isFinite)
  | 112 => some (2, SX0_breadth)
  | _ => none
theorem vtX9_rank_111 : vtX9_rank 111 = some (1, SX9_isFinite) := rfl
theorem vtX9_rank_112 : vtX9_rank 112 = some (2, SX0_breadth) := rfl
def stX9_rank : Nat → Option (Nat × eSp) := fun _ => none
abbrev TX9_rank : eT := (fl_RX9, cl_RX9, dl_RX9, vtX9_rank, stX9_rank)
set_option maxRecDepth 20000 in
theorem caX9_rank : eCalls RX9 { frames := 1, cells := 0, slots := 0, locals := 21 } TX9_rank := by
  refine ⟨fun k n sp h => ?_, fun k n sp h => ?_⟩
  · dsimp only [TX9_rank] at h
    unfold vtX9_rank at h
    split at h
    · cases h; exact eV_mk mX9_isFinite wX9_isFinite (by decide +kernel) (Or.inl (gW_at 720 (by decide +kernel) rfl))
    · cases h; exact eV_mk mX0_breadth wX0_breadth (by decide +kernel) (Or.inl (gW_at 724 (by decide +kernel) rfl))
    · cases h
  · cases h
set_option maxRecDepth 100000 in
set_option maxHeartbeats 4000000 in
theorem sX9_rank : eSafe TX9_rank (cdOf kX9_rank) 2 (some .int) SX9_rank := by
  intro K rt hK as M h
  obtain ⟨F, A, W, i, rfl, rfl, hF, hi, h⟩ := h
  refine ⟨by simp [eE], ?_⟩
  simp only [eLoc, eE, List.length_cons, List.length_nil, List.replicate, List.cons_append, List.nil_append, Nat.reduceAdd, Nat.reduceSub]
  refine x_aload_n hK kX9_rank_0 (q := 1) rfl rfl ?_
  refine x_cv1 hK kX9_rank_1 (q := 4) rfl (vtX9_rank_111) (Nat.le_of_ble_eq_true rfl) ?_
  refine SX9_isFinite_i hF ?_
  refine x_if_eq hK kX9_rank_4 (q := 7) rfl (tg := 18) rfl (by unfold zE; split <;> decide) (fun c4 => ?_) (fun c4 => ?_)
  · rw [if_neg (fun q => by unfold zE at c4; rw [if_pos q] at c4; omega)] at h
    refine x_iconst hK kX9_rank_18 (q := 19) rfl ?_
    refine x_ireturn hK kX9_rank_19 (by first | trivial | exact Or.inl rfl | exact Or.inr rfl) ?_
    exact h
  · rw [if_pos (Decidable.of_not_not (fun q => c4 (by unfold zE; rw [if_neg q])))] at h
    refine x_aload_n hK kX9_rank_7 (q := 8) rfl rfl ?_
    refine x_getfield hK kX9_rank_8 (q := 11) rfl (gX9_40 ?_)
    refine x_iload_n hK kX9_rank_11 (q := 12) rfl rfl ?_
    refine x_cv2 hK kX9_rank_12 (q := 15) rfl (vtX9_rank_112) (Nat.le_of_ble_eq_true rfl) ?_
    refine SX0_breadth_i hi ?_
    refine x_goto hK kX9_rank_15 (tg := 19) rfl ?_
    refine x_ireturn hK kX9_rank_19 (by first | trivial | exact Or.inl rfl | exact Or.inr rfl) ?_
    exact h
set_option maxRecDepth 20000 in
theorem mX9_rank : eMet yX9_rank cX9_rank 2 (some .int) 1 21 SX9_rank := eMet_of (by decide +kernel) sX9_rank kX9_rank_ok caX9_rank tb_RX9
theorem wX9_rank : eWV yX9_rank cX9_rank 2 (some .int) 2 8 SX9_rank := ⟨(gW_at 821 (by decide +kernel) rfl), (gW_at 79 (by decide +kernel) rfl), (gW_at 819 (by decide +kernel) rfl), ⟨_, rfl, (gW_at 820 (by decide +kernel) rfl)⟩, by decide +kernel, SX9_rank_r⟩
def SX9_standard : eSp := fun as M rt => ∃ (F : Nat → Int) (A W : Nat → Int → Int), as = [eR (0, 0)] ∧ M = cC F A W ∧ (w32 (F 1)) ∧ (rt (some (eI (if F 1 = 0 ∨ F 1 = 1 then F 5 else -1))) (cC F A W))
theorem SX9_standard_i {F : Nat → Int} {A W : Nat → Int → Int} {rt : Option eV → eM → Prop} (hF : w32 (F 1)) (h : rt (some (eI (if F 1 = 0 ∨ F 1 = 1 then F 5 else -1))) (cC F A W)) : SX9_standard [eR (0, 0)] (cC F A W) rt := ⟨F, A, W, rfl, rfl, hF, h⟩
theorem SX9_standard_r : ∀ as M rt, SX9_standard as M rt → ∃ a r fs, as = eR a :: r ∧ M a = some (.inl (8, fs)) := by
  rintro as M rt ⟨F, A, W, rfl, rfl, -⟩
  exact ⟨_, _, _, rfl, rfl⟩
def kX9_standard : List (Nat × Jvm.ClassFile.Instr × Nat) := [(0, .aload_n 0, 1), (1, .invokevirtual 111, 3), (4, .ifCond .eq 13, 3), (7, .aload_n 0, 1), (8, .getfield 40, 3), (11, .invokevirtual 138, 3), (14, .goto 4, 3), (17, .iconst (-1), 1), (18, .ireturn, 1)]
theorem kX9_standard_0 : cdOf kX9_standard 0 = some (.aload_n 0, 1) := by decide +kernel
theorem kX9_standard_1 : cdOf kX9_standard 1 = some (.invokevirtual 111, 3) := by decide +kernel
theorem kX9_standard_4 : cdOf kX9_standard 4 = some (.ifCond .eq 13, 3) := by decide +kernel
theorem kX9_standard_7 : cdOf kX9_standard 7 = some (.aload_n 0, 1) := by decide +kernel
theorem kX9_standard_8 : cdOf kX9_standard 8 = some (.getfield 40, 3) := by decide +kernel
theorem kX9_standard_11 : cdOf kX9_standard 11 = some (.invokevirtual 138, 3) := by decide +kernel
theorem kX9_standard_14 : cdOf kX9_standard 14 = some (.goto 4, 3) := by decide +kernel
theorem kX9_standard_17 : cdOf kX9_standard 17 = some (.iconst (-1), 1) := by decide +kernel
theorem kX9_standard_18 : cdOf kX9_standard 18 = some (.ireturn, 1) := by decide +kernel
set_option maxRecDepth 20000 in
theorem kX9_standard_ok : ∀ pc i len, cdOf kX9_standard pc = some (i, len) → decode cX9_standard pc = .ok (i, len) ∧ stOK 1 i = true ∧ jOK pc i = true ∧ eLen i len = true := cdOf_ok cX9_standard 1 kX9_standard (by decide +kernel)
def vtX9_standard : Nat → Option (Nat × eSp) := fun k => match k with
  | 111 => some (1, SX9_isFinite)
  | 138 => some (1, SX0_size)
  | _ => none
theorem vtX9_standard_111 : vtX9_standard 111 = some (1, SX9_isFinite) := rfl
theorem vtX9_standard_138 : vtX9_standard 138 = some (1, SX0_size) := rfl
def stX9_standard : Nat → Option (Nat × eSp) := fun _ => none
abbrev TX9_standard : eT := (fl_RX9, cl_RX9, dl_RX9, vtX9_standard, stX9_standard)
set_option maxRecDepth 20000 in
theorem caX9_standard : eCalls RX9 { frames := 1, cells := 0, slots := 0, locals := 20 } TX9_standard := by
  refine ⟨fun k n sp h => ?_, fun k n sp h => ?_⟩
  · dsimp only [TX9_standard] at h
    unfold vtX9_standard at h
    split at h
    · cases h; exact eV_mk mX9_isFinite wX9_isFinite (by decide +kernel) (Or.inl (gW_at 720 (by decide +kernel) rfl))
    · cases h; exact eV_mk mX0_size wX0_size (by decide +kernel) (Or.inl (gW_at 788 (by decide +kernel) rfl))
    · cases h
  · cases h
set_option maxRecDepth 100000 in
set_option maxHeartbeats 4000000 in
theorem sX9_standard : eSafe TX9_standard (cdOf kX9_standard) 1 (some .int) SX9_standard := by
  intro K rt hK as M h
  obtain ⟨F, A, W, rfl, rfl, hF, h⟩ := h
  refine ⟨by simp [eE], ?_⟩
  simp only [eLoc, eE, List.length_cons, List.length_nil, List.replicate, List.cons_append, List.nil_append, Nat.reduceAdd, Nat.reduceSub]
  refine x_aload_n hK kX9_standard_0 (q := 1) rfl rfl ?_
  refine x_cv1 hK kX9_standard_1 (q := 4) rfl (vtX9_standard_111) (Nat.le_of_ble_eq_true rfl) ?_
  refine SX9_isFinite_i hF ?_
  refine x_if_eq hK kX9_standard_4 (q := 7) rfl (tg := 17) rfl (by unfold zE; split <;> decide) (fun c4 => ?_) (fun c4 => ?_)
  · rw [if_neg (fun q => by unfold zE at c4; rw [if_pos q] at c4; omega)] at h
    refine x_iconst hK kX9_standard_17 (q := 18) rfl ?_
    refine x_ireturn hK kX9_standard_18 (by first | trivial | exact Or.inl rfl | exact Or.inr rfl) ?_
    exact h
  · rw [if_pos (Decidable.of_not_not (fun q => c4 (by unfold zE; rw [if_neg q])))] at h
    refine x_aload_n hK kX9_standard_7 (q := 8) rfl rfl ?_
    refine x_getfield hK kX9_standard_8 (q := 11) rfl (gX9_40 ?_)
    refine x_cv1 hK kX9_standard_11 (q := 14) rfl (vtX9_standard_138) (Nat.le_of_ble_eq_true rfl) ?_
    refine SX0_size_i ?_
    refine x_goto hK kX9_standard_14 (tg := 18) rfl ?_
    refine x_ireturn hK kX9_standard_18 (by first | trivial | exact Or.inl rfl | exact Or.inr rfl) ?_
    exact h
set_option maxRecDepth 20000 in
theorem mX9_standard : eMet yX9_standard cX9_standard 1 (some .int) 1 20 SX9_standard := eMet_of (by decide +kernel) sX9_standard kX9_standard_ok caX9_standard tb_RX9
theorem wX9_standard : eWV yX9_standard cX9_standard 1 (some .int) 1 8 SX9_standard := ⟨(gW_at 787 (by decide +kernel) rfl), (gW_at 79 (by decide +kernel) rfl), (gW_at 785 (by decide +kernel) rfl), ⟨_, rfl, (gW_at 786 (by decide +kernel) rfl)⟩, by decide +kernel, SX9_standard_r⟩
def SX9_elements : eSp := fun as M rt => ∃ (F : Nat → Int) (A W : Nat → Int → Int), as = [eR (0, 0)] ∧ M = cC F A W ∧ (w32 (F 1)) ∧ (∀ i : Int, 0 ≤ i → i < 10 → A 2 i = 0 ∨ A 2 i = 1) ∧ (rt (some (eI (if F 1 = -1 then -1 else elc (A 2) 10))) (cC F A W))
theorem SX9_elements_i {F : Nat → Int} {A W : Nat → Int → Int} {rt : Option eV → eM → Prop} (hF : w32 (F 1)) (hL : ∀ i : Int, 0 ≤ i → i < 10 → A 2 i = 0 ∨ A 2 i = 1) (h : rt (some (eI (if F 1 = -1 then -1 else elc (A 2) 10))) (cC F A W)) : SX9_elements [eR (0, 0)] (cC F A W) rt := ⟨F, A, W, rfl, rfl, hF, hL, h⟩
theorem SX9_elements_r : ∀ as M rt, SX9_elements as M rt → ∃ a r fs, as = eR a :: r ∧ M a = some (.inl (8, fs)) := by
  rintro as M rt ⟨F, A, W, rfl, rfl, -⟩
  exact ⟨_, _, _, rfl, rfl⟩
def kX9_elements : List (Nat × Jvm.ClassFile.Instr × Nat) := [(0, .aload_n 0, 1), (1, .getfield 48, 3), (4, .iconst (-1), 1), (5, .if_icmp .ne 7, 3), (8, .iconst (-1), 1), (9, .goto 10, 3), (12, .aload_n 0, 1), (13, .getfield 33, 3), (16, .invokevirtual 119, 3), (19, .ireturn, 1)]
theorem kX9_elements_0 : cdOf kX9_elements 0 = some (.aload_n 0, 1) := by decide +kernel
theorem kX9_elements_1 : cdOf kX9_elements 1 = some (.getfield 48, 3) := by decide +kernel
theorem kX9_elements_4 : cdOf kX9_elements 4 = some (.iconst (-1), 1) := by decide +kernel
theorem kX9_elements_5 : cdOf kX9_elements 5 = some (.if_icmp .ne 7, 3) := by decide +kernel
theorem kX9_elements_8 : cdOf kX9_elements 8 = some (.iconst (-1), 1) := by decide +kernel
theorem kX9_elements_9 : cdOf kX9_elements 9 = some (.goto 10, 3) := by decide +kernel
theorem kX9_elements_12 : cdOf kX9_elements 12 = some (.aload_n 0, 1) := by decide +kernel
theorem kX9_elements_13 : cdOf kX9_elements 13 = some (.getfield 33, 3) := by decide +kernel
theorem kX9_elements_16 : cdOf kX9_elements 16 = some (.invokevirtual 119, 3) := by decide +kernel
theorem kX9_elements_19 : cdOf kX9_elements 19 = some (.ireturn, 1) := by decide +kernel
set_option maxRecDepth 20000 in
theorem kX9_elements_ok : ∀ pc i len, cdOf kX9_elements pc = some (i, len) → decode cX9_elements pc = .ok (i, len) ∧ stOK 1 i = true ∧ jOK pc i = true ∧ eLen i len = true := cdOf_ok cX9_elements 1 kX9_elements (by decide +kernel)
def vtX9_elements : Nat → Option (Nat × eSp) := fun k => match k with
  | 119 => some (1, SX3_size)
  | _ => none
theorem vtX9_elements_119 : vtX9_elements 119 = some (1, SX3_size) := rfl
def stX9_elements : Nat → Option (Nat × eSp) := fun _ => none
abbrev TX9_elements : eT := (fl_RX9, cl_RX9, dl_RX9, vtX9_elements, stX9_elements)
set_option maxRecDepth 20000 in
theorem caX9_elements : eCalls RX9 { frames := 5, cells := 0, slots := 0, locals := 105 } TX9_elements := by
  refine ⟨fun k n sp h => ?_, fun k n sp h => ?_⟩
  · dsimp only [TX9_elements] at h
    unfold vtX9_elements at h
    split at h
    · cases h; exact eV_mk mX3_size wX3_size (by decide +kernel) (Or.inl (gW_at 740 (by decide +kernel) rfl))
    · cases h
  · cases h
set_option maxRecDepth 100000 in
set_option maxHeartbeats 4000000 in
theorem sX9_elements : eSafe TX9_elements (cdOf kX9_elements) 1 (some .int) SX9_elements := by
  intro K rt hK as M h
  obtain ⟨F, A, W, rfl, rfl, hF, hL, h⟩ := h
  refine ⟨by simp [eE], ?_⟩
  simp only [eLoc, eE, List.length_cons, List.length_nil, List.replicate, List.cons_append, List.nil_append, Nat.reduceAdd, Nat.reduceSub]
  refine x_aload_n hK kX9_elements_0 (q := 1) rfl rfl ?_
  refine x_getfield hK kX9_elements_1 (q := 4) rfl (gX9_48 ?_)
  refine x_iconst hK kX9_elements_4 (q := 5) rfl ?_
  refine x_icmp_ne hK kX9_elements_5 (q := 8) rfl (tg := 12) rfl (by exact ⟨hF, by decide⟩) (fun c5 => ?_) (fun c5 => ?_)
  · rw [if_neg (by omega)] at h
    refine x_aload_n hK kX9_elements_12 (q := 13) rfl rfl ?_
    refine x_getfield hK kX9_elements_13 (q := 16) rfl (gX9_33 ?_)
    refine x_cv1 hK kX9_elements_16 (q := 19) rfl (vtX9_elements_119) (Nat.le_of_ble_eq_true rfl) ?_
    refine SX3_size_i hL ?_
    refine x_ireturn hK kX9_elements_19 (by first | trivial | exact Or.inl rfl | exact Or.inr rfl) ?_
    exact h
  · rw [if_pos (by omega)] at h
    refine x_iconst hK kX9_elements_8 (q := 9) rfl ?_
    refine x_goto hK kX9_elements_9 (tg := 19) rfl ?_
    refine x_ireturn hK kX9_elements_19 (by first | trivial | exact Or.inl rfl | exact Or.inr rfl) ?_
    exact h
set_option maxRecDepth 20000 in
theorem mX9_elements : eMet yX9_elements cX9_elements 1 (some .int) 5 105 SX9_elements := eMet_of (by decide +kernel) sX9_elements kX9_elements_ok caX9_elements tb_RX9
theorem wX9_elements : eWV yX9_elements cX9_elements 1 (some .int) 1 8 SX9_elements := ⟨(gW_at 739 (by decide +kernel) rfl), (gW_at 79 (by decide +kernel) rfl), (gW_at 737 (by decide +kernel) rfl), ⟨_, rfl, (gW_at 738 (by decide +kernel) rfl)⟩, by decide +kernel, SX9_elements_r⟩
def SX9_count : eSp := fun as M rt => ∃ (F : Nat → Int) (A W : Nat → Int → Int) (k : Int), as = [eR (0, 0), eI k] ∧ M = cC F A W ∧ (w32 k) ∧ (rt (some (eI (if k = 0 then F 2 else if k = 1 then F 0 else if k = 2 then F 1 else -1))) (cC F A W))
theorem SX9_count_i {F : Nat → Int} {A W : Nat → Int → Int} {k : Int} {rt : Option eV → eM → Prop} (hk : w32 k) (h : rt (some (eI (if k = 0 then F 2 else if k = 1 then F 0 else if k = 2 then F 1 else -1))) (cC F A W)) : SX9_count [eR (0, 0), eI k] (cC F A W) rt := ⟨F, A, W, k, rfl, rfl, hk, h⟩
theorem SX9_count_r : ∀ as M rt, SX9_count as M rt → ∃ a r fs, as = eR a :: r ∧ M a = some (.inl (8, fs)) := by
  rintro as M rt ⟨F, A, W, k, rfl, rfl, -⟩
  exact ⟨_, _, _, rfl, rfl⟩
def kX9_count : List (Nat × Jvm.ClassFile.Instr × Nat) := [(0, .iload_n 1, 1), (1, .tableswitch 45 0 2 #[27, 35, 40], 27), (28, .aload_n 0, 1), (29, .getfield 15, 3), (32, .invokevirtual 166, 3), (35, .ireturn, 1), (36, .aload_n 0, 1), (37, .getfield 44, 3), (40, .ireturn, 1), (41, .aload_n 0, 1), (42, .getfield 48, 3), (45, .ireturn, 1), (46, .iconst (-1), 1), (47, .ireturn, 1)]
theorem kX9_count_0 : cdOf kX9_count 0 = some (.iload_n 1, 1) := by decide +kernel
theorem kX9_count_1 : cdOf kX9_count 1 = some (.tableswitch 45 0 2 #[27, 35, 40], 27) := by decide +kernel
theorem kX9_count_28 : cdOf kX9_count 28 = some (.aload_n 0, 1) := by decide +kernel
theorem kX9_count_29 : cdOf kX9_count 29 = some (.getfield 15, 3) := by decide +kernel
theorem kX9_count_32 : cdOf kX9_count 32 = some (.invokevirtual 166, 3) := by decide +kernel
theorem kX9_count_35 : cdOf kX9_count 35 = some (.ireturn, 1) := by decide +kernel
theorem kX9_count_36 : cdOf kX9_count 36 = some (.aload_n 0, 1) := by decide +kernel
theorem kX9_count_37 : cdOf kX9_count 37 = some (.getfield 44, 3) := by decide +kernel
theorem kX9_count_40 : cdOf kX9_count 40 = some (.ireturn, 1) := by decide +kernel
theorem kX9_count_41 : cdOf kX9_count 41 = some (.aload_n 0, 1) := by decide +kernel
theorem kX9_count_42 : cdOf kX9_count 42 = some (.getfield 48, 3) := by decide +kernel
theorem kX9_count_45 : cdOf kX9_count 45 = some (.ireturn, 1) := by decide +kernel
theorem kX9_count_46 : cdOf kX9_count 46 = some (.iconst (-1), 1) := by decide +kernel
theorem kX9_count_47 : cdOf kX9_count 47 = some (.ireturn, 1) := by decide +kernel
set_option maxRecDepth 20000 in
theorem kX9_count_ok : ∀ pc i len, cdOf kX9_count pc = some (i, len) → decode cX9_count pc = .ok (i, len) ∧ stOK 2 i = true ∧ jOK pc i = true ∧ eLen i len = true := cdOf_ok cX9_count 2 kX9_count (by decide +kernel)
def vtX9_count : Nat → Option (Nat × eSp) := fun k => match k with
  | 166 => some (1, SX6_size)
  | _ => none
theorem vtX9_count_166 : vtX9_count 166 = some (1, SX6_size) := rfl
def stX9_count : Nat → Option (Nat × eSp) := fun _ => none
abbrev TX9_count : eT := (fl_RX9, cl_RX9, dl_RX9, vtX9_count, stX9_count)
set_option maxRecDepth 20000 in
theorem caX9_count : eCalls RX9 { frames := 1, cells := 0, slots := 0, locals := 20 } TX9_count := by
  refine ⟨fun k n sp h => ?_, fun k n sp h => ?_⟩
  · dsimp only [TX9_count] at h
    unfold vtX9_count at h
    split at h
    · cases h; exact eV_mk mX6_size wX6_size (by decide +kernel) (Or.inl (gW_at 838 (by decide +kernel) rfl))
    · cases h
  · cases h
set_option maxRecDepth 100000 in
set_option maxHeartbeats 4000000 in
theorem sX9_count : eSafe TX9_count (cdOf kX9_count) 2 (some .int) SX9_count := by
  intro K rt hK as M h
  obtain ⟨F, A, W, k, rfl, rfl, hk, h⟩ := h
  refine ⟨by simp [eE], ?_⟩
  have q0 : k = 0 → K 28 [some (eR (0, 0)), some (eI k)] [] (cC F A W) := fun e => by
    rw [if_pos e] at h
    refine x_aload_n hK kX9_count_28 (q := 29) rfl rfl ?_
    refine x_getfield hK kX9_count_29 (q := 32) rfl (gX9_15 ?_)
    refine x_cv1 hK kX9_count_32 (q := 35) rfl (vtX9_count_166) (Nat.le_of_ble_eq_true rfl) ?_
    refine SX6_size_i (p := 0) (by decide) ?_
    refine x_ireturn hK kX9_count_35 (by first | trivial | exact Or.inl rfl | exact Or.inr rfl) ?_
    exact h
  have q1 : k = 1 → K 36 [some (eR (0, 0)), some (eI k)] [] (cC F A W) := fun e => by
    rw [if_neg (by omega), if_pos e] at h
    refine x_aload_n hK kX9_count_36 (q := 37) rfl rfl ?_
    refine x_getfield hK kX9_count_37 (q := 40) rfl (gX9_44 ?_)
    refine x_ireturn hK kX9_count_40 (by first | trivial | exact Or.inl rfl | exact Or.inr rfl) ?_
    exact h
  have q2 : k = 2 → K 41 [some (eR (0, 0)), some (eI k)] [] (cC F A W) := fun e => by
    rw [if_neg (by omega), if_neg (by omega), if_pos e] at h
    refine x_aload_n hK kX9_count_41 (q := 42) rfl rfl ?_
    refine x_getfield hK kX9_count_42 (q := 45) rfl (gX9_48 ?_)
    refine x_ireturn hK kX9_count_45 (by first | trivial | exact Or.inl rfl | exact Or.inr rfl) ?_
    exact h
  have qm : (k < 0 ∨ 2 < k) → K 46 [some (eR (0, 0)), some (eI k)] [] (cC F A W) := fun e => by
    rw [if_neg (by omega), if_neg (by omega), if_neg (by omega)] at h
    refine x_iconst hK kX9_count_46 (q := 47) rfl ?_
    refine x_ireturn hK kX9_count_47 (by first | trivial | exact Or.inl rfl | exact Or.inr rfl) ?_
    exact h
  simp only [eLoc, eE, List.length_cons, List.length_nil, List.replicate, List.cons_append, List.nil_append, Nat.reduceAdd, Nat.reduceSub]
  refine x_iload_n hK kX9_count_0 (q := 1) rfl rfl ?_
  refine x_table hK kX9_count_1 (tg := 46) rfl (by exact hk) (fun c1 => ?_) (fun c1 d1 => ?_)
  · exact qm (by omega)
  · exact ⟨fun e => q0 (by omega), fun e => q1 (by omega), fun e => q2 (by omega), trivial⟩
set_option maxRecDepth 20000 in
theorem mX9_count : eMet yX9_count cX9_count 2 (some .int) 1 20 SX9_count := eMet_of (by decide +kernel) sX9_count kX9_count_ok caX9_count tb_RX9
theorem wX9_count : eWV yX9_count cX9_count 2 (some .int) 2 8 SX9_count := ⟨(gW_at 837 (by decide +kernel) rfl), (gW_at 79 (by decide +kernel) rfl), (gW_at 835 (by decide +kernel) rfl), ⟨_, rfl, (gW_at 836 (by decide +kernel) rfl)⟩, by decide +kernel, SX9_count_r⟩
def SX9_real : eSp := fun as M rt => ∃ (F : Nat → Int) (A W : Nat → Int → Int) (k : Int), as = [eR (0, 0), eI k] ∧ M = cC F A W ∧ (w32 (F 1)) ∧ (w32 k) ∧ (∀ i : Int, 0 ≤ i → i < 3 → -4 ≤ A 6 i ∧ A 6 i ≤ 4) ∧ (rt (some (eI (if F 1 = 0 ∨ F 1 = 1 then (if k = 2 then A 6 0 else if k = 1 then (A 6 2 + A 6 1).tdiv 2 else if k = 0 then A 6 0 - A 6 2 else if k = -1 then (A 6 2 - A 6 1).tdiv 2 else -1) else -1))) (cC F A W))
theorem SX9_real_i {F : Nat → Int} {A W : Nat → Int → Int} {k : Int} {rt : Option eV → eM → Prop} (hF : w32 (F 1)) (hk : w32 k) (hA : ∀ i : Int, 0 ≤ i → i < 3 → -4 ≤ A 6 i ∧ A 6 i ≤ 4) (h : rt (some (eI (if F 1 = 0 ∨ F 1 = 1 then (if k = 2 then A 6 0 else if k = 1 then (A 6 2 + A 6 1).tdiv 2 else if k = 0 then A 6 0 - A 6 2 else if k = -1 then (A 6 2 - A 6 1).tdiv 2 else -1) else -1))) (cC F A W)) : SX9_real [eR (0, 0), eI k] (cC F A W) rt := ⟨F, A, W, k, rfl, rfl, hF, hk, hA, h⟩
theorem SX9_real_r : ∀ as M rt, SX9_real as M rt → ∃ a r fs, as = eR a :: r ∧ M a = some (.inl (8, fs)) := by
  rintro as M rt ⟨F, A, W, k, rfl, rfl, -⟩
  exact ⟨_, _, _, rfl, rfl⟩
def kX9_real : List (Nat × Jvm.ClassFile.Instr × Nat) := [(0, .aload_n 0, 1), (1, .invokevirtual 111, 3), (4, .ifCond .ne 5, 3), (7, .iconst (-1), 1), (8, .ireturn, 1), (9, .aload_n 0, 1), (10, .getfield 40, 3), (13, .iconst 0, 1), (14, .invokevirtual 116, 3), (17, .istore_n 2, 1), (18, .aload_n 0, 1), (19, .getfield 40, 3), (22, .iconst 2, 1), (23, .invokevirtual 116, 3), (26, .istore_n 3, 1), (27, .iload_n 1, 1), (28, .tableswitch 64 (-1) 2 #[51, 47, 34, 32], 32), (60, .iload_n 2, 1), (61, .ireturn, 1), (62, .iload_n 3, 1), (63, .aload_n 0, 1), (64, .getfield 40, 3), (67, .iconst 1, 1), (68, .invokevirtual 116, 3), (71, .iadd, 1), (72, .iconst 2, 1), (73, .idiv, 1), (74, .ireturn, 1), (75, .iload_n 2, 1), (76, .iload_n 3, 1), (77, .isub, 1), (78, .ireturn, 1), (79, .iload_n 3, 1), (80, .aload_n 0, 1), (81, .getfield 40, 3), (84, .iconst 1, 1), (85, .invokevirtual 116, 3), (88, .isub, 1), (89, .iconst 2, 1), (90, .idiv, 1), (91, .ireturn, 1), (92, .iconst (-1), 1), (93, .ireturn, 1)]
theorem kX9_real_0 : cdOf kX9_real 0 = some (.aload_n 0, 1) := by decide +kernel
theorem kX9_real_1 : cdOf kX9_real 1 = some (.invokevirtual 111, 3) := by decide +kernel
theorem kX9_real_4 : cdOf kX9_real 4 = some (.ifCond .ne 5, 3) := by decide +kernel
theorem kX9_real_7 : cdOf kX9_real 7 = some (.iconst (-1), 1) := by decide +kernel
theorem kX9_real_8 : cdOf kX9_real 8 = some (.ireturn, 1) := by decide +kernel
theorem kX9_real_9 : cdOf kX9_real 9 = some (.aload_n 0, 1) := by decide +kernel
theorem kX9_real_10 : cdOf kX9_real 10 = some (.getfield 40, 3) := by decide +kernel
theorem kX9_real_13 : cdOf kX9_real 13 = some (.iconst 0, 1) := by decide +kernel
theorem kX9_real_14 : cdOf kX9_real 14 = some (.invokevirtual 116, 3) := by decide +kernel
theorem kX9_real_17 : cdOf kX9_real 17 = some (.istore_n 2, 1) := by decide +kernel
theorem kX9_real_18 : cdOf kX9_real 18 = some (.aload_n 0, 1) := by decide +kernel
theorem kX9_real_19 : cdOf kX9_real 19 = some (.getfield 40, 3) := by decide +kernel
theorem kX9_real_22 : cdOf kX9_real 22 = some (.iconst 2, 1) := by decide +kernel
theorem kX9_real_23 : cdOf kX9_real 23 = some (.invokevirtual 116, 3) := by decide +kernel
theorem kX9_real_26 : cdOf kX9_real 26 = some (.istore_n 3, 1) := by decide +kernel
theorem kX9_real_27 : cdOf kX9_real 27 = some (.iload_n 1, 1) := by decide +kernel
theorem kX9_real_28 : cdOf kX9_real 28 = some (.tableswitch 64 (-1) 2 #[51, 47, 34, 32], 32) := by decide +kernel
theorem kX9_real_60 : cdOf kX9_real 60 = some (.iload_n 2, 1) := by decide +kernel
theorem kX9_real_61 : cdOf kX9_real 61 = some (.ireturn, 1) := by decide +kernel
theorem kX9_real_62 : cdOf kX9_real 62 = some (.iload_n 3, 1) := by decide +kernel
theorem kX9_real_63 : cdOf kX9_real 63 = some (.aload_n 0, 1) := by decide +kernel
theorem kX9_real_64 : cdOf kX9_real 64 = some (.getfield 40, 3) := by decide +kernel
theorem kX9_real_67 : cdOf kX9_real 67 = some (.iconst 1, 1) := by decide +kernel
theorem kX9_real_68 : cdOf kX9_real 68 = some (.invokevirtual 116, 3) := by decide +kernel
theorem kX9_real_71 : cdOf kX9_real 71 = some (.iadd, 1) := by decide +kernel
theorem kX9_real_72 : cdOf kX9_real 72 = some (.iconst 2, 1) := by decide +kernel
theorem kX9_real_73 : cdOf kX9_real 73 = some (.idiv, 1) := by decide +kernel
theorem kX9_real_74 : cdOf kX9_real 74 = some (.ireturn, 1) := by decide +kernel
theorem kX9_real_75 : cdOf kX9_real 75 = some (.iload_n 2, 1) := by decide +kernel
theorem kX9_real_76 : cdOf kX9_real 76 = some (.iload_n 3, 1) := by decide +kernel
theorem kX9_real_77 : cdOf kX9_real 77 = some (.isub, 1) := by decide +kernel
theorem kX9_real_78 : cdOf kX9_real 78 = some (.ireturn, 1) := by decide +kernel
theorem kX9_real_79 : cdOf kX9_real 79 = some (.iload_n 3, 1) := by decide +kernel
theorem kX9_real_80 : cdOf kX9_real 80 = some (.aload_n 0, 1) := by decide +kernel
theorem kX9_real_81 : cdOf kX9_real 81 = some (.getfield 40, 3) := by decide +kernel
theorem kX9_real_84 : cdOf kX9_real 84 = some (.iconst 1, 1) := by decide +kernel
theorem kX9_real_85 : cdOf kX9_real 85 = some (.invokevirtual 116, 3) := by decide +kernel
theorem kX9_real_88 : cdOf kX9_real 88 = some (.isub, 1) := by decide +kernel
theorem kX9_real_89 : cdOf kX9_real 89 = some (.iconst 2, 1) := by decide +kernel
theorem kX9_real_90 : cdOf kX9_real 90 = some (.idiv, 1) := by decide +kernel
theorem kX9_real_91 : cdOf kX9_real 91 = some (.ireturn, 1) := by decide +kernel
theorem kX9_real_92 : cdOf kX9_real 92 = some (.iconst (-1), 1) := by decide +kernel
theorem kX9_real_93 : cdOf kX9_real 93 = some (.ireturn, 1) := by decide +kernel
set_option maxRecDepth 20000 in
theorem kX9_real_ok : ∀ pc i len, cdOf kX9_real pc = some (i, len) → decode cX9_real pc = .ok (i, len) ∧ stOK 4 i = true ∧ jOK pc i = true ∧ eLen i len = true := cdOf_ok cX9_real 4 kX9_real (by decide +kernel)
def vtX9_real : Nat → Option (Nat × eSp) := fun k => match k with
  | 111 => some (1, SX9_isFinite)
  | 116 => some (2, SX0_balance)
  | _ => none
theorem vtX9_real_111 : vtX9_real 111 = some (1, SX9_isFinite) := rfl
theorem vtX9_real_116 : vtX9_real 116 = some (2, SX0_balance) := rfl
def stX9_real : Nat → Option (Nat × eSp) := fun _ => none
abbrev TX9_real : eT := (fl_RX9, cl_RX9, dl_RX9, vtX9_real, stX9_real)
set_option maxRecDepth 20000 in
theorem caX9_real : eCalls RX9 { frames := 1, cells := 0, slots := 0, locals := 21 } TX9_real := by
  refine ⟨fun k n sp h => ?_, fun k n sp h => ?_⟩
  · dsimp only [TX9_real] at h
    unfold vtX9_real at h
    split at h
    · cases h; exact eV_mk mX9_isFinite wX9_isFinite (by decide +kernel) (Or.inl (gW_at 720 (by decide +kernel) rfl))
    · cases h; exact eV_mk mX0_balance wX0_balance (by decide +kernel) (Or.inl (gW_at 732 (by decide +kernel) rfl))
    · cases h
  · cases h
set_option maxRecDepth 100000 in
set_option maxHeartbeats 4000000 in
theorem sX9_real : eSafe TX9_real (cdOf kX9_real) 4 (some .int) SX9_real := by
  intro K rt hK as M h
  obtain ⟨F, A, W, k, rfl, rfl, hF, hk, hA, h⟩ := h
  refine ⟨by simp [eE], ?_⟩
  have a0 := hA 0 (by decide) (by decide)
  have a1 := hA 1 (by decide) (by decide)
  have a2 := hA 2 (by decide) (by decide)
  have p0 : p3I (A 6) 0 0 = A 6 0 := if_pos ⟨by decide, by decide⟩
  have p1 : p3I (A 6) 0 1 = A 6 1 := if_pos ⟨by decide, by decide⟩
  have p2 : p3I (A 6) 0 2 = A 6 2 := if_pos ⟨by decide, by decide⟩
  have sw : (F 1 = 0 ∨ F 1 = 1) → K 28 [some (eR (0, 0)), some (eI k), some (eI (A 6 0)), some (eI (A 6 2))] [eI k] (cC F A W) := fun f1 => by
    rw [if_pos f1] at h
    have q2 : k = 2 → K 60 [some (eR (0, 0)), some (eI k), some (eI (A 6 0)), some (eI (A 6 2))] [] (cC F A W) := fun e => by
      rw [if_pos e] at h
      refine x_iload_n hK kX9_real_60 (q := 61) rfl rfl ?_
      refine x_ireturn hK kX9_real_61 (by first | trivial | exact Or.inl rfl | exact Or.inr rfl) ?_
      exact h
    have q1 : k = 1 → K 62 [some (eR (0, 0)), some (eI k), some (eI (A 6 0)), some (eI (A 6 2))] [] (cC F A W) := fun e => by
      rw [if_neg (by omega), if_pos e] at h
      refine x_iload_n hK kX9_real_62 (q := 63) rfl rfl ?_
      refine x_aload_n hK kX9_real_63 (q := 64) rfl rfl ?_
      refine x_getfield hK kX9_real_64 (q := 67) rfl (gX9_40 ?_)
      refine x_iconst hK kX9_real_67 (q := 68) rfl ?_
      refine x_cv2 hK kX9_real_68 (q := 71) rfl (vtX9_real_116) (Nat.le_of_ble_eq_true rfl) ?_
      refine SX0_balance_i (by decide) ?_
      rw [p1]
      refine x_iadd hK kX9_real_71 (q := 72) rfl ?_
      refine x_iconst hK kX9_real_72 (q := 73) rfl ?_
      refine x_idiv hK kX9_real_73 (q := 74) rfl (by refine ⟨?_, ?_, ?_⟩ <;> omega) ?_
      refine x_ireturn hK kX9_real_74 (by first | trivial | exact Or.inl rfl | exact Or.inr rfl) ?_
      exact h
    have q0 : k = 0 → K 75 [some (eR (0, 0)), some (eI k), some (eI (A 6 0)), some (eI (A 6 2))] [] (cC F A W) := fun e => by
      rw [if_neg (by omega), if_neg (by omega), if_pos e] at h
      refine x_iload_n hK kX9_real_75 (q := 76) rfl rfl ?_
      refine x_iload_n hK kX9_real_76 (q := 77) rfl rfl ?_
      refine x_isub hK kX9_real_77 (q := 78) rfl ?_
      refine x_ireturn hK kX9_real_78 (by first | trivial | exact Or.inl rfl | exact Or.inr rfl) ?_
      exact h
    have qn : k = -1 → K 79 [some (eR (0, 0)), some (eI k), some (eI (A 6 0)), some (eI (A 6 2))] [] (cC F A W) := fun e => by
      rw [if_neg (by omega), if_neg (by omega), if_neg (by omega), if_pos e] at h
      refine x_iload_n hK kX9_real_79 (q := 80) rfl rfl ?_
      refine x_aload_n hK kX9_real_80 (q := 81) rfl rfl ?_
      refine x_getfield hK kX9_real_81 (q := 84) rfl (gX9_40 ?_)
      refine x_iconst hK kX9_real_84 (q := 85) rfl ?_
      refine x_cv2 hK kX9_real_85 (q := 88) rfl (vtX9_real_116) (Nat.le_of_ble_eq_true rfl) ?_
      refine SX0_balance_i (by decide) ?_
      rw [p1]
      refine x_isub hK kX9_real_88 (q := 89) rfl ?_
      refine x_iconst hK kX9_real_89 (q := 90) rfl ?_
      refine x_idiv hK kX9_real_90 (q := 91) rfl (by refine ⟨?_, ?_, ?_⟩ <;> omega) ?_
      refine x_ireturn hK kX9_real_91 (by first | trivial | exact Or.inl rfl | exact Or.inr rfl) ?_
      exact h
    have qm : (k < -1 ∨ 2 < k) → K 92 [some (eR (0, 0)), some (eI k), some (eI (A 6 0)), some (eI (A 6 2))] [] (cC F A W) := fun e => by
      rw [if_neg (by omega), if_neg (by omega), if_neg (by omega), if_neg (by omega)] at h
      refine x_iconst hK kX9_real_92 (q := 93) rfl ?_
      refine x_ireturn hK kX9_real_93 (by first | trivial | exact Or.inl rfl | exact Or.inr rfl) ?_
      exact h
    refine x_table hK kX9_real_28 (tg := 92) rfl (by exact hk) (fun c28 => ?_) (fun c28 d28 => ?_)
    · exact qm (by omega)
    · exact ⟨fun e => qn (by omega), fun e => q0 (by omega), fun e => q1 (by omega), fun e => q2 (by omega), trivial⟩
  simp only [eLoc, eE, List.length_cons, List.length_nil, List.replicate, List.cons_append, List.nil_append, Nat.reduceAdd, Nat.reduceSub]
  refine x_aload_n hK kX9_real_0 (q := 1) rfl rfl ?_
  refine x_cv1 hK kX9_real_1 (q := 4) rfl (vtX9_real_111) (Nat.le_of_ble_eq_true rfl) ?_
  refine SX9_isFinite_i hF ?_
  refine x_if_ne hK kX9_real_4 (q := 7) rfl (tg := 9) rfl (by unfold zE; split <;> decide) (fun c4 => ?_) (fun c4 => ?_)
  · refine x_aload_n hK kX9_real_9 (q := 10) rfl rfl ?_
    refine x_getfield hK kX9_real_10 (q := 13) rfl (gX9_40 ?_)
    refine x_iconst hK kX9_real_13 (q := 14) rfl ?_
    refine x_cv2 hK kX9_real_14 (q := 17) rfl (vtX9_real_116) (Nat.le_of_ble_eq_true rfl) ?_
    refine SX0_balance_i (by decide) ?_
    rw [p0]
    refine x_istore_n hK kX9_real_17 (q := 18) (jn := 2) rfl rfl ?_
    refine x_aload_n hK kX9_real_18 (q := 19) rfl rfl ?_
    refine x_getfield hK kX9_real_19 (q := 22) rfl (gX9_40 ?_)
    refine x_iconst hK kX9_real_22 (q := 23) rfl ?_
    simp only [lS, lS2, clr_0, clr_I, clr_L, clr_R]
    refine x_cv2 hK kX9_real_23 (q := 26) rfl (vtX9_real_116) (Nat.le_of_ble_eq_true rfl) ?_
    refine SX0_balance_i (by decide) ?_
    rw [p2]
    refine x_istore_n hK kX9_real_26 (q := 27) (jn := 3) rfl rfl ?_
    refine x_iload_n hK kX9_real_27 (q := 28) rfl rfl ?_
    simp only [lS, lS2, clr_0, clr_I, clr_L, clr_R]
    exact sw (Decidable.of_not_not (fun q => c4 (by unfold zE; rw [if_neg q])))
  · rw [if_neg (fun q => by unfold zE at c4; rw [if_pos q] at c4; omega)] at h
    refine x_iconst hK kX9_real_7 (q := 8) rfl ?_
    refine x_ireturn hK kX9_real_8 (by first | trivial | exact Or.inl rfl | exact Or.inr rfl) ?_
    exact h
set_option maxRecDepth 20000 in
theorem mX9_real : eMet yX9_real cX9_real 4 (some .int) 1 21 SX9_real := eMet_of (by decide +kernel) sX9_real kX9_real_ok caX9_real tb_RX9
theorem wX9_real : eWV yX9_real cX9_real 4 (some .int) 2 8 SX9_real := ⟨(gW_at 731 (by decide +kernel) rfl), (gW_at 79 (by decide +kernel) rfl), (gW_at 729 (by decide +kernel) rfl), ⟨_, rfl, (gW_at 730 (by decide +kernel) rfl)⟩, by decide +kernel, SX9_real_r⟩
