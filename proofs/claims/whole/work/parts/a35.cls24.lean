/-! The algebra: what it tells, choose, product, findScale. -/
def SX0_size : eSp := fun as M rt => ∃ (F : Nat → Int) (A W : Nat → Int → Int), as = [eR (1, 4)] ∧ M = cC F A W ∧ (rt (some (eI (F 5))) (cC F A W))
theorem SX0_size_i {F : Nat → Int} {A W : Nat → Int → Int} {rt : Option eV → eM → Prop} (h : rt (some (eI (F 5))) (cC F A W)) : SX0_size [eR (1, 4)] (cC F A W) rt := ⟨F, A, W, rfl, rfl, h⟩
theorem SX0_size_r : ∀ as M rt, SX0_size as M rt → ∃ a r fs, as = eR a :: r ∧ M a = some (.inl (0, fs)) := by
  rintro as M rt ⟨F, A, W, rfl, rfl, -⟩
  exact ⟨_, _, _, rfl, rfl⟩
def kX0_size : List (Nat × Jvm.ClassFile.Instr × Nat) := [(0, .aload_n 0, 1), (1, .getfield 17, 3), (4, .ireturn, 1)]
theorem kX0_size_0 : cdOf kX0_size 0 = some (.aload_n 0, 1) := by decide +kernel
theorem kX0_size_1 : cdOf kX0_size 1 = some (.getfield 17, 3) := by decide +kernel
theorem kX0_size_4 : cdOf kX0_size 4 = some (.ireturn, 1) := by decide +kernel
set_option maxRecDepth 20000 in
theorem kX0_size_ok : ∀ pc i len, cdOf kX0_size pc = some (i, len) → decode cX0_size pc = .ok (i, len) ∧ stOK 1 i = true ∧ jOK pc i = true ∧ eLen i len = true := cdOf_ok cX0_size 1 kX0_size (by decide +kernel)
def vtX0_size : Nat → Option (Nat × eSp) := fun _ => none
def stX0_size : Nat → Option (Nat × eSp) := fun _ => none
abbrev TX0_size : eT := (fl_RX0, cl_RX0, dl_RX0, vtX0_size, stX0_size)
set_option maxRecDepth 20000 in
theorem caX0_size : eCalls RX0 { frames := 0, cells := 0, slots := 0, locals := 0 } TX0_size := by
  refine ⟨fun k n sp h => ?_, fun k n sp h => ?_⟩
  · cases h
  · cases h
set_option maxRecDepth 100000 in
set_option maxHeartbeats 4000000 in
theorem sX0_size : eSafe TX0_size (cdOf kX0_size) 1 (some .int) SX0_size := by
  intro K rt hK as M h
  obtain ⟨F, A, W, rfl, rfl, h⟩ := h
  refine ⟨by simp [eE], ?_⟩
  simp only [eLoc, eE, List.length_cons, List.length_nil, List.replicate, List.cons_append, List.nil_append, Nat.reduceAdd, Nat.reduceSub]
  refine x_aload_n hK kX0_size_0 (q := 1) rfl rfl ?_
  refine x_getfield hK kX0_size_1 (q := 4) rfl (gX0_17 ?_)
  refine x_ireturn hK kX0_size_4 (by first | trivial | exact Or.inl rfl | exact Or.inr rfl) ?_
  exact h
set_option maxRecDepth 20000 in
theorem mX0_size : eMet yX0_size cX0_size 1 (some .int) 0 0 SX0_size := eMet_of (by decide +kernel) sX0_size kX0_size_ok caX0_size tb_RX0
theorem wX0_size : eWV yX0_size cX0_size 1 (some .int) 1 0 SX0_size := ⟨(gW_at 791 (by decide +kernel) rfl), (gW_at 86 (by decide +kernel) rfl), (gW_at 789 (by decide +kernel) rfl), ⟨_, rfl, (gW_at 790 (by decide +kernel) rfl)⟩, by decide +kernel, SX0_size_r⟩
def plI (st : Int → Int) (n i : Int) : Int := if 0 ≤ i ∧ i < n ∧ i < 4 then st i else -1
def SX0_place : eSp := fun as M rt => ∃ (F : Nat → Int) (A W : Nat → Int → Int) (i : Int), as = [eR (1, 4), eI i] ∧ M = cC F A W ∧ (w32 i) ∧ (w32 (F 5)) ∧ (rt (some (eI (plI (A 4) (F 5) i))) (cC F A W))
theorem SX0_place_i {F : Nat → Int} {A W : Nat → Int → Int} {i : Int} {rt : Option eV → eM → Prop} (hi : w32 i) (hF : w32 (F 5)) (h : rt (some (eI (plI (A 4) (F 5) i))) (cC F A W)) : SX0_place [eR (1, 4), eI i] (cC F A W) rt := ⟨F, A, W, i, rfl, rfl, hi, hF, h⟩
theorem SX0_place_r : ∀ as M rt, SX0_place as M rt → ∃ a r fs, as = eR a :: r ∧ M a = some (.inl (0, fs)) := by
  rintro as M rt ⟨F, A, W, i, rfl, rfl, -⟩
  exact ⟨_, _, _, rfl, rfl⟩
def kX0_place : List (Nat × Jvm.ClassFile.Instr × Nat) := [(0, .iload_n 1, 1), (1, .ifCond .lt 16, 3), (4, .iload_n 1, 1), (5, .aload_n 0, 1), (6, .getfield 17, 3), (9, .if_icmp .ge 8, 3), (12, .iload_n 1, 1), (13, .iconst 4, 1), (14, .if_icmp .lt 7, 3), (17, .iconst (-1), 1), (18, .goto 9, 3), (21, .aload_n 0, 1), (22, .getfield 13, 3), (25, .iload_n 1, 1), (26, .iaload, 1), (27, .ireturn, 1)]
theorem kX0_place_0 : cdOf kX0_place 0 = some (.iload_n 1, 1) := by decide +kernel
theorem kX0_place_1 : cdOf kX0_place 1 = some (.ifCond .lt 16, 3) := by decide +kernel
theorem kX0_place_4 : cdOf kX0_place 4 = some (.iload_n 1, 1) := by decide +kernel
theorem kX0_place_5 : cdOf kX0_place 5 = some (.aload_n 0, 1) := by decide +kernel
theorem kX0_place_6 : cdOf kX0_place 6 = some (.getfield 17, 3) := by decide +kernel
theorem kX0_place_9 : cdOf kX0_place 9 = some (.if_icmp .ge 8, 3) := by decide +kernel
theorem kX0_place_12 : cdOf kX0_place 12 = some (.iload_n 1, 1) := by decide +kernel
theorem kX0_place_13 : cdOf kX0_place 13 = some (.iconst 4, 1) := by decide +kernel
theorem kX0_place_14 : cdOf kX0_place 14 = some (.if_icmp .lt 7, 3) := by decide +kernel
theorem kX0_place_17 : cdOf kX0_place 17 = some (.iconst (-1), 1) := by decide +kernel
theorem kX0_place_18 : cdOf kX0_place 18 = some (.goto 9, 3) := by decide +kernel
theorem kX0_place_21 : cdOf kX0_place 21 = some (.aload_n 0, 1) := by decide +kernel
theorem kX0_place_22 : cdOf kX0_place 22 = some (.getfield 13, 3) := by decide +kernel
theorem kX0_place_25 : cdOf kX0_place 25 = some (.iload_n 1, 1) := by decide +kernel
theorem kX0_place_26 : cdOf kX0_place 26 = some (.iaload, 1) := by decide +kernel
theorem kX0_place_27 : cdOf kX0_place 27 = some (.ireturn, 1) := by decide +kernel
set_option maxRecDepth 20000 in
theorem kX0_place_ok : ∀ pc i len, cdOf kX0_place pc = some (i, len) → decode cX0_place pc = .ok (i, len) ∧ stOK 2 i = true ∧ jOK pc i = true ∧ eLen i len = true := cdOf_ok cX0_place 2 kX0_place (by decide +kernel)
def vtX0_place : Nat → Option (Nat × eSp) := fun _ => none
def stX0_place : Nat → Option (Nat × eSp) := fun _ => none
abbrev TX0_place : eT := (fl_RX0, cl_RX0, dl_RX0, vtX0_place, stX0_place)
set_option maxRecDepth 20000 in
theorem caX0_place : eCalls RX0 { frames := 0, cells := 0, slots := 0, locals := 0 } TX0_place := by
  refine ⟨fun k n sp h => ?_, fun k n sp h => ?_⟩
  · cases h
  · cases h
set_option maxRecDepth 100000 in
set_option maxHeartbeats 4000000 in
theorem sX0_place : eSafe TX0_place (cdOf kX0_place) 2 (some .int) SX0_place := by
  intro K rt hK as M h
  obtain ⟨F, A, W, i, rfl, rfl, hi, hF, h⟩ := h
  refine ⟨by simp [eE], ?_⟩
  unfold plI at h
  simp only [eLoc, eE, List.length_cons, List.length_nil, List.replicate, List.cons_append, List.nil_append, Nat.reduceAdd, Nat.reduceSub]
  refine x_iload_n hK kX0_place_0 (q := 1) rfl rfl ?_
  refine x_if_lt hK kX0_place_1 (q := 4) rfl (tg := 17) rfl (by exact hi) (fun c1 => ?_) (fun c1 => ?_)
  · refine x_iconst hK kX0_place_17 (q := 18) rfl ?_
    refine x_goto hK kX0_place_18 (tg := 27) rfl ?_
    refine x_ireturn hK kX0_place_27 (by first | trivial | exact Or.inl rfl | exact Or.inr rfl) ?_
    first | (rw [if_pos (by omega)] at h; exact h) | (rw [if_neg (by omega)] at h; exact h)
  · refine x_iload_n hK kX0_place_4 (q := 5) rfl rfl ?_
    refine x_aload_n hK kX0_place_5 (q := 6) rfl rfl ?_
    refine x_getfield hK kX0_place_6 (q := 9) rfl (gX0_17 ?_)
    refine x_icmp_ge hK kX0_place_9 (q := 12) rfl (tg := 17) rfl (by refine ⟨hi, hF⟩) (fun c9 => ?_) (fun c9 => ?_)
    · refine x_iconst hK kX0_place_17 (q := 18) rfl ?_
      refine x_goto hK kX0_place_18 (tg := 27) rfl ?_
      refine x_ireturn hK kX0_place_27 (by first | trivial | exact Or.inl rfl | exact Or.inr rfl) ?_
      first | (rw [if_pos (by omega)] at h; exact h) | (rw [if_neg (by omega)] at h; exact h)
    · refine x_iload_n hK kX0_place_12 (q := 13) rfl rfl ?_
      refine x_iconst hK kX0_place_13 (q := 14) rfl ?_
      refine x_icmp_lt hK kX0_place_14 (q := 17) rfl (tg := 21) rfl (by refine ⟨hi, by decide⟩) (fun c14 => ?_) (fun c14 => ?_)
      · refine x_aload_n hK kX0_place_21 (q := 22) rfl rfl ?_
        refine x_getfield hK kX0_place_22 (q := 25) rfl (gX0_13 ?_)
        refine x_iload_n hK kX0_place_25 (q := 26) rfl rfl ?_
        refine x_iaload hK kX0_place_26 (q := 27) rfl (aC0_2 (by refine ⟨?_, ?_⟩ <;> omega) ?_)
        refine x_ireturn hK kX0_place_27 (by first | trivial | exact Or.inl rfl | exact Or.inr rfl) ?_
        first | (rw [if_pos (by omega)] at h; exact h) | (rw [if_neg (by omega)] at h; exact h)
      · refine x_iconst hK kX0_place_17 (q := 18) rfl ?_
        refine x_goto hK kX0_place_18 (tg := 27) rfl ?_
        refine x_ireturn hK kX0_place_27 (by first | trivial | exact Or.inl rfl | exact Or.inr rfl) ?_
        first | (rw [if_pos (by omega)] at h; exact h) | (rw [if_neg (by omega)] at h; exact h)
set_option maxRecDepth 20000 in
theorem mX0_place : eMet yX0_place cX0_place 2 (some .int) 0 0 SX0_place := eMet_of (by decide +kernel) sX0_place kX0_place_ok caX0_place tb_RX0
theorem wX0_place : eWV yX0_place cX0_place 2 (some .int) 2 0 SX0_place := ⟨(gW_at 613 (by decide +kernel) rfl), (gW_at 86 (by decide +kernel) rfl), (gW_at 611 (by decide +kernel) rfl), ⟨_, rfl, (gW_at 612 (by decide +kernel) rfl)⟩, by decide +kernel, SX0_place_r⟩
def SX0_multiplier : eSp := fun as M rt => ∃ (F : Nat → Int) (A W : Nat → Int → Int) (k : Int), as = [eR (1, 4), eI k] ∧ M = cC F A W ∧ (w32 k) ∧ ((∀ n : Nat, k = n → n < 3 → rt (some (eR (9, n))) (cC F A W)) ∧ (¬ (0 ≤ k ∧ k < 3) → rt (some eN) (cC F A W)))
theorem SX0_multiplier_i {F : Nat → Int} {A W : Nat → Int → Int} {k : Int} {rt : Option eV → eM → Prop} (hk : w32 k) (h : (∀ n : Nat, k = n → n < 3 → rt (some (eR (9, n))) (cC F A W)) ∧ (¬ (0 ≤ k ∧ k < 3) → rt (some eN) (cC F A W))) : SX0_multiplier [eR (1, 4), eI k] (cC F A W) rt := ⟨F, A, W, k, rfl, rfl, hk, h⟩
theorem SX0_multiplier_r : ∀ as M rt, SX0_multiplier as M rt → ∃ a r fs, as = eR a :: r ∧ M a = some (.inl (0, fs)) := by
  rintro as M rt ⟨F, A, W, k, rfl, rfl, -⟩
  exact ⟨_, _, _, rfl, rfl⟩
def kX0_multiplier : List (Nat × Jvm.ClassFile.Instr × Nat) := [(0, .iload_n 1, 1), (1, .ifCond .lt 8, 3), (4, .iload_n 1, 1), (5, .iconst 3, 1), (6, .if_icmp .lt 7, 3), (9, .aconst_null, 1), (10, .goto 9, 3), (13, .aload_n 0, 1), (14, .getfield 21, 3), (17, .iload_n 1, 1), (18, .aaload, 1), (19, .areturn, 1)]
theorem kX0_multiplier_0 : cdOf kX0_multiplier 0 = some (.iload_n 1, 1) := by decide +kernel
theorem kX0_multiplier_1 : cdOf kX0_multiplier 1 = some (.ifCond .lt 8, 3) := by decide +kernel
theorem kX0_multiplier_4 : cdOf kX0_multiplier 4 = some (.iload_n 1, 1) := by decide +kernel
theorem kX0_multiplier_5 : cdOf kX0_multiplier 5 = some (.iconst 3, 1) := by decide +kernel
theorem kX0_multiplier_6 : cdOf kX0_multiplier 6 = some (.if_icmp .lt 7, 3) := by decide +kernel
theorem kX0_multiplier_9 : cdOf kX0_multiplier 9 = some (.aconst_null, 1) := by decide +kernel
theorem kX0_multiplier_10 : cdOf kX0_multiplier 10 = some (.goto 9, 3) := by decide +kernel
theorem kX0_multiplier_13 : cdOf kX0_multiplier 13 = some (.aload_n 0, 1) := by decide +kernel
theorem kX0_multiplier_14 : cdOf kX0_multiplier 14 = some (.getfield 21, 3) := by decide +kernel
theorem kX0_multiplier_17 : cdOf kX0_multiplier 17 = some (.iload_n 1, 1) := by decide +kernel
theorem kX0_multiplier_18 : cdOf kX0_multiplier 18 = some (.aaload, 1) := by decide +kernel
theorem kX0_multiplier_19 : cdOf kX0_multiplier 19 = some (.areturn, 1) := by decide +kernel
set_option maxRecDepth 20000 in
theorem kX0_multiplier_ok : ∀ pc i len, cdOf kX0_multiplier pc = some (i, len) → decode cX0_multiplier pc = .ok (i, len) ∧ stOK 2 i = true ∧ jOK pc i = true ∧ eLen i len = true := cdOf_ok cX0_multiplier 2 kX0_multiplier (by decide +kernel)
def vtX0_multiplier : Nat → Option (Nat × eSp) := fun _ => none
def stX0_multiplier : Nat → Option (Nat × eSp) := fun _ => none
abbrev TX0_multiplier : eT := (fl_RX0, cl_RX0, dl_RX0, vtX0_multiplier, stX0_multiplier)
set_option maxRecDepth 20000 in
theorem caX0_multiplier : eCalls RX0 { frames := 0, cells := 0, slots := 0, locals := 0 } TX0_multiplier := by
  refine ⟨fun k n sp h => ?_, fun k n sp h => ?_⟩
  · cases h
  · cases h
set_option maxRecDepth 100000 in
set_option maxHeartbeats 4000000 in
theorem sX0_multiplier : eSafe TX0_multiplier (cdOf kX0_multiplier) 2 (some (.object "ConicMeet$Grid")) SX0_multiplier := by
  intro K rt hK as M h
  obtain ⟨F, A, W, k, rfl, rfl, hk, h⟩ := h
  refine ⟨by simp [eE], ?_⟩
  simp only [eLoc, eE, List.length_cons, List.length_nil, List.replicate, List.cons_append, List.nil_append, Nat.reduceAdd, Nat.reduceSub]
  refine x_iload_n hK kX0_multiplier_0 (q := 1) rfl rfl ?_
  refine x_if_lt hK kX0_multiplier_1 (q := 4) rfl (tg := 9) rfl (by exact hk) (fun c1 => ?_) (fun c1 => ?_)
  · refine x_aconst_null hK kX0_multiplier_9 (q := 10) rfl ?_
    refine x_goto hK kX0_multiplier_10 (tg := 19) rfl ?_
    refine x_areturn hK kX0_multiplier_19 (by first | trivial | exact Or.inl rfl | exact Or.inr rfl) ?_
    first | exact h.2 (by omega) | exact h.1 kn rfl (by omega)
  · refine x_iload_n hK kX0_multiplier_4 (q := 5) rfl rfl ?_
    refine x_iconst hK kX0_multiplier_5 (q := 6) rfl ?_
    refine x_icmp_lt hK kX0_multiplier_6 (q := 9) rfl (tg := 13) rfl (by refine ⟨hk, by decide⟩) (fun c6 => ?_) (fun c6 => ?_)
    · obtain ⟨kn, rfl⟩ : ∃ kn : Nat, k = kn := ⟨k.toNat, by omega⟩
      refine x_aload_n hK kX0_multiplier_13 (q := 14) rfl rfl ?_
      refine x_getfield hK kX0_multiplier_14 (q := 17) rfl (gX0_21 ?_)
      refine x_iload_n hK kX0_multiplier_17 (q := 18) rfl rfl ?_
      refine x_aaload hK kX0_multiplier_18 (q := 19) rfl (aC0_4 (by omega) ?_)
      refine x_areturn hK kX0_multiplier_19 (by first | trivial | exact Or.inl rfl | exact Or.inr rfl) ?_
      first | exact h.2 (by omega) | exact h.1 kn rfl (by omega)
    · refine x_aconst_null hK kX0_multiplier_9 (q := 10) rfl ?_
      refine x_goto hK kX0_multiplier_10 (tg := 19) rfl ?_
      refine x_areturn hK kX0_multiplier_19 (by first | trivial | exact Or.inl rfl | exact Or.inr rfl) ?_
      first | exact h.2 (by omega) | exact h.1 kn rfl (by omega)
set_option maxRecDepth 20000 in
theorem mX0_multiplier : eMet yX0_multiplier cX0_multiplier 2 (some (.object "ConicMeet$Grid")) 0 0 SX0_multiplier := eMet_of (by decide +kernel) sX0_multiplier kX0_multiplier_ok caX0_multiplier tb_RX0
theorem wX0_multiplier : eWV yX0_multiplier cX0_multiplier 2 (some (.object "ConicMeet$Grid")) 2 0 SX0_multiplier := ⟨(gW_at 804 (by decide +kernel) rfl), (gW_at 86 (by decide +kernel) rfl), (gW_at 802 (by decide +kernel) rfl), ⟨_, rfl, (gW_at 803 (by decide +kernel) rfl)⟩, by decide +kernel, SX0_multiplier_r⟩
def SX0_trace : eSp := fun as M rt => ∃ (F : Nat → Int) (A W : Nat → Int → Int) (k : Int), as = [eR (1, 4), eI k] ∧ M = cC F A W ∧ (w32 k) ∧ ((∀ n : Nat, k = n → n < 3 → rt (some (eR (9, 7 + n))) (cC F A W)) ∧ (¬ (0 ≤ k ∧ k < 3) → rt (some eN) (cC F A W)))
theorem SX0_trace_i {F : Nat → Int} {A W : Nat → Int → Int} {k : Int} {rt : Option eV → eM → Prop} (hk : w32 k) (h : (∀ n : Nat, k = n → n < 3 → rt (some (eR (9, 7 + n))) (cC F A W)) ∧ (¬ (0 ≤ k ∧ k < 3) → rt (some eN) (cC F A W))) : SX0_trace [eR (1, 4), eI k] (cC F A W) rt := ⟨F, A, W, k, rfl, rfl, hk, h⟩
theorem SX0_trace_r : ∀ as M rt, SX0_trace as M rt → ∃ a r fs, as = eR a :: r ∧ M a = some (.inl (0, fs)) := by
  rintro as M rt ⟨F, A, W, k, rfl, rfl, -⟩
  exact ⟨_, _, _, rfl, rfl⟩
def kX0_trace : List (Nat × Jvm.ClassFile.Instr × Nat) := [(0, .iload_n 1, 1), (1, .ifCond .lt 8, 3), (4, .iload_n 1, 1), (5, .iconst 3, 1), (6, .if_icmp .lt 7, 3), (9, .aconst_null, 1), (10, .goto 9, 3), (13, .aload_n 0, 1), (14, .getfield 28, 3), (17, .iload_n 1, 1), (18, .aaload, 1), (19, .areturn, 1)]
theorem kX0_trace_0 : cdOf kX0_trace 0 = some (.iload_n 1, 1) := by decide +kernel
theorem kX0_trace_1 : cdOf kX0_trace 1 = some (.ifCond .lt 8, 3) := by decide +kernel
theorem kX0_trace_4 : cdOf kX0_trace 4 = some (.iload_n 1, 1) := by decide +kernel
theorem kX0_trace_5 : cdOf kX0_trace 5 = some (.iconst 3, 1) := by decide +kernel
theorem kX0_trace_6 : cdOf kX0_trace 6 = some (.if_icmp .lt 7, 3) := by decide +kernel
theorem kX0_trace_9 : cdOf kX0_trace 9 = some (.aconst_null, 1) := by decide +kernel
theorem kX0_trace_10 : cdOf kX0_trace 10 = some (.goto 9, 3) := by decide +kernel
theorem kX0_trace_13 : cdOf kX0_trace 13 = some (.aload_n 0, 1) := by decide +kernel
theorem kX0_trace_14 : cdOf kX0_trace 14 = some (.getfield 28, 3) := by decide +kernel
theorem kX0_trace_17 : cdOf kX0_trace 17 = some (.iload_n 1, 1) := by decide +kernel
theorem kX0_trace_18 : cdOf kX0_trace 18 = some (.aaload, 1) := by decide +kernel
theorem kX0_trace_19 : cdOf kX0_trace 19 = some (.areturn, 1) := by decide +kernel
set_option maxRecDepth 20000 in
theorem kX0_trace_ok : ∀ pc i len, cdOf kX0_trace pc = some (i, len) → decode cX0_trace pc = .ok (i, len) ∧ stOK 2 i = true ∧ jOK pc i = true ∧ eLen i len = true := cdOf_ok cX0_trace 2 kX0_trace (by decide +kernel)
def vtX0_trace : Nat → Option (Nat × eSp) := fun _ => none
def stX0_trace : Nat → Option (Nat × eSp) := fun _ => none
abbrev TX0_trace : eT := (fl_RX0, cl_RX0, dl_RX0, vtX0_trace, stX0_trace)
set_option maxRecDepth 20000 in
theorem caX0_trace : eCalls RX0 { frames := 0, cells := 0, slots := 0, locals := 0 } TX0_trace := by
  refine ⟨fun k n sp h => ?_, fun k n sp h => ?_⟩
  · cases h
  · cases h
set_option maxRecDepth 100000 in
set_option maxHeartbeats 4000000 in
theorem sX0_trace : eSafe TX0_trace (cdOf kX0_trace) 2 (some (.object "ConicMeet$Grid")) SX0_trace := by
  intro K rt hK as M h
  obtain ⟨F, A, W, k, rfl, rfl, hk, h⟩ := h
  refine ⟨by simp [eE], ?_⟩
  simp only [eLoc, eE, List.length_cons, List.length_nil, List.replicate, List.cons_append, List.nil_append, Nat.reduceAdd, Nat.reduceSub]
  refine x_iload_n hK kX0_trace_0 (q := 1) rfl rfl ?_
  refine x_if_lt hK kX0_trace_1 (q := 4) rfl (tg := 9) rfl (by exact hk) (fun c1 => ?_) (fun c1 => ?_)
  · refine x_aconst_null hK kX0_trace_9 (q := 10) rfl ?_
    refine x_goto hK kX0_trace_10 (tg := 19) rfl ?_
    refine x_areturn hK kX0_trace_19 (by first | trivial | exact Or.inl rfl | exact Or.inr rfl) ?_
    first | exact h.2 (by omega) | exact h.1 kn rfl (by omega)
  · refine x_iload_n hK kX0_trace_4 (q := 5) rfl rfl ?_
    refine x_iconst hK kX0_trace_5 (q := 6) rfl ?_
    refine x_icmp_lt hK kX0_trace_6 (q := 9) rfl (tg := 13) rfl (by refine ⟨hk, by decide⟩) (fun c6 => ?_) (fun c6 => ?_)
    · obtain ⟨kn, rfl⟩ : ∃ kn : Nat, k = kn := ⟨k.toNat, by omega⟩
      refine x_aload_n hK kX0_trace_13 (q := 14) rfl rfl ?_
      refine x_getfield hK kX0_trace_14 (q := 17) rfl (gX0_28 ?_)
      refine x_iload_n hK kX0_trace_17 (q := 18) rfl rfl ?_
      refine x_aaload hK kX0_trace_18 (q := 19) rfl (aC0_6 (by omega) ?_)
      refine x_areturn hK kX0_trace_19 (by first | trivial | exact Or.inl rfl | exact Or.inr rfl) ?_
      first | exact h.2 (by omega) | exact h.1 kn rfl (by omega)
    · refine x_aconst_null hK kX0_trace_9 (q := 10) rfl ?_
      refine x_goto hK kX0_trace_10 (tg := 19) rfl ?_
      refine x_areturn hK kX0_trace_19 (by first | trivial | exact Or.inl rfl | exact Or.inr rfl) ?_
      first | exact h.2 (by omega) | exact h.1 kn rfl (by omega)
set_option maxRecDepth 20000 in
theorem mX0_trace : eMet yX0_trace cX0_trace 2 (some (.object "ConicMeet$Grid")) 0 0 SX0_trace := eMet_of (by decide +kernel) sX0_trace kX0_trace_ok caX0_trace tb_RX0
theorem wX0_trace : eWV yX0_trace cX0_trace 2 (some (.object "ConicMeet$Grid")) 2 0 SX0_trace := ⟨(gW_at 817 (by decide +kernel) rfl), (gW_at 86 (by decide +kernel) rfl), (gW_at 815 (by decide +kernel) rfl), ⟨_, rfl, (gW_at 816 (by decide +kernel) rfl)⟩, by decide +kernel, SX0_trace_r⟩
def p3I (f : Int → Int) (d i : Int) : Int := if 0 ≤ i ∧ i < 3 then f i else d
def SX0_breadth : eSp := fun as M rt => ∃ (F : Nat → Int) (A W : Nat → Int → Int) (i : Int), as = [eR (1, 4), eI i] ∧ M = cC F A W ∧ (w32 i) ∧ (rt (some (eI (p3I (A 5) (-1) i))) (cC F A W))
theorem SX0_breadth_i {F : Nat → Int} {A W : Nat → Int → Int} {i : Int} {rt : Option eV → eM → Prop} (hi : w32 i) (h : rt (some (eI (p3I (A 5) (-1) i))) (cC F A W)) : SX0_breadth [eR (1, 4), eI i] (cC F A W) rt := ⟨F, A, W, i, rfl, rfl, hi, h⟩
theorem SX0_breadth_r : ∀ as M rt, SX0_breadth as M rt → ∃ a r fs, as = eR a :: r ∧ M a = some (.inl (0, fs)) := by
  rintro as M rt ⟨F, A, W, i, rfl, rfl, -⟩
  exact ⟨_, _, _, rfl, rfl⟩
def kX0_breadth : List (Nat × Jvm.ClassFile.Instr × Nat) := [(0, .iload_n 1, 1), (1, .ifCond .lt 8, 3), (4, .iload_n 1, 1), (5, .iconst 3, 1), (6, .if_icmp .lt 7, 3), (9, .iconst (-1), 1), (10, .goto 9, 3), (13, .aload_n 0, 1), (14, .getfield 57, 3), (17, .iload_n 1, 1), (18, .iaload, 1), (19, .ireturn, 1)]
theorem kX0_breadth_0 : cdOf kX0_breadth 0 = some (.iload_n 1, 1) := by decide +kernel
theorem kX0_breadth_1 : cdOf kX0_breadth 1 = some (.ifCond .lt 8, 3) := by decide +kernel
theorem kX0_breadth_4 : cdOf kX0_breadth 4 = some (.iload_n 1, 1) := by decide +kernel
theorem kX0_breadth_5 : cdOf kX0_breadth 5 = some (.iconst 3, 1) := by decide +kernel
theorem kX0_breadth_6 : cdOf kX0_breadth 6 = some (.if_icmp .lt 7, 3) := by decide +kernel
theorem kX0_breadth_9 : cdOf kX0_breadth 9 = some (.iconst (-1), 1) := by decide +kernel
theorem kX0_breadth_10 : cdOf kX0_breadth 10 = some (.goto 9, 3) := by decide +kernel
theorem kX0_breadth_13 : cdOf kX0_breadth 13 = some (.aload_n 0, 1) := by decide +kernel
theorem kX0_breadth_14 : cdOf kX0_breadth 14 = some (.getfield 57, 3) := by decide +kernel
theorem kX0_breadth_17 : cdOf kX0_breadth 17 = some (.iload_n 1, 1) := by decide +kernel
theorem kX0_breadth_18 : cdOf kX0_breadth 18 = some (.iaload, 1) := by decide +kernel
theorem kX0_breadth_19 : cdOf kX0_breadth 19 = some (.ireturn, 1) := by decide +kernel
set_option maxRecDepth 20000 in
theorem kX0_breadth_ok : ∀ pc i len, cdOf kX0_breadth pc = some (i, len) → decode cX0_breadth pc = .ok (i, len) ∧ stOK 2 i = true ∧ jOK pc i = true ∧ eLen i len = true := cdOf_ok cX0_breadth 2 kX0_breadth (by decide +kernel)
def vtX0_breadth : Nat → Option (Nat × eSp) := fun _ => none
def stX0_breadth : Nat → Option (Nat × eSp) := fun _ => none
abbrev TX0_breadth : eT := (fl_RX0, cl_RX0, dl_RX0, vtX0_breadth, stX0_breadth)
set_option maxRecDepth 20000 in
theorem caX0_breadth : eCalls RX0 { frames := 0, cells := 0, slots := 0, locals := 0 } TX0_breadth := by
  refine ⟨fun k n sp h => ?_, fun k n sp h => ?_⟩
  · cases h
  · cases h
set_option maxRecDepth 100000 in
set_option maxHeartbeats 4000000 in
theorem sX0_breadth : eSafe TX0_breadth (cdOf kX0_breadth) 2 (some .int) SX0_breadth := by
  intro K rt hK as M h
  obtain ⟨F, A, W, i, rfl, rfl, hi, h⟩ := h
  refine ⟨by simp [eE], ?_⟩
  unfold p3I at h
  simp only [eLoc, eE, List.length_cons, List.length_nil, List.replicate, List.cons_append, List.nil_append, Nat.reduceAdd, Nat.reduceSub]
  refine x_iload_n hK kX0_breadth_0 (q := 1) rfl rfl ?_
  refine x_if_lt hK kX0_breadth_1 (q := 4) rfl (tg := 9) rfl (by exact hi) (fun c1 => ?_) (fun c1 => ?_)
  · refine x_iconst hK kX0_breadth_9 (q := 10) rfl ?_
    refine x_goto hK kX0_breadth_10 (tg := 19) rfl ?_
    refine x_ireturn hK kX0_breadth_19 (by first | trivial | exact Or.inl rfl | exact Or.inr rfl) ?_
    first | (rw [if_pos (by omega)] at h; exact h) | (rw [if_neg (by omega)] at h; exact h)
  · refine x_iload_n hK kX0_breadth_4 (q := 5) rfl rfl ?_
    refine x_iconst hK kX0_breadth_5 (q := 6) rfl ?_
    refine x_icmp_lt hK kX0_breadth_6 (q := 9) rfl (tg := 13) rfl (by refine ⟨hi, by decide⟩) (fun c6 => ?_) (fun c6 => ?_)
    · refine x_aload_n hK kX0_breadth_13 (q := 14) rfl rfl ?_
      refine x_getfield hK kX0_breadth_14 (q := 17) rfl (gX0_57 ?_)
      refine x_iload_n hK kX0_breadth_17 (q := 18) rfl rfl ?_
      refine x_iaload hK kX0_breadth_18 (q := 19) rfl (aC0_12 (by refine ⟨?_, ?_⟩ <;> omega) ?_)
      refine x_ireturn hK kX0_breadth_19 (by first | trivial | exact Or.inl rfl | exact Or.inr rfl) ?_
      first | (rw [if_pos (by omega)] at h; exact h) | (rw [if_neg (by omega)] at h; exact h)
    · refine x_iconst hK kX0_breadth_9 (q := 10) rfl ?_
      refine x_goto hK kX0_breadth_10 (tg := 19) rfl ?_
      refine x_ireturn hK kX0_breadth_19 (by first | trivial | exact Or.inl rfl | exact Or.inr rfl) ?_
      first | (rw [if_pos (by omega)] at h; exact h) | (rw [if_neg (by omega)] at h; exact h)
set_option maxRecDepth 20000 in
theorem mX0_breadth : eMet yX0_breadth cX0_breadth 2 (some .int) 0 0 SX0_breadth := eMet_of (by decide +kernel) sX0_breadth kX0_breadth_ok caX0_breadth tb_RX0
theorem wX0_breadth : eWV yX0_breadth cX0_breadth 2 (some .int) 2 0 SX0_breadth := ⟨(gW_at 727 (by decide +kernel) rfl), (gW_at 86 (by decide +kernel) rfl), (gW_at 725 (by decide +kernel) rfl), ⟨_, rfl, (gW_at 726 (by decide +kernel) rfl)⟩, by decide +kernel, SX0_breadth_r⟩
def SX0_balance : eSp := fun as M rt => ∃ (F : Nat → Int) (A W : Nat → Int → Int) (i : Int), as = [eR (1, 4), eI i] ∧ M = cC F A W ∧ (w32 i) ∧ (rt (some (eI (p3I (A 6) 0 i))) (cC F A W))
theorem SX0_balance_i {F : Nat → Int} {A W : Nat → Int → Int} {i : Int} {rt : Option eV → eM → Prop} (hi : w32 i) (h : rt (some (eI (p3I (A 6) 0 i))) (cC F A W)) : SX0_balance [eR (1, 4), eI i] (cC F A W) rt := ⟨F, A, W, i, rfl, rfl, hi, h⟩
theorem SX0_balance_r : ∀ as M rt, SX0_balance as M rt → ∃ a r fs, as = eR a :: r ∧ M a = some (.inl (0, fs)) := by
  rintro as M rt ⟨F, A, W, i, rfl, rfl, -⟩
  exact ⟨_, _, _, rfl, rfl⟩
def kX0_balance : List (Nat × Jvm.ClassFile.Instr × Nat) := [(0, .iload_n 1, 1), (1, .ifCond .lt 8, 3), (4, .iload_n 1, 1), (5, .iconst 3, 1), (6, .if_icmp .lt 7, 3), (9, .iconst 0, 1), (10, .goto 9, 3), (13, .aload_n 0, 1), (14, .getfield 60, 3), (17, .iload_n 1, 1), (18, .iaload, 1), (19, .ireturn, 1)]
theorem kX0_balance_0 : cdOf kX0_balance 0 = some (.iload_n 1, 1) := by decide +kernel
theorem kX0_balance_1 : cdOf kX0_balance 1 = some (.ifCond .lt 8, 3) := by decide +kernel
theorem kX0_balance_4 : cdOf kX0_balance 4 = some (.iload_n 1, 1) := by decide +kernel
theorem kX0_balance_5 : cdOf kX0_balance 5 = some (.iconst 3, 1) := by decide +kernel
theorem kX0_balance_6 : cdOf kX0_balance 6 = some (.if_icmp .lt 7, 3) := by decide +kernel
theorem kX0_balance_9 : cdOf kX0_balance 9 = some (.iconst 0, 1) := by decide +kernel
theorem kX0_balance_10 : cdOf kX0_balance 10 = some (.goto 9, 3) := by decide +kernel
theorem kX0_balance_13 : cdOf kX0_balance 13 = some (.aload_n 0, 1) := by decide +kernel
theorem kX0_balance_14 : cdOf kX0_balance 14 = some (.getfield 60, 3) := by decide +kernel
theorem kX0_balance_17 : cdOf kX0_balance 17 = some (.iload_n 1, 1) := by decide +kernel
theorem kX0_balance_18 : cdOf kX0_balance 18 = some (.iaload, 1) := by decide +kernel
theorem kX0_balance_19 : cdOf kX0_balance 19 = some (.ireturn, 1) := by decide +kernel
set_option maxRecDepth 20000 in
theorem kX0_balance_ok : ∀ pc i len, cdOf kX0_balance pc = some (i, len) → decode cX0_balance pc = .ok (i, len) ∧ stOK 2 i = true ∧ jOK pc i = true ∧ eLen i len = true := cdOf_ok cX0_balance 2 kX0_balance (by decide +kernel)
def vtX0_balance : Nat → Option (Nat × eSp) := fun _ => none
def stX0_balance : Nat → Option (Nat × eSp) := fun _ => none
abbrev TX0_balance : eT := (fl_RX0, cl_RX0, dl_RX0, vtX0_balance, stX0_balance)
set_option maxRecDepth 20000 in
theorem caX0_balance : eCalls RX0 { frames := 0, cells := 0, slots := 0, locals := 0 } TX0_balance := by
  refine ⟨fun k n sp h => ?_, fun k n sp h => ?_⟩
  · cases h
  · cases h
set_option maxRecDepth 100000 in
set_option maxHeartbeats 4000000 in
theorem sX0_balance : eSafe TX0_balance (cdOf kX0_balance) 2 (some .int) SX0_balance := by
  intro K rt hK as M h
  obtain ⟨F, A, W, i, rfl, rfl, hi, h⟩ := h
  refine ⟨by simp [eE], ?_⟩
  unfold p3I at h
  simp only [eLoc, eE, List.length_cons, List.length_nil, List.replicate, List.cons_append, List.nil_append, Nat.reduceAdd, Nat.reduceSub]
  refine x_iload_n hK kX0_balance_0 (q := 1) rfl rfl ?_
  refine x_if_lt hK kX0_balance_1 (q := 4) rfl (tg := 9) rfl (by exact hi) (fun c1 => ?_) (fun c1 => ?_)
  · refine x_iconst hK kX0_balance_9 (q := 10) rfl ?_
    refine x_goto hK kX0_balance_10 (tg := 19) rfl ?_
    refine x_ireturn hK kX0_balance_19 (by first | trivial | exact Or.inl rfl | exact Or.inr rfl) ?_
    first | (rw [if_pos (by omega)] at h; exact h) | (rw [if_neg (by omega)] at h; exact h)
  · refine x_iload_n hK kX0_balance_4 (q := 5) rfl rfl ?_
    refine x_iconst hK kX0_balance_5 (q := 6) rfl ?_
    refine x_icmp_lt hK kX0_balance_6 (q := 9) rfl (tg := 13) rfl (by refine ⟨hi, by decide⟩) (fun c6 => ?_) (fun c6 => ?_)
    · refine x_aload_n hK kX0_balance_13 (q := 14) rfl rfl ?_
      refine x_getfield hK kX0_balance_14 (q := 17) rfl (gX0_60 ?_)
      refine x_iload_n hK kX0_balance_17 (q := 18) rfl rfl ?_
      refine x_iaload hK kX0_balance_18 (q := 19) rfl (aC0_13 (by refine ⟨?_, ?_⟩ <;> omega) ?_)
      refine x_ireturn hK kX0_balance_19 (by first | trivial | exact Or.inl rfl | exact Or.inr rfl) ?_
      first | (rw [if_pos (by omega)] at h; exact h) | (rw [if_neg (by omega)] at h; exact h)
    · refine x_iconst hK kX0_balance_9 (q := 10) rfl ?_
      refine x_goto hK kX0_balance_10 (tg := 19) rfl ?_
      refine x_ireturn hK kX0_balance_19 (by first | trivial | exact Or.inl rfl | exact Or.inr rfl) ?_
      first | (rw [if_pos (by omega)] at h; exact h) | (rw [if_neg (by omega)] at h; exact h)
set_option maxRecDepth 20000 in
theorem mX0_balance : eMet yX0_balance cX0_balance 2 (some .int) 0 0 SX0_balance := eMet_of (by decide +kernel) sX0_balance kX0_balance_ok caX0_balance tb_RX0
theorem wX0_balance : eWV yX0_balance cX0_balance 2 (some .int) 2 0 SX0_balance := ⟨(gW_at 735 (by decide +kernel) rfl), (gW_at 86 (by decide +kernel) rfl), (gW_at 733 (by decide +kernel) rfl), ⟨_, rfl, (gW_at 734 (by decide +kernel) rfl)⟩, by decide +kernel, SX0_balance_r⟩
/-- the standard monomials, at most four -/
def chG (L f : Int → Int) : Nat → (Int → Int) × Int
  | 0 => (f, 0)
  | i + 1 => if ldb L i = true then chG L f i else if (chG L f i).2 < 4 then (uI (chG L f i).1 (chG L f i).2 i, (chG L f i).2 + 1) else chG L f i
theorem chG_r (L f : Int → Int) : ∀ i, 0 ≤ (chG L f i).2 ∧ (chG L f i).2 ≤ 4
  | 0 => ⟨Int.le_refl _, by show (0 : Int) ≤ 4; decide⟩
  | i + 1 => by
    have := chG_r L f i
    unfold chG
    split
    · exact this
    · split
      · show 0 ≤ (chG L f i).2 + 1 ∧ (chG L f i).2 + 1 ≤ 4
        omega
      · exact this
def SX0_choose : eSp := fun as M rt => ∃ (F : Nat → Int) (A W : Nat → Int → Int), as = [eR (1, 4), eR (1, 3)] ∧ M = cC F A W ∧ (∀ i : Int, 0 ≤ i → i < 10 → A 2 i = 0 ∨ A 2 i = 1) ∧ (rt none (cC (uF F 5 (chG (A 2) (A 4) 6).2) (uA A 4 (chG (A 2) (A 4) 6).1) W))
theorem SX0_choose_i {F : Nat → Int} {A W : Nat → Int → Int} {rt : Option eV → eM → Prop} (hL : ∀ i : Int, 0 ≤ i → i < 10 → A 2 i = 0 ∨ A 2 i = 1) (h : rt none (cC (uF F 5 (chG (A 2) (A 4) 6).2) (uA A 4 (chG (A 2) (A 4) 6).1) W)) : SX0_choose [eR (1, 4), eR (1, 3)] (cC F A W) rt := ⟨F, A, W, rfl, rfl, hL, h⟩
theorem SX0_choose_r : ∀ as M rt, SX0_choose as M rt → ∃ a r fs, as = eR a :: r ∧ M a = some (.inl (0, fs)) := by
  rintro as M rt ⟨F, A, W, rfl, rfl, -⟩
  exact ⟨_, _, _, rfl, rfl⟩
def kX0_choose : List (Nat × Jvm.ClassFile.Instr × Nat) := [(0, .aload_n 0, 1), (1, .iconst 0, 1), (2, .putfield 17, 3), (5, .iconst 0, 1), (6, .istore_n 2, 1), (7, .iload_n 2, 1), (8, .bipush 6, 2), (10, .if_icmp .ge 45, 3), (13, .aload_n 1, 1), (14, .iload_n 2, 1), (15, .invokevirtual 113, 3), (18, .ifCond .ne 31, 3), (21, .aload_n 0, 1), (22, .getfield 17, 3), (25, .iconst 4, 1), (26, .if_icmp .ge 23, 3), (29, .aload_n 0, 1), (30, .getfield 13, 3), (33, .aload_n 0, 1), (34, .getfield 17, 3), (37, .iload_n 2, 1), (38, .iastore, 1), (39, .aload_n 0, 1), (40, .dup, 1), (41, .getfield 17, 3), (44, .iconst 1, 1), (45, .iadd, 1), (46, .putfield 17, 3), (49, .iinc 2 1, 3), (52, .goto (-45), 3), (55, .return_, 1)]
theorem kX0_choose_0 : cdOf kX0_choose 0 = some (.aload_n 0, 1) := by decide +kernel
theorem kX0_choose_1 : cdOf kX0_choose 1 = some (.iconst 0, 1) := by decide +kernel
theorem kX0_choose_2 : cdOf kX0_choose 2 = some (.putfield 17, 3) := by decide +kernel
theorem kX0_choose_5 : cdOf kX0_choose 5 = some (.iconst 0, 1) := by decide +kernel
theorem kX0_choose_6 : cdOf kX0_choose 6 = some (.istore_n 2, 1) := by decide +kernel
theorem kX0_choose_7 : cdOf kX0_choose 7 = some (.iload_n 2, 1) := by decide +kernel
theorem kX0_choose_8 : cdOf kX0_choose 8 = some (.bipush 6, 2) := by decide +kernel
theorem kX0_choose_10 : cdOf kX0_choose 10 = some (.if_icmp .ge 45, 3) := by decide +kernel
theorem kX0_choose_13 : cdOf kX0_choose 13 = some (.aload_n 1, 1) := by decide +kernel
theorem kX0_choose_14 : cdOf kX0_choose 14 = some (.iload_n 2, 1) := by decide +kernel
theorem kX0_choose_15 : cdOf kX0_choose 15 = some (.invokevirtual 113, 3) := by decide +kernel
theorem kX0_choose_18 : cdOf kX0_choose 18 = some (.ifCond .ne 31, 3) := by decide +kernel
theorem kX0_choose_21 : cdOf kX0_choose 21 = some (.aload_n 0, 1) := by decide +kernel
theorem kX0_choose_22 : cdOf kX0_choose 22 = some (.getfield 17, 3) := by decide +kernel
theorem kX0_choose_25 : cdOf kX0_choose 25 = some (.iconst 4, 1) := by decide +kernel
theorem kX0_choose_26 : cdOf kX0_choose 26 = some (.if_icmp .ge 23, 3) := by decide +kernel
theorem kX0_choose_29 : cdOf kX0_choose 29 = some (.aload_n 0, 1) := by decide +kernel
theorem kX0_choose_30 : cdOf kX0_choose 30 = some (.getfield 13, 3) := by decide +kernel
theorem kX0_choose_33 : cdOf kX0_choose 33 = some (.aload_n 0, 1) := by decide +kernel
theorem kX0_choose_34 : cdOf kX0_choose 34 = some (.getfield 17, 3) := by decide +kernel
theorem kX0_choose_37 : cdOf kX0_choose 37 = some (.iload_n 2, 1) := by decide +kernel
theorem kX0_choose_38 : cdOf kX0_choose 38 = some (.iastore, 1) := by decide +kernel
theorem kX0_choose_39 : cdOf kX0_choose 39 = some (.aload_n 0, 1) := by decide +kernel
theorem kX0_choose_40 : cdOf kX0_choose 40 = some (.dup, 1) := by decide +kernel
theorem kX0_choose_41 : cdOf kX0_choose 41 = some (.getfield 17, 3) := by decide +kernel
theorem kX0_choose_44 : cdOf kX0_choose 44 = some (.iconst 1, 1) := by decide +kernel
theorem kX0_choose_45 : cdOf kX0_choose 45 = some (.iadd, 1) := by decide +kernel
theorem kX0_choose_46 : cdOf kX0_choose 46 = some (.putfield 17, 3) := by decide +kernel
theorem kX0_choose_49 : cdOf kX0_choose 49 = some (.iinc 2 1, 3) := by decide +kernel
theorem kX0_choose_52 : cdOf kX0_choose 52 = some (.goto (-45), 3) := by decide +kernel
theorem kX0_choose_55 : cdOf kX0_choose 55 = some (.return_, 1) := by decide +kernel
set_option maxRecDepth 20000 in
theorem kX0_choose_ok : ∀ pc i len, cdOf kX0_choose pc = some (i, len) → decode cX0_choose pc = .ok (i, len) ∧ stOK 3 i = true ∧ jOK pc i = true ∧ eLen i len = true := cdOf_ok cX0_choose 3 kX0_choose (by decide +kernel)
def vtX0_choose : Nat → Option (Nat × eSp) := fun k => match k with
  | 113 => some (2, SX3_isLead)
  | _ => none
theorem vtX0_choose_113 : vtX0_choose 113 = some (2, SX3_isLead) := rfl
def stX0_choose : Nat → Option (Nat × eSp) := fun _ => none
abbrev TX0_choose : eT := (fl_RX0, cl_RX0, dl_RX0, vtX0_choose, stX0_choose)
set_option maxRecDepth 20000 in
theorem caX0_choose : eCalls RX0 { frames := 1, cells := 0, slots := 0, locals := 21 } TX0_choose := by
  refine ⟨fun k n sp h => ?_, fun k n sp h => ?_⟩
  · dsimp only [TX0_choose] at h
    unfold vtX0_choose at h
    split at h
    · cases h; exact eV_mk mX3_isLead wX3_isLead (by decide +kernel) (Or.inl (gW_at 600 (by decide +kernel) rfl))
    · cases h
  · cases h
set_option maxRecDepth 100000 in
set_option maxHeartbeats 4000000 in
theorem sX0_choose : eSafe TX0_choose (cdOf kX0_choose) 3 none SX0_choose := by
  intro K rt hK as M h
  obtain ⟨F, A, W, rfl, rfl, hL, h⟩ := h
  refine ⟨by simp [eE], ?_⟩
  have loop : ∀ (d i : Nat), i + d = 6 → K 7 [some (eR (1, 4)), some (eR (1, 3)), some (eI i)] [] (cC (uF F 5 (chG (A 2) (A 4) i).2) (uA A 4 (chG (A 2) (A 4) i).1) W) := by
    intro d
    induction d with
    | zero =>
      intro i hi
      have : i = 6 := by omega
      subst this
      refine x_iload_n hK kX0_choose_7 (q := 8) rfl rfl ?_
      refine x_bipush hK kX0_choose_8 (q := 10) rfl (by decide) ?_
      refine x_icmp_ge hK kX0_choose_10 (q := 13) rfl (tg := 55) rfl (by refine ⟨?_, ?_⟩ <;> omega) (fun c10 => ?_) (fun c10 => ?_)
      · refine x_return_ hK kX0_choose_55 (by first | trivial | exact Or.inl rfl | exact Or.inr rfl) ?_
        exact h
      · exfalso; omega
    | succ d ih =>
      intro i hi
      have nx := ih (i + 1) (by omega)
      have r := chG_r (A 2) (A 4) i
      unfold chG at nx
      have a2 : ∀ f, uA A 4 f 2 = A 2 := fun f => uA_n _ _ (by decide)
      refine x_iload_n hK kX0_choose_7 (q := 8) rfl rfl ?_
      refine x_bipush hK kX0_choose_8 (q := 10) rfl (by decide) ?_
      refine x_icmp_ge hK kX0_choose_10 (q := 13) rfl (tg := 55) rfl (by refine ⟨?_, ?_⟩ <;> omega) (fun c10 => ?_) (fun c10 => ?_)
      · exfalso; omega
      · refine x_aload_n hK kX0_choose_13 (q := 14) rfl rfl ?_
        refine x_iload_n hK kX0_choose_14 (q := 15) rfl rfl ?_
        refine x_cv2 hK kX0_choose_15 (q := 18) rfl (vtX0_choose_113) (Nat.le_of_ble_eq_true rfl) ?_
        refine SX3_isLead_i ⟨by omega, by omega⟩ (by rw [a2]; exact hL) ?_
        rw [a2]
        refine x_if_ne hK kX0_choose_18 (q := 21) rfl (tg := 49) rfl (by exact zE_w _) (fun c18 => ?_) (fun c18 => ?_)
        · rw [if_pos (ldb_t c18)] at nx
          first | rw [uF_u] | skip
          refine x_iinc hK kX0_choose_49 (q := 52) rfl rfl ?_
          simp only [lS, lS2, clr_0, clr_I, clr_L, clr_R]
          refine x_goto hK kX0_choose_52 (tg := 7) rfl ?_
          rw [show (i : Int) + 1 = ((i + 1 : Nat) : Int) by omega]
          exact nx
        · rw [if_neg (by rw [ldb_f (Decidable.not_not.mp c18)]; exact fun e => by cases e)] at nx
          refine x_aload_n hK kX0_choose_21 (q := 22) rfl rfl ?_
          refine x_getfield hK kX0_choose_22 (q := 25) rfl (gX0_17 ?_)
          refine x_iconst hK kX0_choose_25 (q := 26) rfl ?_
          rw [uF_g]
          refine x_icmp_ge hK kX0_choose_26 (q := 29) rfl (tg := 49) rfl (by refine ⟨?_, ?_⟩ <;> omega) (fun c26 => ?_) (fun c26 => ?_)
          · rw [if_neg (by omega)] at nx
            first | rw [uF_u] | skip
            refine x_iinc hK kX0_choose_49 (q := 52) rfl rfl ?_
            simp only [lS, lS2, clr_0, clr_I, clr_L, clr_R]
            refine x_goto hK kX0_choose_52 (tg := 7) rfl ?_
            rw [show (i : Int) + 1 = ((i + 1 : Nat) : Int) by omega]
            exact nx
          · rw [if_pos (by omega)] at nx
            refine x_aload_n hK kX0_choose_29 (q := 30) rfl rfl ?_
            refine x_getfield hK kX0_choose_30 (q := 33) rfl (gX0_13 ?_)
            refine x_aload_n hK kX0_choose_33 (q := 34) rfl rfl ?_
            refine x_getfield hK kX0_choose_34 (q := 37) rfl (gX0_17 ?_)
            rw [uF_g]
            refine x_iload_n hK kX0_choose_37 (q := 38) rfl rfl ?_
            refine x_iastore hK kX0_choose_38 (q := 39) rfl (yC0_2 (by refine ⟨?_, ?_⟩ <;> omega) ?_)
            rw [uA_g, uA_u]
            refine x_aload_n hK kX0_choose_39 (q := 40) rfl rfl ?_
            refine x_dupR hK kX0_choose_40 (q := 41) rfl ?_
            refine x_getfield hK kX0_choose_41 (q := 44) rfl (gX0_17 ?_)
            rw [uF_g]
            refine x_iconst hK kX0_choose_44 (q := 45) rfl ?_
            refine x_iadd hK kX0_choose_45 (q := 46) rfl ?_
            refine x_putfield hK kX0_choose_46 (q := 49) rfl (pX0_17 ?_)
            first | rw [uF_u] | skip
            refine x_iinc hK kX0_choose_49 (q := 52) rfl rfl ?_
            simp only [lS, lS2, clr_0, clr_I, clr_L, clr_R]
            refine x_goto hK kX0_choose_52 (tg := 7) rfl ?_
            rw [show (i : Int) + 1 = ((i + 1 : Nat) : Int) by omega]
            exact nx
  simp only [eLoc, eE, List.length_cons, List.length_nil, List.replicate, List.cons_append, List.nil_append, Nat.reduceAdd, Nat.reduceSub]
  refine x_aload_n hK kX0_choose_0 (q := 1) rfl rfl ?_
  refine x_iconst hK kX0_choose_1 (q := 2) rfl ?_
  refine x_putfield hK kX0_choose_2 (q := 5) rfl (pX0_17 ?_)
  refine x_iconst hK kX0_choose_5 (q := 6) rfl ?_
  refine x_istore_n hK kX0_choose_6 (q := 7) (jn := 2) rfl rfl ?_
  simp only [lS, lS2, clr_0, clr_I, clr_L, clr_R]
  exact x_to (loop 6 0 rfl) rfl rfl (by show _ = cC (uF F 5 0) (uA A 4 (A 4)) W; rw [uA_s])
set_option maxRecDepth 20000 in
theorem mX0_choose : eMet yX0_choose cX0_choose 3 none 1 21 SX0_choose := eMet_of (by decide +kernel) sX0_choose kX0_choose_ok caX0_choose tb_RX0
theorem wX0_choose : eWV yX0_choose cX0_choose 3 none 2 0 SX0_choose := ⟨(gW_at 599 (by decide +kernel) rfl), (gW_at 86 (by decide +kernel) rfl), (gW_at 598 (by decide +kernel) rfl), ⟨_, rfl, (gW_at 17 (by decide +kernel) rfl)⟩, by decide +kernel, SX0_choose_r⟩
def prP (p : Int) (of : Nat) : Int := if of = 0 then p + oD p + 2 else p + oD p + 1
def SX0_product : eSp := fun as M rt => ∃ (F : Nat → Int) (A W : Nat → Int → Int) (of j : Nat), as = [eR (1, 4), eI of, eI j] ∧ M = cC F A W ∧ (of < 2) ∧ ((j : Int) < F 5) ∧ (F 5 ≤ 4) ∧ (w32 (A 4 j)) ∧ (rt (some (eI (prP (A 4 j) of))) (cC F A W))
theorem SX0_product_i {F : Nat → Int} {A W : Nat → Int → Int} {of j : Nat} {rt : Option eV → eM → Prop} (ho : of < 2) (hj : (j : Int) < F 5) (hF : F 5 ≤ 4) (hp : w32 (A 4 j)) (h : rt (some (eI (prP (A 4 j) of))) (cC F A W)) : SX0_product [eR (1, 4), eI of, eI j] (cC F A W) rt := ⟨F, A, W, of, j, rfl, rfl, ho, hj, hF, hp, h⟩
theorem SX0_product_r : ∀ as M rt, SX0_product as M rt → ∃ a r fs, as = eR a :: r ∧ M a = some (.inl (0, fs)) := by
  rintro as M rt ⟨F, A, W, of, j, rfl, rfl, -⟩
  exact ⟨_, _, _, rfl, rfl⟩
def kX0_product : List (Nat × Jvm.ClassFile.Instr × Nat) := [(0, .iload_n 1, 1), (1, .ifCond .ne 14, 3), (4, .aload_n 0, 1), (5, .iload_n 2, 1), (6, .invokevirtual 119, 3), (9, .invokestatic 123, 3), (12, .goto 11, 3), (15, .aload_n 0, 1), (16, .iload_n 2, 1), (17, .invokevirtual 119, 3), (20, .invokestatic 126, 3), (23, .ireturn, 1)]
theorem kX0_product_0 : cdOf kX0_product 0 = some (.iload_n 1, 1) := by decide +kernel
theorem kX0_product_1 : cdOf kX0_product 1 = some (.ifCond .ne 14, 3) := by decide +kernel
theorem kX0_product_4 : cdOf kX0_product 4 = some (.aload_n 0, 1) := by decide +kernel
theorem kX0_product_5 : cdOf kX0_product 5 = some (.iload_n 2, 1) := by decide +kernel
theorem kX0_product_6 : cdOf kX0_product 6 = some (.invokevirtual 119, 3) := by decide +kernel
theorem kX0_product_9 : cdOf kX0_product 9 = some (.invokestatic 123, 3) := by decide +kernel
theorem kX0_product_12 : cdOf kX0_product 12 = some (.goto 11, 3) := by decide +kernel
theorem kX0_product_15 : cdOf kX0_product 15 = some (.aload_n 0, 1) := by decide +kernel
theorem kX0_product_16 : cdOf kX0_product 16 = some (.iload_n 2, 1) := by decide +kernel
theorem kX0_product_17 : cdOf kX0_product 17 = some (.invokevirtual 119, 3) := by decide +kernel
theorem kX0_product_20 : cdOf kX0_product 20 = some (.invokestatic 126, 3) := by decide +kernel
theorem kX0_product_23 : cdOf kX0_product 23 = some (.ireturn, 1) := by decide +kernel
set_option maxRecDepth 20000 in
theorem kX0_product_ok : ∀ pc i len, cdOf kX0_product pc = some (i, len) → decode cX0_product pc = .ok (i, len) ∧ stOK 3 i = true ∧ jOK pc i = true ∧ eLen i len = true := cdOf_ok cX0_product 3 kX0_product (by decide +kernel)
def vtX0_product : Nat → Option (Nat × eSp) := fun k => match k with
  | 119 => some (2, SX0_place)
  | _ => none
theorem vtX0_product_119 : vtX0_product 119 = some (2, SX0_place) := rfl
def stX0_product : Nat → Option (Nat × eSp) := fun k => match k with
  | 123 => some (1, SX5_timesX)
  | 126 => some (1, SX5_timesY)
  | _ => none
theorem stX0_product_123 : stX0_product 123 = some (1, SX5_timesX) := rfl
theorem stX0_product_126 : stX0_product 126 = some (1, SX5_timesY) := rfl
abbrev TX0_product : eT := (fl_RX0, cl_RX0, dl_RX0, vtX0_product, stX0_product)
set_option maxRecDepth 20000 in
theorem caX0_product : eCalls RX0 { frames := 2, cells := 0, slots := 0, locals := 40 } TX0_product := by
  refine ⟨fun k n sp h => ?_, fun k n sp h => ?_⟩
  · dsimp only [TX0_product] at h
    unfold vtX0_product at h
    split at h
    · cases h; exact eV_mk mX0_place wX0_place (by decide +kernel) (Or.inl (gW_at 610 (by decide +kernel) rfl))
    · cases h
  · dsimp only [TX0_product] at h
    unfold stX0_product at h
    split at h
    · cases h; exact eS_mk mX5_timesX wX5_timesX (by decide +kernel) (Or.inl (gW_at 614 (by decide +kernel) rfl))
    · cases h; exact eS_mk mX5_timesY wX5_timesY (by decide +kernel) (Or.inl (gW_at 615 (by decide +kernel) rfl))
    · cases h
set_option maxRecDepth 100000 in
set_option maxHeartbeats 4000000 in
theorem sX0_product : eSafe TX0_product (cdOf kX0_product) 3 (some .int) SX0_product := by
  intro K rt hK as M h
  obtain ⟨F, A, W, of, j, rfl, rfl, ho, hj, hF, hp, h⟩ := h
  refine ⟨by simp [eE], ?_⟩
  have e : plI (A 4) (F 5) j = A 4 j := by unfold plI; rw [if_pos ⟨by omega, hj, by omega⟩]
  unfold prP at h
  simp only [eLoc, eE, List.length_cons, List.length_nil, List.replicate, List.cons_append, List.nil_append, Nat.reduceAdd, Nat.reduceSub]
  refine x_iload_n hK kX0_product_0 (q := 1) rfl rfl ?_
  refine x_if_ne hK kX0_product_1 (q := 4) rfl (tg := 15) rfl (by omega) (fun c1 => ?_) (fun c1 => ?_)
  · rw [if_neg (by omega)] at h
    refine x_aload_n hK kX0_product_15 (q := 16) rfl rfl ?_
    refine x_iload_n hK kX0_product_16 (q := 17) rfl rfl ?_
    refine x_cv2 hK kX0_product_17 (q := 20) rfl (vtX0_product_119) (Nat.le_of_ble_eq_true rfl) ?_
    refine SX0_place_i ⟨by omega, by omega⟩ ⟨by omega, by omega⟩ ?_
    rw [e]
    refine x_cs1 hK kX0_product_20 (q := 23) rfl (stX0_product_126) (Nat.le_of_ble_eq_true rfl) ?_
    refine SX5_timesY_i hp ?_
    refine x_ireturn hK kX0_product_23 (by first | trivial | exact Or.inl rfl | exact Or.inr rfl) ?_
    exact h
  · rw [if_pos (by omega)] at h
    refine x_aload_n hK kX0_product_4 (q := 5) rfl rfl ?_
    refine x_iload_n hK kX0_product_5 (q := 6) rfl rfl ?_
    refine x_cv2 hK kX0_product_6 (q := 9) rfl (vtX0_product_119) (Nat.le_of_ble_eq_true rfl) ?_
    refine SX0_place_i ⟨by omega, by omega⟩ ⟨by omega, by omega⟩ ?_
    rw [e]
    refine x_cs1 hK kX0_product_9 (q := 12) rfl (stX0_product_123) (Nat.le_of_ble_eq_true rfl) ?_
    refine SX5_timesX_i hp ?_
    refine x_goto hK kX0_product_12 (tg := 23) rfl ?_
    refine x_ireturn hK kX0_product_23 (by first | trivial | exact Or.inl rfl | exact Or.inr rfl) ?_
    exact h
set_option maxRecDepth 20000 in
theorem mX0_product : eMet yX0_product cX0_product 3 (some .int) 2 40 SX0_product := eMet_of (by decide +kernel) sX0_product kX0_product_ok caX0_product tb_RX0
theorem wX0_product : eWV yX0_product cX0_product 3 (some .int) 3 0 SX0_product := ⟨(gW_at 609 (by decide +kernel) rfl), (gW_at 86 (by decide +kernel) rfl), (gW_at 608 (by decide +kernel) rfl), ⟨_, rfl, (gW_at 19 (by decide +kernel) rfl)⟩, by decide +kernel, SX0_product_r⟩
/-- the scale: one step -/
def fsS (V : Nat → Int) (L : Int → Int) (p x : Int) : Int := if ldb L p = true then x / (Int.gcd x (V (rb p.toNat + p.toNat)) : Int) * V (rb p.toNat + p.toNat) else x
def fsJ (V : Nat → Int) (L st : Int → Int) (of : Nat) (x : Int) : Nat → Int
  | 0 => x
  | j + 1 => fsS V L (prP (st j) of) (fsJ V L st of x j)
theorem prP_r : ∀ of : Fin 2, ∀ p : Fin 6, 0 ≤ prP (p.val : Nat) of.val ∧ prP (p.val : Nat) of.val < 10 := by decide +kernel
theorem prP_n {of : Nat} {p : Int} (ho : of < 2) (h : 0 ≤ p ∧ p < 6) : 0 ≤ prP p of ∧ prP p of < 10 := by
  have := prP_r ⟨of, ho⟩ ⟨p.toNat, by omega⟩
  rw [show (((⟨p.toNat, by omega⟩ : Fin 6).val : Nat) : Int) = p by show ((p.toNat : Nat) : Int) = p; omega] at this
  exact this
theorem fsS_h {V : Nat → Int} {L : Int → Int} {p x Δ : Int} (x0 : 0 < x) (xd : x ∣ Δ) (hp : ldb L p = true → 0 < V (rb p.toNat + p.toNat) ∧ V (rb p.toNat + p.toNat) ∣ Δ) : 0 < fsS V L p x ∧ fsS V L p x ∣ Δ := by
  unfold fsS
  split
  · rename_i g
    have q := lcm_h x0 (hp g).1 xd (hp g).2
    exact ⟨q.1, q.2.1⟩
  · exact ⟨x0, xd⟩
theorem fsJ_h {V : Nat → Int} {L st : Int → Int} {of n : Nat} {x Δ : Int} (x0 : 0 < x) (xd : x ∣ Δ) (hp : ∀ j : Nat, j < n → ldb L (prP (st j) of) = true → 0 < V (rb (prP (st j) of).toNat + (prP (st j) of).toNat) ∧ V (rb (prP (st j) of).toNat + (prP (st j) of).toNat) ∣ Δ) : ∀ m, m ≤ n → 0 < fsJ V L st of x m ∧ fsJ V L st of x m ∣ Δ
  | 0, _ => ⟨x0, xd⟩
  | m + 1, hm => by
    have ih := fsJ_h x0 xd hp m (by omega)
    exact fsS_h ih.1 ih.2 (hp m (by omega))
theorem fs_c {V V' : Nat → Int} {L st : Int → Int} {of : Nat} {x : Int} {n : Nat} (hst : ∀ j : Nat, j < n → 0 ≤ st j ∧ st j < 6) (ho : of < 2) (e : ∀ t, 10 ≤ t → t < 120 → V' t = V t) : ∀ m, m ≤ n → fsJ V' L st of x m = fsJ V L st of x m
  | 0, _ => rfl
  | m + 1, hm => by
    unfold fsJ fsS
    have r := prP_n ho (hst m (by omega))
    have rr := rb_11 (show (prP (st m) of).toNat < 11 by omega)
    rw [fs_c hst ho e m (by omega), e _ (by omega) (by omega)]
def scl (V : Nat → Int) (L st : Int → Int) (n : Nat) : Int := fsJ V L st 1 (fsJ V L st 0 1 n) n
def SX0_findScale : eSp := fun as M rt => ∃ (F : Nat → Int) (A W : Nat → Int → Int) (V : Nat → Int) (n : Nat) (Δ : Int), as = [eR (1, 4), eR (1, 3)] ∧ M = cC F A W ∧ (aR W V) ∧ (∀ i : Int, 0 ≤ i → i < 10 → A 2 i = 0 ∨ A 2 i = 1) ∧ (F 5 = n) ∧ (n ≤ 4) ∧ (∀ j : Nat, j < n → 0 ≤ A 4 j ∧ A 4 j < 6) ∧ (0 < Δ ∧ Δ ≤ 2 ^ 400) ∧ (∀ of : Nat, of < 2 → ∀ j : Nat, j < n → ldb (A 2) (prP (A 4 j) of) = true → 0 < V (rb (prP (A 4 j) of).toNat + (prP (A 4 j) of).toNat) ∧ V (rb (prP (A 4 j) of).toNat + (prP (A 4 j) of).toNat) ∣ Δ) ∧ (∀ W', aR W' (vU (vU V 328 (scl V (A 2) (A 4) n)) 329 (scl V (A 2) (A 4) n * scl V (A 2) (A 4) n)) → rt none (cC F A W'))
theorem SX0_findScale_i {F : Nat → Int} {A W : Nat → Int → Int} {V : Nat → Int} {n : Nat} {Δ : Int} {rt : Option eV → eM → Prop} (hV : aR W V) (hL : ∀ i : Int, 0 ≤ i → i < 10 → A 2 i = 0 ∨ A 2 i = 1) (hn : F 5 = n) (n4 : n ≤ 4) (hst : ∀ j : Nat, j < n → 0 ≤ A 4 j ∧ A 4 j < 6) (hΔ : 0 < Δ ∧ Δ ≤ 2 ^ 400) (hd : ∀ of : Nat, of < 2 → ∀ j : Nat, j < n → ldb (A 2) (prP (A 4 j) of) = true → 0 < V (rb (prP (A 4 j) of).toNat + (prP (A 4 j) of).toNat) ∧ V (rb (prP (A 4 j) of).toNat + (prP (A 4 j) of).toNat) ∣ Δ) (h : ∀ W', aR W' (vU (vU V 328 (scl V (A 2) (A 4) n)) 329 (scl V (A 2) (A 4) n * scl V (A 2) (A 4) n)) → rt none (cC F A W')) : SX0_findScale [eR (1, 4), eR (1, 3)] (cC F A W) rt := ⟨F, A, W, V, n, Δ, rfl, rfl, hV, hL, hn, n4, hst, hΔ, hd, h⟩
theorem SX0_findScale_r : ∀ as M rt, SX0_findScale as M rt → ∃ a r fs, as = eR a :: r ∧ M a = some (.inl (0, fs)) := by
  rintro as M rt ⟨F, A, W, V, n, Δ, rfl, rfl, -⟩
  exact ⟨_, _, _, rfl, rfl⟩
def kX0_findScale : List (Nat × Jvm.ClassFile.Instr × Nat) := [(0, .aload_n 0, 1), (1, .getfield 50, 3), (4, .lconst 1, 1), (5, .invokevirtual 129, 3), (8, .iconst 0, 1), (9, .istore_n 2, 1), (10, .iload_n 2, 1), (11, .iconst 2, 1), (12, .if_icmp .ge 61, 3), (15, .iconst 0, 1), (16, .istore_n 3, 1), (17, .iload_n 3, 1), (18, .aload_n 0, 1), (19, .getfield 17, 3), (22, .if_icmp .ge 45, 3), (25, .aload_n 0, 1), (26, .iload_n 2, 1), (27, .iload_n 3, 1), (28, .invokevirtual 133, 3), (31, .istore 4, 2), (33, .aload_n 1, 1), (34, .iload 4, 2), (36, .invokevirtual 113, 3), (39, .ifCond .eq 22, 3), (42, .aload_n 0, 1), (43, .getfield 63, 3), (46, .aload_n 0, 1), (47, .getfield 50, 3), (50, .aload_n 1, 1), (51, .iload 4, 2), (53, .iload 4, 2), (55, .invokevirtual 137, 3), (58, .invokevirtual 141, 3), (61, .iinc 3 1, 3), (64, .goto (-47), 3), (67, .iinc 2 1, 3), (70, .goto (-60), 3), (73, .aload_n 0, 1), (74, .getfield 54, 3), (77, .aload_n 0, 1), (78, .getfield 50, 3), (81, .aload_n 0, 1), (82, .getfield 50, 3), (85, .invokevirtual 147, 3), (88, .return_, 1)]
theorem kX0_findScale_0 : cdOf kX0_findScale 0 = some (.aload_n 0, 1) := by decide +kernel
theorem kX0_findScale_1 : cdOf kX0_findScale 1 = some (.getfield 50, 3) := by decide +kernel
theorem kX0_findScale_4 : cdOf kX0_findScale 4 = some (.lconst 1, 1) := by decide +kernel
theorem kX0_findScale_5 : cdOf kX0_findScale 5 = some (.invokevirtual 129, 3) := by decide +kernel
theorem kX0_findScale_8 : cdOf kX0_findScale 8 = some (.iconst 0, 1) := by decide +kernel
theorem kX0_findScale_9 : cdOf kX0_findScale 9 = some (.istore_n 2, 1) := by decide +kernel
theorem kX0_findScale_10 : cdOf kX0_findScale 10 = some (.iload_n 2, 1) := by decide +kernel
theorem kX0_findScale_11 : cdOf kX0_findScale 11 = some (.iconst 2, 1) := by decide +kernel
theorem kX0_findScale_12 : cdOf kX0_findScale 12 = some (.if_icmp .ge 61, 3) := by decide +kernel
theorem kX0_findScale_15 : cdOf kX0_findScale 15 = some (.iconst 0, 1) := by decide +kernel
theorem kX0_findScale_16 : cdOf kX0_findScale 16 = some (.istore_n 3, 1) := by decide +kernel
theorem kX0_findScale_17 : cdOf kX0_findScale 17 = some (.iload_n 3, 1) := by decide +kernel
theorem kX0_findScale_18 : cdOf kX0_findScale 18 = some (.aload_n 0, 1) := by decide +kernel
theorem kX0_findScale_19 : cdOf kX0_findScale 19 = some (.getfield 17, 3) := by decide +kernel
theorem kX0_findScale_22 : cdOf kX0_findScale 22 = some (.if_icmp .ge 45, 3) := by decide +kernel
theorem kX0_findScale_25 : cdOf kX0_findScale 25 = some (.aload_n 0, 1) := by decide +kernel
theorem kX0_findScale_26 : cdOf kX0_findScale 26 = some (.iload_n 2, 1) := by decide +kernel
theorem kX0_findScale_27 : cdOf kX0_findScale 27 = some (.iload_n 3, 1) := by decide +kernel
theorem kX0_findScale_28 : cdOf kX0_findScale 28 = some (.invokevirtual 133, 3) := by decide +kernel
theorem kX0_findScale_31 : cdOf kX0_findScale 31 = some (.istore 4, 2) := by decide +kernel
theorem kX0_findScale_33 : cdOf kX0_findScale 33 = some (.aload_n 1, 1) := by decide +kernel
theorem kX0_findScale_34 : cdOf kX0_findScale 34 = some (.iload 4, 2) := by decide +kernel
theorem kX0_findScale_36 : cdOf kX0_findScale 36 = some (.invokevirtual 113, 3) := by decide +kernel
theorem kX0_findScale_39 : cdOf kX0_findScale 39 = some (.ifCond .eq 22, 3) := by decide +kernel
theorem kX0_findScale_42 : cdOf kX0_findScale 42 = some (.aload_n 0, 1) := by decide +kernel
theorem kX0_findScale_43 : cdOf kX0_findScale 43 = some (.getfield 63, 3) := by decide +kernel
theorem kX0_findScale_46 : cdOf kX0_findScale 46 = some (.aload_n 0, 1) := by decide +kernel
theorem kX0_findScale_47 : cdOf kX0_findScale 47 = some (.getfield 50, 3) := by decide +kernel
theorem kX0_findScale_50 : cdOf kX0_findScale 50 = some (.aload_n 1, 1) := by decide +kernel
theorem kX0_findScale_51 : cdOf kX0_findScale 51 = some (.iload 4, 2) := by decide +kernel
theorem kX0_findScale_53 : cdOf kX0_findScale 53 = some (.iload 4, 2) := by decide +kernel
theorem kX0_findScale_55 : cdOf kX0_findScale 55 = some (.invokevirtual 137, 3) := by decide +kernel
theorem kX0_findScale_58 : cdOf kX0_findScale 58 = some (.invokevirtual 141, 3) := by decide +kernel
theorem kX0_findScale_61 : cdOf kX0_findScale 61 = some (.iinc 3 1, 3) := by decide +kernel
theorem kX0_findScale_64 : cdOf kX0_findScale 64 = some (.goto (-47), 3) := by decide +kernel
theorem kX0_findScale_67 : cdOf kX0_findScale 67 = some (.iinc 2 1, 3) := by decide +kernel
theorem kX0_findScale_70 : cdOf kX0_findScale 70 = some (.goto (-60), 3) := by decide +kernel
theorem kX0_findScale_73 : cdOf kX0_findScale 73 = some (.aload_n 0, 1) := by decide +kernel
theorem kX0_findScale_74 : cdOf kX0_findScale 74 = some (.getfield 54, 3) := by decide +kernel
theorem kX0_findScale_77 : cdOf kX0_findScale 77 = some (.aload_n 0, 1) := by decide +kernel
theorem kX0_findScale_78 : cdOf kX0_findScale 78 = some (.getfield 50, 3) := by decide +kernel
theorem kX0_findScale_81 : cdOf kX0_findScale 81 = some (.aload_n 0, 1) := by decide +kernel
theorem kX0_findScale_82 : cdOf kX0_findScale 82 = some (.getfield 50, 3) := by decide +kernel
theorem kX0_findScale_85 : cdOf kX0_findScale 85 = some (.invokevirtual 147, 3) := by decide +kernel
theorem kX0_findScale_88 : cdOf kX0_findScale 88 = some (.return_, 1) := by decide +kernel
set_option maxRecDepth 20000 in
theorem kX0_findScale_ok : ∀ pc i len, cdOf kX0_findScale pc = some (i, len) → decode cX0_findScale pc = .ok (i, len) ∧ stOK 5 i = true ∧ jOK pc i = true ∧ eLen i len = true := cdOf_ok cX0_findScale 5 kX0_findScale (by decide +kernel)
def vtX0_findScale : Nat → Option (Nat × eSp) := fun k => match k with
  | 129 => some (2, SX8_set)
  | 133 => some (3, SX0_product)
  | 113 => some (2, SX3_isLead)
  | 137 => some (3, SX3_part)
  | 141 => some (3, SX1_spread)
  | 147 => some (3, SX8_setProduct)
  | _ => none
theorem vtX0_findScale_129 : vtX0_findScale 129 = some (2, SX8_set) := rfl
theorem vtX0_findScale_133 : vtX0_findScale 133 = some (3, SX0_product) := rfl
theorem vtX0_findScale_113 : vtX0_findScale 113 = some (2, SX3_isLead) := rfl
theorem vtX0_findScale_137 : vtX0_findScale 137 = some (3, SX3_part) := rfl
theorem vtX0_findScale_141 : vtX0_findScale 141 = some (3, SX1_spread) := rfl
theorem vtX0_findScale_147 : vtX0_findScale 147 = some (3, SX8_setProduct) := rfl
def stX0_findScale : Nat → Option (Nat × eSp) := fun _ => none
abbrev TX0_findScale : eT := (fl_RX0, cl_RX0, dl_RX0, vtX0_findScale, stX0_findScale)
set_option maxRecDepth 20000 in
theorem caX0_findScale : eCalls RX0 { frames := 4, cells := 0, slots := 0, locals := 112 } TX0_findScale := by
  refine ⟨fun k n sp h => ?_, fun k n sp h => ?_⟩
  · dsimp only [TX0_findScale] at h
    unfold vtX0_findScale at h
    split at h
    · cases h; exact eV_mk mX8_set wX8_set (by decide +kernel) (Or.inl (gW_at 605 (by decide +kernel) rfl))
    · cases h; exact eV_mk mX0_product wX0_product (by decide +kernel) (Or.inl (gW_at 606 (by decide +kernel) rfl))
    · cases h; exact eV_mk mX3_isLead wX3_isLead (by decide +kernel) (Or.inl (gW_at 600 (by decide +kernel) rfl))
    · cases h; exact eV_mk mX3_part wX3_part (by decide +kernel) (Or.inl (gW_at 616 (by decide +kernel) rfl))
    · cases h; exact eV_mk mX1_spread wX1_spread (by decide +kernel) (Or.inl (gW_at 620 (by decide +kernel) rfl))
    · cases h; exact eV_mk mX8_setProduct wX8_setProduct (by decide +kernel) (Or.inl (gW_at 628 (by decide +kernel) rfl))
    · cases h
  · cases h
set_option maxRecDepth 100000 in
set_option maxHeartbeats 4000000 in
theorem sX0_findScale : eSafe TX0_findScale (cdOf kX0_findScale) 5 none SX0_findScale := by
  intro K rt hK as M h
  obtain ⟨F, A, W, V, n, Δ, rfl, rfl, hV, hL, hn, n4, hst, hΔ, hd, h⟩ := h
  refine ⟨by simp [eE], ?_⟩
  have bd : ∀ x : Int, 0 < x → x ∣ Δ → zAbs x ≤ 2 ^ 400 := fun x x0 xd => by
    rw [zAbs_nn (by omega)]
    have := Int.le_of_dvd hΔ.1 xd
    omega
  have fin : ∀ (W1 : Nat → Int → Int) (u3 u4 : Option eV) (x : Int), x = scl V (A 2) (A 4) n → 0 < x → x ∣ Δ → aR W1 (vU V 328 x) → K 73 [some (eR (1, 4)), some (eR (1, 3)), some (eI 2), u3, u4] [] (cC F A W1) := by
    intro W1 u3 u4 x ex x0 xd ha
    have b := bd x x0 xd
    refine x_aload_n hK kX0_findScale_73 (q := 74) rfl rfl ?_
    refine x_getfield hK kX0_findScale_74 (q := 77) rfl (gX0_54 ?_)
    refine x_aload_n hK kX0_findScale_77 (q := 78) rfl rfl ?_
    refine x_getfield hK kX0_findScale_78 (q := 81) rfl (gX0_50 ?_)
    refine x_aload_n hK kX0_findScale_81 (q := 82) rfl rfl ?_
    refine x_getfield hK kX0_findScale_82 (q := 85) rfl (gX0_50 ?_)
    refine x_cv3 hK kX0_findScale_85 (q := 88) rfl (vtX0_findScale_147) (Nat.le_of_ble_eq_true rfl) ?_
    refine setProduct_a (m := 400) (n := 400) ha (by decide) (by decide) (by decide) (by decide) (by decide) (by decide) (by decide) (by decide) (by rw [vU_s]; exact b) (by rw [vU_s]; exact b) (by decide) (fun W2 h2 => ?_)
    rw [vU_s, ex] at h2
    refine x_return_ hK kX0_findScale_88 (by first | trivial | exact Or.inl rfl | exact Or.inr rfl) ?_
    exact h W2 h2
  have inner : ∀ (of : Nat) (x : Int), of < 2 → 0 < x → x ∣ Δ → (∀ (W1 : Nat → Int → Int) (u3 u4 : Option eV), aR W1 (vU V 328 (fsJ V (A 2) (A 4) of x n)) → K 10 [some (eR (1, 4)), some (eR (1, 3)), some (eI ((of + 1 : Nat) : Int)), u3, u4] [] (cC F A W1)) → ∀ (d j : Nat) (W1 : Nat → Int → Int) (u4 : Option eV), j + d = n → aR W1 (vU V 328 (fsJ V (A 2) (A 4) of x j)) → K 17 [some (eR (1, 4)), some (eR (1, 3)), some (eI of), some (eI j), u4] [] (cC F A W1) := by
    intro of x ho x0 xd cont d
    induction d with
    | zero =>
      intro j W1 u4 hj ha
      have : j = n := by omega
      subst this
      refine x_iload_n hK kX0_findScale_17 (q := 18) rfl rfl ?_
      refine x_aload_n hK kX0_findScale_18 (q := 19) rfl rfl ?_
      refine x_getfield hK kX0_findScale_19 (q := 22) rfl (gX0_17 ?_)
      rw [hn]
      refine x_icmp_ge hK kX0_findScale_22 (q := 25) rfl (tg := 67) rfl (by refine ⟨?_, ?_⟩ <;> omega) (fun c22 => ?_) (fun c22 => ?_)
      · refine x_iinc hK kX0_findScale_67 (q := 70) rfl rfl ?_
        simp only [lS, lS2, clr_0, clr_I, clr_L, clr_R]
        refine x_goto hK kX0_findScale_70 (tg := 10) rfl ?_
        rw [show (of : Int) + 1 = ((of + 1 : Nat) : Int) by omega]
        exact cont W1 _ _ ha
      · exfalso; omega
    | succ d ih =>
      intro j W1 u4 hj ha
      have s := hst j (by omega)
      have r := prP_n ho s
      obtain ⟨q, hq⟩ : ∃ q : Nat, prP (A 4 j) of = q := ⟨(prP (A 4 j) of).toNat, by omega⟩
      have rr := rb_11 (show q < 11 by omega)
      have J := fsJ_h (of := of) (V := V) (L := A 2) (st := A 4) (n := n) (x := x) (Δ := Δ) x0 xd (hd of ho) j (by omega)
      have nx := fun W1 u4 => ih (j + 1) W1 u4 (by omega)
      unfold fsJ fsS at nx
      have hdj := hd of ho j (by omega)
      rw [hq] at nx hdj r
      rw [show (q : Int).toNat = q from rfl] at nx hdj
      refine x_iload_n hK kX0_findScale_17 (q := 18) rfl rfl ?_
      refine x_aload_n hK kX0_findScale_18 (q := 19) rfl rfl ?_
      refine x_getfield hK kX0_findScale_19 (q := 22) rfl (gX0_17 ?_)
      rw [hn]
      refine x_icmp_ge hK kX0_findScale_22 (q := 25) rfl (tg := 67) rfl (by refine ⟨?_, ?_⟩ <;> omega) (fun c22 => ?_) (fun c22 => ?_)
      · exfalso; omega
      · refine x_aload_n hK kX0_findScale_25 (q := 26) rfl rfl ?_
        refine x_iload_n hK kX0_findScale_26 (q := 27) rfl rfl ?_
        refine x_iload_n hK kX0_findScale_27 (q := 28) rfl rfl ?_
        refine x_cv3 hK kX0_findScale_28 (q := 31) rfl (vtX0_findScale_133) (Nat.le_of_ble_eq_true rfl) ?_
        refine SX0_product_i ho (by omega) (by omega) ⟨by omega, by omega⟩ ?_
        rw [hq]
        refine x_istore hK kX0_findScale_31 (q := 33) rfl ?_
        refine x_aload_n hK kX0_findScale_33 (q := 34) rfl rfl ?_
        refine x_iload hK kX0_findScale_34 (q := 36) rfl rfl ?_
        simp only [lS, lS2, clr_0, clr_I, clr_L, clr_R]
        refine x_cv2 hK kX0_findScale_36 (q := 39) rfl (vtX0_findScale_113) (Nat.le_of_ble_eq_true rfl) ?_
        refine SX3_isLead_i ⟨by omega, by omega⟩ hL ?_
        refine x_if_eq hK kX0_findScale_39 (q := 42) rfl (tg := 61) rfl (by exact zE_w _) (fun c39 => ?_) (fun c39 => ?_)
        · rw [if_neg (by rw [ldb_f c39]; exact fun e => by cases e)] at nx
          have hfin := fun u4 => nx W1 u4 ha
          refine x_iinc hK kX0_findScale_61 (q := 64) rfl rfl ?_
          simp only [lS, lS2, clr_0, clr_I, clr_L, clr_R]
          refine x_goto hK kX0_findScale_64 (tg := 17) rfl ?_
          rw [show (j : Int) + 1 = ((j + 1 : Nat) : Int) by omega]
          exact hfin _
        · have g := ldb_t c39
          rw [if_pos g] at nx
          have hd2 := hdj g
          have l1 := ((ldb_e (A 2) q).mp g).2.2
          refine x_aload_n hK kX0_findScale_42 (q := 43) rfl rfl ?_
          refine x_getfield hK kX0_findScale_43 (q := 46) rfl (gX0_63 ?_)
          refine x_aload_n hK kX0_findScale_46 (q := 47) rfl rfl ?_
          refine x_getfield hK kX0_findScale_47 (q := 50) rfl (gX0_50 ?_)
          refine x_aload_n hK kX0_findScale_50 (q := 51) rfl rfl ?_
          refine x_iload hK kX0_findScale_51 (q := 53) rfl rfl ?_
          refine x_iload hK kX0_findScale_53 (q := 55) rfl rfl ?_
          refine x_cv3 hK kX0_findScale_55 (q := 58) rfl (vtX0_findScale_137) (Nat.le_of_ble_eq_true rfl) ?_
          refine SX3_part_i (t := q) (q := q) (by omega) (by omega) hL l1 ?_
          refine x_cv3 hK kX0_findScale_58 (q := 61) rfl (vtX0_findScale_141) (Nat.le_of_ble_eq_true rfl) ?_
          refine spread_a (m := 400) (n := 400) ha (by decide) (by decide) (by omega) (by omega) (by omega) (by rw [vU_s]; exact J.1) (by rw [vU_n _ _ (by omega)]; exact hd2.1) (by rw [vU_s]; exact bd _ J.1 J.2) (by rw [vU_n _ _ (by omega)]; exact bd _ hd2.1 hd2.2) (by decide) (fun W2 h2 => ?_)
          rw [vU_s, vU_n _ _ (by omega)] at h2
          have hfin := fun u4 => nx W2 u4 (aR_c h2 (fun t _ _ => by unfold vU; split <;> rfl))
          refine x_iinc hK kX0_findScale_61 (q := 64) rfl rfl ?_
          simp only [lS, lS2, clr_0, clr_I, clr_L, clr_R]
          refine x_goto hK kX0_findScale_64 (tg := 17) rfl ?_
          rw [show (j : Int) + 1 = ((j + 1 : Nat) : Int) by omega]
          exact hfin _
  have J0 := fsJ_h (of := 0) (V := V) (L := A 2) (st := A 4) (n := n) (x := 1) (Δ := Δ) (by decide) ⟨Δ, by omega⟩ (hd 0 (by decide)) n (Nat.le_refl _)
  have J1 := fsJ_h (of := 1) (V := V) (L := A 2) (st := A 4) (n := n) (x := fsJ V (A 2) (A 4) 0 1 n) (Δ := Δ) J0.1 J0.2 (hd 1 (by decide)) n (Nat.le_refl _)
  have s2 : ∀ (W1 : Nat → Int → Int) (u3 u4 : Option eV), aR W1 (vU V 328 (scl V (A 2) (A 4) n)) → K 10 [some (eR (1, 4)), some (eR (1, 3)), some (eI 2), u3, u4] [] (cC F A W1) := by
    intro W1 u3 u4 ha
    refine x_iload_n hK kX0_findScale_10 (q := 11) rfl rfl ?_
    refine x_iconst hK kX0_findScale_11 (q := 12) rfl ?_
    refine x_icmp_ge hK kX0_findScale_12 (q := 15) rfl (tg := 73) rfl (by refine ⟨?_, ?_⟩ <;> omega) (fun c12 => ?_) (fun c12 => ?_)
    · exact fin W1 _ _ _ rfl J1.1 J1.2 ha
    · exfalso; omega
  have s1 : ∀ (W1 : Nat → Int → Int) (u3 u4 : Option eV), aR W1 (vU V 328 (fsJ V (A 2) (A 4) 0 1 n)) → K 10 [some (eR (1, 4)), some (eR (1, 3)), some (eI 1), u3, u4] [] (cC F A W1) := by
    intro W1 u3 u4 ha
    refine x_iload_n hK kX0_findScale_10 (q := 11) rfl rfl ?_
    refine x_iconst hK kX0_findScale_11 (q := 12) rfl ?_
    refine x_icmp_ge hK kX0_findScale_12 (q := 15) rfl (tg := 73) rfl (by refine ⟨?_, ?_⟩ <;> omega) (fun c12 => ?_) (fun c12 => ?_)
    · exfalso; omega
    · refine x_iconst hK kX0_findScale_15 (q := 16) rfl ?_
      refine x_istore_n hK kX0_findScale_16 (q := 17) (jn := 3) rfl rfl ?_
      simp only [lS, lS2, clr_0, clr_I, clr_L, clr_R]
      exact inner 1 _ (by decide) J0.1 J0.2 (fun W2 u3 u4 h2 => s2 W2 u3 u4 h2) n 0 W1 _ (by omega) ha
  have s0 : ∀ (W1 : Nat → Int → Int) (u3 u4 : Option eV), aR W1 (vU V 328 1) → K 10 [some (eR (1, 4)), some (eR (1, 3)), some (eI 0), u3, u4] [] (cC F A W1) := by
    intro W1 u3 u4 ha
    refine x_iload_n hK kX0_findScale_10 (q := 11) rfl rfl ?_
    refine x_iconst hK kX0_findScale_11 (q := 12) rfl ?_
    refine x_icmp_ge hK kX0_findScale_12 (q := 15) rfl (tg := 73) rfl (by refine ⟨?_, ?_⟩ <;> omega) (fun c12 => ?_) (fun c12 => ?_)
    · exfalso; omega
    · refine x_iconst hK kX0_findScale_15 (q := 16) rfl ?_
      refine x_istore_n hK kX0_findScale_16 (q := 17) (jn := 3) rfl rfl ?_
      simp only [lS, lS2, clr_0, clr_I, clr_L, clr_R]
      exact inner 0 1 (by decide) (by decide) ⟨Δ, by omega⟩ (fun W2 u3 u4 h2 => s1 W2 u3 u4 h2) n 0 W1 _ (by omega) ha
  simp only [eLoc, eE, List.length_cons, List.length_nil, List.replicate, List.cons_append, List.nil_append, Nat.reduceAdd, Nat.reduceSub]
  refine x_aload_n hK kX0_findScale_0 (q := 1) rfl rfl ?_
  refine x_getfield hK kX0_findScale_1 (q := 4) rfl (gX0_50 ?_)
  refine x_lconst1 hK kX0_findScale_4 (q := 5) rfl ?_
  refine x_cv2 hK kX0_findScale_5 (q := 8) rfl (vtX0_findScale_129) (Nat.le_of_ble_eq_true rfl) ?_
  refine set_a hV (by decide) (by decide) (by decide) (fun W1 h1 => ?_)
  refine x_iconst hK kX0_findScale_8 (q := 9) rfl ?_
  refine x_istore_n hK kX0_findScale_9 (q := 10) (jn := 2) rfl rfl ?_
  simp only [lS, lS2, clr_0, clr_I, clr_L, clr_R]
  exact s0 W1 _ _ h1
set_option maxRecDepth 20000 in
theorem mX0_findScale : eMet yX0_findScale cX0_findScale 5 none 4 112 SX0_findScale := eMet_of (by decide +kernel) sX0_findScale kX0_findScale_ok caX0_findScale tb_RX0
theorem wX0_findScale : eWV yX0_findScale cX0_findScale 5 none 2 0 SX0_findScale := ⟨(gW_at 604 (by decide +kernel) rfl), (gW_at 86 (by decide +kernel) rfl), (gW_at 603 (by decide +kernel) rfl), ⟨_, rfl, (gW_at 18 (by decide +kernel) rfl)⟩, by decide +kernel, SX0_findScale_r⟩
