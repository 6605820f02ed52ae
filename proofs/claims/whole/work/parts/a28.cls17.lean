/-! Problems. -/
def pr (f : Int → Int) (k pl : Int) : Int := if 0 ≤ k ∧ k ≤ 4 ∧ 0 ≤ pl ∧ pl < 6 then f (6 * k + pl) else 0
def SX6_size : eSp := fun as M rt => ∃ (F : Nat → Int) (A W : Nat → Int → Int) (p : Nat), as = [eR (1, p)] ∧ M = cC F A W ∧ (p < 2) ∧ (rt (some (eI (F (2 + p)))) (cC F A W))
theorem SX6_size_i {F : Nat → Int} {A W : Nat → Int → Int} {p : Nat} {rt : Option eV → eM → Prop} (hp : p < 2) (h : rt (some (eI (F (2 + p)))) (cC F A W)) : SX6_size [eR (1, p)] (cC F A W) rt := ⟨F, A, W, p, rfl, rfl, hp, h⟩
theorem SX6_size_r : ∀ as M rt, SX6_size as M rt → ∃ a r fs, as = eR a :: r ∧ M a = some (.inl (5, fs)) := by
  rintro as M rt ⟨F, A, W, p, rfl, rfl, hp, -⟩
  exact ⟨_, _, _, rfl, cC_1p hp⟩
def kX6_size : List (Nat × Jvm.ClassFile.Instr × Nat) := [(0, .aload_n 0, 1), (1, .getfield 18, 3), (4, .ireturn, 1)]
theorem kX6_size_0 : cdOf kX6_size 0 = some (.aload_n 0, 1) := by decide +kernel
theorem kX6_size_1 : cdOf kX6_size 1 = some (.getfield 18, 3) := by decide +kernel
theorem kX6_size_4 : cdOf kX6_size 4 = some (.ireturn, 1) := by decide +kernel
set_option maxRecDepth 20000 in
theorem kX6_size_ok : ∀ pc i len, cdOf kX6_size pc = some (i, len) → decode cX6_size pc = .ok (i, len) ∧ stOK 1 i = true ∧ jOK pc i = true ∧ eLen i len = true := cdOf_ok cX6_size 1 kX6_size (by decide +kernel)
def vtX6_size : Nat → Option (Nat × eSp) := fun _ => none
def stX6_size : Nat → Option (Nat × eSp) := fun _ => none
abbrev TX6_size : eT := (fl_RX6, cl_RX6, dl_RX6, vtX6_size, stX6_size)
set_option maxRecDepth 20000 in
theorem caX6_size : eCalls RX6 { frames := 0, cells := 0, slots := 0, locals := 0 } TX6_size := by
  refine ⟨fun k n sp h => ?_, fun k n sp h => ?_⟩
  · cases h
  · cases h
set_option maxRecDepth 100000 in
set_option maxHeartbeats 4000000 in
theorem sX6_size : eSafe TX6_size (cdOf kX6_size) 1 (some .int) SX6_size := by
  intro K rt hK as M h
  obtain ⟨F, A, W, p, rfl, rfl, hp, h⟩ := h
  refine ⟨by simp [eE], ?_⟩
  simp only [eLoc, eE, List.length_cons, List.length_nil, List.replicate, List.cons_append, List.nil_append, Nat.reduceAdd, Nat.reduceSub]
  refine x_aload_n hK kX6_size_0 (q := 1) rfl rfl ?_
  refine x_getfield hK kX6_size_1 (q := 4) rfl (gX6_18 ?_)
  refine x_ireturn hK kX6_size_4 (by first | trivial | exact Or.inl rfl | exact Or.inr rfl) ?_
  exact h
set_option maxRecDepth 20000 in
theorem mX6_size : eMet yX6_size cX6_size 1 (some .int) 0 0 SX6_size := eMet_of (by decide +kernel) sX6_size kX6_size_ok caX6_size tb_RX6
theorem wX6_size : eWV yX6_size cX6_size 1 (some .int) 1 5 SX6_size := ⟨(gW_at 415 (by decide +kernel) rfl), (gW_at 83 (by decide +kernel) rfl), (gW_at 413 (by decide +kernel) rfl), ⟨_, rfl, (gW_at 414 (by decide +kernel) rfl)⟩, by decide +kernel, SX6_size_r⟩
def SX6_has : eSp := fun as M rt => ∃ (F : Nat → Int) (A W : Nat → Int → Int) (p : Nat) (k : Int), as = [eR (1, p), eI k] ∧ M = cC F A W ∧ (p < 2) ∧ (w32 k) ∧ (w32 (F (2 + p))) ∧ (rt (some (eI (zE (0 ≤ k ∧ k < F (2 + p))))) (cC F A W))
theorem SX6_has_i {F : Nat → Int} {A W : Nat → Int → Int} {p : Nat} {k : Int} {rt : Option eV → eM → Prop} (hp : p < 2) (hk : w32 k) (hF : w32 (F (2 + p))) (h : rt (some (eI (zE (0 ≤ k ∧ k < F (2 + p))))) (cC F A W)) : SX6_has [eR (1, p), eI k] (cC F A W) rt := ⟨F, A, W, p, k, rfl, rfl, hp, hk, hF, h⟩
theorem SX6_has_r : ∀ as M rt, SX6_has as M rt → ∃ a r fs, as = eR a :: r ∧ M a = some (.inl (5, fs)) := by
  rintro as M rt ⟨F, A, W, p, k, rfl, rfl, hp, -⟩
  exact ⟨_, _, _, rfl, cC_1p hp⟩
def kX6_has : List (Nat × Jvm.ClassFile.Instr × Nat) := [(0, .iload_n 1, 1), (1, .ifCond .lt 15, 3), (4, .iload_n 1, 1), (5, .aload_n 0, 1), (6, .getfield 18, 3), (9, .if_icmp .ge 7, 3), (12, .iconst 1, 1), (13, .goto 4, 3), (16, .iconst 0, 1), (17, .ireturn, 1)]
theorem kX6_has_0 : cdOf kX6_has 0 = some (.iload_n 1, 1) := by decide +kernel
theorem kX6_has_1 : cdOf kX6_has 1 = some (.ifCond .lt 15, 3) := by decide +kernel
theorem kX6_has_4 : cdOf kX6_has 4 = some (.iload_n 1, 1) := by decide +kernel
theorem kX6_has_5 : cdOf kX6_has 5 = some (.aload_n 0, 1) := by decide +kernel
theorem kX6_has_6 : cdOf kX6_has 6 = some (.getfield 18, 3) := by decide +kernel
theorem kX6_has_9 : cdOf kX6_has 9 = some (.if_icmp .ge 7, 3) := by decide +kernel
theorem kX6_has_12 : cdOf kX6_has 12 = some (.iconst 1, 1) := by decide +kernel
theorem kX6_has_13 : cdOf kX6_has 13 = some (.goto 4, 3) := by decide +kernel
theorem kX6_has_16 : cdOf kX6_has 16 = some (.iconst 0, 1) := by decide +kernel
theorem kX6_has_17 : cdOf kX6_has 17 = some (.ireturn, 1) := by decide +kernel
set_option maxRecDepth 20000 in
theorem kX6_has_ok : ∀ pc i len, cdOf kX6_has pc = some (i, len) → decode cX6_has pc = .ok (i, len) ∧ stOK 2 i = true ∧ jOK pc i = true ∧ eLen i len = true := cdOf_ok cX6_has 2 kX6_has (by decide +kernel)
def vtX6_has : Nat → Option (Nat × eSp) := fun _ => none
def stX6_has : Nat → Option (Nat × eSp) := fun _ => none
abbrev TX6_has : eT := (fl_RX6, cl_RX6, dl_RX6, vtX6_has, stX6_has)
set_option maxRecDepth 20000 in
theorem caX6_has : eCalls RX6 { frames := 0, cells := 0, slots := 0, locals := 0 } TX6_has := by
  refine ⟨fun k n sp h => ?_, fun k n sp h => ?_⟩
  · cases h
  · cases h
set_option maxRecDepth 100000 in
set_option maxHeartbeats 4000000 in
theorem sX6_has : eSafe TX6_has (cdOf kX6_has) 2 (some .boolean) SX6_has := by
  intro K rt hK as M h
  obtain ⟨F, A, W, p, k, rfl, rfl, hp, hk, hF, h⟩ := h
  refine ⟨by simp [eE], ?_⟩
  unfold zE at h
  simp only [eLoc, eE, List.length_cons, List.length_nil, List.replicate, List.cons_append, List.nil_append, Nat.reduceAdd, Nat.reduceSub]
  refine x_iload_n hK kX6_has_0 (q := 1) rfl rfl ?_
  refine x_if_lt hK kX6_has_1 (q := 4) rfl (tg := 16) rfl (by exact hk) (fun c1 => ?_) (fun c1 => ?_)
  · refine x_iconst hK kX6_has_16 (q := 17) rfl ?_
    refine x_ireturn hK kX6_has_17 (by first | exact Or.inl rfl | exact Or.inr rfl) ?_
    first | (rw [if_pos (by omega)] at h; exact h) | (rw [if_neg (by omega)] at h; exact h)
  · refine x_iload_n hK kX6_has_4 (q := 5) rfl rfl ?_
    refine x_aload_n hK kX6_has_5 (q := 6) rfl rfl ?_
    refine x_getfield hK kX6_has_6 (q := 9) rfl (gX6_18 ?_)
    refine x_icmp_ge hK kX6_has_9 (q := 12) rfl (tg := 16) rfl (by refine ⟨hk, hF⟩) (fun c9 => ?_) (fun c9 => ?_)
    · refine x_iconst hK kX6_has_16 (q := 17) rfl ?_
      refine x_ireturn hK kX6_has_17 (by first | exact Or.inl rfl | exact Or.inr rfl) ?_
      first | (rw [if_pos (by omega)] at h; exact h) | (rw [if_neg (by omega)] at h; exact h)
    · refine x_iconst hK kX6_has_12 (q := 13) rfl ?_
      refine x_goto hK kX6_has_13 (tg := 17) rfl ?_
      refine x_ireturn hK kX6_has_17 (by first | exact Or.inl rfl | exact Or.inr rfl) ?_
      first | (rw [if_pos (by omega)] at h; exact h) | (rw [if_neg (by omega)] at h; exact h)
set_option maxRecDepth 20000 in
theorem mX6_has : eMet yX6_has cX6_has 2 (some .boolean) 0 0 SX6_has := eMet_of (by decide +kernel) sX6_has kX6_has_ok caX6_has tb_RX6
theorem wX6_has : eWV yX6_has cX6_has 2 (some .boolean) 2 5 SX6_has := ⟨(gW_at 847 (by decide +kernel) rfl), (gW_at 83 (by decide +kernel) rfl), (gW_at 845 (by decide +kernel) rfl), ⟨_, rfl, (gW_at 846 (by decide +kernel) rfl)⟩, by decide +kernel, SX6_has_r⟩
def SX6_open : eSp := fun as M rt => ∃ (F : Nat → Int) (A W : Nat → Int → Int) (p : Nat), as = [eR (1, p)] ∧ M = cC F A W ∧ (p < 2) ∧ (0 ≤ F (2 + p) ∧ F (2 + p) ≤ 4) ∧ ((4 ≤ F (2 + p) → rt (some (eI (-1))) (cC F A W)) ∧ (F (2 + p) < 4 → rt (some (eI (F (2 + p)))) (cC (uF F (2 + p) (F (2 + p) + 1)) A W)))
theorem SX6_open_i {F : Nat → Int} {A W : Nat → Int → Int} {p : Nat} {rt : Option eV → eM → Prop} (hp : p < 2) (hF : 0 ≤ F (2 + p) ∧ F (2 + p) ≤ 4) (h : (4 ≤ F (2 + p) → rt (some (eI (-1))) (cC F A W)) ∧ (F (2 + p) < 4 → rt (some (eI (F (2 + p)))) (cC (uF F (2 + p) (F (2 + p) + 1)) A W))) : SX6_open [eR (1, p)] (cC F A W) rt := ⟨F, A, W, p, rfl, rfl, hp, hF, h⟩
theorem SX6_open_r : ∀ as M rt, SX6_open as M rt → ∃ a r fs, as = eR a :: r ∧ M a = some (.inl (5, fs)) := by
  rintro as M rt ⟨F, A, W, p, rfl, rfl, hp, -⟩
  exact ⟨_, _, _, rfl, cC_1p hp⟩
def kX6_open : List (Nat × Jvm.ClassFile.Instr × Nat) := [(0, .aload_n 0, 1), (1, .getfield 18, 3), (4, .iconst 4, 1), (5, .if_icmp .lt 5, 3), (8, .iconst (-1), 1), (9, .ireturn, 1), (10, .aload_n 0, 1), (11, .dup, 1), (12, .getfield 18, 3), (15, .iconst 1, 1), (16, .iadd, 1), (17, .putfield 18, 3), (20, .aload_n 0, 1), (21, .getfield 18, 3), (24, .iconst 1, 1), (25, .isub, 1), (26, .ireturn, 1)]
theorem kX6_open_0 : cdOf kX6_open 0 = some (.aload_n 0, 1) := by decide +kernel
theorem kX6_open_1 : cdOf kX6_open 1 = some (.getfield 18, 3) := by decide +kernel
theorem kX6_open_4 : cdOf kX6_open 4 = some (.iconst 4, 1) := by decide +kernel
theorem kX6_open_5 : cdOf kX6_open 5 = some (.if_icmp .lt 5, 3) := by decide +kernel
theorem kX6_open_8 : cdOf kX6_open 8 = some (.iconst (-1), 1) := by decide +kernel
theorem kX6_open_9 : cdOf kX6_open 9 = some (.ireturn, 1) := by decide +kernel
theorem kX6_open_10 : cdOf kX6_open 10 = some (.aload_n 0, 1) := by decide +kernel
theorem kX6_open_11 : cdOf kX6_open 11 = some (.dup, 1) := by decide +kernel
theorem kX6_open_12 : cdOf kX6_open 12 = some (.getfield 18, 3) := by decide +kernel
theorem kX6_open_15 : cdOf kX6_open 15 = some (.iconst 1, 1) := by decide +kernel
theorem kX6_open_16 : cdOf kX6_open 16 = some (.iadd, 1) := by decide +kernel
theorem kX6_open_17 : cdOf kX6_open 17 = some (.putfield 18, 3) := by decide +kernel
theorem kX6_open_20 : cdOf kX6_open 20 = some (.aload_n 0, 1) := by decide +kernel
theorem kX6_open_21 : cdOf kX6_open 21 = some (.getfield 18, 3) := by decide +kernel
theorem kX6_open_24 : cdOf kX6_open 24 = some (.iconst 1, 1) := by decide +kernel
theorem kX6_open_25 : cdOf kX6_open 25 = some (.isub, 1) := by decide +kernel
theorem kX6_open_26 : cdOf kX6_open 26 = some (.ireturn, 1) := by decide +kernel
set_option maxRecDepth 20000 in
theorem kX6_open_ok : ∀ pc i len, cdOf kX6_open pc = some (i, len) → decode cX6_open pc = .ok (i, len) ∧ stOK 1 i = true ∧ jOK pc i = true ∧ eLen i len = true := cdOf_ok cX6_open 1 kX6_open (by decide +kernel)
def vtX6_open : Nat → Option (Nat × eSp) := fun _ => none
def stX6_open : Nat → Option (Nat × eSp) := fun _ => none
abbrev TX6_open : eT := (fl_RX6, cl_RX6, dl_RX6, vtX6_open, stX6_open)
set_option maxRecDepth 20000 in
theorem caX6_open : eCalls RX6 { frames := 0, cells := 0, slots := 0, locals := 0 } TX6_open := by
  refine ⟨fun k n sp h => ?_, fun k n sp h => ?_⟩
  · cases h
  · cases h
set_option maxRecDepth 100000 in
set_option maxHeartbeats 4000000 in
theorem sX6_open : eSafe TX6_open (cdOf kX6_open) 1 (some .int) SX6_open := by
  intro K rt hK as M h
  obtain ⟨F, A, W, p, rfl, rfl, hp, hF, h⟩ := h
  refine ⟨by simp [eE], ?_⟩
  simp only [eLoc, eE, List.length_cons, List.length_nil, List.replicate, List.cons_append, List.nil_append, Nat.reduceAdd, Nat.reduceSub]
  refine x_aload_n hK kX6_open_0 (q := 1) rfl rfl ?_
  refine x_getfield hK kX6_open_1 (q := 4) rfl (gX6_18 ?_)
  refine x_iconst hK kX6_open_4 (q := 5) rfl ?_
  refine x_icmp_lt hK kX6_open_5 (q := 8) rfl (tg := 10) rfl (by refine ⟨?_, ?_⟩ <;> omega) (fun c5 => ?_) (fun c5 => ?_)
  · refine x_aload_n hK kX6_open_10 (q := 11) rfl rfl ?_
    refine x_dupR hK kX6_open_11 (q := 12) rfl ?_
    refine x_getfield hK kX6_open_12 (q := 15) rfl (gX6_18 ?_)
    refine x_iconst hK kX6_open_15 (q := 16) rfl ?_
    refine x_iadd hK kX6_open_16 (q := 17) rfl ?_
    refine x_putfield hK kX6_open_17 (q := 20) rfl (pX6_18 ?_)
    refine x_aload_n hK kX6_open_20 (q := 21) rfl rfl ?_
    refine x_getfield hK kX6_open_21 (q := 24) rfl (gX6_18 ?_)
    refine x_iconst hK kX6_open_24 (q := 25) rfl ?_
    refine x_isub hK kX6_open_25 (q := 26) rfl ?_
    rw [uF_g, show F (2 + p) + 1 - 1 = F (2 + p) by omega]
    refine x_ireturn hK kX6_open_26 (by first | trivial | exact Or.inl rfl | exact Or.inr rfl) ?_
    exact h.2 (by omega)
  · refine x_iconst hK kX6_open_8 (q := 9) rfl ?_
    refine x_ireturn hK kX6_open_9 (by first | trivial | exact Or.inl rfl | exact Or.inr rfl) ?_
    exact h.1 (by omega)
set_option maxRecDepth 20000 in
theorem mX6_open : eMet yX6_open cX6_open 1 (some .int) 0 0 SX6_open := eMet_of (by decide +kernel) sX6_open kX6_open_ok caX6_open tb_RX6
theorem wX6_open : eWV yX6_open cX6_open 1 (some .int) 1 5 SX6_open := ⟨(gW_at 391 (by decide +kernel) rfl), (gW_at 83 (by decide +kernel) rfl), (gW_at 389 (by decide +kernel) rfl), ⟨_, rfl, (gW_at 390 (by decide +kernel) rfl)⟩, by decide +kernel, SX6_open_r⟩
def SX6_holds : eSp := fun as M rt => ∃ (F : Nat → Int) (A W : Nat → Int → Int) (p : Nat) (k pl : Int), as = [eR (1, p), eI k, eI pl] ∧ M = cC F A W ∧ (p < 2) ∧ (w32 k) ∧ (w32 pl) ∧ (rt (some (eI (zE (0 ≤ k ∧ k ≤ 4 ∧ 0 ≤ pl ∧ pl < 6)))) (cC F A W))
theorem SX6_holds_i {F : Nat → Int} {A W : Nat → Int → Int} {p : Nat} {k pl : Int} {rt : Option eV → eM → Prop} (hp : p < 2) (hk : w32 k) (hl : w32 pl) (h : rt (some (eI (zE (0 ≤ k ∧ k ≤ 4 ∧ 0 ≤ pl ∧ pl < 6)))) (cC F A W)) : SX6_holds [eR (1, p), eI k, eI pl] (cC F A W) rt := ⟨F, A, W, p, k, pl, rfl, rfl, hp, hk, hl, h⟩
theorem SX6_holds_r : ∀ as M rt, SX6_holds as M rt → ∃ a r fs, as = eR a :: r ∧ M a = some (.inl (5, fs)) := by
  rintro as M rt ⟨F, A, W, p, k, pl, rfl, rfl, hp, -⟩
  exact ⟨_, _, _, rfl, cC_1p hp⟩
def kX6_holds : List (Nat × Jvm.ClassFile.Instr × Nat) := [(0, .iload_n 1, 1), (1, .ifCond .lt 22, 3), (4, .iload_n 1, 1), (5, .iconst 4, 1), (6, .if_icmp .gt 17, 3), (9, .iload_n 2, 1), (10, .ifCond .lt 13, 3), (13, .iload_n 2, 1), (14, .bipush 6, 2), (16, .if_icmp .ge 7, 3), (19, .iconst 1, 1), (20, .goto 4, 3), (23, .iconst 0, 1), (24, .ireturn, 1)]
theorem kX6_holds_0 : cdOf kX6_holds 0 = some (.iload_n 1, 1) := by decide +kernel
theorem kX6_holds_1 : cdOf kX6_holds 1 = some (.ifCond .lt 22, 3) := by decide +kernel
theorem kX6_holds_4 : cdOf kX6_holds 4 = some (.iload_n 1, 1) := by decide +kernel
theorem kX6_holds_5 : cdOf kX6_holds 5 = some (.iconst 4, 1) := by decide +kernel
theorem kX6_holds_6 : cdOf kX6_holds 6 = some (.if_icmp .gt 17, 3) := by decide +kernel
theorem kX6_holds_9 : cdOf kX6_holds 9 = some (.iload_n 2, 1) := by decide +kernel
theorem kX6_holds_10 : cdOf kX6_holds 10 = some (.ifCond .lt 13, 3) := by decide +kernel
theorem kX6_holds_13 : cdOf kX6_holds 13 = some (.iload_n 2, 1) := by decide +kernel
theorem kX6_holds_14 : cdOf kX6_holds 14 = some (.bipush 6, 2) := by decide +kernel
theorem kX6_holds_16 : cdOf kX6_holds 16 = some (.if_icmp .ge 7, 3) := by decide +kernel
theorem kX6_holds_19 : cdOf kX6_holds 19 = some (.iconst 1, 1) := by decide +kernel
theorem kX6_holds_20 : cdOf kX6_holds 20 = some (.goto 4, 3) := by decide +kernel
theorem kX6_holds_23 : cdOf kX6_holds 23 = some (.iconst 0, 1) := by decide +kernel
theorem kX6_holds_24 : cdOf kX6_holds 24 = some (.ireturn, 1) := by decide +kernel
set_option maxRecDepth 20000 in
theorem kX6_holds_ok : ∀ pc i len, cdOf kX6_holds pc = some (i, len) → decode cX6_holds pc = .ok (i, len) ∧ stOK 3 i = true ∧ jOK pc i = true ∧ eLen i len = true := cdOf_ok cX6_holds 3 kX6_holds (by decide +kernel)
def vtX6_holds : Nat → Option (Nat × eSp) := fun _ => none
def stX6_holds : Nat → Option (Nat × eSp) := fun _ => none
abbrev TX6_holds : eT := (fl_RX6, cl_RX6, dl_RX6, vtX6_holds, stX6_holds)
set_option maxRecDepth 20000 in
theorem caX6_holds : eCalls RX6 { frames := 0, cells := 0, slots := 0, locals := 0 } TX6_holds := by
  refine ⟨fun k n sp h => ?_, fun k n sp h => ?_⟩
  · cases h
  · cases h
set_option maxRecDepth 100000 in
set_option maxHeartbeats 4000000 in
theorem sX6_holds : eSafe TX6_holds (cdOf kX6_holds) 3 (some .boolean) SX6_holds := by
  intro K rt hK as M h
  obtain ⟨F, A, W, p, k, pl, rfl, rfl, hp, hk, hl, h⟩ := h
  refine ⟨by simp [eE], ?_⟩
  unfold zE at h
  simp only [eLoc, eE, List.length_cons, List.length_nil, List.replicate, List.cons_append, List.nil_append, Nat.reduceAdd, Nat.reduceSub]
  refine x_iload_n hK kX6_holds_0 (q := 1) rfl rfl ?_
  refine x_if_lt hK kX6_holds_1 (q := 4) rfl (tg := 23) rfl (by exact hk) (fun c1 => ?_) (fun c1 => ?_)
  · refine x_iconst hK kX6_holds_23 (q := 24) rfl ?_
    refine x_ireturn hK kX6_holds_24 (by first | exact Or.inl rfl | exact Or.inr rfl) ?_
    first | (rw [if_pos (by omega)] at h; exact h) | (rw [if_neg (by omega)] at h; exact h)
  · refine x_iload_n hK kX6_holds_4 (q := 5) rfl rfl ?_
    refine x_iconst hK kX6_holds_5 (q := 6) rfl ?_
    refine x_icmp_gt hK kX6_holds_6 (q := 9) rfl (tg := 23) rfl (by refine ⟨hk, by decide⟩) (fun c6 => ?_) (fun c6 => ?_)
    · refine x_iconst hK kX6_holds_23 (q := 24) rfl ?_
      refine x_ireturn hK kX6_holds_24 (by first | exact Or.inl rfl | exact Or.inr rfl) ?_
      first | (rw [if_pos (by omega)] at h; exact h) | (rw [if_neg (by omega)] at h; exact h)
    · refine x_iload_n hK kX6_holds_9 (q := 10) rfl rfl ?_
      refine x_if_lt hK kX6_holds_10 (q := 13) rfl (tg := 23) rfl (by exact hl) (fun c10 => ?_) (fun c10 => ?_)
      · refine x_iconst hK kX6_holds_23 (q := 24) rfl ?_
        refine x_ireturn hK kX6_holds_24 (by first | exact Or.inl rfl | exact Or.inr rfl) ?_
        first | (rw [if_pos (by omega)] at h; exact h) | (rw [if_neg (by omega)] at h; exact h)
      · refine x_iload_n hK kX6_holds_13 (q := 14) rfl rfl ?_
        refine x_bipush hK kX6_holds_14 (q := 16) rfl (by decide) ?_
        refine x_icmp_ge hK kX6_holds_16 (q := 19) rfl (tg := 23) rfl (by refine ⟨hl, by decide⟩) (fun c16 => ?_) (fun c16 => ?_)
        · refine x_iconst hK kX6_holds_23 (q := 24) rfl ?_
          refine x_ireturn hK kX6_holds_24 (by first | exact Or.inl rfl | exact Or.inr rfl) ?_
          first | (rw [if_pos (by omega)] at h; exact h) | (rw [if_neg (by omega)] at h; exact h)
        · refine x_iconst hK kX6_holds_19 (q := 20) rfl ?_
          refine x_goto hK kX6_holds_20 (tg := 24) rfl ?_
          refine x_ireturn hK kX6_holds_24 (by first | exact Or.inl rfl | exact Or.inr rfl) ?_
          first | (rw [if_pos (by omega)] at h; exact h) | (rw [if_neg (by omega)] at h; exact h)
set_option maxRecDepth 20000 in
theorem mX6_holds : eMet yX6_holds cX6_holds 3 (some .boolean) 0 0 SX6_holds := eMet_of (by decide +kernel) sX6_holds kX6_holds_ok caX6_holds tb_RX6
theorem wX6_holds : eWV yX6_holds cX6_holds 3 (some .boolean) 3 5 SX6_holds := ⟨(gW_at 383 (by decide +kernel) rfl), (gW_at 83 (by decide +kernel) rfl), (gW_at 382 (by decide +kernel) rfl), ⟨_, rfl, (gW_at 1 (by decide +kernel) rfl)⟩, by decide +kernel, SX6_holds_r⟩
def SX6_read : eSp := fun as M rt => ∃ (F : Nat → Int) (A W : Nat → Int → Int) (p : Nat) (k pl : Int), as = [eR (1, p), eI k, eI pl] ∧ M = cC F A W ∧ (p < 2) ∧ (w32 k) ∧ (w32 pl) ∧ (rt (some (eI (pr (A p) k pl))) (cC F A W))
theorem SX6_read_i {F : Nat → Int} {A W : Nat → Int → Int} {p : Nat} {k pl : Int} {rt : Option eV → eM → Prop} (hp : p < 2) (hk : w32 k) (hl : w32 pl) (h : rt (some (eI (pr (A p) k pl))) (cC F A W)) : SX6_read [eR (1, p), eI k, eI pl] (cC F A W) rt := ⟨F, A, W, p, k, pl, rfl, rfl, hp, hk, hl, h⟩
theorem SX6_read_r : ∀ as M rt, SX6_read as M rt → ∃ a r fs, as = eR a :: r ∧ M a = some (.inl (5, fs)) := by
  rintro as M rt ⟨F, A, W, p, k, pl, rfl, rfl, hp, -⟩
  exact ⟨_, _, _, rfl, cC_1p hp⟩
def kX6_read : List (Nat × Jvm.ClassFile.Instr × Nat) := [(0, .aload_n 0, 1), (1, .iload_n 1, 1), (2, .iload_n 2, 1), (3, .invokevirtual 30, 3), (6, .ifCond .eq 14, 3), (9, .aload_n 0, 1), (10, .getfield 15, 3), (13, .iload_n 1, 1), (14, .aaload, 1), (15, .iload_n 2, 1), (16, .iaload, 1), (17, .goto 4, 3), (20, .iconst 0, 1), (21, .ireturn, 1)]
theorem kX6_read_0 : cdOf kX6_read 0 = some (.aload_n 0, 1) := by decide +kernel
theorem kX6_read_1 : cdOf kX6_read 1 = some (.iload_n 1, 1) := by decide +kernel
theorem kX6_read_2 : cdOf kX6_read 2 = some (.iload_n 2, 1) := by decide +kernel
theorem kX6_read_3 : cdOf kX6_read 3 = some (.invokevirtual 30, 3) := by decide +kernel
theorem kX6_read_6 : cdOf kX6_read 6 = some (.ifCond .eq 14, 3) := by decide +kernel
theorem kX6_read_9 : cdOf kX6_read 9 = some (.aload_n 0, 1) := by decide +kernel
theorem kX6_read_10 : cdOf kX6_read 10 = some (.getfield 15, 3) := by decide +kernel
theorem kX6_read_13 : cdOf kX6_read 13 = some (.iload_n 1, 1) := by decide +kernel
theorem kX6_read_14 : cdOf kX6_read 14 = some (.aaload, 1) := by decide +kernel
theorem kX6_read_15 : cdOf kX6_read 15 = some (.iload_n 2, 1) := by decide +kernel
theorem kX6_read_16 : cdOf kX6_read 16 = some (.iaload, 1) := by decide +kernel
theorem kX6_read_17 : cdOf kX6_read 17 = some (.goto 4, 3) := by decide +kernel
theorem kX6_read_20 : cdOf kX6_read 20 = some (.iconst 0, 1) := by decide +kernel
theorem kX6_read_21 : cdOf kX6_read 21 = some (.ireturn, 1) := by decide +kernel
set_option maxRecDepth 20000 in
theorem kX6_read_ok : ∀ pc i len, cdOf kX6_read pc = some (i, len) → decode cX6_read pc = .ok (i, len) ∧ stOK 3 i = true ∧ jOK pc i = true ∧ eLen i len = true := cdOf_ok cX6_read 3 kX6_read (by decide +kernel)
def vtX6_read : Nat → Option (Nat × eSp) := fun k => match k with
  | 30 => some (3, SX6_holds)
  | _ => none
theorem vtX6_read_30 : vtX6_read 30 = some (3, SX6_holds) := rfl
def stX6_read : Nat → Option (Nat × eSp) := fun _ => none
abbrev TX6_read : eT := (fl_RX6, cl_RX6, dl_RX6, vtX6_read, stX6_read)
set_option maxRecDepth 20000 in
theorem caX6_read : eCalls RX6 { frames := 1, cells := 0, slots := 0, locals := 22 } TX6_read := by
  refine ⟨fun k n sp h => ?_, fun k n sp h => ?_⟩
  · dsimp only [TX6_read] at h
    unfold vtX6_read at h
    split at h
    · cases h; exact eV_mk mX6_holds wX6_holds (by decide +kernel) (Or.inl (gW_at 380 (by decide +kernel) rfl))
    · cases h
  · cases h
set_option maxRecDepth 100000 in
set_option maxHeartbeats 4000000 in
theorem sX6_read : eSafe TX6_read (cdOf kX6_read) 3 (some .int) SX6_read := by
  intro K rt hK as M h
  obtain ⟨F, A, W, p, k, pl, rfl, rfl, hp, hk, hl, h⟩ := h
  refine ⟨by simp [eE], ?_⟩
  unfold pr at h
  simp only [eLoc, eE, List.length_cons, List.length_nil, List.replicate, List.cons_append, List.nil_append, Nat.reduceAdd, Nat.reduceSub]
  refine x_aload_n hK kX6_read_0 (q := 1) rfl rfl ?_
  refine x_iload_n hK kX6_read_1 (q := 2) rfl rfl ?_
  refine x_iload_n hK kX6_read_2 (q := 3) rfl rfl ?_
  refine x_cv3 hK kX6_read_3 (q := 6) rfl (vtX6_read_30) (Nat.le_of_ble_eq_true rfl) ?_
  refine SX6_holds_i hp hk hl ?_
  refine x_if_eq hK kX6_read_6 (q := 9) rfl (tg := 20) rfl (by exact zE_w _) (fun c6 => ?_) (fun c6 => ?_)
  · rw [if_neg (zE_0.mp c6)] at h
    refine x_iconst hK kX6_read_20 (q := 21) rfl ?_
    refine x_ireturn hK kX6_read_21 (by first | trivial | exact Or.inl rfl | exact Or.inr rfl) ?_
    exact h
  · have g := Decidable.not_not.mp (fun q => c6 (zE_0.mpr q))
    rw [if_pos g] at h
    obtain ⟨kn, rfl⟩ : ∃ kn : Nat, k = kn := ⟨k.toNat, by omega⟩
    refine x_aload_n hK kX6_read_9 (q := 10) rfl rfl ?_
    refine x_getfield hK kX6_read_10 (q := 13) rfl (gX6_15 ?_)
    refine x_iload_n hK kX6_read_13 (q := 14) rfl rfl ?_
    refine x_aaload hK kX6_read_14 (q := 15) rfl (aC5_0 (by omega) ?_)
    refine x_iload_n hK kX6_read_15 (q := 16) rfl rfl ?_
    refine x_iaload hK kX6_read_16 (q := 17) rfl (aCP (by refine ⟨?_, ?_⟩ <;> omega) ?_)
    refine x_goto hK kX6_read_17 (tg := 21) rfl ?_
    refine x_ireturn hK kX6_read_21 (by first | trivial | exact Or.inl rfl | exact Or.inr rfl) ?_
    exact h
set_option maxRecDepth 20000 in
theorem mX6_read : eMet yX6_read cX6_read 3 (some .int) 1 22 SX6_read := eMet_of (by decide +kernel) sX6_read kX6_read_ok caX6_read tb_RX6
theorem wX6_read : eWV yX6_read cX6_read 3 (some .int) 3 5 SX6_read := ⟨(gW_at 403 (by decide +kernel) rfl), (gW_at 83 (by decide +kernel) rfl), (gW_at 401 (by decide +kernel) rfl), ⟨_, rfl, (gW_at 402 (by decide +kernel) rfl)⟩, by decide +kernel, SX6_read_r⟩
def SX6_write : eSp := fun as M rt => ∃ (F : Nat → Int) (A W : Nat → Int → Int) (p : Nat) (k pl v : Int), as = [eR (1, p), eI k, eI pl, eI v] ∧ M = cC F A W ∧ (p < 2) ∧ (w32 k) ∧ (w32 pl) ∧ ((0 ≤ k ∧ k ≤ 4 ∧ 0 ≤ pl ∧ pl < 6 → rt none (cC F (uA A p (uI (A p) (6 * k + pl) v)) W)) ∧ (¬ (0 ≤ k ∧ k ≤ 4 ∧ 0 ≤ pl ∧ pl < 6) → rt none (cC F A W)))
theorem SX6_write_i {F : Nat → Int} {A W : Nat → Int → Int} {p : Nat} {k pl v : Int} {rt : Option eV → eM → Prop} (hp : p < 2) (hk : w32 k) (hl : w32 pl) (h : (0 ≤ k ∧ k ≤ 4 ∧ 0 ≤ pl ∧ pl < 6 → rt none (cC F (uA A p (uI (A p) (6 * k + pl) v)) W)) ∧ (¬ (0 ≤ k ∧ k ≤ 4 ∧ 0 ≤ pl ∧ pl < 6) → rt none (cC F A W))) : SX6_write [eR (1, p), eI k, eI pl, eI v] (cC F A W) rt := ⟨F, A, W, p, k, pl, v, rfl, rfl, hp, hk, hl, h⟩
theorem SX6_write_r : ∀ as M rt, SX6_write as M rt → ∃ a r fs, as = eR a :: r ∧ M a = some (.inl (5, fs)) := by
  rintro as M rt ⟨F, A, W, p, k, pl, v, rfl, rfl, hp, -⟩
  exact ⟨_, _, _, rfl, cC_1p hp⟩
def kX6_write : List (Nat × Jvm.ClassFile.Instr × Nat) := [(0, .aload_n 0, 1), (1, .iload_n 1, 1), (2, .iload_n 2, 1), (3, .invokevirtual 30, 3), (6, .ifCond .eq 12, 3), (9, .aload_n 0, 1), (10, .getfield 15, 3), (13, .iload_n 1, 1), (14, .aaload, 1), (15, .iload_n 2, 1), (16, .iload_n 3, 1), (17, .iastore, 1), (18, .return_, 1)]
theorem kX6_write_0 : cdOf kX6_write 0 = some (.aload_n 0, 1) := by decide +kernel
theorem kX6_write_1 : cdOf kX6_write 1 = some (.iload_n 1, 1) := by decide +kernel
theorem kX6_write_2 : cdOf kX6_write 2 = some (.iload_n 2, 1) := by decide +kernel
theorem kX6_write_3 : cdOf kX6_write 3 = some (.invokevirtual 30, 3) := by decide +kernel
theorem kX6_write_6 : cdOf kX6_write 6 = some (.ifCond .eq 12, 3) := by decide +kernel
theorem kX6_write_9 : cdOf kX6_write 9 = some (.aload_n 0, 1) := by decide +kernel
theorem kX6_write_10 : cdOf kX6_write 10 = some (.getfield 15, 3) := by decide +kernel
theorem kX6_write_13 : cdOf kX6_write 13 = some (.iload_n 1, 1) := by decide +kernel
theorem kX6_write_14 : cdOf kX6_write 14 = some (.aaload, 1) := by decide +kernel
theorem kX6_write_15 : cdOf kX6_write 15 = some (.iload_n 2, 1) := by decide +kernel
theorem kX6_write_16 : cdOf kX6_write 16 = some (.iload_n 3, 1) := by decide +kernel
theorem kX6_write_17 : cdOf kX6_write 17 = some (.iastore, 1) := by decide +kernel
theorem kX6_write_18 : cdOf kX6_write 18 = some (.return_, 1) := by decide +kernel
set_option maxRecDepth 20000 in
theorem kX6_write_ok : ∀ pc i len, cdOf kX6_write pc = some (i, len) → decode cX6_write pc = .ok (i, len) ∧ stOK 4 i = true ∧ jOK pc i = true ∧ eLen i len = true := cdOf_ok cX6_write 4 kX6_write (by decide +kernel)
def vtX6_write : Nat → Option (Nat × eSp) := fun k => match k with
  | 30 => some (3, SX6_holds)
  | _ => none
theorem vtX6_write_30 : vtX6_write 30 = some (3, SX6_holds) := rfl
def stX6_write : Nat → Option (Nat × eSp) := fun _ => none
abbrev TX6_write : eT := (fl_RX6, cl_RX6, dl_RX6, vtX6_write, stX6_write)
set_option maxRecDepth 20000 in
theorem caX6_write : eCalls RX6 { frames := 1, cells := 0, slots := 0, locals := 22 } TX6_write := by
  refine ⟨fun k n sp h => ?_, fun k n sp h => ?_⟩
  · dsimp only [TX6_write] at h
    unfold vtX6_write at h
    split at h
    · cases h; exact eV_mk mX6_holds wX6_holds (by decide +kernel) (Or.inl (gW_at 380 (by decide +kernel) rfl))
    · cases h
  · cases h
set_option maxRecDepth 100000 in
set_option maxHeartbeats 4000000 in
theorem sX6_write : eSafe TX6_write (cdOf kX6_write) 4 none SX6_write := by
  intro K rt hK as M h
  obtain ⟨F, A, W, p, k, pl, v, rfl, rfl, hp, hk, hl, h⟩ := h
  refine ⟨by simp [eE], ?_⟩
  simp only [eLoc, eE, List.length_cons, List.length_nil, List.replicate, List.cons_append, List.nil_append, Nat.reduceAdd, Nat.reduceSub]
  refine x_aload_n hK kX6_write_0 (q := 1) rfl rfl ?_
  refine x_iload_n hK kX6_write_1 (q := 2) rfl rfl ?_
  refine x_iload_n hK kX6_write_2 (q := 3) rfl rfl ?_
  refine x_cv3 hK kX6_write_3 (q := 6) rfl (vtX6_write_30) (Nat.le_of_ble_eq_true rfl) ?_
  refine SX6_holds_i hp hk hl ?_
  refine x_if_eq hK kX6_write_6 (q := 9) rfl (tg := 18) rfl (by exact zE_w _) (fun c6 => ?_) (fun c6 => ?_)
  · have hfin := h.2 (zE_0.mp c6)
    refine x_return_ hK kX6_write_18 (by first | trivial | exact Or.inl rfl | exact Or.inr rfl) ?_
    exact hfin
  · have g := Decidable.not_not.mp (fun q => c6 (zE_0.mpr q))
    have hfin := h.1 g
    obtain ⟨kn, rfl⟩ : ∃ kn : Nat, k = kn := ⟨k.toNat, by omega⟩
    refine x_aload_n hK kX6_write_9 (q := 10) rfl rfl ?_
    refine x_getfield hK kX6_write_10 (q := 13) rfl (gX6_15 ?_)
    refine x_iload_n hK kX6_write_13 (q := 14) rfl rfl ?_
    refine x_aaload hK kX6_write_14 (q := 15) rfl (aC5_0 (by omega) ?_)
    refine x_iload_n hK kX6_write_15 (q := 16) rfl rfl ?_
    refine x_iload_n hK kX6_write_16 (q := 17) rfl rfl ?_
    refine x_iastore hK kX6_write_17 (q := 18) rfl (yCP (by refine ⟨?_, ?_⟩ <;> omega) ?_)
    refine x_return_ hK kX6_write_18 (by first | trivial | exact Or.inl rfl | exact Or.inr rfl) ?_
    exact hfin
set_option maxRecDepth 20000 in
theorem mX6_write : eMet yX6_write cX6_write 4 none 1 22 SX6_write := eMet_of (by decide +kernel) sX6_write kX6_write_ok caX6_write tb_RX6
theorem wX6_write : eWV yX6_write cX6_write 4 none 4 5 SX6_write := ⟨(gW_at 379 (by decide +kernel) rfl), (gW_at 83 (by decide +kernel) rfl), (gW_at 377 (by decide +kernel) rfl), ⟨_, rfl, (gW_at 378 (by decide +kernel) rfl)⟩, by decide +kernel, SX6_write_r⟩
def SX6_wipe : eSp := fun as M rt => ∃ (F : Nat → Int) (A W : Nat → Int → Int) (p k : Nat), as = [eR (1, p), eI k] ∧ M = cC F A W ∧ (p < 2) ∧ (k < 5) ∧ (∀ f : Int → Int, (∀ i : Int, (i < 6 * (k : Int) ∨ 6 * (k : Int) + 6 ≤ i) → f i = A p i) → (∀ i : Int, 6 * (k : Int) ≤ i → i < 6 * (k : Int) + 6 → f i = 0) → rt none (cC F (uA A p f) W))
theorem SX6_wipe_i {F : Nat → Int} {A W : Nat → Int → Int} {p k : Nat} {rt : Option eV → eM → Prop} (hp : p < 2) (hk : k < 5) (h : ∀ f : Int → Int, (∀ i : Int, (i < 6 * (k : Int) ∨ 6 * (k : Int) + 6 ≤ i) → f i = A p i) → (∀ i : Int, 6 * (k : Int) ≤ i → i < 6 * (k : Int) + 6 → f i = 0) → rt none (cC F (uA A p f) W)) : SX6_wipe [eR (1, p), eI k] (cC F A W) rt := ⟨F, A, W, p, k, rfl, rfl, hp, hk, h⟩
theorem SX6_wipe_r : ∀ as M rt, SX6_wipe as M rt → ∃ a r fs, as = eR a :: r ∧ M a = some (.inl (5, fs)) := by
  rintro as M rt ⟨F, A, W, p, k, rfl, rfl, hp, -⟩
  exact ⟨_, _, _, rfl, cC_1p hp⟩
def kX6_wipe : List (Nat × Jvm.ClassFile.Instr × Nat) := [(0, .iconst 0, 1), (1, .istore_n 2, 1), (2, .iload_n 2, 1), (3, .bipush 6, 2), (5, .if_icmp .ge 16, 3), (8, .aload_n 0, 1), (9, .iload_n 1, 1), (10, .iload_n 2, 1), (11, .iconst 0, 1), (12, .invokevirtual 26, 3), (15, .iinc 2 1, 3), (18, .goto (-16), 3), (21, .return_, 1)]
theorem kX6_wipe_0 : cdOf kX6_wipe 0 = some (.iconst 0, 1) := by decide +kernel
theorem kX6_wipe_1 : cdOf kX6_wipe 1 = some (.istore_n 2, 1) := by decide +kernel
theorem kX6_wipe_2 : cdOf kX6_wipe 2 = some (.iload_n 2, 1) := by decide +kernel
theorem kX6_wipe_3 : cdOf kX6_wipe 3 = some (.bipush 6, 2) := by decide +kernel
theorem kX6_wipe_5 : cdOf kX6_wipe 5 = some (.if_icmp .ge 16, 3) := by decide +kernel
theorem kX6_wipe_8 : cdOf kX6_wipe 8 = some (.aload_n 0, 1) := by decide +kernel
theorem kX6_wipe_9 : cdOf kX6_wipe 9 = some (.iload_n 1, 1) := by decide +kernel
theorem kX6_wipe_10 : cdOf kX6_wipe 10 = some (.iload_n 2, 1) := by decide +kernel
theorem kX6_wipe_11 : cdOf kX6_wipe 11 = some (.iconst 0, 1) := by decide +kernel
theorem kX6_wipe_12 : cdOf kX6_wipe 12 = some (.invokevirtual 26, 3) := by decide +kernel
theorem kX6_wipe_15 : cdOf kX6_wipe 15 = some (.iinc 2 1, 3) := by decide +kernel
theorem kX6_wipe_18 : cdOf kX6_wipe 18 = some (.goto (-16), 3) := by decide +kernel
theorem kX6_wipe_21 : cdOf kX6_wipe 21 = some (.return_, 1) := by decide +kernel
set_option maxRecDepth 20000 in
theorem kX6_wipe_ok : ∀ pc i len, cdOf kX6_wipe pc = some (i, len) → decode cX6_wipe pc = .ok (i, len) ∧ stOK 3 i = true ∧ jOK pc i = true ∧ eLen i len = true := cdOf_ok cX6_wipe 3 kX6_wipe (by decide +kernel)
def vtX6_wipe : Nat → Option (Nat × eSp) := fun k => match k with
  | 26 => some (4, SX6_write)
  | _ => none
theorem vtX6_wipe_26 : vtX6_wipe 26 = some (4, SX6_write) := rfl
def stX6_wipe : Nat → Option (Nat × eSp) := fun _ => none
abbrev TX6_wipe : eT := (fl_RX6, cl_RX6, dl_RX6, vtX6_wipe, stX6_wipe)
set_option maxRecDepth 20000 in
theorem caX6_wipe : eCalls RX6 { frames := 2, cells := 0, slots := 0, locals := 45 } TX6_wipe := by
  refine ⟨fun k n sp h => ?_, fun k n sp h => ?_⟩
  · dsimp only [TX6_wipe] at h
    unfold vtX6_wipe at h
    split at h
    · cases h; exact eV_mk mX6_write wX6_write (by decide +kernel) (Or.inl (gW_at 376 (by decide +kernel) rfl))
    · cases h
  · cases h
set_option maxRecDepth 100000 in
set_option maxHeartbeats 4000000 in
theorem sX6_wipe : eSafe TX6_wipe (cdOf kX6_wipe) 3 none SX6_wipe := by
  intro K rt hK as M h
  obtain ⟨F, A, W, p, k, rfl, rfl, hp, hk, h⟩ := h
  refine ⟨by simp [eE], ?_⟩
  have loop : ∀ (d i : Nat) (f : Int → Int), i + d = 6 → (∀ t : Int, (t < 6 * (k : Int) ∨ 6 * (k : Int) + i ≤ t) → f t = A p t) → (∀ t : Int, 6 * (k : Int) ≤ t → t < 6 * (k : Int) + i → f t = 0) → K 2 [some (eR (1, p)), some (eI k), some (eI i)] [] (cC F (uA A p f) W) := by
    intro d
    induction d with
    | zero =>
      intro i f hi hf hv
      have : i = 6 := by omega
      subst this
      refine x_iload_n hK kX6_wipe_2 (q := 3) rfl rfl ?_
      refine x_bipush hK kX6_wipe_3 (q := 5) rfl (by decide) ?_
      refine x_icmp_ge hK kX6_wipe_5 (q := 8) rfl (tg := 21) rfl (by refine ⟨?_, ?_⟩ <;> omega) (fun c5 => ?_) (fun c5 => ?_)
      · refine x_return_ hK kX6_wipe_21 (by first | trivial | exact Or.inl rfl | exact Or.inr rfl) ?_
        exact h f hf hv
      · exfalso; omega
    | succ d ih =>
      intro i f hi hf hv
      refine x_iload_n hK kX6_wipe_2 (q := 3) rfl rfl ?_
      refine x_bipush hK kX6_wipe_3 (q := 5) rfl (by decide) ?_
      refine x_icmp_ge hK kX6_wipe_5 (q := 8) rfl (tg := 21) rfl (by refine ⟨?_, ?_⟩ <;> omega) (fun c5 => ?_) (fun c5 => ?_)
      · exfalso; omega
      · refine x_aload_n hK kX6_wipe_8 (q := 9) rfl rfl ?_
        refine x_iload_n hK kX6_wipe_9 (q := 10) rfl rfl ?_
        refine x_iload_n hK kX6_wipe_10 (q := 11) rfl rfl ?_
        refine x_iconst hK kX6_wipe_11 (q := 12) rfl ?_
        refine x_cv4 hK kX6_wipe_12 (q := 15) rfl (vtX6_wipe_26) (Nat.le_of_ble_eq_true rfl) ?_
        refine SX6_write_i hp ⟨by omega, by omega⟩ ⟨by omega, by omega⟩ ⟨fun _ => ?_, fun q => absurd ⟨by omega, by omega, by omega, by omega⟩ q⟩
        refine x_iinc hK kX6_wipe_15 (q := 18) rfl rfl ?_
        simp only [lS, lS2, clr_0, clr_I, clr_L, clr_R]
        refine x_goto hK kX6_wipe_18 (tg := 2) rfl ?_
        rw [uA_g, uA_u, show (i : Int) + 1 = ((i + 1 : Nat) : Int) by omega]
        refine ih (i + 1) _ (by omega) (fun t ht => by rw [uI_n _ _ (by omega)]; exact hf t (by omega)) (fun t t0 t1 => ?_)
        rcases Decidable.em (t = 6 * (k : Int) + i) with q | q
        · rw [q, uI_s]
        · rw [uI_n _ _ q]; exact hv t t0 (by omega)
  simp only [eLoc, eE, List.length_cons, List.length_nil, List.replicate, List.cons_append, List.nil_append, Nat.reduceAdd, Nat.reduceSub]
  refine x_iconst hK kX6_wipe_0 (q := 1) rfl ?_
  refine x_istore_n hK kX6_wipe_1 (q := 2) (jn := 2) rfl rfl ?_
  simp only [lS, lS2, clr_0, clr_I, clr_L, clr_R]
  exact x_to (loop 6 0 (A p) rfl (fun _ _ => rfl) (fun t t0 t1 => by omega)) rfl rfl (by rw [uA_s])
set_option maxRecDepth 20000 in
theorem mX6_wipe : eMet yX6_wipe cX6_wipe 3 none 2 45 SX6_wipe := eMet_of (by decide +kernel) sX6_wipe kX6_wipe_ok caX6_wipe tb_RX6
theorem wX6_wipe : eWV yX6_wipe cX6_wipe 3 none 2 5 SX6_wipe := ⟨(gW_at 375 (by decide +kernel) rfl), (gW_at 83 (by decide +kernel) rfl), (gW_at 374 (by decide +kernel) rfl), ⟨_, rfl, (gW_at 0 (by decide +kernel) rfl)⟩, by decide +kernel, SX6_wipe_r⟩
def SX6_empty : eSp := fun as M rt => ∃ (F : Nat → Int) (A W : Nat → Int → Int) (p : Nat), as = [eR (1, p)] ∧ M = cC F A W ∧ (p < 2) ∧ (∀ f : Int → Int, (∀ i : Int, 0 ≤ i → i < 30 → f i = 0) → rt none (cC (uF F (2 + p) 0) (uA A p f) W))
theorem SX6_empty_i {F : Nat → Int} {A W : Nat → Int → Int} {p : Nat} {rt : Option eV → eM → Prop} (hp : p < 2) (h : ∀ f : Int → Int, (∀ i : Int, 0 ≤ i → i < 30 → f i = 0) → rt none (cC (uF F (2 + p) 0) (uA A p f) W)) : SX6_empty [eR (1, p)] (cC F A W) rt := ⟨F, A, W, p, rfl, rfl, hp, h⟩
theorem SX6_empty_r : ∀ as M rt, SX6_empty as M rt → ∃ a r fs, as = eR a :: r ∧ M a = some (.inl (5, fs)) := by
  rintro as M rt ⟨F, A, W, p, rfl, rfl, hp, -⟩
  exact ⟨_, _, _, rfl, cC_1p hp⟩
def kX6_empty : List (Nat × Jvm.ClassFile.Instr × Nat) := [(0, .iconst 0, 1), (1, .istore_n 1, 1), (2, .iload_n 1, 1), (3, .iconst 4, 1), (4, .if_icmp .gt 14, 3), (7, .aload_n 0, 1), (8, .iload_n 1, 1), (9, .invokevirtual 22, 3), (12, .iinc 1 1, 3), (15, .goto (-13), 3), (18, .aload_n 0, 1), (19, .iconst 0, 1), (20, .putfield 18, 3), (23, .return_, 1)]
theorem kX6_empty_0 : cdOf kX6_empty 0 = some (.iconst 0, 1) := by decide +kernel
theorem kX6_empty_1 : cdOf kX6_empty 1 = some (.istore_n 1, 1) := by decide +kernel
theorem kX6_empty_2 : cdOf kX6_empty 2 = some (.iload_n 1, 1) := by decide +kernel
theorem kX6_empty_3 : cdOf kX6_empty 3 = some (.iconst 4, 1) := by decide +kernel
theorem kX6_empty_4 : cdOf kX6_empty 4 = some (.if_icmp .gt 14, 3) := by decide +kernel
theorem kX6_empty_7 : cdOf kX6_empty 7 = some (.aload_n 0, 1) := by decide +kernel
theorem kX6_empty_8 : cdOf kX6_empty 8 = some (.iload_n 1, 1) := by decide +kernel
theorem kX6_empty_9 : cdOf kX6_empty 9 = some (.invokevirtual 22, 3) := by decide +kernel
theorem kX6_empty_12 : cdOf kX6_empty 12 = some (.iinc 1 1, 3) := by decide +kernel
theorem kX6_empty_15 : cdOf kX6_empty 15 = some (.goto (-13), 3) := by decide +kernel
theorem kX6_empty_18 : cdOf kX6_empty 18 = some (.aload_n 0, 1) := by decide +kernel
theorem kX6_empty_19 : cdOf kX6_empty 19 = some (.iconst 0, 1) := by decide +kernel
theorem kX6_empty_20 : cdOf kX6_empty 20 = some (.putfield 18, 3) := by decide +kernel
theorem kX6_empty_23 : cdOf kX6_empty 23 = some (.return_, 1) := by decide +kernel
set_option maxRecDepth 20000 in
theorem kX6_empty_ok : ∀ pc i len, cdOf kX6_empty pc = some (i, len) → decode cX6_empty pc = .ok (i, len) ∧ stOK 2 i = true ∧ jOK pc i = true ∧ eLen i len = true := cdOf_ok cX6_empty 2 kX6_empty (by decide +kernel)
def vtX6_empty : Nat → Option (Nat × eSp) := fun k => match k with
  | 22 => some (2, SX6_wipe)
  | _ => none
theorem vtX6_empty_22 : vtX6_empty 22 = some (2, SX6_wipe) := rfl
def stX6_empty : Nat → Option (Nat × eSp) := fun _ => none
abbrev TX6_empty : eT := (fl_RX6, cl_RX6, dl_RX6, vtX6_empty, stX6_empty)
set_option maxRecDepth 20000 in
theorem caX6_empty : eCalls RX6 { frames := 3, cells := 0, slots := 0, locals := 67 } TX6_empty := by
  refine ⟨fun k n sp h => ?_, fun k n sp h => ?_⟩
  · dsimp only [TX6_empty] at h
    unfold vtX6_empty at h
    split at h
    · cases h; exact eV_mk mX6_wipe wX6_wipe (by decide +kernel) (Or.inl (gW_at 372 (by decide +kernel) rfl))
    · cases h
  · cases h
set_option maxRecDepth 100000 in
set_option maxHeartbeats 4000000 in
theorem sX6_empty : eSafe TX6_empty (cdOf kX6_empty) 2 none SX6_empty := by
  intro K rt hK as M h
  obtain ⟨F, A, W, p, rfl, rfl, hp, h⟩ := h
  refine ⟨by simp [eE], ?_⟩
  have loop : ∀ (d i : Nat) (f : Int → Int), i + d = 5 → (∀ t : Int, 0 ≤ t → t < 6 * (i : Int) → f t = 0) → K 2 [some (eR (1, p)), some (eI i)] [] (cC F (uA A p f) W) := by
    intro d
    induction d with
    | zero =>
      intro i f hi hv
      have : i = 5 := by omega
      subst this
      refine x_iload_n hK kX6_empty_2 (q := 3) rfl rfl ?_
      refine x_iconst hK kX6_empty_3 (q := 4) rfl ?_
      refine x_icmp_gt hK kX6_empty_4 (q := 7) rfl (tg := 18) rfl (by refine ⟨?_, ?_⟩ <;> omega) (fun c4 => ?_) (fun c4 => ?_)
      · refine x_aload_n hK kX6_empty_18 (q := 19) rfl rfl ?_
        refine x_iconst hK kX6_empty_19 (q := 20) rfl ?_
        refine x_putfield hK kX6_empty_20 (q := 23) rfl (pX6_18 ?_)
        refine x_return_ hK kX6_empty_23 (by first | trivial | exact Or.inl rfl | exact Or.inr rfl) ?_
        exact h f (fun t t0 t1 => hv t t0 (by omega))
      · exfalso; omega
    | succ d ih =>
      intro i f hi hv
      refine x_iload_n hK kX6_empty_2 (q := 3) rfl rfl ?_
      refine x_iconst hK kX6_empty_3 (q := 4) rfl ?_
      refine x_icmp_gt hK kX6_empty_4 (q := 7) rfl (tg := 18) rfl (by refine ⟨?_, ?_⟩ <;> omega) (fun c4 => ?_) (fun c4 => ?_)
      · exfalso; omega
      · refine x_aload_n hK kX6_empty_7 (q := 8) rfl rfl ?_
        refine x_iload_n hK kX6_empty_8 (q := 9) rfl rfl ?_
        refine x_cv2 hK kX6_empty_9 (q := 12) rfl (vtX6_empty_22) (Nat.le_of_ble_eq_true rfl) ?_
        refine SX6_wipe_i hp (by omega) (fun g g1 g2 => ?_)
        refine x_iinc hK kX6_empty_12 (q := 15) rfl rfl ?_
        simp only [lS, lS2, clr_0, clr_I, clr_L, clr_R]
        refine x_goto hK kX6_empty_15 (tg := 2) rfl ?_
        rw [uA_u, show (i : Int) + 1 = ((i + 1 : Nat) : Int) by omega]
        refine ih (i + 1) g (by omega) (fun t t0 t1 => ?_)
        rcases Int.lt_or_le t (6 * (i : Int)) with q | q
        · rw [g1 t (Or.inl q), uA_g]; exact hv t t0 q
        · exact g2 t q (by omega)
  simp only [eLoc, eE, List.length_cons, List.length_nil, List.replicate, List.cons_append, List.nil_append, Nat.reduceAdd, Nat.reduceSub]
  refine x_iconst hK kX6_empty_0 (q := 1) rfl ?_
  refine x_istore_n hK kX6_empty_1 (q := 2) (jn := 1) rfl rfl ?_
  simp only [lS, lS2, clr_0, clr_I, clr_L, clr_R]
  exact x_to (loop 5 0 (A p) rfl (fun t t0 t1 => by omega)) rfl rfl (by rw [uA_s])
set_option maxRecDepth 20000 in
theorem mX6_empty : eMet yX6_empty cX6_empty 2 none 3 67 SX6_empty := eMet_of (by decide +kernel) sX6_empty kX6_empty_ok caX6_empty tb_RX6
theorem wX6_empty : eWV yX6_empty cX6_empty 2 none 1 5 SX6_empty := ⟨(gW_at 371 (by decide +kernel) rfl), (gW_at 83 (by decide +kernel) rfl), (gW_at 369 (by decide +kernel) rfl), ⟨_, rfl, (gW_at 370 (by decide +kernel) rfl)⟩, by decide +kernel, SX6_empty_r⟩
def SX6_copy : eSp := fun as M rt => ∃ (F : Nat → Int) (A W : Nat → Int → Int) (p q : Nat), as = [eR (1, p), eR (1, q)] ∧ M = cC F A W ∧ (p < 2) ∧ (q < 2) ∧ (p ≠ q) ∧ (∀ f : Int → Int, (∀ i : Int, 0 ≤ i → i < 30 → f i = A q i) → rt none (cC (uF F (2 + p) (F (2 + q))) (uA A p f) W))
theorem SX6_copy_i {F : Nat → Int} {A W : Nat → Int → Int} {p q : Nat} {rt : Option eV → eM → Prop} (hp : p < 2) (hq : q < 2) (pq : p ≠ q) (h : ∀ f : Int → Int, (∀ i : Int, 0 ≤ i → i < 30 → f i = A q i) → rt none (cC (uF F (2 + p) (F (2 + q))) (uA A p f) W)) : SX6_copy [eR (1, p), eR (1, q)] (cC F A W) rt := ⟨F, A, W, p, q, rfl, rfl, hp, hq, pq, h⟩
theorem SX6_copy_r : ∀ as M rt, SX6_copy as M rt → ∃ a r fs, as = eR a :: r ∧ M a = some (.inl (5, fs)) := by
  rintro as M rt ⟨F, A, W, p, q, rfl, rfl, hp, -⟩
  exact ⟨_, _, _, rfl, cC_1p hp⟩
def kX6_copy : List (Nat × Jvm.ClassFile.Instr × Nat) := [(0, .iconst 0, 1), (1, .istore_n 2, 1), (2, .iload_n 2, 1), (3, .iconst 4, 1), (4, .if_icmp .gt 35, 3), (7, .iconst 0, 1), (8, .istore_n 3, 1), (9, .iload_n 3, 1), (10, .bipush 6, 2), (12, .if_icmp .ge 21, 3), (15, .aload_n 0, 1), (16, .iload_n 2, 1), (17, .iload_n 3, 1), (18, .aload_n 1, 1), (19, .iload_n 2, 1), (20, .iload_n 3, 1), (21, .invokevirtual 34, 3), (24, .invokevirtual 26, 3), (27, .iinc 3 1, 3), (30, .goto (-21), 3), (33, .iinc 2 1, 3), (36, .goto (-34), 3), (39, .aload_n 0, 1), (40, .aload_n 1, 1), (41, .getfield 18, 3), (44, .putfield 18, 3), (47, .return_, 1)]
theorem kX6_copy_0 : cdOf kX6_copy 0 = some (.iconst 0, 1) := by decide +kernel
theorem kX6_copy_1 : cdOf kX6_copy 1 = some (.istore_n 2, 1) := by decide +kernel
theorem kX6_copy_2 : cdOf kX6_copy 2 = some (.iload_n 2, 1) := by decide +kernel
theorem kX6_copy_3 : cdOf kX6_copy 3 = some (.iconst 4, 1) := by decide +kernel
theorem kX6_copy_4 : cdOf kX6_copy 4 = some (.if_icmp .gt 35, 3) := by decide +kernel
theorem kX6_copy_7 : cdOf kX6_copy 7 = some (.iconst 0, 1) := by decide +kernel
theorem kX6_copy_8 : cdOf kX6_copy 8 = some (.istore_n 3, 1) := by decide +kernel
theorem kX6_copy_9 : cdOf kX6_copy 9 = some (.iload_n 3, 1) := by decide +kernel
theorem kX6_copy_10 : cdOf kX6_copy 10 = some (.bipush 6, 2) := by decide +kernel
theorem kX6_copy_12 : cdOf kX6_copy 12 = some (.if_icmp .ge 21, 3) := by decide +kernel
theorem kX6_copy_15 : cdOf kX6_copy 15 = some (.aload_n 0, 1) := by decide +kernel
theorem kX6_copy_16 : cdOf kX6_copy 16 = some (.iload_n 2, 1) := by decide +kernel
theorem kX6_copy_17 : cdOf kX6_copy 17 = some (.iload_n 3, 1) := by decide +kernel
theorem kX6_copy_18 : cdOf kX6_copy 18 = some (.aload_n 1, 1) := by decide +kernel
theorem kX6_copy_19 : cdOf kX6_copy 19 = some (.iload_n 2, 1) := by decide +kernel
theorem kX6_copy_20 : cdOf kX6_copy 20 = some (.iload_n 3, 1) := by decide +kernel
theorem kX6_copy_21 : cdOf kX6_copy 21 = some (.invokevirtual 34, 3) := by decide +kernel
theorem kX6_copy_24 : cdOf kX6_copy 24 = some (.invokevirtual 26, 3) := by decide +kernel
theorem kX6_copy_27 : cdOf kX6_copy 27 = some (.iinc 3 1, 3) := by decide +kernel
theorem kX6_copy_30 : cdOf kX6_copy 30 = some (.goto (-21), 3) := by decide +kernel
theorem kX6_copy_33 : cdOf kX6_copy 33 = some (.iinc 2 1, 3) := by decide +kernel
theorem kX6_copy_36 : cdOf kX6_copy 36 = some (.goto (-34), 3) := by decide +kernel
theorem kX6_copy_39 : cdOf kX6_copy 39 = some (.aload_n 0, 1) := by decide +kernel
theorem kX6_copy_40 : cdOf kX6_copy 40 = some (.aload_n 1, 1) := by decide +kernel
theorem kX6_copy_41 : cdOf kX6_copy 41 = some (.getfield 18, 3) := by decide +kernel
theorem kX6_copy_44 : cdOf kX6_copy 44 = some (.putfield 18, 3) := by decide +kernel
theorem kX6_copy_47 : cdOf kX6_copy 47 = some (.return_, 1) := by decide +kernel
set_option maxRecDepth 20000 in
theorem kX6_copy_ok : ∀ pc i len, cdOf kX6_copy pc = some (i, len) → decode cX6_copy pc = .ok (i, len) ∧ stOK 4 i = true ∧ jOK pc i = true ∧ eLen i len = true := cdOf_ok cX6_copy 4 kX6_copy (by decide +kernel)
def vtX6_copy : Nat → Option (Nat × eSp) := fun k => match k with
  | 34 => some (3, SX6_read)
  | 26 => some (4, SX6_write)
  | _ => none
theorem vtX6_copy_34 : vtX6_copy 34 = some (3, SX6_read) := rfl
theorem vtX6_copy_26 : vtX6_copy 26 = some (4, SX6_write) := rfl
def stX6_copy : Nat → Option (Nat × eSp) := fun _ => none
abbrev TX6_copy : eT := (fl_RX6, cl_RX6, dl_RX6, vtX6_copy, stX6_copy)
set_option maxRecDepth 20000 in
theorem caX6_copy : eCalls RX6 { frames := 2, cells := 0, slots := 0, locals := 45 } TX6_copy := by
  refine ⟨fun k n sp h => ?_, fun k n sp h => ?_⟩
  · dsimp only [TX6_copy] at h
    unfold vtX6_copy at h
    split at h
    · cases h; exact eV_mk mX6_read wX6_read (by decide +kernel) (Or.inl (gW_at 400 (by decide +kernel) rfl))
    · cases h; exact eV_mk mX6_write wX6_write (by decide +kernel) (Or.inl (gW_at 376 (by decide +kernel) rfl))
    · cases h
  · cases h
set_option maxRecDepth 100000 in
set_option maxHeartbeats 4000000 in
theorem sX6_copy : eSafe TX6_copy (cdOf kX6_copy) 4 none SX6_copy := by
  intro K rt hK as M h
  obtain ⟨F, A, W, p, q, rfl, rfl, hp, hq, pq, h⟩ := h
  refine ⟨by simp [eE], ?_⟩
  have aq : ∀ f, uA A p f q = A q := fun f => uA_n _ _ (fun e => pq e.symm)
  have inner : ∀ (i : Nat), i < 5 → (∀ f : Int → Int, (∀ t : Int, 0 ≤ t → t < 6 * ((i + 1 : Nat) : Int) → f t = A q t) → ∀ u3, K 2 [some (eR (1, p)), some (eR (1, q)), some (eI ((i + 1 : Nat) : Int)), u3] [] (cC F (uA A p f) W)) → ∀ (d j : Nat) (f : Int → Int), j + d = 6 → (∀ t : Int, 0 ≤ t → t < 6 * (i : Int) + j → f t = A q t) → K 9 [some (eR (1, p)), some (eR (1, q)), some (eI i), some (eI j)] [] (cC F (uA A p f) W) := by
    intro i hi cont d
    induction d with
    | zero =>
      intro j f hj hv
      have : j = 6 := by omega
      subst this
      refine x_iload_n hK kX6_copy_9 (q := 10) rfl rfl ?_
      refine x_bipush hK kX6_copy_10 (q := 12) rfl (by decide) ?_
      refine x_icmp_ge hK kX6_copy_12 (q := 15) rfl (tg := 33) rfl (by refine ⟨?_, ?_⟩ <;> omega) (fun c12 => ?_) (fun c12 => ?_)
      · refine x_iinc hK kX6_copy_33 (q := 36) rfl rfl ?_
        simp only [lS, lS2, clr_0, clr_I, clr_L, clr_R]
        refine x_goto hK kX6_copy_36 (tg := 2) rfl ?_
        rw [show (i : Int) + 1 = ((i + 1 : Nat) : Int) by omega]
        exact cont f (fun t t0 t1 => hv t t0 (by omega)) _
      · exfalso; omega
    | succ d ih =>
      intro j f hj hv
      have e : pr (A q) i j = A q (6 * (i : Int) + j) := by unfold pr; rw [if_pos ⟨by omega, by omega, by omega, by omega⟩]
      refine x_iload_n hK kX6_copy_9 (q := 10) rfl rfl ?_
      refine x_bipush hK kX6_copy_10 (q := 12) rfl (by decide) ?_
      refine x_icmp_ge hK kX6_copy_12 (q := 15) rfl (tg := 33) rfl (by refine ⟨?_, ?_⟩ <;> omega) (fun c12 => ?_) (fun c12 => ?_)
      · exfalso; omega
      · refine x_aload_n hK kX6_copy_15 (q := 16) rfl rfl ?_
        refine x_iload_n hK kX6_copy_16 (q := 17) rfl rfl ?_
        refine x_iload_n hK kX6_copy_17 (q := 18) rfl rfl ?_
        refine x_aload_n hK kX6_copy_18 (q := 19) rfl rfl ?_
        refine x_iload_n hK kX6_copy_19 (q := 20) rfl rfl ?_
        refine x_iload_n hK kX6_copy_20 (q := 21) rfl rfl ?_
        refine x_cv3 hK kX6_copy_21 (q := 24) rfl (vtX6_copy_34) (Nat.le_of_ble_eq_true rfl) ?_
        refine SX6_read_i hq ⟨by omega, by omega⟩ ⟨by omega, by omega⟩ ?_
        rw [aq, e]
        refine x_cv4 hK kX6_copy_24 (q := 27) rfl (vtX6_copy_26) (Nat.le_of_ble_eq_true rfl) ?_
        refine SX6_write_i hp ⟨by omega, by omega⟩ ⟨by omega, by omega⟩ ⟨fun _ => ?_, fun q => absurd ⟨by omega, by omega, by omega, by omega⟩ q⟩
        refine x_iinc hK kX6_copy_27 (q := 30) rfl rfl ?_
        simp only [lS, lS2, clr_0, clr_I, clr_L, clr_R]
        refine x_goto hK kX6_copy_30 (tg := 9) rfl ?_
        rw [uA_g, uA_u, show (j : Int) + 1 = ((j + 1 : Nat) : Int) by omega]
        refine ih (j + 1) _ (by omega) (fun t t0 t1 => ?_)
        rcases Decidable.em (t = 6 * (i : Int) + j) with g | g
        · rw [g, uI_s]
        · rw [uI_n _ _ g]; exact hv t t0 (by omega)
  have loop : ∀ (d i : Nat) (f : Int → Int) (u3 : Option eV), i + d = 5 → (∀ t : Int, 0 ≤ t → t < 6 * (i : Int) → f t = A q t) → K 2 [some (eR (1, p)), some (eR (1, q)), some (eI i), u3] [] (cC F (uA A p f) W) := by
    intro d
    induction d with
    | zero =>
      intro i f u3 hi hv
      have : i = 5 := by omega
      subst this
      refine x_iload_n hK kX6_copy_2 (q := 3) rfl rfl ?_
      refine x_iconst hK kX6_copy_3 (q := 4) rfl ?_
      refine x_icmp_gt hK kX6_copy_4 (q := 7) rfl (tg := 39) rfl (by refine ⟨?_, ?_⟩ <;> omega) (fun c4 => ?_) (fun c4 => ?_)
      · refine x_aload_n hK kX6_copy_39 (q := 40) rfl rfl ?_
        refine x_aload_n hK kX6_copy_40 (q := 41) rfl rfl ?_
        refine x_getfield hK kX6_copy_41 (q := 44) rfl (gX6_18 ?_)
        refine x_putfield hK kX6_copy_44 (q := 47) rfl (pX6_18 ?_)
        refine x_return_ hK kX6_copy_47 (by first | trivial | exact Or.inl rfl | exact Or.inr rfl) ?_
        exact h f (fun t t0 t1 => hv t t0 (by omega))
      · exfalso; omega
    | succ d ih =>
      intro i f u3 hi hv
      refine x_iload_n hK kX6_copy_2 (q := 3) rfl rfl ?_
      refine x_iconst hK kX6_copy_3 (q := 4) rfl ?_
      refine x_icmp_gt hK kX6_copy_4 (q := 7) rfl (tg := 39) rfl (by refine ⟨?_, ?_⟩ <;> omega) (fun c4 => ?_) (fun c4 => ?_)
      · exfalso; omega
      · refine x_iconst hK kX6_copy_7 (q := 8) rfl ?_
        refine x_istore_n hK kX6_copy_8 (q := 9) (jn := 3) rfl rfl ?_
        simp only [lS, lS2, clr_0, clr_I, clr_L, clr_R]
        exact inner i (by omega) (fun g hg u3 => ih (i + 1) g u3 (by omega) hg) 6 0 f rfl (fun t t0 t1 => hv t t0 (by omega))
  simp only [eLoc, eE, List.length_cons, List.length_nil, List.replicate, List.cons_append, List.nil_append, Nat.reduceAdd, Nat.reduceSub]
  refine x_iconst hK kX6_copy_0 (q := 1) rfl ?_
  refine x_istore_n hK kX6_copy_1 (q := 2) (jn := 2) rfl rfl ?_
  simp only [lS, lS2, clr_0, clr_I, clr_L, clr_R]
  exact x_to (loop 5 0 (A p) _ rfl (fun t t0 t1 => by omega)) rfl rfl (by rw [uA_s])
set_option maxRecDepth 20000 in
theorem mX6_copy : eMet yX6_copy cX6_copy 4 none 2 45 SX6_copy := eMet_of (by decide +kernel) sX6_copy kX6_copy_ok caX6_copy tb_RX6
theorem wX6_copy : eWV yX6_copy cX6_copy 4 none 2 5 SX6_copy := ⟨(gW_at 407 (by decide +kernel) rfl), (gW_at 83 (by decide +kernel) rfl), (gW_at 405 (by decide +kernel) rfl), ⟨_, rfl, (gW_at 406 (by decide +kernel) rfl)⟩, by decide +kernel, SX6_copy_r⟩
def SX6_same : eSp := fun as M rt => ∃ (F : Nat → Int) (A W : Nat → Int → Int) (p q : Nat), as = [eR (1, p), eR (1, q)] ∧ M = cC F A W ∧ (p < 2) ∧ (q < 2) ∧ (w32 (F (2 + p)) ∧ w32 (F (2 + q))) ∧ (∀ i : Int, 0 ≤ i → i < 30 → w32 (A p i) ∧ w32 (A q i)) ∧ (((F (2 + p) = F (2 + q) ∧ ∀ i : Int, 0 ≤ i → i < 30 → A p i = A q i) → rt (some (eI 1)) (cC F A W)) ∧ (¬ (F (2 + p) = F (2 + q) ∧ ∀ i : Int, 0 ≤ i → i < 30 → A p i = A q i) → rt (some (eI 0)) (cC F A W)))
theorem SX6_same_i {F : Nat → Int} {A W : Nat → Int → Int} {p q : Nat} {rt : Option eV → eM → Prop} (hp : p < 2) (hq : q < 2) (hF : w32 (F (2 + p)) ∧ w32 (F (2 + q))) (hA : ∀ i : Int, 0 ≤ i → i < 30 → w32 (A p i) ∧ w32 (A q i)) (h : ((F (2 + p) = F (2 + q) ∧ ∀ i : Int, 0 ≤ i → i < 30 → A p i = A q i) → rt (some (eI 1)) (cC F A W)) ∧ (¬ (F (2 + p) = F (2 + q) ∧ ∀ i : Int, 0 ≤ i → i < 30 → A p i = A q i) → rt (some (eI 0)) (cC F A W))) : SX6_same [eR (1, p), eR (1, q)] (cC F A W) rt := ⟨F, A, W, p, q, rfl, rfl, hp, hq, hF, hA, h⟩
theorem SX6_same_r : ∀ as M rt, SX6_same as M rt → ∃ a r fs, as = eR a :: r ∧ M a = some (.inl (5, fs)) := by
  rintro as M rt ⟨F, A, W, p, q, rfl, rfl, hp, -⟩
  exact ⟨_, _, _, rfl, cC_1p hp⟩
def kX6_same : List (Nat × Jvm.ClassFile.Instr × Nat) := [(0, .aload_n 0, 1), (1, .getfield 18, 3), (4, .aload_n 1, 1), (5, .getfield 18, 3), (8, .if_icmp .eq 5, 3), (11, .iconst 0, 1), (12, .ireturn, 1), (13, .iconst 0, 1), (14, .istore_n 2, 1), (15, .iload_n 2, 1), (16, .iconst 4, 1), (17, .if_icmp .gt 40, 3), (20, .iconst 0, 1), (21, .istore_n 3, 1), (22, .iload_n 3, 1), (23, .bipush 6, 2), (25, .if_icmp .ge 26, 3), (28, .aload_n 0, 1), (29, .iload_n 2, 1), (30, .iload_n 3, 1), (31, .invokevirtual 34, 3), (34, .aload_n 1, 1), (35, .iload_n 2, 1), (36, .iload_n 3, 1), (37, .invokevirtual 34, 3), (40, .if_icmp .eq 5, 3), (43, .iconst 0, 1), (44, .ireturn, 1), (45, .iinc 3 1, 3), (48, .goto (-26), 3), (51, .iinc 2 1, 3), (54, .goto (-39), 3), (57, .iconst 1, 1), (58, .ireturn, 1)]
theorem kX6_same_0 : cdOf kX6_same 0 = some (.aload_n 0, 1) := by decide +kernel
theorem kX6_same_1 : cdOf kX6_same 1 = some (.getfield 18, 3) := by decide +kernel
theorem kX6_same_4 : cdOf kX6_same 4 = some (.aload_n 1, 1) := by decide +kernel
theorem kX6_same_5 : cdOf kX6_same 5 = some (.getfield 18, 3) := by decide +kernel
theorem kX6_same_8 : cdOf kX6_same 8 = some (.if_icmp .eq 5, 3) := by decide +kernel
theorem kX6_same_11 : cdOf kX6_same 11 = some (.iconst 0, 1) := by decide +kernel
theorem kX6_same_12 : cdOf kX6_same 12 = some (.ireturn, 1) := by decide +kernel
theorem kX6_same_13 : cdOf kX6_same 13 = some (.iconst 0, 1) := by decide +kernel
theorem kX6_same_14 : cdOf kX6_same 14 = some (.istore_n 2, 1) := by decide +kernel
theorem kX6_same_15 : cdOf kX6_same 15 = some (.iload_n 2, 1) := by decide +kernel
theorem kX6_same_16 : cdOf kX6_same 16 = some (.iconst 4, 1) := by decide +kernel
theorem kX6_same_17 : cdOf kX6_same 17 = some (.if_icmp .gt 40, 3) := by decide +kernel
theorem kX6_same_20 : cdOf kX6_same 20 = some (.iconst 0, 1) := by decide +kernel
theorem kX6_same_21 : cdOf kX6_same 21 = some (.istore_n 3, 1) := by decide +kernel
theorem kX6_same_22 : cdOf kX6_same 22 = some (.iload_n 3, 1) := by decide +kernel
theorem kX6_same_23 : cdOf kX6_same 23 = some (.bipush 6, 2) := by decide +kernel
theorem kX6_same_25 : cdOf kX6_same 25 = some (.if_icmp .ge 26, 3) := by decide +kernel
theorem kX6_same_28 : cdOf kX6_same 28 = some (.aload_n 0, 1) := by decide +kernel
theorem kX6_same_29 : cdOf kX6_same 29 = some (.iload_n 2, 1) := by decide +kernel
theorem kX6_same_30 : cdOf kX6_same 30 = some (.iload_n 3, 1) := by decide +kernel
theorem kX6_same_31 : cdOf kX6_same 31 = some (.invokevirtual 34, 3) := by decide +kernel
theorem kX6_same_34 : cdOf kX6_same 34 = some (.aload_n 1, 1) := by decide +kernel
theorem kX6_same_35 : cdOf kX6_same 35 = some (.iload_n 2, 1) := by decide +kernel
theorem kX6_same_36 : cdOf kX6_same 36 = some (.iload_n 3, 1) := by decide +kernel
theorem kX6_same_37 : cdOf kX6_same 37 = some (.invokevirtual 34, 3) := by decide +kernel
theorem kX6_same_40 : cdOf kX6_same 40 = some (.if_icmp .eq 5, 3) := by decide +kernel
theorem kX6_same_43 : cdOf kX6_same 43 = some (.iconst 0, 1) := by decide +kernel
theorem kX6_same_44 : cdOf kX6_same 44 = some (.ireturn, 1) := by decide +kernel
theorem kX6_same_45 : cdOf kX6_same 45 = some (.iinc 3 1, 3) := by decide +kernel
theorem kX6_same_48 : cdOf kX6_same 48 = some (.goto (-26), 3) := by decide +kernel
theorem kX6_same_51 : cdOf kX6_same 51 = some (.iinc 2 1, 3) := by decide +kernel
theorem kX6_same_54 : cdOf kX6_same 54 = some (.goto (-39), 3) := by decide +kernel
theorem kX6_same_57 : cdOf kX6_same 57 = some (.iconst 1, 1) := by decide +kernel
theorem kX6_same_58 : cdOf kX6_same 58 = some (.ireturn, 1) := by decide +kernel
set_option maxRecDepth 20000 in
theorem kX6_same_ok : ∀ pc i len, cdOf kX6_same pc = some (i, len) → decode cX6_same pc = .ok (i, len) ∧ stOK 4 i = true ∧ jOK pc i = true ∧ eLen i len = true := cdOf_ok cX6_same 4 kX6_same (by decide +kernel)
def vtX6_same : Nat → Option (Nat × eSp) := fun k => match k with
  | 34 => some (3, SX6_read)
  | _ => none
theorem vtX6_same_34 : vtX6_same 34 = some (3, SX6_read) := rfl
def stX6_same : Nat → Option (Nat × eSp) := fun _ => none
abbrev TX6_same : eT := (fl_RX6, cl_RX6, dl_RX6, vtX6_same, stX6_same)
set_option maxRecDepth 20000 in
theorem caX6_same : eCalls RX6 { frames := 2, cells := 0, slots := 0, locals := 44 } TX6_same := by
  refine ⟨fun k n sp h => ?_, fun k n sp h => ?_⟩
  · dsimp only [TX6_same] at h
    unfold vtX6_same at h
    split at h
    · cases h; exact eV_mk mX6_read wX6_read (by decide +kernel) (Or.inl (gW_at 400 (by decide +kernel) rfl))
    · cases h
  · cases h
set_option maxRecDepth 100000 in
set_option maxHeartbeats 4000000 in
theorem sX6_same : eSafe TX6_same (cdOf kX6_same) 4 (some .boolean) SX6_same := by
  intro K rt hK as M h
  obtain ⟨F, A, W, p, q, rfl, rfl, hp, hq, hF, hA, h⟩ := h
  refine ⟨by simp [eE], ?_⟩
  have inner : ∀ (i : Nat), i < 5 → ((∀ t : Int, 0 ≤ t → t < 6 * ((i + 1 : Nat) : Int) → A p t = A q t) → ∀ u3, K 15 [some (eR (1, p)), some (eR (1, q)), some (eI ((i + 1 : Nat) : Int)), u3] [] (cC F A W)) → ∀ (d j : Nat), j + d = 6 → (∀ t : Int, 0 ≤ t → t < 6 * (i : Int) + j → A p t = A q t) → K 22 [some (eR (1, p)), some (eR (1, q)), some (eI i), some (eI j)] [] (cC F A W) := by
    intro i hi cont d
    induction d with
    | zero =>
      intro j hj hv
      have : j = 6 := by omega
      subst this
      refine x_iload_n hK kX6_same_22 (q := 23) rfl rfl ?_
      refine x_bipush hK kX6_same_23 (q := 25) rfl (by decide) ?_
      refine x_icmp_ge hK kX6_same_25 (q := 28) rfl (tg := 51) rfl (by refine ⟨?_, ?_⟩ <;> omega) (fun c25 => ?_) (fun c25 => ?_)
      · refine x_iinc hK kX6_same_51 (q := 54) rfl rfl ?_
        simp only [lS, lS2, clr_0, clr_I, clr_L, clr_R]
        refine x_goto hK kX6_same_54 (tg := 15) rfl ?_
        rw [show (i : Int) + 1 = ((i + 1 : Nat) : Int) by omega]
        exact cont (fun t t0 t1 => hv t t0 (by omega)) _
      · exfalso; omega
    | succ d ih =>
      intro j hj hv
      have e : ∀ f, pr f i j = f (6 * (i : Int) + j) := fun f => by unfold pr; rw [if_pos ⟨by omega, by omega, by omega, by omega⟩]
      have wA := hA (6 * (i : Int) + j) (by omega) (by omega)
      refine x_iload_n hK kX6_same_22 (q := 23) rfl rfl ?_
      refine x_bipush hK kX6_same_23 (q := 25) rfl (by decide) ?_
      refine x_icmp_ge hK kX6_same_25 (q := 28) rfl (tg := 51) rfl (by refine ⟨?_, ?_⟩ <;> omega) (fun c25 => ?_) (fun c25 => ?_)
      · exfalso; omega
      · refine x_aload_n hK kX6_same_28 (q := 29) rfl rfl ?_
        refine x_iload_n hK kX6_same_29 (q := 30) rfl rfl ?_
        refine x_iload_n hK kX6_same_30 (q := 31) rfl rfl ?_
        refine x_cv3 hK kX6_same_31 (q := 34) rfl (vtX6_same_34) (Nat.le_of_ble_eq_true rfl) ?_
        refine SX6_read_i hp ⟨by omega, by omega⟩ ⟨by omega, by omega⟩ ?_
        rw [e]
        refine x_aload_n hK kX6_same_34 (q := 35) rfl rfl ?_
        refine x_iload_n hK kX6_same_35 (q := 36) rfl rfl ?_
        refine x_iload_n hK kX6_same_36 (q := 37) rfl rfl ?_
        refine x_cv3 hK kX6_same_37 (q := 40) rfl (vtX6_same_34) (Nat.le_of_ble_eq_true rfl) ?_
        refine SX6_read_i hq ⟨by omega, by omega⟩ ⟨by omega, by omega⟩ ?_
        rw [e]
        refine x_icmp_eq hK kX6_same_40 (q := 43) rfl (tg := 45) rfl (by exact wA) (fun c40 => ?_) (fun c40 => ?_)
        · refine x_iinc hK kX6_same_45 (q := 48) rfl rfl ?_
          simp only [lS, lS2, clr_0, clr_I, clr_L, clr_R]
          refine x_goto hK kX6_same_48 (tg := 22) rfl ?_
          rw [show (j : Int) + 1 = ((j + 1 : Nat) : Int) by omega]
          refine ih (j + 1) (by omega) (fun t t0 t1 => ?_)
          rcases Decidable.em (t = 6 * (i : Int) + j) with g | g
          · rw [g]; exact c40
          · exact hv t t0 (by omega)
        · refine x_iconst hK kX6_same_43 (q := 44) rfl ?_
          refine x_ireturn hK kX6_same_44 (by first | exact Or.inl rfl | exact Or.inr rfl) ?_
          exact h.2 (fun g => c40 (g.2 _ (by omega) (by omega)))
  have loop : F (2 + p) = F (2 + q) → ∀ (d i : Nat) (u3 : Option eV), i + d = 5 → (∀ t : Int, 0 ≤ t → t < 6 * (i : Int) → A p t = A q t) → K 15 [some (eR (1, p)), some (eR (1, q)), some (eI i), u3] [] (cC F A W) := by
    intro eF d
    induction d with
    | zero =>
      intro i u3 hi hv
      have : i = 5 := by omega
      subst this
      refine x_iload_n hK kX6_same_15 (q := 16) rfl rfl ?_
      refine x_iconst hK kX6_same_16 (q := 17) rfl ?_
      refine x_icmp_gt hK kX6_same_17 (q := 20) rfl (tg := 57) rfl (by refine ⟨?_, ?_⟩ <;> omega) (fun c17 => ?_) (fun c17 => ?_)
      · refine x_iconst hK kX6_same_57 (q := 58) rfl ?_
        refine x_ireturn hK kX6_same_58 (by first | exact Or.inl rfl | exact Or.inr rfl) ?_
        exact h.1 ⟨eF, fun t t0 t1 => hv t t0 (by omega)⟩
      · exfalso; omega
    | succ d ih =>
      intro i u3 hi hv
      refine x_iload_n hK kX6_same_15 (q := 16) rfl rfl ?_
      refine x_iconst hK kX6_same_16 (q := 17) rfl ?_
      refine x_icmp_gt hK kX6_same_17 (q := 20) rfl (tg := 57) rfl (by refine ⟨?_, ?_⟩ <;> omega) (fun c17 => ?_) (fun c17 => ?_)
      · exfalso; omega
      · refine x_iconst hK kX6_same_20 (q := 21) rfl ?_
        refine x_istore_n hK kX6_same_21 (q := 22) (jn := 3) rfl rfl ?_
        simp only [lS, lS2, clr_0, clr_I, clr_L, clr_R]
        exact inner i (by omega) (fun hg u3 => ih (i + 1) u3 (by omega) hg) 6 0 rfl (fun t t0 t1 => hv t t0 (by omega))
  simp only [eLoc, eE, List.length_cons, List.length_nil, List.replicate, List.cons_append, List.nil_append, Nat.reduceAdd, Nat.reduceSub]
  refine x_aload_n hK kX6_same_0 (q := 1) rfl rfl ?_
  refine x_getfield hK kX6_same_1 (q := 4) rfl (gX6_18 ?_)
  refine x_aload_n hK kX6_same_4 (q := 5) rfl rfl ?_
  refine x_getfield hK kX6_same_5 (q := 8) rfl (gX6_18 ?_)
  refine x_icmp_eq hK kX6_same_8 (q := 11) rfl (tg := 13) rfl (by exact hF) (fun c8 => ?_) (fun c8 => ?_)
  · refine x_iconst hK kX6_same_13 (q := 14) rfl ?_
    refine x_istore_n hK kX6_same_14 (q := 15) (jn := 2) rfl rfl ?_
    simp only [lS, lS2, clr_0, clr_I, clr_L, clr_R]
    exact loop c8 5 0 _ rfl (fun t t0 t1 => by omega)
  · refine x_iconst hK kX6_same_11 (q := 12) rfl ?_
    refine x_ireturn hK kX6_same_12 (by first | exact Or.inl rfl | exact Or.inr rfl) ?_
    exact h.2 (fun g => c8 g.1)
set_option maxRecDepth 20000 in
theorem mX6_same : eMet yX6_same cX6_same 4 (some .boolean) 2 44 SX6_same := eMet_of (by decide +kernel) sX6_same kX6_same_ok caX6_same tb_RX6
theorem wX6_same : eWV yX6_same cX6_same 4 (some .boolean) 2 5 SX6_same := ⟨(gW_at 399 (by decide +kernel) rfl), (gW_at 83 (by decide +kernel) rfl), (gW_at 397 (by decide +kernel) rfl), ⟨_, rfl, (gW_at 398 (by decide +kernel) rfl)⟩, by decide +kernel, SX6_same_r⟩
