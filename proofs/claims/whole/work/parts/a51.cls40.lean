/-! The face: table, form. -/
def SX9_table : eSp := fun as M rt => ∃ (F : Nat → Int) (A W : Nat → Int → Int) (V : Nat → Int) (n : Nat) (k i j w : Int), as = [eR (0, 0), eI k, eI i, eI j, eI w] ∧ M = cC F A W ∧ (aR W V) ∧ (w32 (F 1)) ∧ (F 5 = n) ∧ (n ≤ 4) ∧ (w32 k) ∧ (w32 i) ∧ (w32 j) ∧ (w32 w) ∧ ((F 1 = 0 ∨ F 1 = 1) → ∀ g : Nat, g < 3 → 0 < V (gb g + 16) ∧ zAbs (V (gb g + 16)) ≤ 2 ^ 930 ∧ ∀ c, c < 16 → zAbs (V (gb g + c)) ≤ 2 ^ 930) ∧ ((¬ ((F 1 = 0 ∨ F 1 = 1) ∧ (0 ≤ k ∧ k < 3) ∧ enI n i j w) → rt (some (eL (-1))) (cC F A W)) ∧ (((F 1 = 0 ∨ F 1 = 1) ∧ (0 ≤ k ∧ k < 3) ∧ enI n i j w) → ∀ W', aR W' V → rt (some (eL (tel (V (gb k.toNat + (4 * i.toNat + j.toNat))) (V (gb k.toNat + 16)) w))) (cC F A W')))
theorem SX9_table_i {F : Nat → Int} {A W : Nat → Int → Int} {V : Nat → Int} {n : Nat} {k i j w : Int} {rt : Option eV → eM → Prop} (hV : aR W V) (hF : w32 (F 1)) (hn : F 5 = n) (n4 : n ≤ 4) (hk : w32 k) (hi : w32 i) (hj : w32 j) (hw : w32 w) (hg : (F 1 = 0 ∨ F 1 = 1) → ∀ g : Nat, g < 3 → 0 < V (gb g + 16) ∧ zAbs (V (gb g + 16)) ≤ 2 ^ 930 ∧ ∀ c, c < 16 → zAbs (V (gb g + c)) ≤ 2 ^ 930) (h : (¬ ((F 1 = 0 ∨ F 1 = 1) ∧ (0 ≤ k ∧ k < 3) ∧ enI n i j w) → rt (some (eL (-1))) (cC F A W)) ∧ (((F 1 = 0 ∨ F 1 = 1) ∧ (0 ≤ k ∧ k < 3) ∧ enI n i j w) → ∀ W', aR W' V → rt (some (eL (tel (V (gb k.toNat + (4 * i.toNat + j.toNat))) (V (gb k.toNat + 16)) w))) (cC F A W'))) : SX9_table [eR (0, 0), eI k, eI i, eI j, eI w] (cC F A W) rt := ⟨F, A, W, V, n, k, i, j, w, rfl, rfl, hV, hF, hn, n4, hk, hi, hj, hw, hg, h⟩
theorem SX9_table_r : ∀ as M rt, SX9_table as M rt → ∃ a r fs, as = eR a :: r ∧ M a = some (.inl (8, fs)) := by
  rintro as M rt ⟨F, A, W, V, n, k, i, j, w, rfl, rfl, -⟩
  exact ⟨_, _, _, rfl, rfl⟩
def kX9_table : List (Nat × Jvm.ClassFile.Instr × Nat) := [(0, .aload_n 0, 1), (1, .invokevirtual 111, 3), (4, .ifCond .eq 22, 3), (7, .aload_n 0, 1), (8, .aload_n 0, 1), (9, .getfield 40, 3), (12, .iload_n 1, 1), (13, .invokevirtual 141, 3), (16, .iload_n 2, 1), (17, .iload_n 3, 1), (18, .iload 4, 2), (20, .invokevirtual 145, 3), (23, .goto 6, 3), (26, .ldc2_w 128, 3), (29, .lreturn, 1)]
theorem kX9_table_0 : cdOf kX9_table 0 = some (.aload_n 0, 1) := by decide +kernel
theorem kX9_table_1 : cdOf kX9_table 1 = some (.invokevirtual 111, 3) := by decide +kernel
theorem kX9_table_4 : cdOf kX9_table 4 = some (.ifCond .eq 22, 3) := by decide +kernel
theorem kX9_table_7 : cdOf kX9_table 7 = some (.aload_n 0, 1) := by decide +kernel
theorem kX9_table_8 : cdOf kX9_table 8 = some (.aload_n 0, 1) := by decide +kernel
theorem kX9_table_9 : cdOf kX9_table 9 = some (.getfield 40, 3) := by decide +kernel
theorem kX9_table_12 : cdOf kX9_table 12 = some (.iload_n 1, 1) := by decide +kernel
theorem kX9_table_13 : cdOf kX9_table 13 = some (.invokevirtual 141, 3) := by decide +kernel
theorem kX9_table_16 : cdOf kX9_table 16 = some (.iload_n 2, 1) := by decide +kernel
theorem kX9_table_17 : cdOf kX9_table 17 = some (.iload_n 3, 1) := by decide +kernel
theorem kX9_table_18 : cdOf kX9_table 18 = some (.iload 4, 2) := by decide +kernel
theorem kX9_table_20 : cdOf kX9_table 20 = some (.invokevirtual 145, 3) := by decide +kernel
theorem kX9_table_23 : cdOf kX9_table 23 = some (.goto 6, 3) := by decide +kernel
theorem kX9_table_26 : cdOf kX9_table 26 = some (.ldc2_w 128, 3) := by decide +kernel
theorem kX9_table_29 : cdOf kX9_table 29 = some (.lreturn, 1) := by decide +kernel
set_option maxRecDepth 20000 in
theorem kX9_table_ok : ∀ pc i len, cdOf kX9_table pc = some (i, len) → decode cX9_table pc = .ok (i, len) ∧ stOK 5 i = true ∧ jOK pc i = true ∧ eLen i len = true := cdOf_ok cX9_table 5 kX9_table (by decide +kernel)
def vtX9_table : Nat → Option (Nat × eSp) := fun k => match k with
  | 111 => some (1, SX9_isFinite)
  | 141 => some (2, SX0_multiplier)
  | 145 => some (5, SX9_entry)
  | _ => none
theorem vtX9_table_111 : vtX9_table 111 = some (1, SX9_isFinite) := rfl
theorem vtX9_table_141 : vtX9_table 141 = some (2, SX0_multiplier) := rfl
theorem vtX9_table_145 : vtX9_table 145 = some (5, SX9_entry) := rfl
def stX9_table : Nat → Option (Nat × eSp) := fun _ => none
abbrev TX9_table : eT := (fl_RX9, cl_RX9, dl_RX9, vtX9_table, stX9_table)
set_option maxRecDepth 20000 in
theorem caX9_table : eCalls RX9 { frames := 5, cells := 0, slots := 0, locals := 138 } TX9_table := by
  refine ⟨fun k n sp h => ?_, fun k n sp h => ?_⟩
  · dsimp only [TX9_table] at h
    unfold vtX9_table at h
    split at h
    · cases h; exact eV_mk mX9_isFinite wX9_isFinite (by decide +kernel) (Or.inl (gW_at 720 (by decide +kernel) rfl))
    · cases h; exact eV_mk mX0_multiplier wX0_multiplier (by decide +kernel) (Or.inl (gW_at 801 (by decide +kernel) rfl))
    · cases h; exact eV_mk mX9_entry wX9_entry (by decide +kernel) (Or.inl (gW_at 805 (by decide +kernel) rfl))
    · cases h
  · cases h
set_option maxRecDepth 100000 in
set_option maxHeartbeats 4000000 in
theorem sX9_table : eSafe TX9_table (cdOf kX9_table) 5 (some .long) SX9_table := by
  intro K rt hK as M h
  obtain ⟨F, A, W, V, n, k, i, j, w, rfl, rfl, hV, hF, hn, n4, hk, hi, hj, hw, hg, h⟩ := h
  refine ⟨by simp [eE], ?_⟩
  have go : ∀ (gv : eV) (g : Nat), (gv = eN ∨ (gv = eR (9, g) ∧ g < 11 ∧ 0 < V (gb g + 16) ∧ zAbs (V (gb g + 16)) ≤ 2 ^ 930 ∧ ∀ c, c < 16 → zAbs (V (gb g + c)) ≤ 2 ^ 930)) → ((gv = eN ∨ ¬ enI n i j w) → rt (some (eL (-1))) (cC F A W)) → ((gv ≠ eN ∧ enI n i j w) → ∀ W', aR W' V → rt (some (eL (tel (V (gb g + (4 * i.toNat + j.toNat))) (V (gb g + 16)) w))) (cC F A W')) → K 16 [some (eR (0, 0)), some (eI k), some (eI i), some (eI j), some (eI w)] [gv, eR (0, 0)] (cC F A W) := fun gv g hg q1 q2 => by
    refine x_iload_n hK kX9_table_16 (q := 17) rfl rfl ?_
    refine x_iload_n hK kX9_table_17 (q := 18) rfl rfl ?_
    refine x_iload hK kX9_table_18 (q := 20) rfl rfl ?_
    refine x_cv5 hK kX9_table_20 (q := 23) rfl (vtX9_table_145) (Nat.le_of_ble_eq_true rfl) ?_
    refine SX9_entry_i hV hn n4 hi hj hw hg ⟨fun q => ?_, fun q W' h1 => ?_⟩
    · refine x_goto hK kX9_table_23 (tg := 29) rfl ?_
      refine x_lreturn hK kX9_table_29 (by trivial) ?_
      exact q1 q
    refine x_goto hK kX9_table_23 (tg := 29) rfl ?_
    refine x_lreturn hK kX9_table_29 (by first | trivial | exact Or.inl rfl | exact Or.inr rfl) ?_
    exact q2 q W' h1
  simp only [eLoc, eE, List.length_cons, List.length_nil, List.replicate, List.cons_append, List.nil_append, Nat.reduceAdd, Nat.reduceSub]
  refine x_aload_n hK kX9_table_0 (q := 1) rfl rfl ?_
  refine x_cv1 hK kX9_table_1 (q := 4) rfl (vtX9_table_111) (Nat.le_of_ble_eq_true rfl) ?_
  refine SX9_isFinite_i hF ?_
  refine x_if_eq hK kX9_table_4 (q := 7) rfl (tg := 26) rfl (by unfold zE; split <;> decide) (fun c4 => ?_) (fun c4 => ?_)
  · have nf : ¬ (F 1 = 0 ∨ F 1 = 1) := fun q => by unfold zE at c4; rw [if_pos q] at c4; omega
    have hfin := h.1 (fun q => nf q.1)
    refine x_ldc2_w hK kX9_table_26 (q := 29) rfl lc2_RX9_128 ?_
    refine x_lreturn hK kX9_table_29 (by first | trivial | exact Or.inl rfl | exact Or.inr rfl) ?_
    exact hfin
  · have fi : F 1 = 0 ∨ F 1 = 1 := Decidable.of_not_not (fun q => c4 (by unfold zE; rw [if_neg q]))
    refine x_aload_n hK kX9_table_7 (q := 8) rfl rfl ?_
    refine x_aload_n hK kX9_table_8 (q := 9) rfl rfl ?_
    refine x_getfield hK kX9_table_9 (q := 12) rfl (gX9_40 ?_)
    refine x_iload_n hK kX9_table_12 (q := 13) rfl rfl ?_
    refine x_cv2 hK kX9_table_13 (q := 16) rfl (vtX9_table_141) (Nat.le_of_ble_eq_true rfl) ?_
    refine SX0_multiplier_i hk ⟨fun m hm m3 => ?_, fun q => ?_⟩
    · subst hm
      obtain ⟨g1, g2, g3⟩ := hg fi m m3
      refine go (eR (9, m)) m (Or.inr ⟨rfl, by omega, g1, g2, g3⟩) (fun q => h.1 (fun z => ?_)) (fun q W' h1 => ?_)
      · rcases q with q | q
        · cases q
        · exact q z.2.2
      · have := h.2 ⟨fi, ⟨by omega, by omega⟩, q.2⟩ W' h1
        rw [Int.toNat_natCast] at this
        exact this
    exact go eN 0 (Or.inl rfl) (fun _ => h.1 (fun z => q z.2.1)) (fun z => absurd rfl z.1)
set_option maxRecDepth 20000 in
theorem mX9_table : eMet yX9_table cX9_table 5 (some .long) 5 138 SX9_table := eMet_of (by decide +kernel) sX9_table kX9_table_ok caX9_table tb_RX9
theorem wX9_table : eWV yX9_table cX9_table 5 (some .long) 5 8 SX9_table := ⟨(gW_at 800 (by decide +kernel) rfl), (gW_at 79 (by decide +kernel) rfl), (gW_at 798 (by decide +kernel) rfl), ⟨_, rfl, (gW_at 799 (by decide +kernel) rfl)⟩, by decide +kernel, SX9_table_r⟩
def SX9_form : eSp := fun as M rt => ∃ (F : Nat → Int) (A W : Nat → Int → Int) (V : Nat → Int) (n : Nat) (k i j w : Int), as = [eR (0, 0), eI k, eI i, eI j, eI w] ∧ M = cC F A W ∧ (aR W V) ∧ (w32 (F 1)) ∧ (F 5 = n) ∧ (n ≤ 4) ∧ (w32 k) ∧ (w32 i) ∧ (w32 j) ∧ (w32 w) ∧ ((F 1 = 0 ∨ F 1 = 1) → ∀ g : Nat, g < 3 → 0 < V (gb (7 + g) + 16) ∧ zAbs (V (gb (7 + g) + 16)) ≤ 2 ^ 930 ∧ ∀ c, c < 16 → zAbs (V (gb (7 + g) + c)) ≤ 2 ^ 930) ∧ ((¬ ((F 1 = 0 ∨ F 1 = 1) ∧ (0 ≤ k ∧ k < 3) ∧ enI n i j w) → rt (some (eL (-1))) (cC F A W)) ∧ (((F 1 = 0 ∨ F 1 = 1) ∧ (0 ≤ k ∧ k < 3) ∧ enI n i j w) → ∀ W', aR W' V → rt (some (eL (tel (V (gb (7 + k.toNat) + (4 * i.toNat + j.toNat))) (V (gb (7 + k.toNat) + 16)) w))) (cC F A W')))
theorem SX9_form_i {F : Nat → Int} {A W : Nat → Int → Int} {V : Nat → Int} {n : Nat} {k i j w : Int} {rt : Option eV → eM → Prop} (hV : aR W V) (hF : w32 (F 1)) (hn : F 5 = n) (n4 : n ≤ 4) (hk : w32 k) (hi : w32 i) (hj : w32 j) (hw : w32 w) (hg : (F 1 = 0 ∨ F 1 = 1) → ∀ g : Nat, g < 3 → 0 < V (gb (7 + g) + 16) ∧ zAbs (V (gb (7 + g) + 16)) ≤ 2 ^ 930 ∧ ∀ c, c < 16 → zAbs (V (gb (7 + g) + c)) ≤ 2 ^ 930) (h : (¬ ((F 1 = 0 ∨ F 1 = 1) ∧ (0 ≤ k ∧ k < 3) ∧ enI n i j w) → rt (some (eL (-1))) (cC F A W)) ∧ (((F 1 = 0 ∨ F 1 = 1) ∧ (0 ≤ k ∧ k < 3) ∧ enI n i j w) → ∀ W', aR W' V → rt (some (eL (tel (V (gb (7 + k.toNat) + (4 * i.toNat + j.toNat))) (V (gb (7 + k.toNat) + 16)) w))) (cC F A W'))) : SX9_form [eR (0, 0), eI k, eI i, eI j, eI w] (cC F A W) rt := ⟨F, A, W, V, n, k, i, j, w, rfl, rfl, hV, hF, hn, n4, hk, hi, hj, hw, hg, h⟩
theorem SX9_form_r : ∀ as M rt, SX9_form as M rt → ∃ a r fs, as = eR a :: r ∧ M a = some (.inl (8, fs)) := by
  rintro as M rt ⟨F, A, W, V, n, k, i, j, w, rfl, rfl, -⟩
  exact ⟨_, _, _, rfl, rfl⟩
def kX9_form : List (Nat × Jvm.ClassFile.Instr × Nat) := [(0, .aload_n 0, 1), (1, .invokevirtual 111, 3), (4, .ifCond .eq 22, 3), (7, .aload_n 0, 1), (8, .aload_n 0, 1), (9, .getfield 40, 3), (12, .iload_n 1, 1), (13, .invokevirtual 149, 3), (16, .iload_n 2, 1), (17, .iload_n 3, 1), (18, .iload 4, 2), (20, .invokevirtual 145, 3), (23, .goto 6, 3), (26, .ldc2_w 128, 3), (29, .lreturn, 1)]
theorem kX9_form_0 : cdOf kX9_form 0 = some (.aload_n 0, 1) := by decide +kernel
theorem kX9_form_1 : cdOf kX9_form 1 = some (.invokevirtual 111, 3) := by decide +kernel
theorem kX9_form_4 : cdOf kX9_form 4 = some (.ifCond .eq 22, 3) := by decide +kernel
theorem kX9_form_7 : cdOf kX9_form 7 = some (.aload_n 0, 1) := by decide +kernel
theorem kX9_form_8 : cdOf kX9_form 8 = some (.aload_n 0, 1) := by decide +kernel
theorem kX9_form_9 : cdOf kX9_form 9 = some (.getfield 40, 3) := by decide +kernel
theorem kX9_form_12 : cdOf kX9_form 12 = some (.iload_n 1, 1) := by decide +kernel
theorem kX9_form_13 : cdOf kX9_form 13 = some (.invokevirtual 149, 3) := by decide +kernel
theorem kX9_form_16 : cdOf kX9_form 16 = some (.iload_n 2, 1) := by decide +kernel
theorem kX9_form_17 : cdOf kX9_form 17 = some (.iload_n 3, 1) := by decide +kernel
theorem kX9_form_18 : cdOf kX9_form 18 = some (.iload 4, 2) := by decide +kernel
theorem kX9_form_20 : cdOf kX9_form 20 = some (.invokevirtual 145, 3) := by decide +kernel
theorem kX9_form_23 : cdOf kX9_form 23 = some (.goto 6, 3) := by decide +kernel
theorem kX9_form_26 : cdOf kX9_form 26 = some (.ldc2_w 128, 3) := by decide +kernel
theorem kX9_form_29 : cdOf kX9_form 29 = some (.lreturn, 1) := by decide +kernel
set_option maxRecDepth 20000 in
theorem kX9_form_ok : ∀ pc i len, cdOf kX9_form pc = some (i, len) → decode cX9_form pc = .ok (i, len) ∧ stOK 5 i = true ∧ jOK pc i = true ∧ eLen i len = true := cdOf_ok cX9_form 5 kX9_form (by decide +kernel)
def vtX9_form : Nat → Option (Nat × eSp) := fun k => match k with
  | 111 => some (1, SX9_isFinite)
  | 149 => some (2, SX0_trace)
  | 145 => some (5, SX9_entry)
  | _ => none
theorem vtX9_form_111 : vtX9_form 111 = some (1, SX9_isFinite) := rfl
theorem vtX9_form_149 : vtX9_form 149 = some (2, SX0_trace) := rfl
theorem vtX9_form_145 : vtX9_form 145 = some (5, SX9_entry) := rfl
def stX9_form : Nat → Option (Nat × eSp) := fun _ => none
abbrev TX9_form : eT := (fl_RX9, cl_RX9, dl_RX9, vtX9_form, stX9_form)
set_option maxRecDepth 20000 in
theorem caX9_form : eCalls RX9 { frames := 5, cells := 0, slots := 0, locals := 138 } TX9_form := by
  refine ⟨fun k n sp h => ?_, fun k n sp h => ?_⟩
  · dsimp only [TX9_form] at h
    unfold vtX9_form at h
    split at h
    · cases h; exact eV_mk mX9_isFinite wX9_isFinite (by decide +kernel) (Or.inl (gW_at 720 (by decide +kernel) rfl))
    · cases h; exact eV_mk mX0_trace wX0_trace (by decide +kernel) (Or.inl (gW_at 814 (by decide +kernel) rfl))
    · cases h; exact eV_mk mX9_entry wX9_entry (by decide +kernel) (Or.inl (gW_at 805 (by decide +kernel) rfl))
    · cases h
  · cases h
set_option maxRecDepth 100000 in
set_option maxHeartbeats 4000000 in
theorem sX9_form : eSafe TX9_form (cdOf kX9_form) 5 (some .long) SX9_form := by
  intro K rt hK as M h
  obtain ⟨F, A, W, V, n, k, i, j, w, rfl, rfl, hV, hF, hn, n4, hk, hi, hj, hw, hg, h⟩ := h
  refine ⟨by simp [eE], ?_⟩
  have go : ∀ (gv : eV) (g : Nat), (gv = eN ∨ (gv = eR (9, g) ∧ g < 11 ∧ 0 < V (gb g + 16) ∧ zAbs (V (gb g + 16)) ≤ 2 ^ 930 ∧ ∀ c, c < 16 → zAbs (V (gb g + c)) ≤ 2 ^ 930)) → ((gv = eN ∨ ¬ enI n i j w) → rt (some (eL (-1))) (cC F A W)) → ((gv ≠ eN ∧ enI n i j w) → ∀ W', aR W' V → rt (some (eL (tel (V (gb g + (4 * i.toNat + j.toNat))) (V (gb g + 16)) w))) (cC F A W')) → K 16 [some (eR (0, 0)), some (eI k), some (eI i), some (eI j), some (eI w)] [gv, eR (0, 0)] (cC F A W) := fun gv g hg q1 q2 => by
    refine x_iload_n hK kX9_form_16 (q := 17) rfl rfl ?_
    refine x_iload_n hK kX9_form_17 (q := 18) rfl rfl ?_
    refine x_iload hK kX9_form_18 (q := 20) rfl rfl ?_
    refine x_cv5 hK kX9_form_20 (q := 23) rfl (vtX9_form_145) (Nat.le_of_ble_eq_true rfl) ?_
    refine SX9_entry_i hV hn n4 hi hj hw hg ⟨fun q => ?_, fun q W' h1 => ?_⟩
    · refine x_goto hK kX9_form_23 (tg := 29) rfl ?_
      refine x_lreturn hK kX9_form_29 (by trivial) ?_
      exact q1 q
    refine x_goto hK kX9_form_23 (tg := 29) rfl ?_
    refine x_lreturn hK kX9_form_29 (by first | trivial | exact Or.inl rfl | exact Or.inr rfl) ?_
    exact q2 q W' h1
  simp only [eLoc, eE, List.length_cons, List.length_nil, List.replicate, List.cons_append, List.nil_append, Nat.reduceAdd, Nat.reduceSub]
  refine x_aload_n hK kX9_form_0 (q := 1) rfl rfl ?_
  refine x_cv1 hK kX9_form_1 (q := 4) rfl (vtX9_form_111) (Nat.le_of_ble_eq_true rfl) ?_
  refine SX9_isFinite_i hF ?_
  refine x_if_eq hK kX9_form_4 (q := 7) rfl (tg := 26) rfl (by unfold zE; split <;> decide) (fun c4 => ?_) (fun c4 => ?_)
  · have nf : ¬ (F 1 = 0 ∨ F 1 = 1) := fun q => by unfold zE at c4; rw [if_pos q] at c4; omega
    have hfin := h.1 (fun q => nf q.1)
    refine x_ldc2_w hK kX9_form_26 (q := 29) rfl lc2_RX9_128 ?_
    refine x_lreturn hK kX9_form_29 (by first | trivial | exact Or.inl rfl | exact Or.inr rfl) ?_
    exact hfin
  · have fi : F 1 = 0 ∨ F 1 = 1 := Decidable.of_not_not (fun q => c4 (by unfold zE; rw [if_neg q]))
    refine x_aload_n hK kX9_form_7 (q := 8) rfl rfl ?_
    refine x_aload_n hK kX9_form_8 (q := 9) rfl rfl ?_
    refine x_getfield hK kX9_form_9 (q := 12) rfl (gX9_40 ?_)
    refine x_iload_n hK kX9_form_12 (q := 13) rfl rfl ?_
    refine x_cv2 hK kX9_form_13 (q := 16) rfl (vtX9_form_149) (Nat.le_of_ble_eq_true rfl) ?_
    refine SX0_trace_i hk ⟨fun m hm m3 => ?_, fun q => ?_⟩
    · subst hm
      obtain ⟨g1, g2, g3⟩ := hg fi m m3
      refine go (eR (9, 7 + m)) (7 + m) (Or.inr ⟨rfl, by omega, g1, g2, g3⟩) (fun q => h.1 (fun z => ?_)) (fun q W' h1 => ?_)
      · rcases q with q | q
        · cases q
        · exact q z.2.2
      · have := h.2 ⟨fi, ⟨by omega, by omega⟩, q.2⟩ W' h1
        rw [Int.toNat_natCast] at this
        exact this
    exact go eN 0 (Or.inl rfl) (fun _ => h.1 (fun z => q z.2.1)) (fun z => absurd rfl z.1)
set_option maxRecDepth 20000 in
theorem mX9_form : eMet yX9_form cX9_form 5 (some .long) 5 138 SX9_form := eMet_of (by decide +kernel) sX9_form kX9_form_ok caX9_form tb_RX9
theorem wX9_form : eWV yX9_form cX9_form 5 (some .long) 5 8 SX9_form := ⟨(gW_at 813 (by decide +kernel) rfl), (gW_at 79 (by decide +kernel) rfl), (gW_at 811 (by decide +kernel) rfl), ⟨_, rfl, (gW_at 812 (by decide +kernel) rfl)⟩, by decide +kernel, SX9_form_r⟩
