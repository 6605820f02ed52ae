/-! The reference's face: the small ones. -/
theorem uF_u (F : Nat → Int) (k : Nat) (a b : Int) : uF (uF F k a) k b = uF F k b := by funext j; unfold uF; split <;> rfl
theorem uI_id (f : Int → Int) (i : Int) : uI f i (f i) = f := by
  funext j
  unfold uI
  split
  · rename_i e; rw [e]
  · rfl
def cFin (F : Nat → Int) : Prop := F 10 = 0 ∨ F 10 = 1
-- thrown
def SX10_thrown : eSp := fun as M rt => ∃ (F : Nat → Int) (A : Nat → Int → Int), as = [eRR] ∧ M = cR F A ∧ rt (some (eI (F 12))) (cR F A)
theorem SX10_thrown_r : ∀ as M rt, SX10_thrown as M rt → ∃ a r fs, as = eR a :: r ∧ M a = some (.inl (9, fs)) := by
  rintro as M rt ⟨F, A, rfl, rfl, -⟩
  exact ⟨_, _, _, rfl, rfl⟩
def kX10_thrown : List (Nat × Jvm.ClassFile.Instr × Nat) := [(0, .aload_n 0, 1), (1, .getfield 61, 3), (4, .ireturn, 1)]
theorem kX10_thrown_0 : cdOf kX10_thrown 0 = some (.aload_n 0, 1) := by decide +kernel
theorem kX10_thrown_1 : cdOf kX10_thrown 1 = some (.getfield 61, 3) := by decide +kernel
theorem kX10_thrown_4 : cdOf kX10_thrown 4 = some (.ireturn, 1) := by decide +kernel
set_option maxRecDepth 20000 in
theorem kX10_thrown_ok : ∀ pc i len, cdOf kX10_thrown pc = some (i, len) → decode cX10_thrown pc = .ok (i, len) ∧ stOK 1 i = true ∧ jOK pc i = true ∧ eLen i len = true := cdOf_ok cX10_thrown 1 kX10_thrown (by decide +kernel)
def vtX10_thrown : Nat → Option (Nat × eSp) := fun _ => none
def stX10_thrown : Nat → Option (Nat × eSp) := fun _ => none
abbrev TX10_thrown : eT := (fl_RX10, cl_RX10, dl_RX10, vtX10_thrown, stX10_thrown)
set_option maxRecDepth 20000 in
theorem caX10_thrown : eCalls RX10 { frames := 0, cells := 0, slots := 0, locals := 0 } TX10_thrown := by
  refine ⟨fun k n sp h => ?_, fun k n sp h => ?_⟩
  · cases h
  · cases h
set_option maxRecDepth 100000 in
set_option maxHeartbeats 4000000 in
theorem sX10_thrown : eSafe TX10_thrown (cdOf kX10_thrown) 1 (some .int) SX10_thrown := by
  intro K rt hK as M h
  obtain ⟨F, A, rfl, rfl, h⟩ := h
  refine ⟨by simp [eE], ?_⟩
  simp only [eLoc, eE, List.length_cons, List.length_nil, List.replicate, List.cons_append, List.nil_append, Nat.reduceAdd, Nat.reduceSub]
  refine x_aload_n hK kX10_thrown_0 (q := 1) rfl rfl ?_
  refine x_getfield hK kX10_thrown_1 (q := 4) rfl (gX10_61 ?_)
  refine x_ireturn hK kX10_thrown_4 (by first | trivial | exact Or.inl rfl | exact Or.inr rfl) ?_
  exact h
set_option maxRecDepth 20000 in
theorem mX10_thrown : eMet yX10_thrown cX10_thrown 1 (some .int) 0 0 SX10_thrown := eMet_of (by decide +kernel) sX10_thrown kX10_thrown_ok caX10_thrown tb_RX10
theorem wX10_thrown : eWV yX10_thrown cX10_thrown 1 (some .int) 1 9 SX10_thrown := ⟨(gW_at 1053 (by decide +kernel) rfl), (gW_at 89 (by decide +kernel) rfl), (gW_at 1051 (by decide +kernel) rfl), ⟨_, rfl, (gW_at 1052 (by decide +kernel) rfl)⟩, by decide +kernel, SX10_thrown_r⟩
-- clear
def SX10_clear : eSp := fun as M rt => ∃ (F : Nat → Int) (A : Nat → Int → Int), as = [eRR] ∧ M = cR F A ∧ ∀ (F' : Nat → Int) (A' : Nat → Int → Int), (∀ j, j ≠ 6 → j ≠ 12 → F' j = F j) → F' 6 = 0 → F' 12 = 0 → (∀ k, k ≠ 4 → k ≠ 5 → A' k = A k) → (∀ k : Nat, k < 24 → A' 4 k = 0) → (∀ k : Nat, k < 6 → A' 5 k = 0) → rt none (cR F' A')
theorem SX10_clear_r : ∀ as M rt, SX10_clear as M rt → ∃ a r fs, as = eR a :: r ∧ M a = some (.inl (9, fs)) := by
  rintro as M rt ⟨F, A, rfl, rfl, -⟩
  exact ⟨_, _, _, rfl, rfl⟩
def kX10_clear : List (Nat × Jvm.ClassFile.Instr × Nat) := [(0, .aload_n 0, 1), (1, .iconst 0, 1), (2, .putfield 61, 3), (5, .aload_n 0, 1), (6, .iconst 0, 1), (7, .putfield 199, 3), (10, .iconst 0, 1), (11, .istore_n 1, 1), (12, .iload_n 1, 1), (13, .bipush 24, 2), (15, .if_icmp .ge 16, 3), (18, .aload_n 0, 1), (19, .getfield 26, 3), (22, .iload_n 1, 1), (23, .iconst 0, 1), (24, .iastore, 1), (25, .iinc 1 1, 3), (28, .goto (-16), 3), (31, .iconst 0, 1), (32, .istore_n 1, 1), (33, .iload_n 1, 1), (34, .bipush 6, 2), (36, .if_icmp .ge 16, 3), (39, .aload_n 0, 1), (40, .getfield 29, 3), (43, .iload_n 1, 1), (44, .iconst 0, 1), (45, .iastore, 1), (46, .iinc 1 1, 3), (49, .goto (-16), 3), (52, .return_, 1)]
theorem kX10_clear_0 : cdOf kX10_clear 0 = some (.aload_n 0, 1) := by decide +kernel
theorem kX10_clear_1 : cdOf kX10_clear 1 = some (.iconst 0, 1) := by decide +kernel
theorem kX10_clear_2 : cdOf kX10_clear 2 = some (.putfield 61, 3) := by decide +kernel
theorem kX10_clear_5 : cdOf kX10_clear 5 = some (.aload_n 0, 1) := by decide +kernel
theorem kX10_clear_6 : cdOf kX10_clear 6 = some (.iconst 0, 1) := by decide +kernel
theorem kX10_clear_7 : cdOf kX10_clear 7 = some (.putfield 199, 3) := by decide +kernel
theorem kX10_clear_10 : cdOf kX10_clear 10 = some (.iconst 0, 1) := by decide +kernel
theorem kX10_clear_11 : cdOf kX10_clear 11 = some (.istore_n 1, 1) := by decide +kernel
theorem kX10_clear_12 : cdOf kX10_clear 12 = some (.iload_n 1, 1) := by decide +kernel
theorem kX10_clear_13 : cdOf kX10_clear 13 = some (.bipush 24, 2) := by decide +kernel
theorem kX10_clear_15 : cdOf kX10_clear 15 = some (.if_icmp .ge 16, 3) := by decide +kernel
theorem kX10_clear_18 : cdOf kX10_clear 18 = some (.aload_n 0, 1) := by decide +kernel
theorem kX10_clear_19 : cdOf kX10_clear 19 = some (.getfield 26, 3) := by decide +kernel
theorem kX10_clear_22 : cdOf kX10_clear 22 = some (.iload_n 1, 1) := by decide +kernel
theorem kX10_clear_23 : cdOf kX10_clear 23 = some (.iconst 0, 1) := by decide +kernel
theorem kX10_clear_24 : cdOf kX10_clear 24 = some (.iastore, 1) := by decide +kernel
theorem kX10_clear_25 : cdOf kX10_clear 25 = some (.iinc 1 1, 3) := by decide +kernel
theorem kX10_clear_28 : cdOf kX10_clear 28 = some (.goto (-16), 3) := by decide +kernel
theorem kX10_clear_31 : cdOf kX10_clear 31 = some (.iconst 0, 1) := by decide +kernel
theorem kX10_clear_32 : cdOf kX10_clear 32 = some (.istore_n 1, 1) := by decide +kernel
theorem kX10_clear_33 : cdOf kX10_clear 33 = some (.iload_n 1, 1) := by decide +kernel
theorem kX10_clear_34 : cdOf kX10_clear 34 = some (.bipush 6, 2) := by decide +kernel
theorem kX10_clear_36 : cdOf kX10_clear 36 = some (.if_icmp .ge 16, 3) := by decide +kernel
theorem kX10_clear_39 : cdOf kX10_clear 39 = some (.aload_n 0, 1) := by decide +kernel
theorem kX10_clear_40 : cdOf kX10_clear 40 = some (.getfield 29, 3) := by decide +kernel
theorem kX10_clear_43 : cdOf kX10_clear 43 = some (.iload_n 1, 1) := by decide +kernel
theorem kX10_clear_44 : cdOf kX10_clear 44 = some (.iconst 0, 1) := by decide +kernel
theorem kX10_clear_45 : cdOf kX10_clear 45 = some (.iastore, 1) := by decide +kernel
theorem kX10_clear_46 : cdOf kX10_clear 46 = some (.iinc 1 1, 3) := by decide +kernel
theorem kX10_clear_49 : cdOf kX10_clear 49 = some (.goto (-16), 3) := by decide +kernel
theorem kX10_clear_52 : cdOf kX10_clear 52 = some (.return_, 1) := by decide +kernel
set_option maxRecDepth 20000 in
theorem kX10_clear_ok : ∀ pc i len, cdOf kX10_clear pc = some (i, len) → decode cX10_clear pc = .ok (i, len) ∧ stOK 2 i = true ∧ jOK pc i = true ∧ eLen i len = true := cdOf_ok cX10_clear 2 kX10_clear (by decide +kernel)
def vtX10_clear : Nat → Option (Nat × eSp) := fun _ => none
def stX10_clear : Nat → Option (Nat × eSp) := fun _ => none
abbrev TX10_clear : eT := (fl_RX10, cl_RX10, dl_RX10, vtX10_clear, stX10_clear)
set_option maxRecDepth 20000 in
theorem caX10_clear : eCalls RX10 { frames := 0, cells := 0, slots := 0, locals := 0 } TX10_clear := by
  refine ⟨fun k n sp h => ?_, fun k n sp h => ?_⟩
  · cases h
  · cases h
set_option maxRecDepth 100000 in
set_option maxHeartbeats 4000000 in
theorem sX10_clear : eSafe TX10_clear (cdOf kX10_clear) 2 none SX10_clear := by
  intro K rt hK as M h
  obtain ⟨F, A, rfl, rfl, h⟩ := h
  refine ⟨by simp [eE], ?_⟩
  have lp2 : ∀ (d k : Nat) (F' : Nat → Int) (A' : Nat → Int → Int), k + d = 6 → (∀ j, j ≠ 6 → j ≠ 12 → F' j = F j) → F' 6 = 0 → F' 12 = 0 → (∀ k, k ≠ 4 → k ≠ 5 → A' k = A k) → (∀ k : Nat, k < 24 → A' 4 k = 0) → (∀ j : Nat, j < k → A' 5 j = 0) → K 33 [some eRR, some (eI k)] [] (cR F' A') := by
    intro d
    induction d with
    | zero =>
      intro k F' A' hk g1 g2 g3 g4 g5 g6
      have e : k = 6 := by omega
      subst e
      refine x_iload_n hK kX10_clear_33 (q := 34) rfl rfl ?_
      refine x_bipush hK kX10_clear_34 (q := 36) rfl (by decide) ?_
      refine x_icmp_ge hK kX10_clear_36 (q := 39) rfl (tg := 52) rfl (by refine ⟨?_, ?_⟩ <;> omega) (fun c36 => ?_) (fun c36 => ?_)
      · refine x_return_ hK kX10_clear_52 (by first | trivial | exact Or.inl rfl | exact Or.inr rfl) ?_
        exact h F' A' g1 g2 g3 g4 g5 g6
      · exfalso; omega
    | succ d ih =>
      intro k F' A' hk g1 g2 g3 g4 g5 g6
      refine x_iload_n hK kX10_clear_33 (q := 34) rfl rfl ?_
      refine x_bipush hK kX10_clear_34 (q := 36) rfl (by decide) ?_
      refine x_icmp_ge hK kX10_clear_36 (q := 39) rfl (tg := 52) rfl (by refine ⟨?_, ?_⟩ <;> omega) (fun c36 => ?_) (fun c36 => ?_)
      · exfalso; omega
      · refine x_aload_n hK kX10_clear_39 (q := 40) rfl rfl ?_
        refine x_getfield hK kX10_clear_40 (q := 43) rfl (gX10_29 ?_)
        refine x_iload_n hK kX10_clear_43 (q := 44) rfl rfl ?_
        refine x_iconst hK kX10_clear_44 (q := 45) rfl ?_
        refine x_iastore hK kX10_clear_45 (q := 46) rfl (yX10_A5 (by refine ⟨?_, ?_⟩ <;> omega) ?_)
        refine x_iinc hK kX10_clear_46 (q := 49) rfl rfl ?_
        simp only [lS, lS2, clr_0, clr_I, clr_L, clr_R]
        refine x_goto hK kX10_clear_49 (tg := 33) rfl ?_
        rw [show (k : Int) + 1 = ((k + 1 : Nat) : Int) by omega]
        refine ih (k + 1) F' _ (by omega) g1 g2 g3 (fun j j0 j1 => by rw [uA_n _ _ j1]; exact g4 j j0 j1) (fun j hj => by rw [uA_n _ _ (by decide)]; exact g5 j hj) (fun j hj => ?_)
        rw [uA_g]
        rcases Nat.lt_or_ge j k with g | g
        · rw [uI_n _ _ (by omega)]; exact g6 j g
        · rw [show j = k by omega, uI_s]
  have lp1 : ∀ (d k : Nat) (F' : Nat → Int) (A' : Nat → Int → Int), k + d = 24 → (∀ j, j ≠ 6 → j ≠ 12 → F' j = F j) → F' 6 = 0 → F' 12 = 0 → (∀ k, k ≠ 4 → k ≠ 5 → A' k = A k) → (∀ j : Nat, j < k → A' 4 j = 0) → K 12 [some eRR, some (eI k)] [] (cR F' A') := by
    intro d
    induction d with
    | zero =>
      intro k F' A' hk g1 g2 g3 g4 g5
      have e : k = 24 := by omega
      subst e
      refine x_iload_n hK kX10_clear_12 (q := 13) rfl rfl ?_
      refine x_bipush hK kX10_clear_13 (q := 15) rfl (by decide) ?_
      refine x_icmp_ge hK kX10_clear_15 (q := 18) rfl (tg := 31) rfl (by refine ⟨?_, ?_⟩ <;> omega) (fun c15 => ?_) (fun c15 => ?_)
      · refine x_iconst hK kX10_clear_31 (q := 32) rfl ?_
        refine x_istore_n hK kX10_clear_32 (q := 33) (jn := 1) rfl rfl ?_
        simp only [lS, lS2, clr_0, clr_I, clr_L, clr_R]
        exact lp2 6 0 F' A' (by omega) g1 g2 g3 g4 g5 (fun j hj => by omega)
      · exfalso; omega
    | succ d ih =>
      intro k F' A' hk g1 g2 g3 g4 g5
      refine x_iload_n hK kX10_clear_12 (q := 13) rfl rfl ?_
      refine x_bipush hK kX10_clear_13 (q := 15) rfl (by decide) ?_
      refine x_icmp_ge hK kX10_clear_15 (q := 18) rfl (tg := 31) rfl (by refine ⟨?_, ?_⟩ <;> omega) (fun c15 => ?_) (fun c15 => ?_)
      · exfalso; omega
      · refine x_aload_n hK kX10_clear_18 (q := 19) rfl rfl ?_
        refine x_getfield hK kX10_clear_19 (q := 22) rfl (gX10_26 ?_)
        refine x_iload_n hK kX10_clear_22 (q := 23) rfl rfl ?_
        refine x_iconst hK kX10_clear_23 (q := 24) rfl ?_
        refine x_iastore hK kX10_clear_24 (q := 25) rfl (yX10_A4 (by refine ⟨?_, ?_⟩ <;> omega) ?_)
        refine x_iinc hK kX10_clear_25 (q := 28) rfl rfl ?_
        simp only [lS, lS2, clr_0, clr_I, clr_L, clr_R]
        refine x_goto hK kX10_clear_28 (tg := 12) rfl ?_
        rw [show (k : Int) + 1 = ((k + 1 : Nat) : Int) by omega]
        refine ih (k + 1) F' _ (by omega) g1 g2 g3 (fun j j0 j1 => by rw [uA_n _ _ j0]; exact g4 j j0 j1) (fun j hj => ?_)
        rw [uA_g]
        rcases Nat.lt_or_ge j k with g | g
        · rw [uI_n _ _ (by omega)]; exact g5 j g
        · rw [show j = k by omega, uI_s]
  simp only [eLoc, eE, List.length_cons, List.length_nil, List.replicate, List.cons_append, List.nil_append, Nat.reduceAdd, Nat.reduceSub]
  refine x_aload_n hK kX10_clear_0 (q := 1) rfl rfl ?_
  refine x_iconst hK kX10_clear_1 (q := 2) rfl ?_
  refine x_putfield hK kX10_clear_2 (q := 5) rfl (pX10_61 ?_)
  refine x_aload_n hK kX10_clear_5 (q := 6) rfl rfl ?_
  refine x_iconst hK kX10_clear_6 (q := 7) rfl ?_
  refine x_putfield hK kX10_clear_7 (q := 10) rfl (pX10_199 ?_)
  refine x_iconst hK kX10_clear_10 (q := 11) rfl ?_
  refine x_istore_n hK kX10_clear_11 (q := 12) (jn := 1) rfl rfl ?_
  simp only [lS, lS2, clr_0, clr_I, clr_L, clr_R]
  exact lp1 24 0 _ A (by omega) (fun j j0 j1 => by rw [uF_n _ _ j0, uF_n _ _ j1]) (uF_g _ _ _) (by rw [uF_n _ _ (by decide), uF_g]) (fun _ _ _ => rfl) (fun j hj => by omega)
set_option maxRecDepth 20000 in
theorem mX10_clear : eMet yX10_clear cX10_clear 2 none 0 0 SX10_clear := eMet_of (by decide +kernel) sX10_clear kX10_clear_ok caX10_clear tb_RX10
theorem wX10_clear : eWV yX10_clear cX10_clear 2 none 1 9 SX10_clear := ⟨(gW_at 1252 (by decide +kernel) rfl), (gW_at 89 (by decide +kernel) rfl), (gW_at 1250 (by decide +kernel) rfl), ⟨_, rfl, (gW_at 1251 (by decide +kernel) rfl)⟩, by decide +kernel, SX10_clear_r⟩
-- start
def SX10_start : eSp := fun as M rt => ∃ (F : Nat → Int) (A : Nat → Int → Int), as = [eRR] ∧ M = cR F A ∧ (0 ≤ F 6 ∧ F 6 ≤ 4) ∧ (F 6 = 4 → rt (some (eI (-1))) (cR (uF F 12 0) A)) ∧ (F 6 ≠ 4 → rt (some (eI (F 6))) (cR (uF (uF F 12 0) 6 (F 6 + 1)) A))
theorem SX10_start_r : ∀ as M rt, SX10_start as M rt → ∃ a r fs, as = eR a :: r ∧ M a = some (.inl (9, fs)) := by
  rintro as M rt ⟨F, A, rfl, rfl, -⟩
  exact ⟨_, _, _, rfl, rfl⟩
def kX10_start : List (Nat × Jvm.ClassFile.Instr × Nat) := [(0, .aload_n 0, 1), (1, .iconst 0, 1), (2, .putfield 61, 3), (5, .aload_n 0, 1), (6, .getfield 199, 3), (9, .iconst 4, 1), (10, .if_icmp .ne 5, 3), (13, .iconst (-1), 1), (14, .ireturn, 1), (15, .aload_n 0, 1), (16, .dup, 1), (17, .getfield 199, 3), (20, .iconst 1, 1), (21, .iadd, 1), (22, .putfield 199, 3), (25, .aload_n 0, 1), (26, .getfield 199, 3), (29, .iconst 1, 1), (30, .isub, 1), (31, .ireturn, 1)]
theorem kX10_start_0 : cdOf kX10_start 0 = some (.aload_n 0, 1) := by decide +kernel
theorem kX10_start_1 : cdOf kX10_start 1 = some (.iconst 0, 1) := by decide +kernel
theorem kX10_start_2 : cdOf kX10_start 2 = some (.putfield 61, 3) := by decide +kernel
theorem kX10_start_5 : cdOf kX10_start 5 = some (.aload_n 0, 1) := by decide +kernel
theorem kX10_start_6 : cdOf kX10_start 6 = some (.getfield 199, 3) := by decide +kernel
theorem kX10_start_9 : cdOf kX10_start 9 = some (.iconst 4, 1) := by decide +kernel
theorem kX10_start_10 : cdOf kX10_start 10 = some (.if_icmp .ne 5, 3) := by decide +kernel
theorem kX10_start_13 : cdOf kX10_start 13 = some (.iconst (-1), 1) := by decide +kernel
theorem kX10_start_14 : cdOf kX10_start 14 = some (.ireturn, 1) := by decide +kernel
theorem kX10_start_15 : cdOf kX10_start 15 = some (.aload_n 0, 1) := by decide +kernel
theorem kX10_start_16 : cdOf kX10_start 16 = some (.dup, 1) := by decide +kernel
theorem kX10_start_17 : cdOf kX10_start 17 = some (.getfield 199, 3) := by decide +kernel
theorem kX10_start_20 : cdOf kX10_start 20 = some (.iconst 1, 1) := by decide +kernel
theorem kX10_start_21 : cdOf kX10_start 21 = some (.iadd, 1) := by decide +kernel
theorem kX10_start_22 : cdOf kX10_start 22 = some (.putfield 199, 3) := by decide +kernel
theorem kX10_start_25 : cdOf kX10_start 25 = some (.aload_n 0, 1) := by decide +kernel
theorem kX10_start_26 : cdOf kX10_start 26 = some (.getfield 199, 3) := by decide +kernel
theorem kX10_start_29 : cdOf kX10_start 29 = some (.iconst 1, 1) := by decide +kernel
theorem kX10_start_30 : cdOf kX10_start 30 = some (.isub, 1) := by decide +kernel
theorem kX10_start_31 : cdOf kX10_start 31 = some (.ireturn, 1) := by decide +kernel
set_option maxRecDepth 20000 in
theorem kX10_start_ok : ∀ pc i len, cdOf kX10_start pc = some (i, len) → decode cX10_start pc = .ok (i, len) ∧ stOK 1 i = true ∧ jOK pc i = true ∧ eLen i len = true := cdOf_ok cX10_start 1 kX10_start (by decide +kernel)
def vtX10_start : Nat → Option (Nat × eSp) := fun _ => none
def stX10_start : Nat → Option (Nat × eSp) := fun _ => none
abbrev TX10_start : eT := (fl_RX10, cl_RX10, dl_RX10, vtX10_start, stX10_start)
set_option maxRecDepth 20000 in
theorem caX10_start : eCalls RX10 { frames := 0, cells := 0, slots := 0, locals := 0 } TX10_start := by
  refine ⟨fun k n sp h => ?_, fun k n sp h => ?_⟩
  · cases h
  · cases h
set_option maxRecDepth 100000 in
set_option maxHeartbeats 4000000 in
theorem sX10_start : eSafe TX10_start (cdOf kX10_start) 1 (some .int) SX10_start := by
  intro K rt hK as M h
  obtain ⟨F, A, rfl, rfl, h0, h1, h2⟩ := h
  refine ⟨by simp [eE], ?_⟩
  simp only [eLoc, eE, List.length_cons, List.length_nil, List.replicate, List.cons_append, List.nil_append, Nat.reduceAdd, Nat.reduceSub]
  refine x_aload_n hK kX10_start_0 (q := 1) rfl rfl ?_
  refine x_iconst hK kX10_start_1 (q := 2) rfl ?_
  refine x_putfield hK kX10_start_2 (q := 5) rfl (pX10_61 ?_)
  refine x_aload_n hK kX10_start_5 (q := 6) rfl rfl ?_
  refine x_getfield hK kX10_start_6 (q := 9) rfl (gX10_199 ?_)
  rw [uF_n _ _ (by decide)]
  refine x_iconst hK kX10_start_9 (q := 10) rfl ?_
  refine x_icmp_ne hK kX10_start_10 (q := 13) rfl (tg := 15) rfl (by refine ⟨?_, ?_⟩ <;> omega) (fun c10 => ?_) (fun c10 => ?_)
  · refine x_aload_n hK kX10_start_15 (q := 16) rfl rfl ?_
    refine x_dupR hK kX10_start_16 (q := 17) rfl ?_
    refine x_getfield hK kX10_start_17 (q := 20) rfl (gX10_199 ?_)
    rw [uF_n _ _ (by decide)]
    refine x_iconst hK kX10_start_20 (q := 21) rfl ?_
    refine x_iadd hK kX10_start_21 (q := 22) rfl ?_
    refine x_putfield hK kX10_start_22 (q := 25) rfl (pX10_199 ?_)
    refine x_aload_n hK kX10_start_25 (q := 26) rfl rfl ?_
    refine x_getfield hK kX10_start_26 (q := 29) rfl (gX10_199 ?_)
    rw [uF_g]
    refine x_iconst hK kX10_start_29 (q := 30) rfl ?_
    refine x_isub hK kX10_start_30 (q := 31) rfl ?_
    rw [show F 6 + 1 - 1 = F 6 by omega]
    refine x_ireturn hK kX10_start_31 (by first | trivial | exact Or.inl rfl | exact Or.inr rfl) ?_
    exact h2 (by omega)
  · refine x_iconst hK kX10_start_13 (q := 14) rfl ?_
    refine x_ireturn hK kX10_start_14 (by first | trivial | exact Or.inl rfl | exact Or.inr rfl) ?_
    exact h1 (by omega)
set_option maxRecDepth 20000 in
theorem mX10_start : eMet yX10_start cX10_start 1 (some .int) 0 0 SX10_start := eMet_of (by decide +kernel) sX10_start kX10_start_ok caX10_start tb_RX10
theorem wX10_start : eWV yX10_start cX10_start 1 (some .int) 1 9 SX10_start := ⟨(gW_at 1256 (by decide +kernel) rfl), (gW_at 89 (by decide +kernel) rfl), (gW_at 1254 (by decide +kernel) rfl), ⟨_, rfl, (gW_at 1255 (by decide +kernel) rfl)⟩, by decide +kernel, SX10_start_r⟩
-- term
def SX10_term : eSp := fun as M rt => ∃ (F : Nat → Int) (A : Nat → Int → Int) (p a b c : Int), as = [eRR, eI p, eI a, eI b, eI c] ∧ M = cR F A ∧ w32 p ∧ w32 a ∧ w32 b ∧ w32 c ∧ (0 ≤ F 6 ∧ F 6 ≤ 4) ∧ (∀ k : Nat, k < 24 → -5 ≤ A 4 k ∧ A 4 k ≤ 5) ∧
  ((p < 0 ∨ F 6 ≤ p) → rt (some (eI 0)) (cR (uF F 12 1) A)) ∧ (0 ≤ p → p < F 6 → ¬ (0 ≤ a ∧ 0 ≤ b ∧ a + b ≤ 2) → rt (some (eI 0)) (cR (uF F 12 2) A)) ∧
  (0 ≤ p → p < F 6 → (0 ≤ a ∧ 0 ≤ b ∧ a + b ≤ 2) → (A 4 (6 * p + mN a b) + c < -5 ∨ 5 < A 4 (6 * p + mN a b) + c) → rt (some (eI (A 4 (6 * p + mN a b)))) (cR (uF F 12 2) A)) ∧
  (0 ≤ p → p < F 6 → (0 ≤ a ∧ 0 ≤ b ∧ a + b ≤ 2) → ¬ (A 4 (6 * p + mN a b) + c < -5 ∨ 5 < A 4 (6 * p + mN a b) + c) → rt (some (eI (A 4 (6 * p + mN a b) + c))) (cR (uF F 12 0) (uA A 4 (uI (A 4) (6 * p + mN a b) (A 4 (6 * p + mN a b) + c)))))
theorem SX10_term_r : ∀ as M rt, SX10_term as M rt → ∃ a r fs, as = eR a :: r ∧ M a = some (.inl (9, fs)) := by
  rintro as M rt ⟨F, A, p, a, b, c, rfl, rfl, -⟩
  exact ⟨_, _, _, rfl, rfl⟩
theorem mN_6 {a b : Int} (h : 0 ≤ a ∧ 0 ≤ b ∧ a + b ≤ 2) : 0 ≤ mN a b ∧ mN a b < 6 := by
  have hs : a + b = 0 ∨ a + b = 1 ∨ a + b = 2 := by omega
  unfold mN
  rcases hs with e | e | e <;> rw [e] <;> omega
def kX10_term : List (Nat × Jvm.ClassFile.Instr × Nat) := [(0, .aload_n 0, 1), (1, .iload_n 1, 1), (2, .ifCond .lt 11, 3), (5, .iload_n 1, 1), (6, .aload_n 0, 1), (7, .getfield 199, 3), (10, .if_icmp .lt 7, 3), (13, .iconst 1, 1), (14, .goto 16, 3), (17, .iload_n 2, 1), (18, .iload_n 3, 1), (19, .invokestatic 267, 3), (22, .ifCond .ne 7, 3), (25, .iconst 2, 1), (26, .goto 4, 3), (29, .iconst 0, 1), (30, .putfield 61, 3), (33, .aload_n 0, 1), (34, .getfield 61, 3), (37, .ifCond .le 5, 3), (40, .iconst 0, 1), (41, .ireturn, 1), (42, .bipush 6, 2), (44, .iload_n 1, 1), (45, .imul, 1), (46, .iload_n 2, 1), (47, .iload_n 3, 1), (48, .invokestatic 185, 3), (51, .iadd, 1), (52, .istore 5, 2), (54, .aload_n 0, 1), (55, .getfield 26, 3), (58, .iload 5, 2), (60, .iaload, 1), (61, .i2l, 1), (62, .iload 4, 2), (64, .i2l, 1), (65, .ladd, 1), (66, .lstore 6, 2), (68, .aload_n 0, 1), (69, .lload 6, 2), (71, .ldc2_w 270, 3), (74, .lcmp, 1), (75, .ifCond .lt 12, 3), (78, .lload 6, 2), (80, .ldc2_w 272, 3), (83, .lcmp, 1), (84, .ifCond .le 7, 3), (87, .iconst 2, 1), (88, .goto 4, 3), (91, .iconst 0, 1), (92, .putfield 61, 3), (95, .aload_n 0, 1), (96, .getfield 26, 3), (99, .iload 5, 2), (101, .aload_n 0, 1), (102, .getfield 61, 3), (105, .ifCond .le 13, 3), (108, .aload_n 0, 1), (109, .getfield 26, 3), (112, .iload 5, 2), (114, .iaload, 1), (115, .goto 6, 3), (118, .lload 6, 2), (120, .l2i, 1), (121, .iastore, 1), (122, .aload_n 0, 1), (123, .getfield 26, 3), (126, .iload 5, 2), (128, .iaload, 1), (129, .ireturn, 1)]
theorem kX10_term_0 : cdOf kX10_term 0 = some (.aload_n 0, 1) := by decide +kernel
theorem kX10_term_1 : cdOf kX10_term 1 = some (.iload_n 1, 1) := by decide +kernel
theorem kX10_term_2 : cdOf kX10_term 2 = some (.ifCond .lt 11, 3) := by decide +kernel
theorem kX10_term_5 : cdOf kX10_term 5 = some (.iload_n 1, 1) := by decide +kernel
theorem kX10_term_6 : cdOf kX10_term 6 = some (.aload_n 0, 1) := by decide +kernel
theorem kX10_term_7 : cdOf kX10_term 7 = some (.getfield 199, 3) := by decide +kernel
theorem kX10_term_10 : cdOf kX10_term 10 = some (.if_icmp .lt 7, 3) := by decide +kernel
theorem kX10_term_13 : cdOf kX10_term 13 = some (.iconst 1, 1) := by decide +kernel
theorem kX10_term_14 : cdOf kX10_term 14 = some (.goto 16, 3) := by decide +kernel
theorem kX10_term_17 : cdOf kX10_term 17 = some (.iload_n 2, 1) := by decide +kernel
theorem kX10_term_18 : cdOf kX10_term 18 = some (.iload_n 3, 1) := by decide +kernel
theorem kX10_term_19 : cdOf kX10_term 19 = some (.invokestatic 267, 3) := by decide +kernel
theorem kX10_term_22 : cdOf kX10_term 22 = some (.ifCond .ne 7, 3) := by decide +kernel
theorem kX10_term_25 : cdOf kX10_term 25 = some (.iconst 2, 1) := by decide +kernel
theorem kX10_term_26 : cdOf kX10_term 26 = some (.goto 4, 3) := by decide +kernel
theorem kX10_term_29 : cdOf kX10_term 29 = some (.iconst 0, 1) := by decide +kernel
theorem kX10_term_30 : cdOf kX10_term 30 = some (.putfield 61, 3) := by decide +kernel
theorem kX10_term_33 : cdOf kX10_term 33 = some (.aload_n 0, 1) := by decide +kernel
theorem kX10_term_34 : cdOf kX10_term 34 = some (.getfield 61, 3) := by decide +kernel
theorem kX10_term_37 : cdOf kX10_term 37 = some (.ifCond .le 5, 3) := by decide +kernel
theorem kX10_term_40 : cdOf kX10_term 40 = some (.iconst 0, 1) := by decide +kernel
theorem kX10_term_41 : cdOf kX10_term 41 = some (.ireturn, 1) := by decide +kernel
theorem kX10_term_42 : cdOf kX10_term 42 = some (.bipush 6, 2) := by decide +kernel
theorem kX10_term_44 : cdOf kX10_term 44 = some (.iload_n 1, 1) := by decide +kernel
theorem kX10_term_45 : cdOf kX10_term 45 = some (.imul, 1) := by decide +kernel
theorem kX10_term_46 : cdOf kX10_term 46 = some (.iload_n 2, 1) := by decide +kernel
theorem kX10_term_47 : cdOf kX10_term 47 = some (.iload_n 3, 1) := by decide +kernel
theorem kX10_term_48 : cdOf kX10_term 48 = some (.invokestatic 185, 3) := by decide +kernel
theorem kX10_term_51 : cdOf kX10_term 51 = some (.iadd, 1) := by decide +kernel
theorem kX10_term_52 : cdOf kX10_term 52 = some (.istore 5, 2) := by decide +kernel
theorem kX10_term_54 : cdOf kX10_term 54 = some (.aload_n 0, 1) := by decide +kernel
theorem kX10_term_55 : cdOf kX10_term 55 = some (.getfield 26, 3) := by decide +kernel
theorem kX10_term_58 : cdOf kX10_term 58 = some (.iload 5, 2) := by decide +kernel
theorem kX10_term_60 : cdOf kX10_term 60 = some (.iaload, 1) := by decide +kernel
theorem kX10_term_61 : cdOf kX10_term 61 = some (.i2l, 1) := by decide +kernel
theorem kX10_term_62 : cdOf kX10_term 62 = some (.iload 4, 2) := by decide +kernel
theorem kX10_term_64 : cdOf kX10_term 64 = some (.i2l, 1) := by decide +kernel
theorem kX10_term_65 : cdOf kX10_term 65 = some (.ladd, 1) := by decide +kernel
theorem kX10_term_66 : cdOf kX10_term 66 = some (.lstore 6, 2) := by decide +kernel
theorem kX10_term_68 : cdOf kX10_term 68 = some (.aload_n 0, 1) := by decide +kernel
theorem kX10_term_69 : cdOf kX10_term 69 = some (.lload 6, 2) := by decide +kernel
theorem kX10_term_71 : cdOf kX10_term 71 = some (.ldc2_w 270, 3) := by decide +kernel
theorem kX10_term_74 : cdOf kX10_term 74 = some (.lcmp, 1) := by decide +kernel
theorem kX10_term_75 : cdOf kX10_term 75 = some (.ifCond .lt 12, 3) := by decide +kernel
theorem kX10_term_78 : cdOf kX10_term 78 = some (.lload 6, 2) := by decide +kernel
theorem kX10_term_80 : cdOf kX10_term 80 = some (.ldc2_w 272, 3) := by decide +kernel
theorem kX10_term_83 : cdOf kX10_term 83 = some (.lcmp, 1) := by decide +kernel
theorem kX10_term_84 : cdOf kX10_term 84 = some (.ifCond .le 7, 3) := by decide +kernel
theorem kX10_term_87 : cdOf kX10_term 87 = some (.iconst 2, 1) := by decide +kernel
theorem kX10_term_88 : cdOf kX10_term 88 = some (.goto 4, 3) := by decide +kernel
theorem kX10_term_91 : cdOf kX10_term 91 = some (.iconst 0, 1) := by decide +kernel
theorem kX10_term_92 : cdOf kX10_term 92 = some (.putfield 61, 3) := by decide +kernel
theorem kX10_term_95 : cdOf kX10_term 95 = some (.aload_n 0, 1) := by decide +kernel
theorem kX10_term_96 : cdOf kX10_term 96 = some (.getfield 26, 3) := by decide +kernel
theorem kX10_term_99 : cdOf kX10_term 99 = some (.iload 5, 2) := by decide +kernel
theorem kX10_term_101 : cdOf kX10_term 101 = some (.aload_n 0, 1) := by decide +kernel
theorem kX10_term_102 : cdOf kX10_term 102 = some (.getfield 61, 3) := by decide +kernel
theorem kX10_term_105 : cdOf kX10_term 105 = some (.ifCond .le 13, 3) := by decide +kernel
theorem kX10_term_108 : cdOf kX10_term 108 = some (.aload_n 0, 1) := by decide +kernel
theorem kX10_term_109 : cdOf kX10_term 109 = some (.getfield 26, 3) := by decide +kernel
theorem kX10_term_112 : cdOf kX10_term 112 = some (.iload 5, 2) := by decide +kernel
theorem kX10_term_114 : cdOf kX10_term 114 = some (.iaload, 1) := by decide +kernel
theorem kX10_term_115 : cdOf kX10_term 115 = some (.goto 6, 3) := by decide +kernel
theorem kX10_term_118 : cdOf kX10_term 118 = some (.lload 6, 2) := by decide +kernel
theorem kX10_term_120 : cdOf kX10_term 120 = some (.l2i, 1) := by decide +kernel
theorem kX10_term_121 : cdOf kX10_term 121 = some (.iastore, 1) := by decide +kernel
theorem kX10_term_122 : cdOf kX10_term 122 = some (.aload_n 0, 1) := by decide +kernel
theorem kX10_term_123 : cdOf kX10_term 123 = some (.getfield 26, 3) := by decide +kernel
theorem kX10_term_126 : cdOf kX10_term 126 = some (.iload 5, 2) := by decide +kernel
theorem kX10_term_128 : cdOf kX10_term 128 = some (.iaload, 1) := by decide +kernel
theorem kX10_term_129 : cdOf kX10_term 129 = some (.ireturn, 1) := by decide +kernel
set_option maxRecDepth 20000 in
theorem kX10_term_ok : ∀ pc i len, cdOf kX10_term pc = some (i, len) → decode cX10_term pc = .ok (i, len) ∧ stOK 8 i = true ∧ jOK pc i = true ∧ eLen i len = true := cdOf_ok cX10_term 8 kX10_term (by decide +kernel)
def vtX10_term : Nat → Option (Nat × eSp) := fun _ => none
def stX10_term : Nat → Option (Nat × eSp) := fun k => match k with
  | 267 => some (2, SX10_isTerm)
  | 185 => some (2, SX10_monomial)
  | _ => none
theorem stX10_term_267 : stX10_term 267 = some (2, SX10_isTerm) := rfl
theorem stX10_term_185 : stX10_term 185 = some (2, SX10_monomial) := rfl
abbrev TX10_term : eT := (fl_RX10, cl_RX10, dl_RX10, vtX10_term, stX10_term)
set_option maxRecDepth 20000 in
theorem caX10_term : eCalls RX10 { frames := 1, cells := 0, slots := 0, locals := 22 } TX10_term := by
  refine ⟨fun k n sp h => ?_, fun k n sp h => ?_⟩
  · cases h
  · dsimp only [TX10_term] at h
    unfold stX10_term at h
    split at h
    · cases h; exact eS_mk mX10_isTerm wX10_isTerm (by decide +kernel) (Or.inl (gW_at 1261 (by decide +kernel) rfl))
    · cases h; exact eS_mk mX10_monomial wX10_monomial (by decide +kernel) (Or.inl (gW_at 1187 (by decide +kernel) rfl))
    · cases h
set_option maxRecDepth 100000 in
set_option maxHeartbeats 4000000 in
theorem sX10_term : eSafe TX10_term (cdOf kX10_term) 8 (some .int) SX10_term := by
  intro K rt hK as M h
  obtain ⟨F, A, p, a, b, c, rfl, rfl, hp, ha, hb, hc, h6, h4, h1, h2, h3, h5⟩ := h
  refine ⟨by simp [eE], ?_⟩
  have w6 : w32 (F 6) := by constructor <;> omega
  have main : 0 ≤ p → p < F 6 → (0 ≤ a ∧ 0 ≤ b ∧ a + b ≤ 2) → K 42 [some eRR, some (eI p), some (eI a), some (eI b), some (eI c), none, none, none] [] (cR (uF F 12 0) A) := by
    intro p0 p1 ht
    obtain ⟨m0, m1⟩ := mN_6 ht
    obtain ⟨k, hk⟩ : ∃ k : Nat, 6 * p + mN a b = k := ⟨(6 * p + mN a b).toNat, by omega⟩
    have h4k := h4 k (by omega)
    have g3 := h3 p0 p1 ht
    have g5 := h5 p0 p1 ht
    rw [hk] at g3 g5
    obtain ⟨v, hv⟩ : ∃ v, A 4 k = v := ⟨_, rfl⟩
    have wv : w32 v := by constructor <;> omega
    rw [hv] at g3 g5 h4k
    have e1 : uA A 4 (uI (A 4) k v) = A := by rw [← hv, uI_id, uA_s]
    obtain ⟨c0, c1⟩ := hc
    refine x_bipush hK kX10_term_42 (q := 44) rfl (by decide) ?_
    refine x_iload_n hK kX10_term_44 (q := 45) rfl rfl ?_
    refine x_imul hK kX10_term_45 (q := 46) rfl ?_
    refine x_iload_n hK kX10_term_46 (q := 47) rfl rfl ?_
    refine x_iload_n hK kX10_term_47 (q := 48) rfl rfl ?_
    refine x_cs2 hK kX10_term_48 (q := 51) rfl (stX10_term_185) (Nat.le_of_ble_eq_true rfl) ?_
    refine SX10_monomial_i (by omega) ?_
    refine x_iadd hK kX10_term_51 (q := 52) rfl ?_
    rw [hk]
    refine x_istore hK kX10_term_52 (q := 54) rfl ?_
    refine x_aload_n hK kX10_term_54 (q := 55) rfl rfl ?_
    refine x_getfield hK kX10_term_55 (q := 58) rfl (gX10_26 ?_)
    refine x_iload hK kX10_term_58 (q := 60) rfl rfl ?_
    refine x_iaload hK kX10_term_60 (q := 61) rfl (aX10_A4 (by refine ⟨?_, ?_⟩ <;> omega) ?_)
    simp only [lS, lS2, clr_0, clr_I, clr_L, clr_R]
    rw [hv]
    refine x_i2l hK kX10_term_61 (q := 62) rfl (by exact wv) ?_
    refine x_iload hK kX10_term_62 (q := 64) rfl rfl ?_
    refine x_i2l hK kX10_term_64 (q := 65) rfl (by omega) ?_
    refine x_ladd hK kX10_term_65 (q := 66) rfl ?_
    refine x_lstore hK kX10_term_66 (q := 68) rfl ?_
    refine x_aload_n hK kX10_term_68 (q := 69) rfl rfl ?_
    refine x_lload hK kX10_term_69 (q := 71) rfl rfl ?_
    refine x_ldc2_w hK kX10_term_71 (q := 74) rfl lc2_RX10_270 ?_
    refine x_lcmp hK kX10_term_74 (q := 75) rfl (by refine ⟨?_, ?_⟩ <;> omega) ?_
    simp only [lS, lS2, clr_0, clr_I, clr_L, clr_R]
    refine x_ifc_lt hK kX10_term_75 (q := 78) rfl (tg := 87) rfl (fun c75 => ?_) (fun c75 => ?_)
    · refine x_iconst hK kX10_term_87 (q := 88) rfl ?_
      refine x_goto hK kX10_term_88 (tg := 92) rfl ?_
      refine x_putfield hK kX10_term_92 (q := 95) rfl (pX10_61 ?_)
      refine x_aload_n hK kX10_term_95 (q := 96) rfl rfl ?_
      refine x_getfield hK kX10_term_96 (q := 99) rfl (gX10_26 ?_)
      refine x_iload hK kX10_term_99 (q := 101) rfl rfl ?_
      refine x_aload_n hK kX10_term_101 (q := 102) rfl rfl ?_
      refine x_getfield hK kX10_term_102 (q := 105) rfl (gX10_61 ?_)
      rw [uF_g]
      refine x_if_le hK kX10_term_105 (q := 108) rfl (tg := 118) rfl (by decide) (fun c105 => ?_) (fun c105 => ?_)
      · refine x_lload hK kX10_term_118 (q := 120) rfl rfl ?_
        refine x_l2i hK kX10_term_120 (q := 121) rfl ?_
        refine x_iastore hK kX10_term_121 (q := 122) rfl (yX10_A4 (by refine ⟨?_, ?_⟩ <;> omega) ?_)
        rw [uF_u]
        refine x_aload_n hK kX10_term_122 (q := 123) rfl rfl ?_
        refine x_getfield hK kX10_term_123 (q := 126) rfl (gX10_26 ?_)
        refine x_iload hK kX10_term_126 (q := 128) rfl rfl ?_
        refine x_iaload hK kX10_term_128 (q := 129) rfl (aX10_A4 (by refine ⟨?_, ?_⟩ <;> omega) ?_)
        rw [uA_g, uI_s]
        refine x_ireturn hK kX10_term_129 (by first | trivial | exact Or.inl rfl | exact Or.inr rfl) ?_
        first
        | (exfalso; omega)
        | (rw [e1]; exact g3 (by omega))
        | (exact g5 (by omega))
      · refine x_aload_n hK kX10_term_108 (q := 109) rfl rfl ?_
        refine x_getfield hK kX10_term_109 (q := 112) rfl (gX10_26 ?_)
        refine x_iload hK kX10_term_112 (q := 114) rfl rfl ?_
        refine x_iaload hK kX10_term_114 (q := 115) rfl (aX10_A4 (by refine ⟨?_, ?_⟩ <;> omega) ?_)
        rw [hv]
        refine x_goto hK kX10_term_115 (tg := 121) rfl ?_
        refine x_iastore hK kX10_term_121 (q := 122) rfl (yX10_A4 (by refine ⟨?_, ?_⟩ <;> omega) ?_)
        rw [uF_u]
        refine x_aload_n hK kX10_term_122 (q := 123) rfl rfl ?_
        refine x_getfield hK kX10_term_123 (q := 126) rfl (gX10_26 ?_)
        refine x_iload hK kX10_term_126 (q := 128) rfl rfl ?_
        refine x_iaload hK kX10_term_128 (q := 129) rfl (aX10_A4 (by refine ⟨?_, ?_⟩ <;> omega) ?_)
        rw [uA_g, uI_s]
        refine x_ireturn hK kX10_term_129 (by first | trivial | exact Or.inl rfl | exact Or.inr rfl) ?_
        first
        | (exfalso; omega)
        | (rw [e1]; exact g3 (by omega))
        | (exact g5 (by omega))
    · refine x_lload hK kX10_term_78 (q := 80) rfl rfl ?_
      refine x_ldc2_w hK kX10_term_80 (q := 83) rfl lc2_RX10_272 ?_
      refine x_lcmp hK kX10_term_83 (q := 84) rfl (by refine ⟨?_, ?_⟩ <;> omega) ?_
      refine x_ifc_le hK kX10_term_84 (q := 87) rfl (tg := 91) rfl (fun c84 => ?_) (fun c84 => ?_)
      · refine x_iconst hK kX10_term_91 (q := 92) rfl ?_
        refine x_putfield hK kX10_term_92 (q := 95) rfl (pX10_61 ?_)
        refine x_aload_n hK kX10_term_95 (q := 96) rfl rfl ?_
        refine x_getfield hK kX10_term_96 (q := 99) rfl (gX10_26 ?_)
        refine x_iload hK kX10_term_99 (q := 101) rfl rfl ?_
        refine x_aload_n hK kX10_term_101 (q := 102) rfl rfl ?_
        refine x_getfield hK kX10_term_102 (q := 105) rfl (gX10_61 ?_)
        rw [uF_g]
        refine x_if_le hK kX10_term_105 (q := 108) rfl (tg := 118) rfl (by decide) (fun c105 => ?_) (fun c105 => ?_)
        · refine x_lload hK kX10_term_118 (q := 120) rfl rfl ?_
          refine x_l2i hK kX10_term_120 (q := 121) rfl ?_
          refine x_iastore hK kX10_term_121 (q := 122) rfl (yX10_A4 (by refine ⟨?_, ?_⟩ <;> omega) ?_)
          rw [uF_u]
          refine x_aload_n hK kX10_term_122 (q := 123) rfl rfl ?_
          refine x_getfield hK kX10_term_123 (q := 126) rfl (gX10_26 ?_)
          refine x_iload hK kX10_term_126 (q := 128) rfl rfl ?_
          refine x_iaload hK kX10_term_128 (q := 129) rfl (aX10_A4 (by refine ⟨?_, ?_⟩ <;> omega) ?_)
          rw [uA_g, uI_s]
          refine x_ireturn hK kX10_term_129 (by first | trivial | exact Or.inl rfl | exact Or.inr rfl) ?_
          first
          | (exfalso; omega)
          | (rw [e1]; exact g3 (by omega))
          | (exact g5 (by omega))
        · refine x_aload_n hK kX10_term_108 (q := 109) rfl rfl ?_
          refine x_getfield hK kX10_term_109 (q := 112) rfl (gX10_26 ?_)
          refine x_iload hK kX10_term_112 (q := 114) rfl rfl ?_
          refine x_iaload hK kX10_term_114 (q := 115) rfl (aX10_A4 (by refine ⟨?_, ?_⟩ <;> omega) ?_)
          rw [hv]
          refine x_goto hK kX10_term_115 (tg := 121) rfl ?_
          refine x_iastore hK kX10_term_121 (q := 122) rfl (yX10_A4 (by refine ⟨?_, ?_⟩ <;> omega) ?_)
          rw [uF_u]
          refine x_aload_n hK kX10_term_122 (q := 123) rfl rfl ?_
          refine x_getfield hK kX10_term_123 (q := 126) rfl (gX10_26 ?_)
          refine x_iload hK kX10_term_126 (q := 128) rfl rfl ?_
          refine x_iaload hK kX10_term_128 (q := 129) rfl (aX10_A4 (by refine ⟨?_, ?_⟩ <;> omega) ?_)
          rw [uA_g, uI_s]
          refine x_ireturn hK kX10_term_129 (by first | trivial | exact Or.inl rfl | exact Or.inr rfl) ?_
          first
          | (exfalso; omega)
          | (rw [e1]; exact g3 (by omega))
          | (exact g5 (by omega))
      · refine x_iconst hK kX10_term_87 (q := 88) rfl ?_
        refine x_goto hK kX10_term_88 (tg := 92) rfl ?_
        refine x_putfield hK kX10_term_92 (q := 95) rfl (pX10_61 ?_)
        refine x_aload_n hK kX10_term_95 (q := 96) rfl rfl ?_
        refine x_getfield hK kX10_term_96 (q := 99) rfl (gX10_26 ?_)
        refine x_iload hK kX10_term_99 (q := 101) rfl rfl ?_
        refine x_aload_n hK kX10_term_101 (q := 102) rfl rfl ?_
        refine x_getfield hK kX10_term_102 (q := 105) rfl (gX10_61 ?_)
        rw [uF_g]
        refine x_if_le hK kX10_term_105 (q := 108) rfl (tg := 118) rfl (by decide) (fun c105 => ?_) (fun c105 => ?_)
        · refine x_lload hK kX10_term_118 (q := 120) rfl rfl ?_
          refine x_l2i hK kX10_term_120 (q := 121) rfl ?_
          refine x_iastore hK kX10_term_121 (q := 122) rfl (yX10_A4 (by refine ⟨?_, ?_⟩ <;> omega) ?_)
          rw [uF_u]
          refine x_aload_n hK kX10_term_122 (q := 123) rfl rfl ?_
          refine x_getfield hK kX10_term_123 (q := 126) rfl (gX10_26 ?_)
          refine x_iload hK kX10_term_126 (q := 128) rfl rfl ?_
          refine x_iaload hK kX10_term_128 (q := 129) rfl (aX10_A4 (by refine ⟨?_, ?_⟩ <;> omega) ?_)
          rw [uA_g, uI_s]
          refine x_ireturn hK kX10_term_129 (by first | trivial | exact Or.inl rfl | exact Or.inr rfl) ?_
          first
          | (exfalso; omega)
          | (rw [e1]; exact g3 (by omega))
          | (exact g5 (by omega))
        · refine x_aload_n hK kX10_term_108 (q := 109) rfl rfl ?_
          refine x_getfield hK kX10_term_109 (q := 112) rfl (gX10_26 ?_)
          refine x_iload hK kX10_term_112 (q := 114) rfl rfl ?_
          refine x_iaload hK kX10_term_114 (q := 115) rfl (aX10_A4 (by refine ⟨?_, ?_⟩ <;> omega) ?_)
          rw [hv]
          refine x_goto hK kX10_term_115 (tg := 121) rfl ?_
          refine x_iastore hK kX10_term_121 (q := 122) rfl (yX10_A4 (by refine ⟨?_, ?_⟩ <;> omega) ?_)
          rw [uF_u]
          refine x_aload_n hK kX10_term_122 (q := 123) rfl rfl ?_
          refine x_getfield hK kX10_term_123 (q := 126) rfl (gX10_26 ?_)
          refine x_iload hK kX10_term_126 (q := 128) rfl rfl ?_
          refine x_iaload hK kX10_term_128 (q := 129) rfl (aX10_A4 (by refine ⟨?_, ?_⟩ <;> omega) ?_)
          rw [uA_g, uI_s]
          refine x_ireturn hK kX10_term_129 (by first | trivial | exact Or.inl rfl | exact Or.inr rfl) ?_
          first
          | (exfalso; omega)
          | (rw [e1]; exact g3 (by omega))
          | (exact g5 (by omega))
  simp only [eLoc, eE, List.length_cons, List.length_nil, List.replicate, List.cons_append, List.nil_append, Nat.reduceAdd, Nat.reduceSub]
  refine x_aload_n hK kX10_term_0 (q := 1) rfl rfl ?_
  refine x_iload_n hK kX10_term_1 (q := 2) rfl rfl ?_
  refine x_if_lt hK kX10_term_2 (q := 5) rfl (tg := 13) rfl (by omega) (fun c2 => ?_) (fun c2 => ?_)
  · refine x_iconst hK kX10_term_13 (q := 14) rfl ?_
    refine x_goto hK kX10_term_14 (tg := 30) rfl ?_
    refine x_putfield hK kX10_term_30 (q := 33) rfl (pX10_61 ?_)
    refine x_aload_n hK kX10_term_33 (q := 34) rfl rfl ?_
    refine x_getfield hK kX10_term_34 (q := 37) rfl (gX10_61 ?_)
    rw [uF_g]
    refine x_if_le hK kX10_term_37 (q := 40) rfl (tg := 42) rfl (by decide) (fun c37 => ?_) (fun c37 => ?_)
    · first
      | (exfalso; omega)
      | exact main (by omega) (by omega) (q1.mp (by omega))
    · refine x_iconst hK kX10_term_40 (q := 41) rfl ?_
      refine x_ireturn hK kX10_term_41 (by first | trivial | exact Or.inl rfl | exact Or.inr rfl) ?_
      first
      | (exfalso; omega)
      | exact h1 (by omega)
      | exact h2 (by omega) (by omega) (fun r => by have := q1.mpr r; omega)
  · refine x_iload_n hK kX10_term_5 (q := 6) rfl rfl ?_
    refine x_aload_n hK kX10_term_6 (q := 7) rfl rfl ?_
    refine x_getfield hK kX10_term_7 (q := 10) rfl (gX10_199 ?_)
    refine x_icmp_lt hK kX10_term_10 (q := 13) rfl (tg := 17) rfl (by exact ⟨hp, w6⟩) (fun c10 => ?_) (fun c10 => ?_)
    · refine x_iload_n hK kX10_term_17 (q := 18) rfl rfl ?_
      refine x_iload_n hK kX10_term_18 (q := 19) rfl rfl ?_
      refine x_cs2 hK kX10_term_19 (q := 22) rfl (stX10_term_267) (Nat.le_of_ble_eq_true rfl) ?_
      refine SX10_isTerm_i ha hb (fun q q0 q1 => ?_)
      refine x_if_ne hK kX10_term_22 (q := 25) rfl (tg := 29) rfl (by rcases q0 with e | e <;> rw [e] <;> decide) (fun c22 => ?_) (fun c22 => ?_)
      · refine x_iconst hK kX10_term_29 (q := 30) rfl ?_
        refine x_putfield hK kX10_term_30 (q := 33) rfl (pX10_61 ?_)
        refine x_aload_n hK kX10_term_33 (q := 34) rfl rfl ?_
        refine x_getfield hK kX10_term_34 (q := 37) rfl (gX10_61 ?_)
        rw [uF_g]
        refine x_if_le hK kX10_term_37 (q := 40) rfl (tg := 42) rfl (by decide) (fun c37 => ?_) (fun c37 => ?_)
        · first
          | (exfalso; omega)
          | exact main (by omega) (by omega) (q1.mp (by omega))
        · refine x_iconst hK kX10_term_40 (q := 41) rfl ?_
          refine x_ireturn hK kX10_term_41 (by first | trivial | exact Or.inl rfl | exact Or.inr rfl) ?_
          first
          | (exfalso; omega)
          | exact h1 (by omega)
          | exact h2 (by omega) (by omega) (fun r => by have := q1.mpr r; omega)
      · refine x_iconst hK kX10_term_25 (q := 26) rfl ?_
        refine x_goto hK kX10_term_26 (tg := 30) rfl ?_
        refine x_putfield hK kX10_term_30 (q := 33) rfl (pX10_61 ?_)
        refine x_aload_n hK kX10_term_33 (q := 34) rfl rfl ?_
        refine x_getfield hK kX10_term_34 (q := 37) rfl (gX10_61 ?_)
        rw [uF_g]
        refine x_if_le hK kX10_term_37 (q := 40) rfl (tg := 42) rfl (by decide) (fun c37 => ?_) (fun c37 => ?_)
        · first
          | (exfalso; omega)
          | exact main (by omega) (by omega) (q1.mp (by omega))
        · refine x_iconst hK kX10_term_40 (q := 41) rfl ?_
          refine x_ireturn hK kX10_term_41 (by first | trivial | exact Or.inl rfl | exact Or.inr rfl) ?_
          first
          | (exfalso; omega)
          | exact h1 (by omega)
          | exact h2 (by omega) (by omega) (fun r => by have := q1.mpr r; omega)
    · refine x_iconst hK kX10_term_13 (q := 14) rfl ?_
      refine x_goto hK kX10_term_14 (tg := 30) rfl ?_
      refine x_putfield hK kX10_term_30 (q := 33) rfl (pX10_61 ?_)
      refine x_aload_n hK kX10_term_33 (q := 34) rfl rfl ?_
      refine x_getfield hK kX10_term_34 (q := 37) rfl (gX10_61 ?_)
      rw [uF_g]
      refine x_if_le hK kX10_term_37 (q := 40) rfl (tg := 42) rfl (by decide) (fun c37 => ?_) (fun c37 => ?_)
      · first
        | (exfalso; omega)
        | exact main (by omega) (by omega) (q1.mp (by omega))
      · refine x_iconst hK kX10_term_40 (q := 41) rfl ?_
        refine x_ireturn hK kX10_term_41 (by first | trivial | exact Or.inl rfl | exact Or.inr rfl) ?_
        first
        | (exfalso; omega)
        | exact h1 (by omega)
        | exact h2 (by omega) (by omega) (fun r => by have := q1.mpr r; omega)
set_option maxRecDepth 20000 in
theorem mX10_term : eMet yX10_term cX10_term 8 (some .int) 1 22 SX10_term := eMet_of (by decide +kernel) sX10_term kX10_term_ok caX10_term tb_RX10
theorem wX10_term : eWV yX10_term cX10_term 8 (some .int) 5 9 SX10_term := ⟨(gW_at 1260 (by decide +kernel) rfl), (gW_at 89 (by decide +kernel) rfl), (gW_at 1258 (by decide +kernel) rfl), ⟨_, rfl, (gW_at 1259 (by decide +kernel) rfl)⟩, by decide +kernel, SX10_term_r⟩
