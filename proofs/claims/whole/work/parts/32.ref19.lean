/-! topOf, clearWork, plain. -/
theorem uI_uI (f : Int → Int) (i a b : Int) : uI (uI f i a) i b = uI f i b := by
  funext j
  unfold uI
  split <;> rfl
def SX10_topOf : eSp := fun as M rt => ∃ (F : Nat → Int) (A : Nat → Int → Int) (s : Int → Int) (a : Int), as = [eRR, eI a] ∧ M = cR F A ∧ rn (A 0) s ∧ 0 ≤ a ∧ a + F 14 ≤ 2666 ∧ 0 ≤ F 14 ∧ ∀ t : Int, -1 ≤ t → t < F 14 → (t = -1 ∨ s (a + t) ≠ 0) → (∀ k, t < k → k < F 14 → s (a + k) = 0) → rt (some (eI t)) (cR F A)
theorem SX10_topOf_i {F : Nat → Int} {A : Nat → Int → Int} {s : Int → Int} {a : Int} {rt : Option eV → eM → Prop} (hr : rn (A 0) s) (h0 : 0 ≤ a) (h1 : a + F 14 ≤ 2666) (h2 : 0 ≤ F 14) (h : ∀ t : Int, -1 ≤ t → t < F 14 → (t = -1 ∨ s (a + t) ≠ 0) → (∀ k, t < k → k < F 14 → s (a + k) = 0) → rt (some (eI t)) (cR F A)) : SX10_topOf [eRR, eI a] (cR F A) rt := ⟨F, A, s, a, rfl, rfl, hr, h0, h1, h2, h⟩
theorem SX10_topOf_r : ∀ as M rt, SX10_topOf as M rt → ∃ a r fs, as = eR a :: r ∧ M a = some (.inl (9, fs)) := by
  rintro as M rt ⟨F, A, s, a, rfl, rfl, -⟩
  exact ⟨_, _, _, rfl, rfl⟩
def kX10_topOf : List (Nat × Jvm.ClassFile.Instr × Nat) := [(0, .aload_n 0, 1), (1, .getfield 167, 3), (4, .iconst 1, 1), (5, .isub, 1), (6, .istore_n 2, 1), (7, .iload_n 2, 1), (8, .ifCond .lt 19, 3), (11, .aload_n 0, 1), (12, .iload_n 1, 1), (13, .iload_n 2, 1), (14, .iadd, 1), (15, .invokevirtual 81, 3), (18, .ifCond .eq 9, 3), (21, .iinc 2 (-1), 3), (24, .goto (-17), 3), (27, .iload_n 2, 1), (28, .ireturn, 1)]
theorem kX10_topOf_0 : cdOf kX10_topOf 0 = some (.aload_n 0, 1) := by decide +kernel
theorem kX10_topOf_1 : cdOf kX10_topOf 1 = some (.getfield 167, 3) := by decide +kernel
theorem kX10_topOf_4 : cdOf kX10_topOf 4 = some (.iconst 1, 1) := by decide +kernel
theorem kX10_topOf_5 : cdOf kX10_topOf 5 = some (.isub, 1) := by decide +kernel
theorem kX10_topOf_6 : cdOf kX10_topOf 6 = some (.istore_n 2, 1) := by decide +kernel
theorem kX10_topOf_7 : cdOf kX10_topOf 7 = some (.iload_n 2, 1) := by decide +kernel
theorem kX10_topOf_8 : cdOf kX10_topOf 8 = some (.ifCond .lt 19, 3) := by decide +kernel
theorem kX10_topOf_11 : cdOf kX10_topOf 11 = some (.aload_n 0, 1) := by decide +kernel
theorem kX10_topOf_12 : cdOf kX10_topOf 12 = some (.iload_n 1, 1) := by decide +kernel
theorem kX10_topOf_13 : cdOf kX10_topOf 13 = some (.iload_n 2, 1) := by decide +kernel
theorem kX10_topOf_14 : cdOf kX10_topOf 14 = some (.iadd, 1) := by decide +kernel
theorem kX10_topOf_15 : cdOf kX10_topOf 15 = some (.invokevirtual 81, 3) := by decide +kernel
theorem kX10_topOf_18 : cdOf kX10_topOf 18 = some (.ifCond .eq 9, 3) := by decide +kernel
theorem kX10_topOf_21 : cdOf kX10_topOf 21 = some (.iinc 2 (-1), 3) := by decide +kernel
theorem kX10_topOf_24 : cdOf kX10_topOf 24 = some (.goto (-17), 3) := by decide +kernel
theorem kX10_topOf_27 : cdOf kX10_topOf 27 = some (.iload_n 2, 1) := by decide +kernel
theorem kX10_topOf_28 : cdOf kX10_topOf 28 = some (.ireturn, 1) := by decide +kernel
set_option maxRecDepth 20000 in
theorem kX10_topOf_ok : ∀ pc i len, cdOf kX10_topOf pc = some (i, len) → decode cX10_topOf pc = .ok (i, len) ∧ stOK 3 i = true ∧ jOK pc i = true ∧ eLen i len = true := cdOf_ok cX10_topOf 3 kX10_topOf (by decide +kernel)
def vtX10_topOf : Nat → Option (Nat × eSp) := fun k => match k with
  | 81 => some (2, SX10_isZero)
  | _ => none
theorem vtX10_topOf_81 : vtX10_topOf 81 = some (2, SX10_isZero) := rfl
def stX10_topOf : Nat → Option (Nat × eSp) := fun _ => none
abbrev TX10_topOf : eT := (fl_RX10, cl_RX10, dl_RX10, vtX10_topOf, stX10_topOf)
set_option maxRecDepth 20000 in
theorem caX10_topOf : eCalls RX10 { frames := 2, cells := 0, slots := 0, locals := 41 } TX10_topOf := by
  refine ⟨fun k n sp h => ?_, fun k n sp h => ?_⟩
  · dsimp only [TX10_topOf] at h
    unfold vtX10_topOf at h
    split at h
    · cases h; exact eV_mk mX10_isZero wX10_isZero (by decide +kernel) (Or.inl (gW_at 1086 (by decide +kernel) rfl))
    · cases h
  · cases h
set_option maxRecDepth 100000 in
set_option maxHeartbeats 4000000 in
theorem sX10_topOf : eSafe TX10_topOf (cdOf kX10_topOf) 3 (some .int) SX10_topOf := by
  intro K rt hK as M h
  obtain ⟨F, A, s, a, rfl, rfl, hr, h0, h1, h2, h⟩ := h
  refine ⟨by simp [eE], ?_⟩
  have loop : ∀ (n : Nat) (t : Int), t + 1 = n → t < F 14 → (∀ k, t < k → k < F 14 → s (a + k) = 0) → K 7 [some eRR, some (eI a), some (eI t)] [] (cR F A) := by
    intro n
    induction n with
    | zero =>
      intro t ht hl hk
      refine x_iload_n hK kX10_topOf_7 (q := 8) rfl rfl ?_
      refine x_if_lt hK kX10_topOf_8 (q := 11) rfl (tg := 27) rfl (by constructor <;> omega) (fun c8 => ?_) (fun c8 => ?_)
      · refine x_iload_n hK kX10_topOf_27 (q := 28) rfl rfl ?_
        refine x_ireturn hK kX10_topOf_28 (by first | trivial | exact Or.inl rfl | exact Or.inr rfl) ?_
        exact h t (by omega) hl (Or.inl (by omega)) hk
      · exfalso; omega
    | succ n ih =>
      intro t ht hl hk
      have e1 := @zZ_0 (s (a + t))
      refine x_iload_n hK kX10_topOf_7 (q := 8) rfl rfl ?_
      refine x_if_lt hK kX10_topOf_8 (q := 11) rfl (tg := 27) rfl (by constructor <;> omega) (fun c8 => ?_) (fun c8 => ?_)
      · exfalso; omega
      · refine x_aload_n hK kX10_topOf_11 (q := 12) rfl rfl ?_
        refine x_iload_n hK kX10_topOf_12 (q := 13) rfl rfl ?_
        refine x_iload_n hK kX10_topOf_13 (q := 14) rfl rfl ?_
        refine x_iadd hK kX10_topOf_14 (q := 15) rfl ?_
        refine x_cv2 hK kX10_topOf_15 (q := 18) rfl (vtX10_topOf_81) (Nat.le_of_ble_eq_true rfl) ?_
        refine SX10_isZero_n hr (by omega) ?_
        refine x_if_eq hK kX10_topOf_18 (q := 21) rfl (tg := 27) rfl (by exact zZ_w _) (fun c18 => ?_) (fun c18 => ?_)
        · have e2 := e1.mp c18
          refine x_iload_n hK kX10_topOf_27 (q := 28) rfl rfl ?_
          refine x_ireturn hK kX10_topOf_28 (by first | trivial | exact Or.inl rfl | exact Or.inr rfl) ?_
          exact h t (by omega) hl (Or.inr e2) hk
        · refine x_iinc hK kX10_topOf_21 (q := 24) rfl rfl ?_
          simp only [lS, lS2, clr_0, clr_I, clr_L, clr_R]
          refine x_goto hK kX10_topOf_24 (tg := 7) rfl ?_
          refine ih (t + -1) (by omega) (by omega) (fun k k0 k1 => ?_)
          rcases Int.lt_or_le t k with g | g
          · exact hk k g k1
          · rw [show k = t by omega]
            exact Decidable.not_not.mp (fun g2 => c18 (e1.mpr g2))
  simp only [eLoc, eE, List.length_cons, List.length_nil, List.replicate, List.cons_append, List.nil_append, Nat.reduceAdd, Nat.reduceSub]
  refine x_aload_n hK kX10_topOf_0 (q := 1) rfl rfl ?_
  refine x_getfield hK kX10_topOf_1 (q := 4) rfl (gX10_167 ?_)
  refine x_iconst hK kX10_topOf_4 (q := 5) rfl ?_
  refine x_isub hK kX10_topOf_5 (q := 6) rfl ?_
  refine x_istore_n hK kX10_topOf_6 (q := 7) (jn := 2) rfl rfl ?_
  simp only [lS, lS2, clr_0, clr_I, clr_L, clr_R]
  exact loop (F 14).toNat (F 14 - 1) (by omega) (by omega) (fun k k0 k1 => by omega)
set_option maxRecDepth 20000 in
theorem mX10_topOf : eMet yX10_topOf cX10_topOf 3 (some .int) 2 41 SX10_topOf := eMet_of (by decide +kernel) sX10_topOf kX10_topOf_ok caX10_topOf tb_RX10
theorem wX10_topOf : eWV yX10_topOf cX10_topOf 3 (some .int) 2 9 SX10_topOf := ⟨(gW_at 1165 (by decide +kernel) rfl), (gW_at 89 (by decide +kernel) rfl), (gW_at 1164 (by decide +kernel) rfl), ⟨_, rfl, (gW_at 54 (by decide +kernel) rfl)⟩, by decide +kernel, SX10_topOf_r⟩
def cw (s : Int → Int) (n : Int) : Int → Int := fun p => if 2025 ≤ p ∧ p < 2025 + n then 0 else s p
def SX10_clearWork : eSp := fun as M rt => ∃ (F : Nat → Int) (A : Nat → Int → Int) (s : Int → Int), as = [eRR] ∧ M = cR F A ∧ rn (A 0) s ∧ ∀ A', sN A A' → rn (A' 0) (cw s 45) → rt none (cR F A')
theorem SX10_clearWork_i {F : Nat → Int} {A : Nat → Int → Int} {s : Int → Int} {rt : Option eV → eM → Prop} (hr : rn (A 0) s) (h : ∀ A', sN A A' → rn (A' 0) (cw s 45) → rt none (cR F A')) : SX10_clearWork [eRR] (cR F A) rt := ⟨F, A, s, rfl, rfl, hr, h⟩
theorem SX10_clearWork_r : ∀ as M rt, SX10_clearWork as M rt → ∃ a r fs, as = eR a :: r ∧ M a = some (.inl (9, fs)) := by
  rintro as M rt ⟨F, A, s, rfl, rfl, -⟩
  exact ⟨_, _, _, rfl, rfl⟩
def kX10_clearWork : List (Nat × Jvm.ClassFile.Instr × Nat) := [(0, .iconst 0, 1), (1, .istore_n 1, 1), (2, .iload_n 1, 1), (3, .bipush 45, 2), (5, .if_icmp .ge 23, 3), (8, .aload_n 0, 1), (9, .getfield 12, 3), (12, .sipush 2025, 3), (15, .iload_n 1, 1), (16, .iadd, 1), (17, .invokestatic 64, 3), (20, .iconst 0, 1), (21, .iastore, 1), (22, .iinc 1 1, 3), (25, .goto (-23), 3), (28, .return_, 1)]
theorem kX10_clearWork_0 : cdOf kX10_clearWork 0 = some (.iconst 0, 1) := by decide +kernel
theorem kX10_clearWork_1 : cdOf kX10_clearWork 1 = some (.istore_n 1, 1) := by decide +kernel
theorem kX10_clearWork_2 : cdOf kX10_clearWork 2 = some (.iload_n 1, 1) := by decide +kernel
theorem kX10_clearWork_3 : cdOf kX10_clearWork 3 = some (.bipush 45, 2) := by decide +kernel
theorem kX10_clearWork_5 : cdOf kX10_clearWork 5 = some (.if_icmp .ge 23, 3) := by decide +kernel
theorem kX10_clearWork_8 : cdOf kX10_clearWork 8 = some (.aload_n 0, 1) := by decide +kernel
theorem kX10_clearWork_9 : cdOf kX10_clearWork 9 = some (.getfield 12, 3) := by decide +kernel
theorem kX10_clearWork_12 : cdOf kX10_clearWork 12 = some (.sipush 2025, 3) := by decide +kernel
theorem kX10_clearWork_15 : cdOf kX10_clearWork 15 = some (.iload_n 1, 1) := by decide +kernel
theorem kX10_clearWork_16 : cdOf kX10_clearWork 16 = some (.iadd, 1) := by decide +kernel
theorem kX10_clearWork_17 : cdOf kX10_clearWork 17 = some (.invokestatic 64, 3) := by decide +kernel
theorem kX10_clearWork_20 : cdOf kX10_clearWork 20 = some (.iconst 0, 1) := by decide +kernel
theorem kX10_clearWork_21 : cdOf kX10_clearWork 21 = some (.iastore, 1) := by decide +kernel
theorem kX10_clearWork_22 : cdOf kX10_clearWork 22 = some (.iinc 1 1, 3) := by decide +kernel
theorem kX10_clearWork_25 : cdOf kX10_clearWork 25 = some (.goto (-23), 3) := by decide +kernel
theorem kX10_clearWork_28 : cdOf kX10_clearWork 28 = some (.return_, 1) := by decide +kernel
set_option maxRecDepth 20000 in
theorem kX10_clearWork_ok : ∀ pc i len, cdOf kX10_clearWork pc = some (i, len) → decode cX10_clearWork pc = .ok (i, len) ∧ stOK 2 i = true ∧ jOK pc i = true ∧ eLen i len = true := cdOf_ok cX10_clearWork 2 kX10_clearWork (by decide +kernel)
def vtX10_clearWork : Nat → Option (Nat × eSp) := fun _ => none
def stX10_clearWork : Nat → Option (Nat × eSp) := fun k => match k with
  | 64 => some (1, SX10_at)
  | _ => none
theorem stX10_clearWork_64 : stX10_clearWork 64 = some (1, SX10_at) := rfl
abbrev TX10_clearWork : eT := (fl_RX10, cl_RX10, dl_RX10, vtX10_clearWork, stX10_clearWork)
set_option maxRecDepth 20000 in
theorem caX10_clearWork : eCalls RX10 { frames := 1, cells := 0, slots := 0, locals := 20 } TX10_clearWork := by
  refine ⟨fun k n sp h => ?_, fun k n sp h => ?_⟩
  · cases h
  · dsimp only [TX10_clearWork] at h
    unfold stX10_clearWork at h
    split at h
    · cases h; exact eS_mk mX10_at wX10_at (by decide +kernel) (Or.inl (gW_at 1070 (by decide +kernel) rfl))
    · cases h
set_option maxRecDepth 100000 in
set_option maxHeartbeats 4000000 in
theorem sX10_clearWork : eSafe TX10_clearWork (cdOf kX10_clearWork) 2 none SX10_clearWork := by
  intro K rt hK as M h
  obtain ⟨F, A, s, rfl, rfl, hr, h⟩ := h
  refine ⟨by simp [eE], ?_⟩
  have loop : ∀ (d n : Nat) (A' : Nat → Int → Int), n + d = 45 → sN A A' → rn (A' 0) (cw s n) → K 2 [some eRR, some (eI n)] [] (cR F A') := by
    intro d
    induction d with
    | zero =>
      intro n A' hn hs hr'
      have e : n = 45 := by omega
      subst e
      refine x_iload_n hK kX10_clearWork_2 (q := 3) rfl rfl ?_
      refine x_bipush hK kX10_clearWork_3 (q := 5) rfl (by decide) ?_
      refine x_icmp_ge hK kX10_clearWork_5 (q := 8) rfl (tg := 28) rfl (by refine ⟨?_, ?_⟩ <;> omega) (fun c5 => ?_) (fun c5 => ?_)
      · refine x_return_ hK kX10_clearWork_28 (by first | trivial | exact Or.inl rfl | exact Or.inr rfl) ?_
        exact h A' hs hr'
      · exfalso; omega
    | succ d ih =>
      intro n A' hn hs hr'
      refine x_iload_n hK kX10_clearWork_2 (q := 3) rfl rfl ?_
      refine x_bipush hK kX10_clearWork_3 (q := 5) rfl (by decide) ?_
      refine x_icmp_ge hK kX10_clearWork_5 (q := 8) rfl (tg := 28) rfl (by refine ⟨?_, ?_⟩ <;> omega) (fun c5 => ?_) (fun c5 => ?_)
      · exfalso; omega
      · refine x_aload_n hK kX10_clearWork_8 (q := 9) rfl rfl ?_
        refine x_getfield hK kX10_clearWork_9 (q := 12) rfl (gX10_12 ?_)
        refine x_sipush hK kX10_clearWork_12 (q := 15) rfl (by decide) ?_
        refine x_iload_n hK kX10_clearWork_15 (q := 16) rfl rfl ?_
        refine x_iadd hK kX10_clearWork_16 (q := 17) rfl ?_
        refine x_cs1 hK kX10_clearWork_17 (q := 20) rfl (stX10_clearWork_64) (Nat.le_of_ble_eq_true rfl) ?_
        refine SX10_at_i ?_
        refine x_iconst hK kX10_clearWork_20 (q := 21) rfl ?_
        refine x_iastore hK kX10_clearWork_21 (q := 22) rfl (yX10_A0 (by refine ⟨?_, ?_⟩ <;> omega) ?_)
        refine x_iinc hK kX10_clearWork_22 (q := 25) rfl rfl ?_
        simp only [lS, lS2, clr_0, clr_I, clr_L, clr_R]
        refine x_goto hK kX10_clearWork_25 (tg := 2) rfl ?_
        rw [show (n : Int) + 1 = ((n + 1 : Nat) : Int) by omega]
        refine ih (n + 1) _ (by omega) (sN_tr hs (sN_u (by decide) _)) ?_
        have e := rn_nil (p := 2025 + (n : Int)) hr'
        have e2 : uI (cw s n) (2025 + (n : Int)) 0 = cw s ((n + 1 : Nat) : Int) := by
          funext j
          unfold uI cw
          split
          · rw [if_pos (by omega)]
          · split
            · rw [if_pos (by omega)]
            · rw [if_neg (by omega)]
        rw [e2] at e
        exact e
  simp only [eLoc, eE, List.length_cons, List.length_nil, List.replicate, List.cons_append, List.nil_append, Nat.reduceAdd, Nat.reduceSub]
  refine x_iconst hK kX10_clearWork_0 (q := 1) rfl ?_
  refine x_istore_n hK kX10_clearWork_1 (q := 2) (jn := 1) rfl rfl ?_
  simp only [lS, lS2, clr_0, clr_I, clr_L, clr_R]
  refine loop 45 0 A (by omega) (sN_rf A) ?_
  have e2 : cw s ((0 : Nat) : Int) = s := by
    funext j
    unfold cw
    exact if_neg (by omega)
  rw [e2]
  exact hr
set_option maxRecDepth 20000 in
theorem mX10_clearWork : eMet yX10_clearWork cX10_clearWork 2 none 1 20 SX10_clearWork := eMet_of (by decide +kernel) sX10_clearWork kX10_clearWork_ok caX10_clearWork tb_RX10
theorem wX10_clearWork : eWV yX10_clearWork cX10_clearWork 2 none 1 9 SX10_clearWork := ⟨(gW_at 1069 (by decide +kernel) rfl), (gW_at 89 (by decide +kernel) rfl), (gW_at 1068 (by decide +kernel) rfl), ⟨_, rfl, (gW_at 38 (by decide +kernel) rfl)⟩, by decide +kernel, SX10_clearWork_r⟩
