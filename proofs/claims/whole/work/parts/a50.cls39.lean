/-! The face: at, lead, monomial, member, entry, table, form, remainder. -/
theorem oP_w {a b g : Int} (hg : 0 ≤ g ∧ g ≤ 3) : -1 ≤ oP a b g ∧ oP a b g < 10 := by
  unfold oP
  split
  · omega
  · have := oF_r (d := a + b) ⟨by omega, by omega⟩
    omega
theorem tp_w (L : Int → Int) (k : Int) : ∀ (n i : Nat) (a : Int), tpF L k n i a = -1 ∨ ((i : Int) ≤ tpF L k n i a ∧ tpF L k n i a < i + n ∧ elb L (tpF L k n i a).toNat = true)
  | 0, _, _ => Or.inl rfl
  | n + 1, i, a => by
    unfold tpF
    split
    · split
      · rename_i e _
        exact Or.inr ⟨by omega, by omega, e⟩
      · rcases tp_w L k n (i + 1) (a + 1) with q | q
        · exact Or.inl q
        · exact Or.inr ⟨by omega, by omega, q.2.2⟩
    · rcases tp_w L k n (i + 1) a with q | q
      · exact Or.inl q
      · exact Or.inr ⟨by omega, by omega, q.2.2⟩
def SX9_at : eSp := fun as M rt => ∃ (F : Nat → Int) (A W : Nat → Int → Int) (k a b : Int), as = [eR (0, 0), eI k, eI a, eI b] ∧ M = cC F A W ∧ (w32 k) ∧ (w32 a) ∧ (w32 b) ∧ (0 ≤ F 2 ∧ F 2 ≤ 4) ∧ (rt (some (eI (if oP a b 2 = -1 then 0 else if k = -1 then pr (A 0) 4 (oP a b 2) else if 0 ≤ k ∧ k < F 2 then pr (A 0) k (oP a b 2) else 0))) (cC F A W))
theorem SX9_at_i {F : Nat → Int} {A W : Nat → Int → Int} {k a b : Int} {rt : Option eV → eM → Prop} (hk : w32 k) (ha : w32 a) (hb : w32 b) (hF : 0 ≤ F 2 ∧ F 2 ≤ 4) (h : rt (some (eI (if oP a b 2 = -1 then 0 else if k = -1 then pr (A 0) 4 (oP a b 2) else if 0 ≤ k ∧ k < F 2 then pr (A 0) k (oP a b 2) else 0))) (cC F A W)) : SX9_at [eR (0, 0), eI k, eI a, eI b] (cC F A W) rt := ⟨F, A, W, k, a, b, rfl, rfl, hk, ha, hb, hF, h⟩
theorem SX9_at_r : ∀ as M rt, SX9_at as M rt → ∃ a r fs, as = eR a :: r ∧ M a = some (.inl (8, fs)) := by
  rintro as M rt ⟨F, A, W, k, a, b, rfl, rfl, -⟩
  exact ⟨_, _, _, rfl, rfl⟩
def kX9_at : List (Nat × Jvm.ClassFile.Instr × Nat) := [(0, .iload_n 2, 1), (1, .iload_n 3, 1), (2, .iconst 2, 1), (3, .invokestatic 69, 3), (6, .istore 4, 2), (8, .iload 4, 2), (10, .iconst (-1), 1), (11, .if_icmp .ne 5, 3), (14, .iconst 0, 1), (15, .ireturn, 1), (16, .iload_n 1, 1), (17, .iconst (-1), 1), (18, .if_icmp .ne 14, 3), (21, .aload_n 0, 1), (22, .getfield 15, 3), (25, .iconst 4, 1), (26, .iload 4, 2), (28, .invokevirtual 78, 3), (31, .ireturn, 1), (32, .aload_n 0, 1), (33, .getfield 15, 3), (36, .iload_n 1, 1), (37, .invokevirtual 58, 3), (40, .ifCond .eq 16, 3), (43, .aload_n 0, 1), (44, .getfield 15, 3), (47, .iload_n 1, 1), (48, .iload 4, 2), (50, .invokevirtual 78, 3), (53, .goto 4, 3), (56, .iconst 0, 1), (57, .ireturn, 1)]
theorem kX9_at_0 : cdOf kX9_at 0 = some (.iload_n 2, 1) := by decide +kernel
theorem kX9_at_1 : cdOf kX9_at 1 = some (.iload_n 3, 1) := by decide +kernel
theorem kX9_at_2 : cdOf kX9_at 2 = some (.iconst 2, 1) := by decide +kernel
theorem kX9_at_3 : cdOf kX9_at 3 = some (.invokestatic 69, 3) := by decide +kernel
theorem kX9_at_6 : cdOf kX9_at 6 = some (.istore 4, 2) := by decide +kernel
theorem kX9_at_8 : cdOf kX9_at 8 = some (.iload 4, 2) := by decide +kernel
theorem kX9_at_10 : cdOf kX9_at 10 = some (.iconst (-1), 1) := by decide +kernel
theorem kX9_at_11 : cdOf kX9_at 11 = some (.if_icmp .ne 5, 3) := by decide +kernel
theorem kX9_at_14 : cdOf kX9_at 14 = some (.iconst 0, 1) := by decide +kernel
theorem kX9_at_15 : cdOf kX9_at 15 = some (.ireturn, 1) := by decide +kernel
theorem kX9_at_16 : cdOf kX9_at 16 = some (.iload_n 1, 1) := by decide +kernel
theorem kX9_at_17 : cdOf kX9_at 17 = some (.iconst (-1), 1) := by decide +kernel
theorem kX9_at_18 : cdOf kX9_at 18 = some (.if_icmp .ne 14, 3) := by decide +kernel
theorem kX9_at_21 : cdOf kX9_at 21 = some (.aload_n 0, 1) := by decide +kernel
theorem kX9_at_22 : cdOf kX9_at 22 = some (.getfield 15, 3) := by decide +kernel
theorem kX9_at_25 : cdOf kX9_at 25 = some (.iconst 4, 1) := by decide +kernel
theorem kX9_at_26 : cdOf kX9_at 26 = some (.iload 4, 2) := by decide +kernel
theorem kX9_at_28 : cdOf kX9_at 28 = some (.invokevirtual 78, 3) := by decide +kernel
theorem kX9_at_31 : cdOf kX9_at 31 = some (.ireturn, 1) := by decide +kernel
theorem kX9_at_32 : cdOf kX9_at 32 = some (.aload_n 0, 1) := by decide +kernel
theorem kX9_at_33 : cdOf kX9_at 33 = some (.getfield 15, 3) := by decide +kernel
theorem kX9_at_36 : cdOf kX9_at 36 = some (.iload_n 1, 1) := by decide +kernel
theorem kX9_at_37 : cdOf kX9_at 37 = some (.invokevirtual 58, 3) := by decide +kernel
theorem kX9_at_40 : cdOf kX9_at 40 = some (.ifCond .eq 16, 3) := by decide +kernel
theorem kX9_at_43 : cdOf kX9_at 43 = some (.aload_n 0, 1) := by decide +kernel
theorem kX9_at_44 : cdOf kX9_at 44 = some (.getfield 15, 3) := by decide +kernel
theorem kX9_at_47 : cdOf kX9_at 47 = some (.iload_n 1, 1) := by decide +kernel
theorem kX9_at_48 : cdOf kX9_at 48 = some (.iload 4, 2) := by decide +kernel
theorem kX9_at_50 : cdOf kX9_at 50 = some (.invokevirtual 78, 3) := by decide +kernel
theorem kX9_at_53 : cdOf kX9_at 53 = some (.goto 4, 3) := by decide +kernel
theorem kX9_at_56 : cdOf kX9_at 56 = some (.iconst 0, 1) := by decide +kernel
theorem kX9_at_57 : cdOf kX9_at 57 = some (.ireturn, 1) := by decide +kernel
set_option maxRecDepth 20000 in
theorem kX9_at_ok : ∀ pc i len, cdOf kX9_at pc = some (i, len) → decode cX9_at pc = .ok (i, len) ∧ stOK 5 i = true ∧ jOK pc i = true ∧ eLen i len = true := cdOf_ok cX9_at 5 kX9_at (by decide +kernel)
def vtX9_at : Nat → Option (Nat × eSp) := fun k => match k with
  | 78 => some (3, SX6_read)
  | 58 => some (2, SX6_has)
  | _ => none
theorem vtX9_at_78 : vtX9_at 78 = some (3, SX6_read) := rfl
theorem vtX9_at_58 : vtX9_at 58 = some (2, SX6_has) := rfl
def stX9_at : Nat → Option (Nat × eSp) := fun k => match k with
  | 69 => some (3, SX5_place)
  | _ => none
theorem stX9_at_69 : stX9_at 69 = some (3, SX5_place) := rfl
abbrev TX9_at : eT := (fl_RX9, cl_RX9, dl_RX9, vtX9_at, stX9_at)
set_option maxRecDepth 20000 in
theorem caX9_at : eCalls RX9 { frames := 2, cells := 0, slots := 0, locals := 44 } TX9_at := by
  refine ⟨fun k n sp h => ?_, fun k n sp h => ?_⟩
  · dsimp only [TX9_at] at h
    unfold vtX9_at at h
    split at h
    · cases h; exact eV_mk mX6_read wX6_read (by decide +kernel) (Or.inl (gW_at 843 (by decide +kernel) rfl))
    · cases h; exact eV_mk mX6_has wX6_has (by decide +kernel) (Or.inl (gW_at 844 (by decide +kernel) rfl))
    · cases h
  · dsimp only [TX9_at] at h
    unfold stX9_at at h
    split at h
    · cases h; exact eS_mk mX5_place wX5_place (by decide +kernel) (Or.inl (gW_at 773 (by decide +kernel) rfl))
    · cases h
set_option maxRecDepth 100000 in
set_option maxHeartbeats 4000000 in
theorem sX9_at : eSafe TX9_at (cdOf kX9_at) 5 (some .int) SX9_at := by
  intro K rt hK as M h
  obtain ⟨F, A, W, k, a, b, rfl, rfl, hk, ha, hb, hF, h⟩ := h
  refine ⟨by simp [eE], ?_⟩
  have op := oP_w (a := a) (b := b) (g := 2) ⟨by decide, by decide⟩
  obtain ⟨o, ho⟩ : ∃ o, oP a b 2 = o := ⟨_, rfl⟩
  rw [ho] at h op
  simp only [eLoc, eE, List.length_cons, List.length_nil, List.replicate, List.cons_append, List.nil_append, Nat.reduceAdd, Nat.reduceSub]
  refine x_iload_n hK kX9_at_0 (q := 1) rfl rfl ?_
  refine x_iload_n hK kX9_at_1 (q := 2) rfl rfl ?_
  refine x_iconst hK kX9_at_2 (q := 3) rfl ?_
  refine x_cs3 hK kX9_at_3 (q := 6) rfl (stX9_at_69) (Nat.le_of_ble_eq_true rfl) ?_
  refine SX5_place_i ha hb ⟨by decide, by decide⟩ ?_
  rw [ho]
  refine x_istore hK kX9_at_6 (q := 8) rfl ?_
  refine x_iload hK kX9_at_8 (q := 10) rfl rfl ?_
  refine x_iconst hK kX9_at_10 (q := 11) rfl ?_
  simp only [lS, lS2, clr_0, clr_I, clr_L, clr_R]
  refine x_icmp_ne hK kX9_at_11 (q := 14) rfl (tg := 16) rfl (by refine ⟨?_, ?_⟩ <;> omega) (fun c11 => ?_) (fun c11 => ?_)
  · rw [if_neg (by omega)] at h
    refine x_iload_n hK kX9_at_16 (q := 17) rfl rfl ?_
    refine x_iconst hK kX9_at_17 (q := 18) rfl ?_
    refine x_icmp_ne hK kX9_at_18 (q := 21) rfl (tg := 32) rfl (by exact ⟨hk, by decide⟩) (fun c18 => ?_) (fun c18 => ?_)
    · rw [if_neg (by omega)] at h
      refine x_aload_n hK kX9_at_32 (q := 33) rfl rfl ?_
      refine x_getfield hK kX9_at_33 (q := 36) rfl (gX9_15 ?_)
      refine x_iload_n hK kX9_at_36 (q := 37) rfl rfl ?_
      refine x_cv2 hK kX9_at_37 (q := 40) rfl (vtX9_at_58) (Nat.le_of_ble_eq_true rfl) ?_
      refine SX6_has_i (p := 0) (by decide) hk (show w32 (F 2) from ⟨by omega, by omega⟩) ?_
      refine x_if_eq hK kX9_at_40 (q := 43) rfl (tg := 56) rfl (by exact zE_w _) (fun c40 => ?_) (fun c40 => ?_)
      · rw [if_neg (zE_0.mp (by omega))] at h
        refine x_iconst hK kX9_at_56 (q := 57) rfl ?_
        refine x_ireturn hK kX9_at_57 (by first | trivial | exact Or.inl rfl | exact Or.inr rfl) ?_
        exact h
      · rw [if_pos (Decidable.of_not_not (fun q => c40 (zE_0.mpr q)))] at h
        refine x_aload_n hK kX9_at_43 (q := 44) rfl rfl ?_
        refine x_getfield hK kX9_at_44 (q := 47) rfl (gX9_15 ?_)
        refine x_iload_n hK kX9_at_47 (q := 48) rfl rfl ?_
        refine x_iload hK kX9_at_48 (q := 50) rfl rfl ?_
        refine x_cv3 hK kX9_at_50 (q := 53) rfl (vtX9_at_78) (Nat.le_of_ble_eq_true rfl) ?_
        refine SX6_read_i (p := 0) (by decide) hk ⟨by omega, by omega⟩ ?_
        refine x_goto hK kX9_at_53 (tg := 57) rfl ?_
        refine x_ireturn hK kX9_at_57 (by first | trivial | exact Or.inl rfl | exact Or.inr rfl) ?_
        exact h
    · rw [if_pos (by omega)] at h
      refine x_aload_n hK kX9_at_21 (q := 22) rfl rfl ?_
      refine x_getfield hK kX9_at_22 (q := 25) rfl (gX9_15 ?_)
      refine x_iconst hK kX9_at_25 (q := 26) rfl ?_
      refine x_iload hK kX9_at_26 (q := 28) rfl rfl ?_
      refine x_cv3 hK kX9_at_28 (q := 31) rfl (vtX9_at_78) (Nat.le_of_ble_eq_true rfl) ?_
      refine SX6_read_i (p := 0) (by decide) (by decide) ⟨by omega, by omega⟩ ?_
      refine x_ireturn hK kX9_at_31 (by first | trivial | exact Or.inl rfl | exact Or.inr rfl) ?_
      exact h
  · rw [if_pos (by omega)] at h
    refine x_iconst hK kX9_at_14 (q := 15) rfl ?_
    refine x_ireturn hK kX9_at_15 (by first | trivial | exact Or.inl rfl | exact Or.inr rfl) ?_
    exact h
set_option maxRecDepth 20000 in
theorem mX9_at : eMet yX9_at cX9_at 5 (some .int) 2 44 SX9_at := eMet_of (by decide +kernel) sX9_at kX9_at_ok caX9_at tb_RX9
theorem wX9_at : eWV yX9_at cX9_at 5 (some .int) 4 8 SX9_at := ⟨(gW_at 842 (by decide +kernel) rfl), (gW_at 79 (by decide +kernel) rfl), (gW_at 840 (by decide +kernel) rfl), ⟨_, rfl, (gW_at 841 (by decide +kernel) rfl)⟩, by decide +kernel, SX9_at_r⟩
def SX9_lead : eSp := fun as M rt => ∃ (F : Nat → Int) (A W : Nat → Int → Int) (k : Int), as = [eR (0, 0), eI k] ∧ M = cC F A W ∧ (w32 (F 1)) ∧ (w32 k) ∧ (∀ i : Int, 0 ≤ i → i < 10 → A 2 i = 0 ∨ A 2 i = 1) ∧ (rt (some (eI (if F 1 = -1 then -1 else if tpF (A 2) k 10 0 0 = -1 then -1 else oT (tpF (A 2) k 10 0 0)))) (cC F A W))
theorem SX9_lead_i {F : Nat → Int} {A W : Nat → Int → Int} {k : Int} {rt : Option eV → eM → Prop} (hF : w32 (F 1)) (hk : w32 k) (hL : ∀ i : Int, 0 ≤ i → i < 10 → A 2 i = 0 ∨ A 2 i = 1) (h : rt (some (eI (if F 1 = -1 then -1 else if tpF (A 2) k 10 0 0 = -1 then -1 else oT (tpF (A 2) k 10 0 0)))) (cC F A W)) : SX9_lead [eR (0, 0), eI k] (cC F A W) rt := ⟨F, A, W, k, rfl, rfl, hF, hk, hL, h⟩
theorem SX9_lead_r : ∀ as M rt, SX9_lead as M rt → ∃ a r fs, as = eR a :: r ∧ M a = some (.inl (8, fs)) := by
  rintro as M rt ⟨F, A, W, k, rfl, rfl, -⟩
  exact ⟨_, _, _, rfl, rfl⟩
def kX9_lead : List (Nat × Jvm.ClassFile.Instr × Nat) := [(0, .aload_n 0, 1), (1, .getfield 48, 3), (4, .iconst (-1), 1), (5, .if_icmp .ne 7, 3), (8, .iconst (-1), 1), (9, .goto 11, 3), (12, .aload_n 0, 1), (13, .getfield 33, 3), (16, .iload_n 1, 1), (17, .invokevirtual 122, 3), (20, .istore_n 2, 1), (21, .iload_n 2, 1), (22, .iconst (-1), 1), (23, .if_icmp .ne 7, 3), (26, .iconst (-1), 1), (27, .goto 7, 3), (30, .iload_n 2, 1), (31, .invokestatic 125, 3), (34, .ireturn, 1)]
theorem kX9_lead_0 : cdOf kX9_lead 0 = some (.aload_n 0, 1) := by decide +kernel
theorem kX9_lead_1 : cdOf kX9_lead 1 = some (.getfield 48, 3) := by decide +kernel
theorem kX9_lead_4 : cdOf kX9_lead 4 = some (.iconst (-1), 1) := by decide +kernel
theorem kX9_lead_5 : cdOf kX9_lead 5 = some (.if_icmp .ne 7, 3) := by decide +kernel
theorem kX9_lead_8 : cdOf kX9_lead 8 = some (.iconst (-1), 1) := by decide +kernel
theorem kX9_lead_9 : cdOf kX9_lead 9 = some (.goto 11, 3) := by decide +kernel
theorem kX9_lead_12 : cdOf kX9_lead 12 = some (.aload_n 0, 1) := by decide +kernel
theorem kX9_lead_13 : cdOf kX9_lead 13 = some (.getfield 33, 3) := by decide +kernel
theorem kX9_lead_16 : cdOf kX9_lead 16 = some (.iload_n 1, 1) := by decide +kernel
theorem kX9_lead_17 : cdOf kX9_lead 17 = some (.invokevirtual 122, 3) := by decide +kernel
theorem kX9_lead_20 : cdOf kX9_lead 20 = some (.istore_n 2, 1) := by decide +kernel
theorem kX9_lead_21 : cdOf kX9_lead 21 = some (.iload_n 2, 1) := by decide +kernel
theorem kX9_lead_22 : cdOf kX9_lead 22 = some (.iconst (-1), 1) := by decide +kernel
theorem kX9_lead_23 : cdOf kX9_lead 23 = some (.if_icmp .ne 7, 3) := by decide +kernel
theorem kX9_lead_26 : cdOf kX9_lead 26 = some (.iconst (-1), 1) := by decide +kernel
theorem kX9_lead_27 : cdOf kX9_lead 27 = some (.goto 7, 3) := by decide +kernel
theorem kX9_lead_30 : cdOf kX9_lead 30 = some (.iload_n 2, 1) := by decide +kernel
theorem kX9_lead_31 : cdOf kX9_lead 31 = some (.invokestatic 125, 3) := by decide +kernel
theorem kX9_lead_34 : cdOf kX9_lead 34 = some (.ireturn, 1) := by decide +kernel
set_option maxRecDepth 20000 in
theorem kX9_lead_ok : ∀ pc i len, cdOf kX9_lead pc = some (i, len) → decode cX9_lead pc = .ok (i, len) ∧ stOK 3 i = true ∧ jOK pc i = true ∧ eLen i len = true := cdOf_ok cX9_lead 3 kX9_lead (by decide +kernel)
def vtX9_lead : Nat → Option (Nat × eSp) := fun k => match k with
  | 122 => some (2, SX3_top)
  | _ => none
theorem vtX9_lead_122 : vtX9_lead 122 = some (2, SX3_top) := rfl
def stX9_lead : Nat → Option (Nat × eSp) := fun k => match k with
  | 125 => some (1, SX5_told)
  | _ => none
theorem stX9_lead_125 : stX9_lead 125 = some (1, SX5_told) := rfl
abbrev TX9_lead : eT := (fl_RX9, cl_RX9, dl_RX9, vtX9_lead, stX9_lead)
set_option maxRecDepth 20000 in
theorem caX9_lead : eCalls RX9 { frames := 5, cells := 0, slots := 0, locals := 106 } TX9_lead := by
  refine ⟨fun k n sp h => ?_, fun k n sp h => ?_⟩
  · dsimp only [TX9_lead] at h
    unfold vtX9_lead at h
    split at h
    · cases h; exact eV_mk mX3_top wX3_top (by decide +kernel) (Or.inl (gW_at 760 (by decide +kernel) rfl))
    · cases h
  · dsimp only [TX9_lead] at h
    unfold stX9_lead at h
    split at h
    · cases h; exact eS_mk mX5_told wX5_told (by decide +kernel) (Or.inl (gW_at 764 (by decide +kernel) rfl))
    · cases h
set_option maxRecDepth 100000 in
set_option maxHeartbeats 4000000 in
theorem sX9_lead : eSafe TX9_lead (cdOf kX9_lead) 3 (some .int) SX9_lead := by
  intro K rt hK as M h
  obtain ⟨F, A, W, k, rfl, rfl, hF, hk, hL, h⟩ := h
  refine ⟨by simp [eE], ?_⟩
  have tw := tp_w (A 2) k 10 0 0
  have tail : ∀ t : Int, -1 ≤ t → t < 10 → rt (some (eI (if t = -1 then -1 else oT t))) (cC F A W) → K 20 [some (eR (0, 0)), some (eI k), none] [eI t] (cC F A W) := fun t t0 t1 h => by
    refine x_istore_n hK kX9_lead_20 (q := 21) (jn := 2) rfl rfl ?_
    refine x_iload_n hK kX9_lead_21 (q := 22) rfl rfl ?_
    refine x_iconst hK kX9_lead_22 (q := 23) rfl ?_
    simp only [lS, lS2, clr_0, clr_I, clr_L, clr_R]
    refine x_icmp_ne hK kX9_lead_23 (q := 26) rfl (tg := 30) rfl (by exact ⟨⟨by omega, by omega⟩, by decide⟩) (fun c23 => ?_) (fun c23 => ?_)
    · rw [if_neg (by omega)] at h
      refine x_iload_n hK kX9_lead_30 (q := 31) rfl rfl ?_
      refine x_cs1 hK kX9_lead_31 (q := 34) rfl (stX9_lead_125) (Nat.le_of_ble_eq_true rfl) ?_
      refine SX5_told_i ⟨by omega, by omega⟩ ?_
      refine x_ireturn hK kX9_lead_34 (by first | trivial | exact Or.inl rfl | exact Or.inr rfl) ?_
      exact h
    · rw [if_pos (by omega)] at h
      refine x_iconst hK kX9_lead_26 (q := 27) rfl ?_
      refine x_goto hK kX9_lead_27 (tg := 34) rfl ?_
      refine x_ireturn hK kX9_lead_34 (by first | trivial | exact Or.inl rfl | exact Or.inr rfl) ?_
      exact h
  simp only [eLoc, eE, List.length_cons, List.length_nil, List.replicate, List.cons_append, List.nil_append, Nat.reduceAdd, Nat.reduceSub]
  refine x_aload_n hK kX9_lead_0 (q := 1) rfl rfl ?_
  refine x_getfield hK kX9_lead_1 (q := 4) rfl (gX9_48 ?_)
  refine x_iconst hK kX9_lead_4 (q := 5) rfl ?_
  refine x_icmp_ne hK kX9_lead_5 (q := 8) rfl (tg := 12) rfl (by exact ⟨hF, by decide⟩) (fun c5 => ?_) (fun c5 => ?_)
  · rw [if_neg (by omega)] at h
    have hfin := tail (tpF (A 2) k 10 0 0) (by omega) (by omega) h
    refine x_aload_n hK kX9_lead_12 (q := 13) rfl rfl ?_
    refine x_getfield hK kX9_lead_13 (q := 16) rfl (gX9_33 ?_)
    refine x_iload_n hK kX9_lead_16 (q := 17) rfl rfl ?_
    refine x_cv2 hK kX9_lead_17 (q := 20) rfl (vtX9_lead_122) (Nat.le_of_ble_eq_true rfl) ?_
    refine SX3_top_i hk hL ?_
    exact hfin
  · rw [if_pos (by omega)] at h
    have hfin := tail (-1) (by decide) (by decide) (by rw [if_pos rfl]; exact h)
    refine x_iconst hK kX9_lead_8 (q := 9) rfl ?_
    refine x_goto hK kX9_lead_9 (tg := 20) rfl ?_
    exact hfin
set_option maxRecDepth 20000 in
theorem mX9_lead : eMet yX9_lead cX9_lead 3 (some .int) 5 106 SX9_lead := eMet_of (by decide +kernel) sX9_lead kX9_lead_ok caX9_lead tb_RX9
theorem wX9_lead : eWV yX9_lead cX9_lead 3 (some .int) 2 8 SX9_lead := ⟨(gW_at 759 (by decide +kernel) rfl), (gW_at 79 (by decide +kernel) rfl), (gW_at 757 (by decide +kernel) rfl), ⟨_, rfl, (gW_at 758 (by decide +kernel) rfl)⟩, by decide +kernel, SX9_lead_r⟩
def SX9_monomial : eSp := fun as M rt => ∃ (F : Nat → Int) (A W : Nat → Int → Int) (k : Int), as = [eR (0, 0), eI k] ∧ M = cC F A W ∧ (w32 (F 1)) ∧ (w32 k) ∧ (w32 (F 5)) ∧ (∀ i : Int, 0 ≤ i → i < 4 → 0 ≤ A 4 i ∧ A 4 i < 10) ∧ (rt (some (eI (if F 1 = 0 ∨ F 1 = 1 then (if plI (A 4) (F 5) k = -1 then -1 else oT (plI (A 4) (F 5) k)) else -1))) (cC F A W))
theorem SX9_monomial_i {F : Nat → Int} {A W : Nat → Int → Int} {k : Int} {rt : Option eV → eM → Prop} (hF : w32 (F 1)) (hk : w32 k) (h5 : w32 (F 5)) (hst : ∀ i : Int, 0 ≤ i → i < 4 → 0 ≤ A 4 i ∧ A 4 i < 10) (h : rt (some (eI (if F 1 = 0 ∨ F 1 = 1 then (if plI (A 4) (F 5) k = -1 then -1 else oT (plI (A 4) (F 5) k)) else -1))) (cC F A W)) : SX9_monomial [eR (0, 0), eI k] (cC F A W) rt := ⟨F, A, W, k, rfl, rfl, hF, hk, h5, hst, h⟩
theorem SX9_monomial_r : ∀ as M rt, SX9_monomial as M rt → ∃ a r fs, as = eR a :: r ∧ M a = some (.inl (8, fs)) := by
  rintro as M rt ⟨F, A, W, k, rfl, rfl, -⟩
  exact ⟨_, _, _, rfl, rfl⟩
def kX9_monomial : List (Nat × Jvm.ClassFile.Instr × Nat) := [(0, .aload_n 0, 1), (1, .invokevirtual 111, 3), (4, .ifCond .eq 14, 3), (7, .aload_n 0, 1), (8, .getfield 40, 3), (11, .iload_n 1, 1), (12, .invokevirtual 139, 3), (15, .goto 4, 3), (18, .iconst (-1), 1), (19, .istore_n 2, 1), (20, .iload_n 2, 1), (21, .iconst (-1), 1), (22, .if_icmp .ne 7, 3), (25, .iconst (-1), 1), (26, .goto 7, 3), (29, .iload_n 2, 1), (30, .invokestatic 125, 3), (33, .ireturn, 1)]
theorem kX9_monomial_0 : cdOf kX9_monomial 0 = some (.aload_n 0, 1) := by decide +kernel
theorem kX9_monomial_1 : cdOf kX9_monomial 1 = some (.invokevirtual 111, 3) := by decide +kernel
theorem kX9_monomial_4 : cdOf kX9_monomial 4 = some (.ifCond .eq 14, 3) := by decide +kernel
theorem kX9_monomial_7 : cdOf kX9_monomial 7 = some (.aload_n 0, 1) := by decide +kernel
theorem kX9_monomial_8 : cdOf kX9_monomial 8 = some (.getfield 40, 3) := by decide +kernel
theorem kX9_monomial_11 : cdOf kX9_monomial 11 = some (.iload_n 1, 1) := by decide +kernel
theorem kX9_monomial_12 : cdOf kX9_monomial 12 = some (.invokevirtual 139, 3) := by decide +kernel
theorem kX9_monomial_15 : cdOf kX9_monomial 15 = some (.goto 4, 3) := by decide +kernel
theorem kX9_monomial_18 : cdOf kX9_monomial 18 = some (.iconst (-1), 1) := by decide +kernel
theorem kX9_monomial_19 : cdOf kX9_monomial 19 = some (.istore_n 2, 1) := by decide +kernel
theorem kX9_monomial_20 : cdOf kX9_monomial 20 = some (.iload_n 2, 1) := by decide +kernel
theorem kX9_monomial_21 : cdOf kX9_monomial 21 = some (.iconst (-1), 1) := by decide +kernel
theorem kX9_monomial_22 : cdOf kX9_monomial 22 = some (.if_icmp .ne 7, 3) := by decide +kernel
theorem kX9_monomial_25 : cdOf kX9_monomial 25 = some (.iconst (-1), 1) := by decide +kernel
theorem kX9_monomial_26 : cdOf kX9_monomial 26 = some (.goto 7, 3) := by decide +kernel
theorem kX9_monomial_29 : cdOf kX9_monomial 29 = some (.iload_n 2, 1) := by decide +kernel
theorem kX9_monomial_30 : cdOf kX9_monomial 30 = some (.invokestatic 125, 3) := by decide +kernel
theorem kX9_monomial_33 : cdOf kX9_monomial 33 = some (.ireturn, 1) := by decide +kernel
set_option maxRecDepth 20000 in
theorem kX9_monomial_ok : ∀ pc i len, cdOf kX9_monomial pc = some (i, len) → decode cX9_monomial pc = .ok (i, len) ∧ stOK 3 i = true ∧ jOK pc i = true ∧ eLen i len = true := cdOf_ok cX9_monomial 3 kX9_monomial (by decide +kernel)
def vtX9_monomial : Nat → Option (Nat × eSp) := fun k => match k with
  | 111 => some (1, SX9_isFinite)
  | 139 => some (2, SX0_place)
  | _ => none
theorem vtX9_monomial_111 : vtX9_monomial 111 = some (1, SX9_isFinite) := rfl
theorem vtX9_monomial_139 : vtX9_monomial 139 = some (2, SX0_place) := rfl
def stX9_monomial : Nat → Option (Nat × eSp) := fun k => match k with
  | 125 => some (1, SX5_told)
  | _ => none
theorem stX9_monomial_125 : stX9_monomial 125 = some (1, SX5_told) := rfl
abbrev TX9_monomial : eT := (fl_RX9, cl_RX9, dl_RX9, vtX9_monomial, stX9_monomial)
set_option maxRecDepth 20000 in
theorem caX9_monomial : eCalls RX9 { frames := 4, cells := 0, slots := 0, locals := 80 } TX9_monomial := by
  refine ⟨fun k n sp h => ?_, fun k n sp h => ?_⟩
  · dsimp only [TX9_monomial] at h
    unfold vtX9_monomial at h
    split at h
    · cases h; exact eV_mk mX9_isFinite wX9_isFinite (by decide +kernel) (Or.inl (gW_at 720 (by decide +kernel) rfl))
    · cases h; exact eV_mk mX0_place wX0_place (by decide +kernel) (Or.inl (gW_at 796 (by decide +kernel) rfl))
    · cases h
  · dsimp only [TX9_monomial] at h
    unfold stX9_monomial at h
    split at h
    · cases h; exact eS_mk mX5_told wX5_told (by decide +kernel) (Or.inl (gW_at 764 (by decide +kernel) rfl))
    · cases h
set_option maxRecDepth 100000 in
set_option maxHeartbeats 4000000 in
theorem sX9_monomial : eSafe TX9_monomial (cdOf kX9_monomial) 3 (some .int) SX9_monomial := by
  intro K rt hK as M h
  obtain ⟨F, A, W, k, rfl, rfl, hF, hk, h5, hst, h⟩ := h
  refine ⟨by simp [eE], ?_⟩
  have tw : -1 ≤ plI (A 4) (F 5) k ∧ plI (A 4) (F 5) k < 10 := by
    unfold plI
    split
    · rename_i q
      have := hst k q.1 q.2.2
      omega
    · omega
  have tail : ∀ t : Int, -1 ≤ t → t < 10 → rt (some (eI (if t = -1 then -1 else oT t))) (cC F A W) → K 19 [some (eR (0, 0)), some (eI k), none] [eI t] (cC F A W) := fun t t0 t1 h => by
    refine x_istore_n hK kX9_monomial_19 (q := 20) (jn := 2) rfl rfl ?_
    refine x_iload_n hK kX9_monomial_20 (q := 21) rfl rfl ?_
    refine x_iconst hK kX9_monomial_21 (q := 22) rfl ?_
    simp only [lS, lS2, clr_0, clr_I, clr_L, clr_R]
    refine x_icmp_ne hK kX9_monomial_22 (q := 25) rfl (tg := 29) rfl (by exact ⟨⟨by omega, by omega⟩, by decide⟩) (fun c22 => ?_) (fun c22 => ?_)
    · rw [if_neg (by omega)] at h
      refine x_iload_n hK kX9_monomial_29 (q := 30) rfl rfl ?_
      refine x_cs1 hK kX9_monomial_30 (q := 33) rfl (stX9_monomial_125) (Nat.le_of_ble_eq_true rfl) ?_
      refine SX5_told_i ⟨by omega, by omega⟩ ?_
      refine x_ireturn hK kX9_monomial_33 (by first | trivial | exact Or.inl rfl | exact Or.inr rfl) ?_
      exact h
    · rw [if_pos (by omega)] at h
      refine x_iconst hK kX9_monomial_25 (q := 26) rfl ?_
      refine x_goto hK kX9_monomial_26 (tg := 33) rfl ?_
      refine x_ireturn hK kX9_monomial_33 (by first | trivial | exact Or.inl rfl | exact Or.inr rfl) ?_
      exact h
  simp only [eLoc, eE, List.length_cons, List.length_nil, List.replicate, List.cons_append, List.nil_append, Nat.reduceAdd, Nat.reduceSub]
  refine x_aload_n hK kX9_monomial_0 (q := 1) rfl rfl ?_
  refine x_cv1 hK kX9_monomial_1 (q := 4) rfl (vtX9_monomial_111) (Nat.le_of_ble_eq_true rfl) ?_
  refine SX9_isFinite_i hF ?_
  refine x_if_eq hK kX9_monomial_4 (q := 7) rfl (tg := 18) rfl (by unfold zE; split <;> decide) (fun c4 => ?_) (fun c4 => ?_)
  · rw [if_neg (fun q => by unfold zE at c4; rw [if_pos q] at c4; omega)] at h
    have hfin := tail (-1) (by decide) (by decide) (by rw [if_pos rfl]; exact h)
    refine x_iconst hK kX9_monomial_18 (q := 19) rfl ?_
    exact hfin
  · rw [if_pos (Decidable.of_not_not (fun q => c4 (by unfold zE; rw [if_neg q])))] at h
    have hfin := tail _ tw.1 tw.2 h
    refine x_aload_n hK kX9_monomial_7 (q := 8) rfl rfl ?_
    refine x_getfield hK kX9_monomial_8 (q := 11) rfl (gX9_40 ?_)
    refine x_iload_n hK kX9_monomial_11 (q := 12) rfl rfl ?_
    refine x_cv2 hK kX9_monomial_12 (q := 15) rfl (vtX9_monomial_139) (Nat.le_of_ble_eq_true rfl) ?_
    refine SX0_place_i hk h5 ?_
    refine x_goto hK kX9_monomial_15 (tg := 19) rfl ?_
    exact hfin
set_option maxRecDepth 20000 in
theorem mX9_monomial : eMet yX9_monomial cX9_monomial 3 (some .int) 4 80 SX9_monomial := eMet_of (by decide +kernel) sX9_monomial kX9_monomial_ok caX9_monomial tb_RX9
theorem wX9_monomial : eWV yX9_monomial cX9_monomial 3 (some .int) 2 8 SX9_monomial := ⟨(gW_at 795 (by decide +kernel) rfl), (gW_at 79 (by decide +kernel) rfl), (gW_at 793 (by decide +kernel) rfl), ⟨_, rfl, (gW_at 794 (by decide +kernel) rfl)⟩, by decide +kernel, SX9_monomial_r⟩
def SX9_member : eSp := fun as M rt => ∃ (F : Nat → Int) (A W : Nat → Int → Int), as = [eR (0, 0)] ∧ M = cC F A W ∧ (w32 (F 1)) ∧ (F 4 = 0 ∨ F 4 = 1) ∧ (rt (some (eI (if F 1 = -1 then -1 else F 4))) (cC F A W))
theorem SX9_member_i {F : Nat → Int} {A W : Nat → Int → Int} {rt : Option eV → eM → Prop} (hF : w32 (F 1)) (h4 : F 4 = 0 ∨ F 4 = 1) (h : rt (some (eI (if F 1 = -1 then -1 else F 4))) (cC F A W)) : SX9_member [eR (0, 0)] (cC F A W) rt := ⟨F, A, W, rfl, rfl, hF, h4, h⟩
theorem SX9_member_r : ∀ as M rt, SX9_member as M rt → ∃ a r fs, as = eR a :: r ∧ M a = some (.inl (8, fs)) := by
  rintro as M rt ⟨F, A, W, rfl, rfl, -⟩
  exact ⟨_, _, _, rfl, rfl⟩
def kX9_member : List (Nat × Jvm.ClassFile.Instr × Nat) := [(0, .aload_n 0, 1), (1, .getfield 48, 3), (4, .iconst (-1), 1), (5, .if_icmp .ne 5, 3), (8, .iconst (-1), 1), (9, .ireturn, 1), (10, .aload_n 0, 1), (11, .getfield 33, 3), (14, .invokevirtual 163, 3), (17, .ifCond .eq 7, 3), (20, .iconst 1, 1), (21, .goto 4, 3), (24, .iconst 0, 1), (25, .ireturn, 1)]
theorem kX9_member_0 : cdOf kX9_member 0 = some (.aload_n 0, 1) := by decide +kernel
theorem kX9_member_1 : cdOf kX9_member 1 = some (.getfield 48, 3) := by decide +kernel
theorem kX9_member_4 : cdOf kX9_member 4 = some (.iconst (-1), 1) := by decide +kernel
theorem kX9_member_5 : cdOf kX9_member 5 = some (.if_icmp .ne 5, 3) := by decide +kernel
theorem kX9_member_8 : cdOf kX9_member 8 = some (.iconst (-1), 1) := by decide +kernel
theorem kX9_member_9 : cdOf kX9_member 9 = some (.ireturn, 1) := by decide +kernel
theorem kX9_member_10 : cdOf kX9_member 10 = some (.aload_n 0, 1) := by decide +kernel
theorem kX9_member_11 : cdOf kX9_member 11 = some (.getfield 33, 3) := by decide +kernel
theorem kX9_member_14 : cdOf kX9_member 14 = some (.invokevirtual 163, 3) := by decide +kernel
theorem kX9_member_17 : cdOf kX9_member 17 = some (.ifCond .eq 7, 3) := by decide +kernel
theorem kX9_member_20 : cdOf kX9_member 20 = some (.iconst 1, 1) := by decide +kernel
theorem kX9_member_21 : cdOf kX9_member 21 = some (.goto 4, 3) := by decide +kernel
theorem kX9_member_24 : cdOf kX9_member 24 = some (.iconst 0, 1) := by decide +kernel
theorem kX9_member_25 : cdOf kX9_member 25 = some (.ireturn, 1) := by decide +kernel
set_option maxRecDepth 20000 in
theorem kX9_member_ok : ∀ pc i len, cdOf kX9_member pc = some (i, len) → decode cX9_member pc = .ok (i, len) ∧ stOK 1 i = true ∧ jOK pc i = true ∧ eLen i len = true := cdOf_ok cX9_member 1 kX9_member (by decide +kernel)
def vtX9_member : Nat → Option (Nat × eSp) := fun k => match k with
  | 163 => some (1, SX3_hasQuery)
  | _ => none
theorem vtX9_member_163 : vtX9_member 163 = some (1, SX3_hasQuery) := rfl
def stX9_member : Nat → Option (Nat × eSp) := fun _ => none
abbrev TX9_member : eT := (fl_RX9, cl_RX9, dl_RX9, vtX9_member, stX9_member)
set_option maxRecDepth 20000 in
theorem caX9_member : eCalls RX9 { frames := 1, cells := 0, slots := 0, locals := 20 } TX9_member := by
  refine ⟨fun k n sp h => ?_, fun k n sp h => ?_⟩
  · dsimp only [TX9_member] at h
    unfold vtX9_member at h
    split at h
    · cases h; exact eV_mk mX3_hasQuery wX3_hasQuery (by decide +kernel) (Or.inl (gW_at 830 (by decide +kernel) rfl))
    · cases h
  · cases h
set_option maxRecDepth 100000 in
set_option maxHeartbeats 4000000 in
theorem sX9_member : eSafe TX9_member (cdOf kX9_member) 1 (some .int) SX9_member := by
  intro K rt hK as M h
  obtain ⟨F, A, W, rfl, rfl, hF, h4, h⟩ := h
  refine ⟨by simp [eE], ?_⟩
  simp only [eLoc, eE, List.length_cons, List.length_nil, List.replicate, List.cons_append, List.nil_append, Nat.reduceAdd, Nat.reduceSub]
  refine x_aload_n hK kX9_member_0 (q := 1) rfl rfl ?_
  refine x_getfield hK kX9_member_1 (q := 4) rfl (gX9_48 ?_)
  refine x_iconst hK kX9_member_4 (q := 5) rfl ?_
  refine x_icmp_ne hK kX9_member_5 (q := 8) rfl (tg := 10) rfl (by exact ⟨hF, by decide⟩) (fun c5 => ?_) (fun c5 => ?_)
  · rw [if_neg (by omega)] at h
    refine x_aload_n hK kX9_member_10 (q := 11) rfl rfl ?_
    refine x_getfield hK kX9_member_11 (q := 14) rfl (gX9_33 ?_)
    refine x_cv1 hK kX9_member_14 (q := 17) rfl (vtX9_member_163) (Nat.le_of_ble_eq_true rfl) ?_
    refine SX3_hasQuery_i h4 ?_
    refine x_if_eq hK kX9_member_17 (q := 20) rfl (tg := 24) rfl (by rcases h4 with e | e <;> (rw [e]; decide)) (fun c17 => ?_) (fun c17 => ?_)
    · rw [show F 4 = 0 by omega] at h
      refine x_iconst hK kX9_member_24 (q := 25) rfl ?_
      refine x_ireturn hK kX9_member_25 (by first | trivial | exact Or.inl rfl | exact Or.inr rfl) ?_
      exact h
    · rw [show F 4 = 1 by omega] at h
      refine x_iconst hK kX9_member_20 (q := 21) rfl ?_
      refine x_goto hK kX9_member_21 (tg := 25) rfl ?_
      refine x_ireturn hK kX9_member_25 (by first | trivial | exact Or.inl rfl | exact Or.inr rfl) ?_
      exact h
  · rw [if_pos (by omega)] at h
    refine x_iconst hK kX9_member_8 (q := 9) rfl ?_
    refine x_ireturn hK kX9_member_9 (by first | trivial | exact Or.inl rfl | exact Or.inr rfl) ?_
    exact h
set_option maxRecDepth 20000 in
theorem mX9_member : eMet yX9_member cX9_member 1 (some .int) 1 20 SX9_member := eMet_of (by decide +kernel) sX9_member kX9_member_ok caX9_member tb_RX9
theorem wX9_member : eWV yX9_member cX9_member 1 (some .int) 1 8 SX9_member := ⟨(gW_at 829 (by decide +kernel) rfl), (gW_at 79 (by decide +kernel) rfl), (gW_at 827 (by decide +kernel) rfl), ⟨_, rfl, (gW_at 828 (by decide +kernel) rfl)⟩, by decide +kernel, SX9_member_r⟩
/-- the indices of an entry -/
def enI (n i j w : Int) : Prop := 0 ≤ i ∧ i < n ∧ 0 ≤ j ∧ j < n ∧ 0 ≤ w ∧ w ≤ 1
def SX9_entry : eSp := fun as M rt => ∃ (F : Nat → Int) (A W : Nat → Int → Int) (V : Nat → Int) (gv : eV) (g n : Nat) (i j w : Int), as = [eR (0, 0), gv, eI i, eI j, eI w] ∧ M = cC F A W ∧ (aR W V) ∧ (F 5 = n) ∧ (n ≤ 4) ∧ (w32 i) ∧ (w32 j) ∧ (w32 w) ∧ (gv = eN ∨ (gv = eR (9, g) ∧ g < 11 ∧ 0 < V (gb g + 16) ∧ zAbs (V (gb g + 16)) ≤ 2 ^ 930 ∧ ∀ c, c < 16 → zAbs (V (gb g + c)) ≤ 2 ^ 930)) ∧ (((gv = eN ∨ ¬ enI n i j w) → rt (some (eL (-1))) (cC F A W)) ∧ ((gv ≠ eN ∧ enI n i j w) → ∀ W', aR W' V → rt (some (eL (tel (V (gb g + (4 * i.toNat + j.toNat))) (V (gb g + 16)) w))) (cC F A W')))
theorem SX9_entry_i {F : Nat → Int} {A W : Nat → Int → Int} {V : Nat → Int} {gv : eV} {g n : Nat} {i j w : Int} {rt : Option eV → eM → Prop} (hV : aR W V) (hn : F 5 = n) (n4 : n ≤ 4) (hi : w32 i) (hj : w32 j) (hw : w32 w) (hg : gv = eN ∨ (gv = eR (9, g) ∧ g < 11 ∧ 0 < V (gb g + 16) ∧ zAbs (V (gb g + 16)) ≤ 2 ^ 930 ∧ ∀ c, c < 16 → zAbs (V (gb g + c)) ≤ 2 ^ 930)) (h : ((gv = eN ∨ ¬ enI n i j w) → rt (some (eL (-1))) (cC F A W)) ∧ ((gv ≠ eN ∧ enI n i j w) → ∀ W', aR W' V → rt (some (eL (tel (V (gb g + (4 * i.toNat + j.toNat))) (V (gb g + 16)) w))) (cC F A W'))) : SX9_entry [eR (0, 0), gv, eI i, eI j, eI w] (cC F A W) rt := ⟨F, A, W, V, gv, g, n, i, j, w, rfl, rfl, hV, hn, n4, hi, hj, hw, hg, h⟩
theorem SX9_entry_r : ∀ as M rt, SX9_entry as M rt → ∃ a r fs, as = eR a :: r ∧ M a = some (.inl (8, fs)) := by
  rintro as M rt ⟨F, A, W, V, gv, g, n, i, j, w, rfl, rfl, -⟩
  exact ⟨_, _, _, rfl, rfl⟩
def kX9_entry : List (Nat × Jvm.ClassFile.Instr × Nat) := [(0, .aload_n 0, 1), (1, .getfield 40, 3), (4, .invokevirtual 138, 3), (7, .istore 5, 2), (9, .aload_n 1, 1), (10, .ifnull 34, 3), (13, .iload_n 2, 1), (14, .ifCond .lt 30, 3), (17, .iload_n 2, 1), (18, .iload 5, 2), (20, .if_icmp .ge 24, 3), (23, .iload_n 3, 1), (24, .ifCond .lt 20, 3), (27, .iload_n 3, 1), (28, .iload 5, 2), (30, .if_icmp .ge 14, 3), (33, .iload 4, 2), (35, .ifCond .lt 9, 3), (38, .iload 4, 2), (40, .iconst 1, 1), (41, .if_icmp .le 7, 3), (44, .ldc2_w 128, 3), (47, .lreturn, 1), (48, .aload_n 0, 1), (49, .getfield 24, 3), (52, .aload_n 1, 1), (53, .iload_n 2, 1), (54, .iload_n 3, 1), (55, .invokevirtual 152, 3), (58, .aload_n 1, 1), (59, .getfield 156, 3), (62, .iload 4, 2), (64, .invokevirtual 134, 3), (67, .lreturn, 1)]
theorem kX9_entry_0 : cdOf kX9_entry 0 = some (.aload_n 0, 1) := by decide +kernel
theorem kX9_entry_1 : cdOf kX9_entry 1 = some (.getfield 40, 3) := by decide +kernel
theorem kX9_entry_4 : cdOf kX9_entry 4 = some (.invokevirtual 138, 3) := by decide +kernel
theorem kX9_entry_7 : cdOf kX9_entry 7 = some (.istore 5, 2) := by decide +kernel
theorem kX9_entry_9 : cdOf kX9_entry 9 = some (.aload_n 1, 1) := by decide +kernel
theorem kX9_entry_10 : cdOf kX9_entry 10 = some (.ifnull 34, 3) := by decide +kernel
theorem kX9_entry_13 : cdOf kX9_entry 13 = some (.iload_n 2, 1) := by decide +kernel
theorem kX9_entry_14 : cdOf kX9_entry 14 = some (.ifCond .lt 30, 3) := by decide +kernel
theorem kX9_entry_17 : cdOf kX9_entry 17 = some (.iload_n 2, 1) := by decide +kernel
theorem kX9_entry_18 : cdOf kX9_entry 18 = some (.iload 5, 2) := by decide +kernel
theorem kX9_entry_20 : cdOf kX9_entry 20 = some (.if_icmp .ge 24, 3) := by decide +kernel
theorem kX9_entry_23 : cdOf kX9_entry 23 = some (.iload_n 3, 1) := by decide +kernel
theorem kX9_entry_24 : cdOf kX9_entry 24 = some (.ifCond .lt 20, 3) := by decide +kernel
theorem kX9_entry_27 : cdOf kX9_entry 27 = some (.iload_n 3, 1) := by decide +kernel
theorem kX9_entry_28 : cdOf kX9_entry 28 = some (.iload 5, 2) := by decide +kernel
theorem kX9_entry_30 : cdOf kX9_entry 30 = some (.if_icmp .ge 14, 3) := by decide +kernel
theorem kX9_entry_33 : cdOf kX9_entry 33 = some (.iload 4, 2) := by decide +kernel
theorem kX9_entry_35 : cdOf kX9_entry 35 = some (.ifCond .lt 9, 3) := by decide +kernel
theorem kX9_entry_38 : cdOf kX9_entry 38 = some (.iload 4, 2) := by decide +kernel
theorem kX9_entry_40 : cdOf kX9_entry 40 = some (.iconst 1, 1) := by decide +kernel
theorem kX9_entry_41 : cdOf kX9_entry 41 = some (.if_icmp .le 7, 3) := by decide +kernel
theorem kX9_entry_44 : cdOf kX9_entry 44 = some (.ldc2_w 128, 3) := by decide +kernel
theorem kX9_entry_47 : cdOf kX9_entry 47 = some (.lreturn, 1) := by decide +kernel
theorem kX9_entry_48 : cdOf kX9_entry 48 = some (.aload_n 0, 1) := by decide +kernel
theorem kX9_entry_49 : cdOf kX9_entry 49 = some (.getfield 24, 3) := by decide +kernel
theorem kX9_entry_52 : cdOf kX9_entry 52 = some (.aload_n 1, 1) := by decide +kernel
theorem kX9_entry_53 : cdOf kX9_entry 53 = some (.iload_n 2, 1) := by decide +kernel
theorem kX9_entry_54 : cdOf kX9_entry 54 = some (.iload_n 3, 1) := by decide +kernel
theorem kX9_entry_55 : cdOf kX9_entry 55 = some (.invokevirtual 152, 3) := by decide +kernel
theorem kX9_entry_58 : cdOf kX9_entry 58 = some (.aload_n 1, 1) := by decide +kernel
theorem kX9_entry_59 : cdOf kX9_entry 59 = some (.getfield 156, 3) := by decide +kernel
theorem kX9_entry_62 : cdOf kX9_entry 62 = some (.iload 4, 2) := by decide +kernel
theorem kX9_entry_64 : cdOf kX9_entry 64 = some (.invokevirtual 134, 3) := by decide +kernel
theorem kX9_entry_67 : cdOf kX9_entry 67 = some (.lreturn, 1) := by decide +kernel
set_option maxRecDepth 20000 in
theorem kX9_entry_ok : ∀ pc i len, cdOf kX9_entry pc = some (i, len) → decode cX9_entry pc = .ok (i, len) ∧ stOK 6 i = true ∧ jOK pc i = true ∧ eLen i len = true := cdOf_ok cX9_entry 6 kX9_entry (by decide +kernel)
def vtX9_entry : Nat → Option (Nat × eSp) := fun k => match k with
  | 138 => some (1, SX0_size)
  | 152 => some (3, SX2_read)
  | 134 => some (4, SX1_tell)
  | _ => none
theorem vtX9_entry_138 : vtX9_entry 138 = some (1, SX0_size) := rfl
theorem vtX9_entry_152 : vtX9_entry 152 = some (3, SX2_read) := rfl
theorem vtX9_entry_134 : vtX9_entry 134 = some (4, SX1_tell) := rfl
def stX9_entry : Nat → Option (Nat × eSp) := fun _ => none
abbrev TX9_entry : eT := (fl_RX9, cl_RX9, dl_RX9, vtX9_entry, stX9_entry)
set_option maxRecDepth 20000 in
theorem caX9_entry : eCalls RX9 { frames := 4, cells := 0, slots := 0, locals := 113 } TX9_entry := by
  refine ⟨fun k n sp h => ?_, fun k n sp h => ?_⟩
  · dsimp only [TX9_entry] at h
    unfold vtX9_entry at h
    split at h
    · cases h; exact eV_mk mX0_size wX0_size (by decide +kernel) (Or.inl (gW_at 788 (by decide +kernel) rfl))
    · cases h; exact eV_mk mX2_read wX2_read (by decide +kernel) (Or.inl (gW_at 809 (by decide +kernel) rfl))
    · cases h; exact eV_mk mX1_tell wX1_tell (by decide +kernel) (Or.inl (gW_at 775 (by decide +kernel) rfl))
    · cases h
  · cases h
set_option maxRecDepth 100000 in
set_option maxHeartbeats 4000000 in
theorem sX9_entry : eSafe TX9_entry (cdOf kX9_entry) 6 (some .long) SX9_entry := by
  intro K rt hK as M h
  obtain ⟨F, A, W, V, gv, g, n, i, j, w, rfl, rfl, hV, hn, n4, hi, hj, hw, hg, h⟩ := h
  rcases hg with e | ⟨e, hg, h0, hu, hb⟩
  · subst e
    have h := h.1 (Or.inl rfl)
    refine ⟨by simp [eE], ?_⟩
    simp only [eLoc, eE, List.length_cons, List.length_nil, List.replicate, List.cons_append, List.nil_append, Nat.reduceAdd, Nat.reduceSub]
    refine x_aload_n hK kX9_entry_0 (q := 1) rfl rfl ?_
    refine x_getfield hK kX9_entry_1 (q := 4) rfl (gX9_40 ?_)
    refine x_cv1 hK kX9_entry_4 (q := 7) rfl (vtX9_entry_138) (Nat.le_of_ble_eq_true rfl) ?_
    refine SX0_size_i ?_
    refine x_istore hK kX9_entry_7 (q := 9) rfl ?_
    refine x_aload_n hK kX9_entry_9 (q := 10) rfl rfl ?_
    simp only [lS, lS2, clr_0, clr_I, clr_L, clr_R]
    refine x_ifnull hK kX9_entry_10 (q := 13) rfl (tg := 44) rfl (fun c10 => ?_) (fun c10 => ?_)
    · refine x_ldc2_w hK kX9_entry_44 (q := 47) rfl lc2_RX9_128 ?_
      refine x_lreturn hK kX9_entry_47 (by first | trivial | exact Or.inl rfl | exact Or.inr rfl) ?_
      exact h
    · exact (c10 rfl).elim
  · subst e
    have gg : gb g = 141 + 17 * g := rfl
    have hno := fun q => h.1 (Or.inr q)
    have hyes := fun q => h.2 ⟨(show (eR (9, g) : eV) ≠ eN from fun z => by cases z), q⟩
    clear h
    unfold enI at hno hyes
    refine ⟨by simp [eE], ?_⟩
    simp only [eLoc, eE, List.length_cons, List.length_nil, List.replicate, List.cons_append, List.nil_append, Nat.reduceAdd, Nat.reduceSub]
    refine x_aload_n hK kX9_entry_0 (q := 1) rfl rfl ?_
    refine x_getfield hK kX9_entry_1 (q := 4) rfl (gX9_40 ?_)
    refine x_cv1 hK kX9_entry_4 (q := 7) rfl (vtX9_entry_138) (Nat.le_of_ble_eq_true rfl) ?_
    refine SX0_size_i ?_
    refine x_istore hK kX9_entry_7 (q := 9) rfl ?_
    refine x_aload_n hK kX9_entry_9 (q := 10) rfl rfl ?_
    simp only [lS, lS2, clr_0, clr_I, clr_L, clr_R]
    refine x_ifnull hK kX9_entry_10 (q := 13) rfl (tg := 44) rfl (fun c10 => ?_) (fun c10 => ?_)
    · exact absurd c10 (fun z => by cases z)
    · refine x_iload_n hK kX9_entry_13 (q := 14) rfl rfl ?_
      refine x_if_lt hK kX9_entry_14 (q := 17) rfl (tg := 44) rfl (by exact hi) (fun c14 => ?_) (fun c14 => ?_)
      · refine x_ldc2_w hK kX9_entry_44 (q := 47) rfl lc2_RX9_128 ?_
        refine x_lreturn hK kX9_entry_47 (by first | trivial | exact Or.inl rfl | exact Or.inr rfl) ?_
        exact hno (fun q => by omega)
      · refine x_iload_n hK kX9_entry_17 (q := 18) rfl rfl ?_
        refine x_iload hK kX9_entry_18 (q := 20) rfl rfl ?_
        refine x_icmp_ge hK kX9_entry_20 (q := 23) rfl (tg := 44) rfl (by exact ⟨hi, by omega, by omega⟩) (fun c20 => ?_) (fun c20 => ?_)
        · refine x_ldc2_w hK kX9_entry_44 (q := 47) rfl lc2_RX9_128 ?_
          refine x_lreturn hK kX9_entry_47 (by first | trivial | exact Or.inl rfl | exact Or.inr rfl) ?_
          exact hno (fun q => by omega)
        · refine x_iload_n hK kX9_entry_23 (q := 24) rfl rfl ?_
          refine x_if_lt hK kX9_entry_24 (q := 27) rfl (tg := 44) rfl (by exact hj) (fun c24 => ?_) (fun c24 => ?_)
          · refine x_ldc2_w hK kX9_entry_44 (q := 47) rfl lc2_RX9_128 ?_
            refine x_lreturn hK kX9_entry_47 (by first | trivial | exact Or.inl rfl | exact Or.inr rfl) ?_
            exact hno (fun q => by omega)
          · refine x_iload_n hK kX9_entry_27 (q := 28) rfl rfl ?_
            refine x_iload hK kX9_entry_28 (q := 30) rfl rfl ?_
            refine x_icmp_ge hK kX9_entry_30 (q := 33) rfl (tg := 44) rfl (by exact ⟨hj, by omega, by omega⟩) (fun c30 => ?_) (fun c30 => ?_)
            · refine x_ldc2_w hK kX9_entry_44 (q := 47) rfl lc2_RX9_128 ?_
              refine x_lreturn hK kX9_entry_47 (by first | trivial | exact Or.inl rfl | exact Or.inr rfl) ?_
              exact hno (fun q => by omega)
            · refine x_iload hK kX9_entry_33 (q := 35) rfl rfl ?_
              refine x_if_lt hK kX9_entry_35 (q := 38) rfl (tg := 44) rfl (by exact hw) (fun c35 => ?_) (fun c35 => ?_)
              · refine x_ldc2_w hK kX9_entry_44 (q := 47) rfl lc2_RX9_128 ?_
                refine x_lreturn hK kX9_entry_47 (by first | trivial | exact Or.inl rfl | exact Or.inr rfl) ?_
                exact hno (fun q => by omega)
              · refine x_iload hK kX9_entry_38 (q := 40) rfl rfl ?_
                refine x_iconst hK kX9_entry_40 (q := 41) rfl ?_
                refine x_icmp_le hK kX9_entry_41 (q := 44) rfl (tg := 48) rfl (by exact ⟨hw, by decide⟩) (fun c41 => ?_) (fun c41 => ?_)
                · refine x_aload_n hK kX9_entry_48 (q := 49) rfl rfl ?_
                  refine x_getfield hK kX9_entry_49 (q := 52) rfl (gX9_24 ?_)
                  refine x_aload_n hK kX9_entry_52 (q := 53) rfl rfl ?_
                  refine x_iload_n hK kX9_entry_53 (q := 54) rfl rfl ?_
                  refine x_iload_n hK kX9_entry_54 (q := 55) rfl rfl ?_
                  refine x_cv3 hK kX9_entry_55 (q := 58) rfl (vtX9_entry_152) (Nat.le_of_ble_eq_true rfl) ?_
                  obtain ⟨i, rfl⟩ : ∃ i' : Nat, i = i' := ⟨i.toNat, by omega⟩
                  obtain ⟨j, rfl⟩ : ∃ j' : Nat, j = j' := ⟨j.toNat, by omega⟩
                  rw [Int.toNat_natCast, Int.toNat_natCast] at hyes
                  refine SX2_read_i (g := g) (i := i) (j := j) hg (by omega) (by omega) ?_
                  refine x_aload_n hK kX9_entry_58 (q := 59) rfl rfl ?_
                  refine x_getfield hK kX9_entry_59 (q := 62) rfl (gX9_156 ?_)
                  refine x_iload hK kX9_entry_62 (q := 64) rfl rfl ?_
                  refine x_cv4 hK kX9_entry_64 (q := 67) rfl (vtX9_entry_134) (Nat.le_of_ble_eq_true rfl) ?_
                  refine tell_a (a := gb g + (4 * i + j)) (b := gb g + 16) hV (by omega) (by omega) (by omega) (by omega) h0 (hb _ (by omega)) hu hw (fun W' h1 => ?_)
                  refine x_lreturn hK kX9_entry_67 (by first | trivial | exact Or.inl rfl | exact Or.inr rfl) ?_
                  exact hyes ⟨by omega, by omega, by omega, by omega, by omega, by omega⟩ W' h1
                · refine x_ldc2_w hK kX9_entry_44 (q := 47) rfl lc2_RX9_128 ?_
                  refine x_lreturn hK kX9_entry_47 (by first | trivial | exact Or.inl rfl | exact Or.inr rfl) ?_
                  exact hno (fun q => by omega)
set_option maxRecDepth 20000 in
theorem mX9_entry : eMet yX9_entry cX9_entry 6 (some .long) 4 113 SX9_entry := eMet_of (by decide +kernel) sX9_entry kX9_entry_ok caX9_entry tb_RX9
theorem wX9_entry : eWV yX9_entry cX9_entry 6 (some .long) 5 8 SX9_entry := ⟨(gW_at 808 (by decide +kernel) rfl), (gW_at 79 (by decide +kernel) rfl), (gW_at 807 (by decide +kernel) rfl), ⟨_, rfl, (gW_at 33 (by decide +kernel) rfl)⟩, by decide +kernel, SX9_entry_r⟩
