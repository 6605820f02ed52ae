/-! The ideal: what it tells. -/
def SX3_isWhole : eSp := fun as M rt => ∃ (F : Nat → Int) (A W : Nat → Int → Int), as = [eR (1, 3)] ∧ M = cC F A W ∧ (A 2 0 = 0 ∨ A 2 0 = 1) ∧ (rt (some (eI (A 2 0))) (cC F A W))
theorem SX3_isWhole_i {F : Nat → Int} {A W : Nat → Int → Int} {rt : Option eV → eM → Prop} (hL : A 2 0 = 0 ∨ A 2 0 = 1) (h : rt (some (eI (A 2 0))) (cC F A W)) : SX3_isWhole [eR (1, 3)] (cC F A W) rt := ⟨F, A, W, rfl, rfl, hL, h⟩
theorem SX3_isWhole_r : ∀ as M rt, SX3_isWhole as M rt → ∃ a r fs, as = eR a :: r ∧ M a = some (.inl (3, fs)) := by
  rintro as M rt ⟨F, A, W, rfl, rfl, -⟩
  exact ⟨_, _, _, rfl, rfl⟩
def kX3_isWhole : List (Nat × Jvm.ClassFile.Instr × Nat) := [(0, .aload_n 0, 1), (1, .getfield 19, 3), (4, .iconst 0, 1), (5, .baload, 1), (6, .ireturn, 1)]
theorem kX3_isWhole_0 : cdOf kX3_isWhole 0 = some (.aload_n 0, 1) := by decide +kernel
theorem kX3_isWhole_1 : cdOf kX3_isWhole 1 = some (.getfield 19, 3) := by decide +kernel
theorem kX3_isWhole_4 : cdOf kX3_isWhole 4 = some (.iconst 0, 1) := by decide +kernel
theorem kX3_isWhole_5 : cdOf kX3_isWhole 5 = some (.baload, 1) := by decide +kernel
theorem kX3_isWhole_6 : cdOf kX3_isWhole 6 = some (.ireturn, 1) := by decide +kernel
set_option maxRecDepth 20000 in
theorem kX3_isWhole_ok : ∀ pc i len, cdOf kX3_isWhole pc = some (i, len) → decode cX3_isWhole pc = .ok (i, len) ∧ stOK 1 i = true ∧ jOK pc i = true ∧ eLen i len = true := cdOf_ok cX3_isWhole 1 kX3_isWhole (by decide +kernel)
def vtX3_isWhole : Nat → Option (Nat × eSp) := fun _ => none
def stX3_isWhole : Nat → Option (Nat × eSp) := fun _ => none
abbrev TX3_isWhole : eT := (fl_RX3, cl_RX3, dl_RX3, vtX3_isWhole, stX3_isWhole)
set_option maxRecDepth 20000 in
theorem caX3_isWhole : eCalls RX3 { frames := 0, cells := 0, slots := 0, locals := 0 } TX3_isWhole := by
  refine ⟨fun k n sp h => ?_, fun k n sp h => ?_⟩
  · cases h
  · cases h
set_option maxRecDepth 100000 in
set_option maxHeartbeats 4000000 in
theorem sX3_isWhole : eSafe TX3_isWhole (cdOf kX3_isWhole) 1 (some .boolean) SX3_isWhole := by
  intro K rt hK as M h
  obtain ⟨F, A, W, rfl, rfl, hL, h⟩ := h
  refine ⟨by simp [eE], ?_⟩
  simp only [eLoc, eE, List.length_cons, List.length_nil, List.replicate, List.cons_append, List.nil_append, Nat.reduceAdd, Nat.reduceSub]
  refine x_aload_n hK kX3_isWhole_0 (q := 1) rfl rfl ?_
  refine x_getfield hK kX3_isWhole_1 (q := 4) rfl (gX3_19 ?_)
  refine x_iconst hK kX3_isWhole_4 (q := 5) rfl ?_
  refine x_baload hK kX3_isWhole_5 (q := 6) rfl (aC3_2 (by refine ⟨?_, ?_⟩ <;> omega) ?_)
  refine x_ireturn hK kX3_isWhole_6 (by exact hL) ?_
  exact h
set_option maxRecDepth 20000 in
theorem mX3_isWhole : eMet yX3_isWhole cX3_isWhole 1 (some .boolean) 0 0 SX3_isWhole := eMet_of (by decide +kernel) sX3_isWhole kX3_isWhole_ok caX3_isWhole tb_RX3
theorem wX3_isWhole : eWV yX3_isWhole cX3_isWhole 1 (some .boolean) 1 3 SX3_isWhole := ⟨(gW_at 587 (by decide +kernel) rfl), (gW_at 84 (by decide +kernel) rfl), (gW_at 585 (by decide +kernel) rfl), ⟨_, rfl, (gW_at 586 (by decide +kernel) rfl)⟩, by decide +kernel, SX3_isWhole_r⟩
def SX3_hasQuery : eSp := fun as M rt => ∃ (F : Nat → Int) (A W : Nat → Int → Int), as = [eR (1, 3)] ∧ M = cC F A W ∧ (F 4 = 0 ∨ F 4 = 1) ∧ (rt (some (eI (F 4))) (cC F A W))
theorem SX3_hasQuery_i {F : Nat → Int} {A W : Nat → Int → Int} {rt : Option eV → eM → Prop} (hF : F 4 = 0 ∨ F 4 = 1) (h : rt (some (eI (F 4))) (cC F A W)) : SX3_hasQuery [eR (1, 3)] (cC F A W) rt := ⟨F, A, W, rfl, rfl, hF, h⟩
theorem SX3_hasQuery_r : ∀ as M rt, SX3_hasQuery as M rt → ∃ a r fs, as = eR a :: r ∧ M a = some (.inl (3, fs)) := by
  rintro as M rt ⟨F, A, W, rfl, rfl, -⟩
  exact ⟨_, _, _, rfl, rfl⟩
def kX3_hasQuery : List (Nat × Jvm.ClassFile.Instr × Nat) := [(0, .aload_n 0, 1), (1, .getfield 40, 3), (4, .ireturn, 1)]
theorem kX3_hasQuery_0 : cdOf kX3_hasQuery 0 = some (.aload_n 0, 1) := by decide +kernel
theorem kX3_hasQuery_1 : cdOf kX3_hasQuery 1 = some (.getfield 40, 3) := by decide +kernel
theorem kX3_hasQuery_4 : cdOf kX3_hasQuery 4 = some (.ireturn, 1) := by decide +kernel
set_option maxRecDepth 20000 in
theorem kX3_hasQuery_ok : ∀ pc i len, cdOf kX3_hasQuery pc = some (i, len) → decode cX3_hasQuery pc = .ok (i, len) ∧ stOK 1 i = true ∧ jOK pc i = true ∧ eLen i len = true := cdOf_ok cX3_hasQuery 1 kX3_hasQuery (by decide +kernel)
def vtX3_hasQuery : Nat → Option (Nat × eSp) := fun _ => none
def stX3_hasQuery : Nat → Option (Nat × eSp) := fun _ => none
abbrev TX3_hasQuery : eT := (fl_RX3, cl_RX3, dl_RX3, vtX3_hasQuery, stX3_hasQuery)
set_option maxRecDepth 20000 in
theorem caX3_hasQuery : eCalls RX3 { frames := 0, cells := 0, slots := 0, locals := 0 } TX3_hasQuery := by
  refine ⟨fun k n sp h => ?_, fun k n sp h => ?_⟩
  · cases h
  · cases h
set_option maxRecDepth 100000 in
set_option maxHeartbeats 4000000 in
theorem sX3_hasQuery : eSafe TX3_hasQuery (cdOf kX3_hasQuery) 1 (some .boolean) SX3_hasQuery := by
  intro K rt hK as M h
  obtain ⟨F, A, W, rfl, rfl, hF, h⟩ := h
  refine ⟨by simp [eE], ?_⟩
  simp only [eLoc, eE, List.length_cons, List.length_nil, List.replicate, List.cons_append, List.nil_append, Nat.reduceAdd, Nat.reduceSub]
  refine x_aload_n hK kX3_hasQuery_0 (q := 1) rfl rfl ?_
  refine x_getfield hK kX3_hasQuery_1 (q := 4) rfl (gX3_40 ?_)
  refine x_ireturn hK kX3_hasQuery_4 (by exact hF) ?_
  exact h
set_option maxRecDepth 20000 in
theorem mX3_hasQuery : eMet yX3_hasQuery cX3_hasQuery 1 (some .boolean) 0 0 SX3_hasQuery := eMet_of (by decide +kernel) sX3_hasQuery kX3_hasQuery_ok caX3_hasQuery tb_RX3
theorem wX3_hasQuery : eWV yX3_hasQuery cX3_hasQuery 1 (some .boolean) 1 3 SX3_hasQuery := ⟨(gW_at 833 (by decide +kernel) rfl), (gW_at 84 (by decide +kernel) rfl), (gW_at 831 (by decide +kernel) rfl), ⟨_, rfl, (gW_at 832 (by decide +kernel) rfl)⟩, by decide +kernel, SX3_hasQuery_r⟩
def SX3_isFinite : eSp := fun as M rt => ∃ (F : Nat → Int) (A W : Nat → Int → Int), as = [eR (1, 3)] ∧ M = cC F A W ∧ (∀ i : Int, 0 ≤ i → i < 10 → A 2 i = 0 ∨ A 2 i = 1) ∧ (((∀ i : Int, 6 ≤ i → i < 10 → A 2 i = 1) → rt (some (eI 1)) (cC F A W)) ∧ (¬ (∀ i : Int, 6 ≤ i → i < 10 → A 2 i = 1) → rt (some (eI 0)) (cC F A W)))
theorem SX3_isFinite_i {F : Nat → Int} {A W : Nat → Int → Int} {rt : Option eV → eM → Prop} (hL : ∀ i : Int, 0 ≤ i → i < 10 → A 2 i = 0 ∨ A 2 i = 1) (h : ((∀ i : Int, 6 ≤ i → i < 10 → A 2 i = 1) → rt (some (eI 1)) (cC F A W)) ∧ (¬ (∀ i : Int, 6 ≤ i → i < 10 → A 2 i = 1) → rt (some (eI 0)) (cC F A W))) : SX3_isFinite [eR (1, 3)] (cC F A W) rt := ⟨F, A, W, rfl, rfl, hL, h⟩
theorem SX3_isFinite_r : ∀ as M rt, SX3_isFinite as M rt → ∃ a r fs, as = eR a :: r ∧ M a = some (.inl (3, fs)) := by
  rintro as M rt ⟨F, A, W, rfl, rfl, -⟩
  exact ⟨_, _, _, rfl, rfl⟩
def kX3_isFinite : List (Nat × Jvm.ClassFile.Instr × Nat) := [(0, .bipush 6, 2), (2, .istore_n 1, 1), (3, .iload_n 1, 1), (4, .bipush 10, 2), (6, .if_icmp .ge 20, 3), (9, .aload_n 0, 1), (10, .getfield 19, 3), (13, .iload_n 1, 1), (14, .baload, 1), (15, .ifCond .ne 5, 3), (18, .iconst 0, 1), (19, .ireturn, 1), (20, .iinc 1 1, 3), (23, .goto (-20), 3), (26, .iconst 1, 1), (27, .ireturn, 1)]
theorem kX3_isFinite_0 : cdOf kX3_isFinite 0 = some (.bipush 6, 2) := by decide +kernel
theorem kX3_isFinite_2 : cdOf kX3_isFinite 2 = some (.istore_n 1, 1) := by decide +kernel
theorem kX3_isFinite_3 : cdOf kX3_isFinite 3 = some (.iload_n 1, 1) := by decide +kernel
theorem kX3_isFinite_4 : cdOf kX3_isFinite 4 = some (.bipush 10, 2) := by decide +kernel
theorem kX3_isFinite_6 : cdOf kX3_isFinite 6 = some (.if_icmp .ge 20, 3) := by decide +kernel
theorem kX3_isFinite_9 : cdOf kX3_isFinite 9 = some (.aload_n 0, 1) := by decide +kernel
theorem kX3_isFinite_10 : cdOf kX3_isFinite 10 = some (.getfield 19, 3) := by decide +kernel
theorem kX3_isFinite_13 : cdOf kX3_isFinite 13 = some (.iload_n 1, 1) := by decide +kernel
theorem kX3_isFinite_14 : cdOf kX3_isFinite 14 = some (.baload, 1) := by decide +kernel
theorem kX3_isFinite_15 : cdOf kX3_isFinite 15 = some (.ifCond .ne 5, 3) := by decide +kernel
theorem kX3_isFinite_18 : cdOf kX3_isFinite 18 = some (.iconst 0, 1) := by decide +kernel
theorem kX3_isFinite_19 : cdOf kX3_isFinite 19 = some (.ireturn, 1) := by decide +kernel
theorem kX3_isFinite_20 : cdOf kX3_isFinite 20 = some (.iinc 1 1, 3) := by decide +kernel
theorem kX3_isFinite_23 : cdOf kX3_isFinite 23 = some (.goto (-20), 3) := by decide +kernel
theorem kX3_isFinite_26 : cdOf kX3_isFinite 26 = some (.iconst 1, 1) := by decide +kernel
theorem kX3_isFinite_27 : cdOf kX3_isFinite 27 = some (.ireturn, 1) := by decide +kernel
set_option maxRecDepth 20000 in
theorem kX3_isFinite_ok : ∀ pc i len, cdOf kX3_isFinite pc = some (i, len) → decode cX3_isFinite pc = .ok (i, len) ∧ stOK 2 i = true ∧ jOK pc i = true ∧ eLen i len = true := cdOf_ok cX3_isFinite 2 kX3_isFinite (by decide +kernel)
def vtX3_isFinite : Nat → Option (Nat × eSp) := fun _ => none
def stX3_isFinite : Nat → Option (Nat × eSp) := fun _ => none
abbrev TX3_isFinite : eT := (fl_RX3, cl_RX3, dl_RX3, vtX3_isFinite, stX3_isFinite)
set_option maxRecDepth 20000 in
theorem caX3_isFinite : eCalls RX3 { frames := 0, cells := 0, slots := 0, locals := 0 } TX3_isFinite := by
  refine ⟨fun k n sp h => ?_, fun k n sp h => ?_⟩
  · cases h
  · cases h
set_option maxRecDepth 100000 in
set_option maxHeartbeats 4000000 in
theorem sX3_isFinite : eSafe TX3_isFinite (cdOf kX3_isFinite) 2 (some .boolean) SX3_isFinite := by
  intro K rt hK as M h
  obtain ⟨F, A, W, rfl, rfl, hL, h⟩ := h
  refine ⟨by simp [eE], ?_⟩
  have loop : ∀ (d i : Nat), i + d = 10 → 6 ≤ i → (∀ t : Int, 6 ≤ t → t < i → A 2 t = 1) → K 3 [some (eR (1, 3)), some (eI i)] [] (cC F A W) := by
    intro d
    induction d with
    | zero =>
      intro i hi h6 hv
      have : i = 10 := by omega
      subst this
      refine x_iload_n hK kX3_isFinite_3 (q := 4) rfl rfl ?_
      refine x_bipush hK kX3_isFinite_4 (q := 6) rfl (by decide) ?_
      refine x_icmp_ge hK kX3_isFinite_6 (q := 9) rfl (tg := 26) rfl (by refine ⟨?_, ?_⟩ <;> omega) (fun c6 => ?_) (fun c6 => ?_)
      · refine x_iconst hK kX3_isFinite_26 (q := 27) rfl ?_
        refine x_ireturn hK kX3_isFinite_27 (by first | exact Or.inl rfl | exact Or.inr rfl) ?_
        exact h.1 hv
      · exfalso; omega
    | succ d ih =>
      intro i hi h6 hv
      have w2 := hL i (by omega) (by omega)
      refine x_iload_n hK kX3_isFinite_3 (q := 4) rfl rfl ?_
      refine x_bipush hK kX3_isFinite_4 (q := 6) rfl (by decide) ?_
      refine x_icmp_ge hK kX3_isFinite_6 (q := 9) rfl (tg := 26) rfl (by refine ⟨?_, ?_⟩ <;> omega) (fun c6 => ?_) (fun c6 => ?_)
      · exfalso; omega
      · refine x_aload_n hK kX3_isFinite_9 (q := 10) rfl rfl ?_
        refine x_getfield hK kX3_isFinite_10 (q := 13) rfl (gX3_19 ?_)
        refine x_iload_n hK kX3_isFinite_13 (q := 14) rfl rfl ?_
        refine x_baload hK kX3_isFinite_14 (q := 15) rfl (aC3_2 (by refine ⟨?_, ?_⟩ <;> omega) ?_)
        refine x_if_ne hK kX3_isFinite_15 (q := 18) rfl (tg := 20) rfl (by rcases w2 with e | e <;> (rw [e]; decide)) (fun c15 => ?_) (fun c15 => ?_)
        · refine x_iinc hK kX3_isFinite_20 (q := 23) rfl rfl ?_
          simp only [lS, lS2, clr_0, clr_I, clr_L, clr_R]
          refine x_goto hK kX3_isFinite_23 (tg := 3) rfl ?_
          rw [show (i : Int) + 1 = ((i + 1 : Nat) : Int) by omega]
          refine ih (i + 1) (by omega) (by omega) (fun t t0 t1 => ?_)
          rcases Decidable.em (t = i) with q | q
          · rw [q]; omega
          · exact hv t t0 (by omega)
        · refine x_iconst hK kX3_isFinite_18 (q := 19) rfl ?_
          refine x_ireturn hK kX3_isFinite_19 (by first | exact Or.inl rfl | exact Or.inr rfl) ?_
          exact h.2 (fun g => by have := g i (by omega) (by omega); omega)
  simp only [eLoc, eE, List.length_cons, List.length_nil, List.replicate, List.cons_append, List.nil_append, Nat.reduceAdd, Nat.reduceSub]
  refine x_bipush hK kX3_isFinite_0 (q := 2) rfl (by decide) ?_
  refine x_istore_n hK kX3_isFinite_2 (q := 3) (jn := 1) rfl rfl ?_
  simp only [lS, lS2, clr_0, clr_I, clr_L, clr_R]
  exact loop 4 6 rfl (Nat.le_refl _) (fun t t0 t1 => by omega)
set_option maxRecDepth 20000 in
theorem mX3_isFinite : eMet yX3_isFinite cX3_isFinite 2 (some .boolean) 0 0 SX3_isFinite := eMet_of (by decide +kernel) sX3_isFinite kX3_isFinite_ok caX3_isFinite tb_RX3
theorem wX3_isFinite : eWV yX3_isFinite cX3_isFinite 2 (some .boolean) 1 3 SX3_isFinite := ⟨(gW_at 591 (by decide +kernel) rfl), (gW_at 84 (by decide +kernel) rfl), (gW_at 589 (by decide +kernel) rfl), ⟨_, rfl, (gW_at 590 (by decide +kernel) rfl)⟩, by decide +kernel, SX3_isFinite_r⟩
def ldb (L : Int → Int) (k : Int) : Bool := decide (0 ≤ k) && decide (k < 10) && decide (L k = 1)
def elb (L : Int → Int) (p : Int) : Bool := ldb L p && !ldb L (oP (oX p - 1) (oY p) 3) && !ldb L (oP (oX p) (oY p - 1) 3)
def zb (b : Bool) : Int := if b = true then 1 else 0
theorem ldb_e (L : Int → Int) (k : Int) : ldb L k = true ↔ (0 ≤ k ∧ k < 10 ∧ L k = 1) := by
  unfold ldb
  simp only [Bool.and_eq_true, decide_eq_true_eq]
  exact ⟨fun h => ⟨h.1.1, h.1.2, h.2⟩, fun h => ⟨⟨h.1, h.2.1⟩, h.2.2⟩⟩
theorem oX_r : ∀ p : Fin 10, 0 ≤ oX (p.val : Nat) ∧ oX (p.val : Nat) ≤ 3 ∧ 0 ≤ oY (p.val : Nat) ∧ oY (p.val : Nat) ≤ 3 ∧ oX (p.val : Nat) + oY (p.val : Nat) ≤ 3 := by decide +kernel
theorem oP_r : ∀ p : Fin 10, w32 (oP (oX (p.val : Nat) - 1) (oY (p.val : Nat)) 3) ∧ w32 (oP (oX (p.val : Nat)) (oY (p.val : Nat) - 1) 3) := by decide +kernel
theorem ldb_t {L : Int → Int} {k : Int} (h : ¬ zE (0 ≤ k ∧ k < 10 ∧ L k = 1) = 0) : ldb L k = true := (ldb_e L k).mpr (Decidable.not_not.mp (fun g => h (zE_0.mpr g)))
theorem ldb_f {L : Int → Int} {k : Int} (h : zE (0 ≤ k ∧ k < 10 ∧ L k = 1) = 0) : ldb L k = false := by
  cases q : ldb L k
  · rfl
  · exact absurd ((ldb_e L k).mp q) (zE_0.mp h)
def SX3_isElement : eSp := fun as M rt => ∃ (F : Nat → Int) (A W : Nat → Int → Int) (p : Nat), as = [eR (1, 3), eI p] ∧ M = cC F A W ∧ (p < 10) ∧ (∀ i : Int, 0 ≤ i → i < 10 → A 2 i = 0 ∨ A 2 i = 1) ∧ (rt (some (eI (zb (elb (A 2) p)))) (cC F A W))
theorem SX3_isElement_i {F : Nat → Int} {A W : Nat → Int → Int} {p : Nat} {rt : Option eV → eM → Prop} (hp : p < 10) (hL : ∀ i : Int, 0 ≤ i → i < 10 → A 2 i = 0 ∨ A 2 i = 1) (h : rt (some (eI (zb (elb (A 2) p)))) (cC F A W)) : SX3_isElement [eR (1, 3), eI p] (cC F A W) rt := ⟨F, A, W, p, rfl, rfl, hp, hL, h⟩
theorem SX3_isElement_r : ∀ as M rt, SX3_isElement as M rt → ∃ a r fs, as = eR a :: r ∧ M a = some (.inl (3, fs)) := by
  rintro as M rt ⟨F, A, W, p, rfl, rfl, -⟩
  exact ⟨_, _, _, rfl, rfl⟩
def kX3_isElement : List (Nat × Jvm.ClassFile.Instr × Nat) := [(0, .iload_n 1, 1), (1, .invokestatic 126, 3), (4, .istore_n 2, 1), (5, .iload_n 1, 1), (6, .invokestatic 129, 3), (9, .istore_n 3, 1), (10, .aload_n 0, 1), (11, .iload_n 1, 1), (12, .invokevirtual 93, 3), (15, .ifCond .eq 37, 3), (18, .aload_n 0, 1), (19, .iload_n 2, 1), (20, .iconst 1, 1), (21, .isub, 1), (22, .iload_n 3, 1), (23, .iconst 3, 1), (24, .invokestatic 132, 3), (27, .invokevirtual 93, 3), (30, .ifCond .ne 22, 3), (33, .aload_n 0, 1), (34, .iload_n 2, 1), (35, .iload_n 3, 1), (36, .iconst 1, 1), (37, .isub, 1), (38, .iconst 3, 1), (39, .invokestatic 132, 3), (42, .invokevirtual 93, 3), (45, .ifCond .ne 7, 3), (48, .iconst 1, 1), (49, .goto 4, 3), (52, .iconst 0, 1), (53, .ireturn, 1)]
theorem kX3_isElement_0 : cdOf kX3_isElement 0 = some (.iload_n 1, 1) := by decide +kernel
theorem kX3_isElement_1 : cdOf kX3_isElement 1 = some (.invokestatic 126, 3) := by decide +kernel
theorem kX3_isElement_4 : cdOf kX3_isElement 4 = some (.istore_n 2, 1) := by decide +kernel
theorem kX3_isElement_5 : cdOf kX3_isElement 5 = some (.iload_n 1, 1) := by decide +kernel
theorem kX3_isElement_6 : cdOf kX3_isElement 6 = some (.invokestatic 129, 3) := by decide +kernel
theorem kX3_isElement_9 : cdOf kX3_isElement 9 = some (.istore_n 3, 1) := by decide +kernel
theorem kX3_isElement_10 : cdOf kX3_isElement 10 = some (.aload_n 0, 1) := by decide +kernel
theorem kX3_isElement_11 : cdOf kX3_isElement 11 = some (.iload_n 1, 1) := by decide +kernel
theorem kX3_isElement_12 : cdOf kX3_isElement 12 = some (.invokevirtual 93, 3) := by decide +kernel
theorem kX3_isElement_15 : cdOf kX3_isElement 15 = some (.ifCond .eq 37, 3) := by decide +kernel
theorem kX3_isElement_18 : cdOf kX3_isElement 18 = some (.aload_n 0, 1) := by decide +kernel
theorem kX3_isElement_19 : cdOf kX3_isElement 19 = some (.iload_n 2, 1) := by decide +kernel
theorem kX3_isElement_20 : cdOf kX3_isElement 20 = some (.iconst 1, 1) := by decide +kernel
theorem kX3_isElement_21 : cdOf kX3_isElement 21 = some (.isub, 1) := by decide +kernel
theorem kX3_isElement_22 : cdOf kX3_isElement 22 = some (.iload_n 3, 1) := by decide +kernel
theorem kX3_isElement_23 : cdOf kX3_isElement 23 = some (.iconst 3, 1) := by decide +kernel
theorem kX3_isElement_24 : cdOf kX3_isElement 24 = some (.invokestatic 132, 3) := by decide +kernel
theorem kX3_isElement_27 : cdOf kX3_isElement 27 = some (.invokevirtual 93, 3) := by decide +kernel
theorem kX3_isElement_30 : cdOf kX3_isElement 30 = some (.ifCond .ne 22, 3) := by decide +kernel
theorem kX3_isElement_33 : cdOf kX3_isElement 33 = some (.aload_n 0, 1) := by decide +kernel
theorem kX3_isElement_34 : cdOf kX3_isElement 34 = some (.iload_n 2, 1) := by decide +kernel
theorem kX3_isElement_35 : cdOf kX3_isElement 35 = some (.iload_n 3, 1) := by decide +kernel
theorem kX3_isElement_36 : cdOf kX3_isElement 36 = some (.iconst 1, 1) := by decide +kernel
theorem kX3_isElement_37 : cdOf kX3_isElement 37 = some (.isub, 1) := by decide +kernel
theorem kX3_isElement_38 : cdOf kX3_isElement 38 = some (.iconst 3, 1) := by decide +kernel
theorem kX3_isElement_39 : cdOf kX3_isElement 39 = some (.invokestatic 132, 3) := by decide +kernel
theorem kX3_isElement_42 : cdOf kX3_isElement 42 = some (.invokevirtual 93, 3) := by decide +kernel
theorem kX3_isElement_45 : cdOf kX3_isElement 45 = some (.ifCond .ne 7, 3) := by decide +kernel
theorem kX3_isElement_48 : cdOf kX3_isElement 48 = some (.iconst 1, 1) := by decide +kernel
theorem kX3_isElement_49 : cdOf kX3_isElement 49 = some (.goto 4, 3) := by decide +kernel
theorem kX3_isElement_52 : cdOf kX3_isElement 52 = some (.iconst 0, 1) := by decide +kernel
theorem kX3_isElement_53 : cdOf kX3_isElement 53 = some (.ireturn, 1) := by decide +kernel
set_option maxRecDepth 20000 in
theorem kX3_isElement_ok : ∀ pc i len, cdOf kX3_isElement pc = some (i, len) → decode cX3_isElement pc = .ok (i, len) ∧ stOK 4 i = true ∧ jOK pc i = true ∧ eLen i len = true := cdOf_ok cX3_isElement 4 kX3_isElement (by decide +kernel)
def vtX3_isElement : Nat → Option (Nat × eSp) := fun k => match k with
  | 93 => some (2, SX3_isLead)
  | _ => none
theorem vtX3_isElement_93 : vtX3_isElement 93 = some (2, SX3_isLead) := rfl
def stX3_isElement : Nat → Option (Nat × eSp) := fun k => match k with
  | 126 => some (1, SX5_powerOfX)
  | 129 => some (1, SX5_powerOfY)
  | 132 => some (3, SX5_place)
  | _ => none
theorem stX3_isElement_126 : stX3_isElement 126 = some (1, SX5_powerOfX) := rfl
theorem stX3_isElement_129 : stX3_isElement 129 = some (1, SX5_powerOfY) := rfl
theorem stX3_isElement_132 : stX3_isElement 132 = some (3, SX5_place) := rfl
abbrev TX3_isElement : eT := (fl_RX3, cl_RX3, dl_RX3, vtX3_isElement, stX3_isElement)
set_option maxRecDepth 20000 in
theorem caX3_isElement : eCalls RX3 { frames := 3, cells := 0, slots := 0, locals := 60 } TX3_isElement := by
  refine ⟨fun k n sp h => ?_, fun k n sp h => ?_⟩
  · dsimp only [TX3_isElement] at h
    unfold vtX3_isElement at h
    split at h
    · cases h; exact eV_mk mX3_isLead wX3_isLead (by decide +kernel) (Or.inl (gW_at 579 (by decide +kernel) rfl))
    · cases h
  · dsimp only [TX3_isElement] at h
    unfold stX3_isElement at h
    split at h
    · cases h; exact eS_mk mX5_powerOfX wX5_powerOfX (by decide +kernel) (Or.inl (gW_at 748 (by decide +kernel) rfl))
    · cases h; exact eS_mk mX5_powerOfY wX5_powerOfY (by decide +kernel) (Or.inl (gW_at 749 (by decide +kernel) rfl))
    · cases h; exact eS_mk mX5_place wX5_place (by decide +kernel) (Or.inl (gW_at 753 (by decide +kernel) rfl))
    · cases h
set_option maxRecDepth 100000 in
set_option maxHeartbeats 4000000 in
theorem sX3_isElement : eSafe TX3_isElement (cdOf kX3_isElement) 4 (some .boolean) SX3_isElement := by
  intro K rt hK as M h
  obtain ⟨F, A, W, p, rfl, rfl, hp, hL, h⟩ := h
  refine ⟨by simp [eE], ?_⟩
  have r := oX_r ⟨p, hp⟩
  have r2 := oP_r ⟨p, hp⟩
  have r' : 0 ≤ oX p ∧ oX p ≤ 3 ∧ 0 ≤ oY p ∧ oY p ≤ 3 ∧ oX p + oY p ≤ 3 := r
  have r2' : w32 (oP (oX p - 1) (oY p) 3) ∧ w32 (oP (oX p) (oY p - 1) 3) := r2
  unfold elb at h
  simp only [eLoc, eE, List.length_cons, List.length_nil, List.replicate, List.cons_append, List.nil_append, Nat.reduceAdd, Nat.reduceSub]
  refine x_iload_n hK kX3_isElement_0 (q := 1) rfl rfl ?_
  refine x_cs1 hK kX3_isElement_1 (q := 4) rfl (stX3_isElement_126) (Nat.le_of_ble_eq_true rfl) ?_
  refine SX5_powerOfX_i ⟨by omega, by omega⟩ ?_
  refine x_istore_n hK kX3_isElement_4 (q := 5) (jn := 2) rfl rfl ?_
  refine x_iload_n hK kX3_isElement_5 (q := 6) rfl rfl ?_
  simp only [lS, lS2, clr_0, clr_I, clr_L, clr_R]
  refine x_cs1 hK kX3_isElement_6 (q := 9) rfl (stX3_isElement_129) (Nat.le_of_ble_eq_true rfl) ?_
  refine SX5_powerOfY_i ⟨by omega, by omega⟩ ?_
  refine x_istore_n hK kX3_isElement_9 (q := 10) (jn := 3) rfl rfl ?_
  refine x_aload_n hK kX3_isElement_10 (q := 11) rfl rfl ?_
  refine x_iload_n hK kX3_isElement_11 (q := 12) rfl rfl ?_
  simp only [lS, lS2, clr_0, clr_I, clr_L, clr_R]
  refine x_cv2 hK kX3_isElement_12 (q := 15) rfl (vtX3_isElement_93) (Nat.le_of_ble_eq_true rfl) ?_
  refine SX3_isLead_i ⟨by omega, by omega⟩ hL ?_
  refine x_if_eq hK kX3_isElement_15 (q := 18) rfl (tg := 52) rfl (by exact zE_w _) (fun c15 => ?_) (fun c15 => ?_)
  · rw [ldb_f c15] at h
    refine x_iconst hK kX3_isElement_52 (q := 53) rfl ?_
    refine x_ireturn hK kX3_isElement_53 (by first | exact Or.inl rfl | exact Or.inr rfl) ?_
    exact h
  · rw [ldb_t c15] at h
    refine x_aload_n hK kX3_isElement_18 (q := 19) rfl rfl ?_
    refine x_iload_n hK kX3_isElement_19 (q := 20) rfl rfl ?_
    refine x_iconst hK kX3_isElement_20 (q := 21) rfl ?_
    refine x_isub hK kX3_isElement_21 (q := 22) rfl ?_
    refine x_iload_n hK kX3_isElement_22 (q := 23) rfl rfl ?_
    refine x_iconst hK kX3_isElement_23 (q := 24) rfl ?_
    refine x_cs3 hK kX3_isElement_24 (q := 27) rfl (stX3_isElement_132) (Nat.le_of_ble_eq_true rfl) ?_
    refine SX5_place_i ⟨by omega, by omega⟩ ⟨by omega, by omega⟩ (by decide) ?_
    refine x_cv2 hK kX3_isElement_27 (q := 30) rfl (vtX3_isElement_93) (Nat.le_of_ble_eq_true rfl) ?_
    refine SX3_isLead_i r2'.1 hL ?_
    refine x_if_ne hK kX3_isElement_30 (q := 33) rfl (tg := 52) rfl (by exact zE_w _) (fun c30 => ?_) (fun c30 => ?_)
    · rw [ldb_t c30] at h
      refine x_iconst hK kX3_isElement_52 (q := 53) rfl ?_
      refine x_ireturn hK kX3_isElement_53 (by first | exact Or.inl rfl | exact Or.inr rfl) ?_
      exact h
    · rw [ldb_f (Decidable.not_not.mp c30)] at h
      refine x_aload_n hK kX3_isElement_33 (q := 34) rfl rfl ?_
      refine x_iload_n hK kX3_isElement_34 (q := 35) rfl rfl ?_
      refine x_iload_n hK kX3_isElement_35 (q := 36) rfl rfl ?_
      refine x_iconst hK kX3_isElement_36 (q := 37) rfl ?_
      refine x_isub hK kX3_isElement_37 (q := 38) rfl ?_
      refine x_iconst hK kX3_isElement_38 (q := 39) rfl ?_
      refine x_cs3 hK kX3_isElement_39 (q := 42) rfl (stX3_isElement_132) (Nat.le_of_ble_eq_true rfl) ?_
      refine SX5_place_i ⟨by omega, by omega⟩ ⟨by omega, by omega⟩ (by decide) ?_
      refine x_cv2 hK kX3_isElement_42 (q := 45) rfl (vtX3_isElement_93) (Nat.le_of_ble_eq_true rfl) ?_
      refine SX3_isLead_i r2'.2 hL ?_
      refine x_if_ne hK kX3_isElement_45 (q := 48) rfl (tg := 52) rfl (by exact zE_w _) (fun c45 => ?_) (fun c45 => ?_)
      · rw [ldb_t c45] at h
        refine x_iconst hK kX3_isElement_52 (q := 53) rfl ?_
        refine x_ireturn hK kX3_isElement_53 (by first | exact Or.inl rfl | exact Or.inr rfl) ?_
        exact h
      · rw [ldb_f (Decidable.not_not.mp c45)] at h
        refine x_iconst hK kX3_isElement_48 (q := 49) rfl ?_
        refine x_goto hK kX3_isElement_49 (tg := 53) rfl ?_
        refine x_ireturn hK kX3_isElement_53 (by first | exact Or.inl rfl | exact Or.inr rfl) ?_
        exact h
set_option maxRecDepth 20000 in
theorem mX3_isElement : eMet yX3_isElement cX3_isElement 4 (some .boolean) 3 60 SX3_isElement := eMet_of (by decide +kernel) sX3_isElement kX3_isElement_ok caX3_isElement tb_RX3
theorem wX3_isElement : eWV yX3_isElement cX3_isElement 4 (some .boolean) 2 3 SX3_isElement := ⟨(gW_at 747 (by decide +kernel) rfl), (gW_at 84 (by decide +kernel) rfl), (gW_at 746 (by decide +kernel) rfl), ⟨_, rfl, (gW_at 32 (by decide +kernel) rfl)⟩, by decide +kernel, SX3_isElement_r⟩
theorem zb_w (b : Bool) : w32 (zb b) := by cases b <;> decide
def elc (L : Int → Int) : Nat → Nat
  | 0 => 0
  | n + 1 => elc L n + (if elb L n = true then 1 else 0)
theorem elc_le (L : Int → Int) : ∀ n, elc L n ≤ n
  | 0 => Nat.le_refl _
  | n + 1 => by
    have := elc_le L n
    show elc L n + (if elb L n = true then 1 else 0) ≤ n + 1
    split <;> omega
def SX3_size : eSp := fun as M rt => ∃ (F : Nat → Int) (A W : Nat → Int → Int), as = [eR (1, 3)] ∧ M = cC F A W ∧ (∀ i : Int, 0 ≤ i → i < 10 → A 2 i = 0 ∨ A 2 i = 1) ∧ (rt (some (eI (elc (A 2) 10))) (cC F A W))
theorem SX3_size_i {F : Nat → Int} {A W : Nat → Int → Int} {rt : Option eV → eM → Prop} (hL : ∀ i : Int, 0 ≤ i → i < 10 → A 2 i = 0 ∨ A 2 i = 1) (h : rt (some (eI (elc (A 2) 10))) (cC F A W)) : SX3_size [eR (1, 3)] (cC F A W) rt := ⟨F, A, W, rfl, rfl, hL, h⟩
theorem SX3_size_r : ∀ as M rt, SX3_size as M rt → ∃ a r fs, as = eR a :: r ∧ M a = some (.inl (3, fs)) := by
  rintro as M rt ⟨F, A, W, rfl, rfl, -⟩
  exact ⟨_, _, _, rfl, rfl⟩
def kX3_size : List (Nat × Jvm.ClassFile.Instr × Nat) := [(0, .iconst 0, 1), (1, .istore_n 1, 1), (2, .iconst 0, 1), (3, .istore_n 2, 1), (4, .iload_n 2, 1), (5, .bipush 10, 2), (7, .if_icmp .ge 20, 3), (10, .aload_n 0, 1), (11, .iload_n 2, 1), (12, .invokevirtual 136, 3), (15, .ifCond .eq 6, 3), (18, .iinc 1 1, 3), (21, .iinc 2 1, 3), (24, .goto (-20), 3), (27, .iload_n 1, 1), (28, .ireturn, 1)]
theorem kX3_size_0 : cdOf kX3_size 0 = some (.iconst 0, 1) := by decide +kernel
theorem kX3_size_1 : cdOf kX3_size 1 = some (.istore_n 1, 1) := by decide +kernel
theorem kX3_size_2 : cdOf kX3_size 2 = some (.iconst 0, 1) := by decide +kernel
theorem kX3_size_3 : cdOf kX3_size 3 = some (.istore_n 2, 1) := by decide +kernel
theorem kX3_size_4 : cdOf kX3_size 4 = some (.iload_n 2, 1) := by decide +kernel
theorem kX3_size_5 : cdOf kX3_size 5 = some (.bipush 10, 2) := by decide +kernel
theorem kX3_size_7 : cdOf kX3_size 7 = some (.if_icmp .ge 20, 3) := by decide +kernel
theorem kX3_size_10 : cdOf kX3_size 10 = some (.aload_n 0, 1) := by decide +kernel
theorem kX3_size_11 : cdOf kX3_size 11 = some (.iload_n 2, 1) := by decide +kernel
theorem kX3_size_12 : cdOf kX3_size 12 = some (.invokevirtual 136, 3) := by decide +kernel
theorem kX3_size_15 : cdOf kX3_size 15 = some (.ifCond .eq 6, 3) := by decide +kernel
theorem kX3_size_18 : cdOf kX3_size 18 = some (.iinc 1 1, 3) := by decide +kernel
theorem kX3_size_21 : cdOf kX3_size 21 = some (.iinc 2 1, 3) := by decide +kernel
theorem kX3_size_24 : cdOf kX3_size 24 = some (.goto (-20), 3) := by decide +kernel
theorem kX3_size_27 : cdOf kX3_size 27 = some (.iload_n 1, 1) := by decide +kernel
theorem kX3_size_28 : cdOf kX3_size 28 = some (.ireturn, 1) := by decide +kernel
set_option maxRecDepth 20000 in
theorem kX3_size_ok : ∀ pc i len, cdOf kX3_size pc = some (i, len) → decode cX3_size pc = .ok (i, len) ∧ stOK 3 i = true ∧ jOK pc i = true ∧ eLen i len = true := cdOf_ok cX3_size 3 kX3_size (by decide +kernel)
def vtX3_size : Nat → Option (Nat × eSp) := fun k => match k with
  | 136 => some (2, SX3_isElement)
  | _ => none
theorem vtX3_size_136 : vtX3_size 136 = some (2, SX3_isElement) := rfl
def stX3_size : Nat → Option (Nat × eSp) := fun _ => none
abbrev TX3_size : eT := (fl_RX3, cl_RX3, dl_RX3, vtX3_size, stX3_size)
set_option maxRecDepth 20000 in
theorem caX3_size : eCalls RX3 { frames := 4, cells := 0, slots := 0, locals := 83 } TX3_size := by
  refine ⟨fun k n sp h => ?_, fun k n sp h => ?_⟩
  · dsimp only [TX3_size] at h
    unfold vtX3_size at h
    split at h
    · cases h; exact eV_mk mX3_isElement wX3_isElement (by decide +kernel) (Or.inl (gW_at 744 (by decide +kernel) rfl))
    · cases h
  · cases h
set_option maxRecDepth 100000 in
set_option maxHeartbeats 4000000 in
theorem sX3_size : eSafe TX3_size (cdOf kX3_size) 3 (some .int) SX3_size := by
  intro K rt hK as M h
  obtain ⟨F, A, W, rfl, rfl, hL, h⟩ := h
  refine ⟨by simp [eE], ?_⟩
  have loop : ∀ (d i : Nat), i + d = 10 → K 4 [some (eR (1, 3)), some (eI (elc (A 2) i)), some (eI i)] [] (cC F A W) := by
    intro d
    induction d with
    | zero =>
      intro i hi
      have : i = 10 := by omega
      subst this
      refine x_iload_n hK kX3_size_4 (q := 5) rfl rfl ?_
      refine x_bipush hK kX3_size_5 (q := 7) rfl (by decide) ?_
      refine x_icmp_ge hK kX3_size_7 (q := 10) rfl (tg := 27) rfl (by refine ⟨?_, ?_⟩ <;> omega) (fun c7 => ?_) (fun c7 => ?_)
      · refine x_iload_n hK kX3_size_27 (q := 28) rfl rfl ?_
        refine x_ireturn hK kX3_size_28 (by first | trivial | exact Or.inl rfl | exact Or.inr rfl) ?_
        exact h
      · exfalso; omega
    | succ d ih =>
      intro i hi
      have nx := ih (i + 1) (by omega)
      unfold elc at nx
      have le := elc_le (A 2) i
      refine x_iload_n hK kX3_size_4 (q := 5) rfl rfl ?_
      refine x_bipush hK kX3_size_5 (q := 7) rfl (by decide) ?_
      refine x_icmp_ge hK kX3_size_7 (q := 10) rfl (tg := 27) rfl (by refine ⟨?_, ?_⟩ <;> omega) (fun c7 => ?_) (fun c7 => ?_)
      · exfalso; omega
      · refine x_aload_n hK kX3_size_10 (q := 11) rfl rfl ?_
        refine x_iload_n hK kX3_size_11 (q := 12) rfl rfl ?_
        refine x_cv2 hK kX3_size_12 (q := 15) rfl (vtX3_size_136) (Nat.le_of_ble_eq_true rfl) ?_
        refine SX3_isElement_i (by omega) hL ?_
        refine x_if_eq hK kX3_size_15 (q := 18) rfl (tg := 21) rfl (by exact zb_w _) (fun c15 => ?_) (fun c15 => ?_)
        · have g : elb (A 2) i = false := by
            cases q : elb (A 2) i
            · rfl
            · rw [q] at c15; exact absurd c15 (by decide)
          rw [g] at nx
          refine x_iinc hK kX3_size_21 (q := 24) rfl rfl ?_
          simp only [lS, lS2, clr_0, clr_I, clr_L, clr_R]
          refine x_goto hK kX3_size_24 (tg := 4) rfl ?_
          rw [show (i : Int) + 1 = ((i + 1 : Nat) : Int) by omega]
          exact nx
        · have g : elb (A 2) i = true := by
            cases q : elb (A 2) i
            · rw [q] at c15; exact absurd rfl c15
            · rfl
          rw [g] at nx
          refine x_iinc hK kX3_size_18 (q := 21) rfl rfl ?_
          refine x_iinc hK kX3_size_21 (q := 24) rfl rfl ?_
          simp only [lS, lS2, clr_0, clr_I, clr_L, clr_R]
          refine x_goto hK kX3_size_24 (tg := 4) rfl ?_
          rw [show (i : Int) + 1 = ((i + 1 : Nat) : Int) by omega]
          exact nx
  simp only [eLoc, eE, List.length_cons, List.length_nil, List.replicate, List.cons_append, List.nil_append, Nat.reduceAdd, Nat.reduceSub]
  refine x_iconst hK kX3_size_0 (q := 1) rfl ?_
  refine x_istore_n hK kX3_size_1 (q := 2) (jn := 1) rfl rfl ?_
  refine x_iconst hK kX3_size_2 (q := 3) rfl ?_
  refine x_istore_n hK kX3_size_3 (q := 4) (jn := 2) rfl rfl ?_
  simp only [lS, lS2, clr_0, clr_I, clr_L, clr_R]
  exact loop 10 0 rfl
set_option maxRecDepth 20000 in
theorem mX3_size : eMet yX3_size cX3_size 3 (some .int) 4 83 SX3_size := eMet_of (by decide +kernel) sX3_size kX3_size_ok caX3_size tb_RX3
theorem wX3_size : eWV yX3_size cX3_size 3 (some .int) 1 3 SX3_size := ⟨(gW_at 743 (by decide +kernel) rfl), (gW_at 84 (by decide +kernel) rfl), (gW_at 741 (by decide +kernel) rfl), ⟨_, rfl, (gW_at 742 (by decide +kernel) rfl)⟩, by decide +kernel, SX3_size_r⟩
def tpF (L : Int → Int) (k : Int) : Nat → Nat → Int → Int
  | 0, _, _ => -1
  | n + 1, i, a => if elb L i = true then (if a = k then i else tpF L k n (i + 1) (a + 1)) else tpF L k n (i + 1) a
def SX3_top : eSp := fun as M rt => ∃ (F : Nat → Int) (A W : Nat → Int → Int) (k : Int), as = [eR (1, 3), eI k] ∧ M = cC F A W ∧ (w32 k) ∧ (∀ i : Int, 0 ≤ i → i < 10 → A 2 i = 0 ∨ A 2 i = 1) ∧ (rt (some (eI (tpF (A 2) k 10 0 0))) (cC F A W))
theorem SX3_top_i {F : Nat → Int} {A W : Nat → Int → Int} {k : Int} {rt : Option eV → eM → Prop} (hk : w32 k) (hL : ∀ i : Int, 0 ≤ i → i < 10 → A 2 i = 0 ∨ A 2 i = 1) (h : rt (some (eI (tpF (A 2) k 10 0 0))) (cC F A W)) : SX3_top [eR (1, 3), eI k] (cC F A W) rt := ⟨F, A, W, k, rfl, rfl, hk, hL, h⟩
theorem SX3_top_r : ∀ as M rt, SX3_top as M rt → ∃ a r fs, as = eR a :: r ∧ M a = some (.inl (3, fs)) := by
  rintro as M rt ⟨F, A, W, k, rfl, rfl, -⟩
  exact ⟨_, _, _, rfl, rfl⟩
def kX3_top : List (Nat × Jvm.ClassFile.Instr × Nat) := [(0, .iconst 0, 1), (1, .istore_n 2, 1), (2, .iconst 0, 1), (3, .istore_n 3, 1), (4, .iload_n 3, 1), (5, .bipush 10, 2), (7, .if_icmp .ge 27, 3), (10, .aload_n 0, 1), (11, .iload_n 3, 1), (12, .invokevirtual 136, 3), (15, .ifCond .eq 13, 3), (18, .iload_n 2, 1), (19, .iload_n 1, 1), (20, .if_icmp .ne 5, 3), (23, .iload_n 3, 1), (24, .ireturn, 1), (25, .iinc 2 1, 3), (28, .iinc 3 1, 3), (31, .goto (-27), 3), (34, .iconst (-1), 1), (35, .ireturn, 1)]
theorem kX3_top_0 : cdOf kX3_top 0 = some (.iconst 0, 1) := by decide +kernel
theorem kX3_top_1 : cdOf kX3_top 1 = some (.istore_n 2, 1) := by decide +kernel
theorem kX3_top_2 : cdOf kX3_top 2 = some (.iconst 0, 1) := by decide +kernel
theorem kX3_top_3 : cdOf kX3_top 3 = some (.istore_n 3, 1) := by decide +kernel
theorem kX3_top_4 : cdOf kX3_top 4 = some (.iload_n 3, 1) := by decide +kernel
theorem kX3_top_5 : cdOf kX3_top 5 = some (.bipush 10, 2) := by decide +kernel
theorem kX3_top_7 : cdOf kX3_top 7 = some (.if_icmp .ge 27, 3) := by decide +kernel
theorem kX3_top_10 : cdOf kX3_top 10 = some (.aload_n 0, 1) := by decide +kernel
theorem kX3_top_11 : cdOf kX3_top 11 = some (.iload_n 3, 1) := by decide +kernel
theorem kX3_top_12 : cdOf kX3_top 12 = some (.invokevirtual 136, 3) := by decide +kernel
theorem kX3_top_15 : cdOf kX3_top 15 = some (.ifCond .eq 13, 3) := by decide +kernel
theorem kX3_top_18 : cdOf kX3_top 18 = some (.iload_n 2, 1) := by decide +kernel
theorem kX3_top_19 : cdOf kX3_top 19 = some (.iload_n 1, 1) := by decide +kernel
theorem kX3_top_20 : cdOf kX3_top 20 = some (.if_icmp .ne 5, 3) := by decide +kernel
theorem kX3_top_23 : cdOf kX3_top 23 = some (.iload_n 3, 1) := by decide +kernel
theorem kX3_top_24 : cdOf kX3_top 24 = some (.ireturn, 1) := by decide +kernel
theorem kX3_top_25 : cdOf kX3_top 25 = some (.iinc 2 1, 3) := by decide +kernel
theorem kX3_top_28 : cdOf kX3_top 28 = some (.iinc 3 1, 3) := by decide +kernel
theorem kX3_top_31 : cdOf kX3_top 31 = some (.goto (-27), 3) := by decide +kernel
theorem kX3_top_34 : cdOf kX3_top 34 = some (.iconst (-1), 1) := by decide +kernel
theorem kX3_top_35 : cdOf kX3_top 35 = some (.ireturn, 1) := by decide +kernel
set_option maxRecDepth 20000 in
theorem kX3_top_ok : ∀ pc i len, cdOf kX3_top pc = some (i, len) → decode cX3_top pc = .ok (i, len) ∧ stOK 4 i = true ∧ jOK pc i = true ∧ eLen i len = true := cdOf_ok cX3_top 4 kX3_top (by decide +kernel)
def vtX3_top : Nat → Option (Nat × eSp) := fun k => match k with
  | 136 => some (2, SX3_isElement)
  | _ => none
theorem vtX3_top_136 : vtX3_top 136 = some (2, SX3_isElement) := rfl
def stX3_top : Nat → Option (Nat × eSp) := fun _ => none
abbrev TX3_top : eT := (fl_RX3, cl_RX3, dl_RX3, vtX3_top, stX3_top)
set_option maxRecDepth 20000 in
theorem caX3_top : eCalls RX3 { frames := 4, cells := 0, slots := 0, locals := 83 } TX3_top := by
  refine ⟨fun k n sp h => ?_, fun k n sp h => ?_⟩
  · dsimp only [TX3_top] at h
    unfold vtX3_top at h
    split at h
    · cases h; exact eV_mk mX3_isElement wX3_isElement (by decide +kernel) (Or.inl (gW_at 744 (by decide +kernel) rfl))
    · cases h
  · cases h
set_option maxRecDepth 100000 in
set_option maxHeartbeats 4000000 in
theorem sX3_top : eSafe TX3_top (cdOf kX3_top) 4 (some .int) SX3_top := by
  intro K rt hK as M h
  obtain ⟨F, A, W, k, rfl, rfl, hk, hL, h⟩ := h
  refine ⟨by simp [eE], ?_⟩
  obtain ⟨G, hG⟩ : ∃ G, tpF (A 2) k 10 0 0 = G := ⟨_, rfl⟩
  rw [hG] at h
  have loop : ∀ (d i : Nat) (a : Int), i + d = 10 → 0 ≤ a → a ≤ i → tpF (A 2) k d i a = G → K 4 [some (eR (1, 3)), some (eI k), some (eI a), some (eI i)] [] (cC F A W) := by
    intro d
    induction d with
    | zero =>
      intro i a hi a0 a1 hg
      have : i = 10 := by omega
      subst this
      have hg' : (-1 : Int) = G := hg
      refine x_iload_n hK kX3_top_4 (q := 5) rfl rfl ?_
      refine x_bipush hK kX3_top_5 (q := 7) rfl (by decide) ?_
      refine x_icmp_ge hK kX3_top_7 (q := 10) rfl (tg := 34) rfl (by refine ⟨?_, ?_⟩ <;> omega) (fun c7 => ?_) (fun c7 => ?_)
      · refine x_iconst hK kX3_top_34 (q := 35) rfl ?_
        refine x_ireturn hK kX3_top_35 (by first | trivial | exact Or.inl rfl | exact Or.inr rfl) ?_
        rw [hg']; exact h
      · exfalso; omega
    | succ d ih =>
      intro i a hi a0 a1 hg
      unfold tpF at hg
      refine x_iload_n hK kX3_top_4 (q := 5) rfl rfl ?_
      refine x_bipush hK kX3_top_5 (q := 7) rfl (by decide) ?_
      refine x_icmp_ge hK kX3_top_7 (q := 10) rfl (tg := 34) rfl (by refine ⟨?_, ?_⟩ <;> omega) (fun c7 => ?_) (fun c7 => ?_)
      · exfalso; omega
      · refine x_aload_n hK kX3_top_10 (q := 11) rfl rfl ?_
        refine x_iload_n hK kX3_top_11 (q := 12) rfl rfl ?_
        refine x_cv2 hK kX3_top_12 (q := 15) rfl (vtX3_top_136) (Nat.le_of_ble_eq_true rfl) ?_
        refine SX3_isElement_i (by omega) hL ?_
        refine x_if_eq hK kX3_top_15 (q := 18) rfl (tg := 28) rfl (by exact zb_w _) (fun c15 => ?_) (fun c15 => ?_)
        · have g : ¬ elb (A 2) i = true := by
            cases q : elb (A 2) i
            · exact fun e => by cases e
            · rw [q] at c15; exact absurd c15 (by decide)
          rw [if_neg g] at hg
          have nx := ih (i + 1) a (by omega) a0 (by omega) hg
          refine x_iinc hK kX3_top_28 (q := 31) rfl rfl ?_
          simp only [lS, lS2, clr_0, clr_I, clr_L, clr_R]
          refine x_goto hK kX3_top_31 (tg := 4) rfl ?_
          rw [show (i : Int) + 1 = ((i + 1 : Nat) : Int) by omega]
          exact nx
        · have g : elb (A 2) i = true := by
            cases q : elb (A 2) i
            · rw [q] at c15; exact absurd rfl c15
            · rfl
          rw [if_pos g] at hg
          refine x_iload_n hK kX3_top_18 (q := 19) rfl rfl ?_
          refine x_iload_n hK kX3_top_19 (q := 20) rfl rfl ?_
          refine x_icmp_ne hK kX3_top_20 (q := 23) rfl (tg := 25) rfl (by refine ⟨⟨by omega, by omega⟩, hk⟩) (fun c20 => ?_) (fun c20 => ?_)
          · rw [if_neg c20] at hg
            have nx := ih (i + 1) (a + 1) (by omega) (by omega) (by omega) hg
            refine x_iinc hK kX3_top_25 (q := 28) rfl rfl ?_
            refine x_iinc hK kX3_top_28 (q := 31) rfl rfl ?_
            simp only [lS, lS2, clr_0, clr_I, clr_L, clr_R]
            refine x_goto hK kX3_top_31 (tg := 4) rfl ?_
            rw [show (i : Int) + 1 = ((i + 1 : Nat) : Int) by omega]
            exact nx
          · rw [if_pos (Decidable.not_not.mp c20)] at hg
            refine x_iload_n hK kX3_top_23 (q := 24) rfl rfl ?_
            refine x_ireturn hK kX3_top_24 (by first | trivial | exact Or.inl rfl | exact Or.inr rfl) ?_
            rw [hg]; exact h
  simp only [eLoc, eE, List.length_cons, List.length_nil, List.replicate, List.cons_append, List.nil_append, Nat.reduceAdd, Nat.reduceSub]
  refine x_iconst hK kX3_top_0 (q := 1) rfl ?_
  refine x_istore_n hK kX3_top_1 (q := 2) (jn := 2) rfl rfl ?_
  refine x_iconst hK kX3_top_2 (q := 3) rfl ?_
  refine x_istore_n hK kX3_top_3 (q := 4) (jn := 3) rfl rfl ?_
  simp only [lS, lS2, clr_0, clr_I, clr_L, clr_R]
  exact loop 10 0 0 rfl (Int.le_refl _) (Int.le_refl _) hG
set_option maxRecDepth 20000 in
theorem mX3_top : eMet yX3_top cX3_top 4 (some .int) 4 83 SX3_top := eMet_of (by decide +kernel) sX3_top kX3_top_ok caX3_top tb_RX3
theorem wX3_top : eWV yX3_top cX3_top 4 (some .int) 2 3 SX3_top := ⟨(gW_at 763 (by decide +kernel) rfl), (gW_at 84 (by decide +kernel) rfl), (gW_at 761 (by decide +kernel) rfl), ⟨_, rfl, (gW_at 762 (by decide +kernel) rfl)⟩, by decide +kernel, SX3_top_r⟩
def SX3_part : eSp := fun as M rt => ∃ (F : Nat → Int) (A W : Nat → Int → Int) (t q : Nat), as = [eR (1, 3), eI t, eI q] ∧ M = cC F A W ∧ (t < 10) ∧ (q < 10) ∧ (∀ i : Int, 0 ≤ i → i < 10 → A 2 i = 0 ∨ A 2 i = 1) ∧ (A 2 t = 1) ∧ (rt (some (eR (2, rb t + q))) (cC F A W))
theorem SX3_part_i {F : Nat → Int} {A W : Nat → Int → Int} {t q : Nat} {rt : Option eV → eM → Prop} (ht : t < 10) (hq : q < 10) (hL : ∀ i : Int, 0 ≤ i → i < 10 → A 2 i = 0 ∨ A 2 i = 1) (h1 : A 2 t = 1) (h : rt (some (eR (2, rb t + q))) (cC F A W)) : SX3_part [eR (1, 3), eI t, eI q] (cC F A W) rt := ⟨F, A, W, t, q, rfl, rfl, ht, hq, hL, h1, h⟩
theorem SX3_part_r : ∀ as M rt, SX3_part as M rt → ∃ a r fs, as = eR a :: r ∧ M a = some (.inl (3, fs)) := by
  rintro as M rt ⟨F, A, W, t, q, rfl, rfl, -⟩
  exact ⟨_, _, _, rfl, rfl⟩
def kX3_part : List (Nat × Jvm.ClassFile.Instr × Nat) := [(0, .aload_n 0, 1), (1, .iload_n 1, 1), (2, .invokevirtual 93, 3), (5, .ifCond .eq 17, 3), (8, .iload_n 2, 1), (9, .ifCond .lt 13, 3), (12, .iload_n 2, 1), (13, .bipush 10, 2), (15, .if_icmp .ge 7, 3), (18, .iconst 1, 1), (19, .goto 4, 3), (22, .iconst 0, 1), (23, .istore_n 3, 1), (24, .iload_n 3, 1), (25, .ifCond .eq 17, 3), (28, .aload_n 0, 1), (29, .getfield 15, 3), (32, .iload_n 1, 1), (33, .aaload, 1), (34, .getfield 74, 3), (37, .iload_n 2, 1), (38, .aaload, 1), (39, .goto 7, 3), (42, .aload_n 0, 1), (43, .getfield 36, 3), (46, .areturn, 1)]
theorem kX3_part_0 : cdOf kX3_part 0 = some (.aload_n 0, 1) := by decide +kernel
theorem kX3_part_1 : cdOf kX3_part 1 = some (.iload_n 1, 1) := by decide +kernel
theorem kX3_part_2 : cdOf kX3_part 2 = some (.invokevirtual 93, 3) := by decide +kernel
theorem kX3_part_5 : cdOf kX3_part 5 = some (.ifCond .eq 17, 3) := by decide +kernel
theorem kX3_part_8 : cdOf kX3_part 8 = some (.iload_n 2, 1) := by decide +kernel
theorem kX3_part_9 : cdOf kX3_part 9 = some (.ifCond .lt 13, 3) := by decide +kernel
theorem kX3_part_12 : cdOf kX3_part 12 = some (.iload_n 2, 1) := by decide +kernel
theorem kX3_part_13 : cdOf kX3_part 13 = some (.bipush 10, 2) := by decide +kernel
theorem kX3_part_15 : cdOf kX3_part 15 = some (.if_icmp .ge 7, 3) := by decide +kernel
theorem kX3_part_18 : cdOf kX3_part 18 = some (.iconst 1, 1) := by decide +kernel
theorem kX3_part_19 : cdOf kX3_part 19 = some (.goto 4, 3) := by decide +kernel
theorem kX3_part_22 : cdOf kX3_part 22 = some (.iconst 0, 1) := by decide +kernel
theorem kX3_part_23 : cdOf kX3_part 23 = some (.istore_n 3, 1) := by decide +kernel
theorem kX3_part_24 : cdOf kX3_part 24 = some (.iload_n 3, 1) := by decide +kernel
theorem kX3_part_25 : cdOf kX3_part 25 = some (.ifCond .eq 17, 3) := by decide +kernel
theorem kX3_part_28 : cdOf kX3_part 28 = some (.aload_n 0, 1) := by decide +kernel
theorem kX3_part_29 : cdOf kX3_part 29 = some (.getfield 15, 3) := by decide +kernel
theorem kX3_part_32 : cdOf kX3_part 32 = some (.iload_n 1, 1) := by decide +kernel
theorem kX3_part_33 : cdOf kX3_part 33 = some (.aaload, 1) := by decide +kernel
theorem kX3_part_34 : cdOf kX3_part 34 = some (.getfield 74, 3) := by decide +kernel
theorem kX3_part_37 : cdOf kX3_part 37 = some (.iload_n 2, 1) := by decide +kernel
theorem kX3_part_38 : cdOf kX3_part 38 = some (.aaload, 1) := by decide +kernel
theorem kX3_part_39 : cdOf kX3_part 39 = some (.goto 7, 3) := by decide +kernel
theorem kX3_part_42 : cdOf kX3_part 42 = some (.aload_n 0, 1) := by decide +kernel
theorem kX3_part_43 : cdOf kX3_part 43 = some (.getfield 36, 3) := by decide +kernel
theorem kX3_part_46 : cdOf kX3_part 46 = some (.areturn, 1) := by decide +kernel
set_option maxRecDepth 20000 in
theorem kX3_part_ok : ∀ pc i len, cdOf kX3_part pc = some (i, len) → decode cX3_part pc = .ok (i, len) ∧ stOK 4 i = true ∧ jOK pc i = true ∧ eLen i len = true := cdOf_ok cX3_part 4 kX3_part (by decide +kernel)
def vtX3_part : Nat → Option (Nat × eSp) := fun k => match k with
  | 93 => some (2, SX3_isLead)
  | _ => none
theorem vtX3_part_93 : vtX3_part 93 = some (2, SX3_isLead) := rfl
def stX3_part : Nat → Option (Nat × eSp) := fun _ => none
abbrev TX3_part : eT := (fl_RX3, cl_RX3, dl_RX3, vtX3_part, stX3_part)
set_option maxRecDepth 20000 in
theorem caX3_part : eCalls RX3 { frames := 1, cells := 0, slots := 0, locals := 21 } TX3_part := by
  refine ⟨fun k n sp h => ?_, fun k n sp h => ?_⟩
  · dsimp only [TX3_part] at h
    unfold vtX3_part at h
    split at h
    · cases h; exact eV_mk mX3_isLead wX3_isLead (by decide +kernel) (Or.inl (gW_at 579 (by decide +kernel) rfl))
    · cases h
  · cases h
set_option maxRecDepth 100000 in
set_option maxHeartbeats 4000000 in
theorem sX3_part : eSafe TX3_part (cdOf kX3_part) 4 (some (.object "ConicMeet$Whole")) SX3_part := by
  intro K rt hK as M h
  obtain ⟨F, A, W, t, q, rfl, rfl, ht, hq, hL, h1, h⟩ := h
  refine ⟨by simp [eE], ?_⟩
  have et := rb_11 (show t < 11 by omega)
  simp only [eLoc, eE, List.length_cons, List.length_nil, List.replicate, List.cons_append, List.nil_append, Nat.reduceAdd, Nat.reduceSub]
  refine x_aload_n hK kX3_part_0 (q := 1) rfl rfl ?_
  refine x_iload_n hK kX3_part_1 (q := 2) rfl rfl ?_
  refine x_cv2 hK kX3_part_2 (q := 5) rfl (vtX3_part_93) (Nat.le_of_ble_eq_true rfl) ?_
  refine SX3_isLead_i ⟨by omega, by omega⟩ hL ?_
  refine x_if_eq hK kX3_part_5 (q := 8) rfl (tg := 22) rfl (by exact zE_w _) (fun c5 => ?_) (fun c5 => ?_)
  · exact absurd ⟨by omega, by omega, h1⟩ (zE_0.mp c5)
  · refine x_iload_n hK kX3_part_8 (q := 9) rfl rfl ?_
    refine x_if_lt hK kX3_part_9 (q := 12) rfl (tg := 22) rfl (by omega) (fun c9 => ?_) (fun c9 => ?_)
    · exfalso; omega
    · refine x_iload_n hK kX3_part_12 (q := 13) rfl rfl ?_
      refine x_bipush hK kX3_part_13 (q := 15) rfl (by decide) ?_
      refine x_icmp_ge hK kX3_part_15 (q := 18) rfl (tg := 22) rfl (by refine ⟨?_, ?_⟩ <;> omega) (fun c15 => ?_) (fun c15 => ?_)
      · exfalso; omega
      · refine x_iconst hK kX3_part_18 (q := 19) rfl ?_
        refine x_goto hK kX3_part_19 (tg := 23) rfl ?_
        refine x_istore_n hK kX3_part_23 (q := 24) (jn := 3) rfl rfl ?_
        refine x_iload_n hK kX3_part_24 (q := 25) rfl rfl ?_
        simp only [lS, lS2, clr_0, clr_I, clr_L, clr_R]
        refine x_if_eq hK kX3_part_25 (q := 28) rfl (tg := 42) rfl (by decide) (fun c25 => ?_) (fun c25 => ?_)
        · exact absurd c25 (by decide)
        · refine x_aload_n hK kX3_part_28 (q := 29) rfl rfl ?_
          refine x_getfield hK kX3_part_29 (q := 32) rfl (gX3_15 ?_)
          refine x_iload_n hK kX3_part_32 (q := 33) rfl rfl ?_
          refine x_aaload hK kX3_part_33 (q := 34) rfl (aC3_1 (by omega) ?_)
          refine x_getfield hK kX3_part_34 (q := 37) rfl (gX3_74 ?_)
          refine x_iload_n hK kX3_part_37 (q := 38) rfl rfl ?_
          refine x_aaload hK kX3_part_38 (q := 39) rfl (wa_a wa_6 (by rw [et.2]; omega) ?_)
          refine x_goto hK kX3_part_39 (tg := 46) rfl ?_
          refine x_areturn hK kX3_part_46 (by first | trivial | exact Or.inl rfl | exact Or.inr rfl) ?_
          exact h
set_option maxRecDepth 20000 in
theorem mX3_part : eMet yX3_part cX3_part 4 (some (.object "ConicMeet$Whole")) 1 21 SX3_part := eMet_of (by decide +kernel) sX3_part kX3_part_ok caX3_part tb_RX3
theorem wX3_part : eWV yX3_part cX3_part 4 (some (.object "ConicMeet$Whole")) 3 3 SX3_part := ⟨(gW_at 619 (by decide +kernel) rfl), (gW_at 84 (by decide +kernel) rfl), (gW_at 617 (by decide +kernel) rfl), ⟨_, rfl, (gW_at 618 (by decide +kernel) rfl)⟩, by decide +kernel, SX3_part_r⟩
