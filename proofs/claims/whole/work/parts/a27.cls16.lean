/-! Rows, grids, the order of monomials. -/
theorem wa_6 {r : Nat} (h : r < 16 := by first | assumption | omega) : wa (8, r) (rb r) (rl r) := Or.inl ⟨r, h, rfl, rfl, rfl⟩
theorem wa_2 {g : Nat} (h : g < 11 := by first | assumption | omega) : wa (10, g) (gb g) 16 := Or.inr ⟨g, h, rfl, rfl, rfl⟩
theorem rb_3 {r : Nat} (h : r < 16) : 10 ≤ rb r ∧ rb r + rl r ≤ 141 := by
  unfold rb rl
  split <;> omega
theorem lw_r {r i : Nat} (h : r < 16) (hi : i < rl r) : lw (rb r + i) = 32 := by
  have := rb_3 h
  exact lw_n (by omega) (by omega)
theorem rb_d : ∀ r q : Fin 16, r ≠ q → rb r.val + rl r.val ≤ rb q.val ∨ rb q.val + rl q.val ≤ rb r.val := by decide +kernel
theorem rb_dd {r q : Nat} (hr : r < 16) (hq : q < 16) (h : r ≠ q) : rb r + rl r ≤ rb q ∨ rb q + rl q ≤ rb r := rb_d ⟨r, hr⟩ ⟨q, hq⟩ (fun e => h (Fin.mk.inj e))
def SX7_wipe : eSp := fun as M rt => ∃ (F : Nat → Int) (A W : Nat → Int → Int) (r : Nat), as = [eR (7, r)] ∧ M = cC F A W ∧ (r < 16) ∧ (∀ W' : Nat → Int → Int, (∀ t, (t < rb r ∨ rb r + rl r ≤ t) → W' t = W t) → (∀ i, i < rl r → wq (lw (rb r + i)) (W' (rb r + i)) 0) → rt none (cC F A W'))
theorem SX7_wipe_i {F : Nat → Int} {A W : Nat → Int → Int} {r : Nat} {rt : Option eV → eM → Prop} (hr : r < 16) (h : ∀ W' : Nat → Int → Int, (∀ t, (t < rb r ∨ rb r + rl r ≤ t) → W' t = W t) → (∀ i, i < rl r → wq (lw (rb r + i)) (W' (rb r + i)) 0) → rt none (cC F A W')) : SX7_wipe [eR (7, r)] (cC F A W) rt := ⟨F, A, W, r, rfl, rfl, hr, h⟩
theorem SX7_wipe_r : ∀ as M rt, SX7_wipe as M rt → ∃ a r fs, as = eR a :: r ∧ M a = some (.inl (6, fs)) := by
  rintro as M rt ⟨F, A, W, r, rfl, rfl, hr, -⟩
  exact ⟨_, _, _, rfl, cC_7 hr⟩
def kX7_wipe : List (Nat × Jvm.ClassFile.Instr × Nat) := [(0, .iconst 0, 1), (1, .istore_n 1, 1), (2, .iload_n 1, 1), (3, .aload_n 0, 1), (4, .getfield 15, 3), (7, .arraylength, 1), (8, .if_icmp .ge 19, 3), (11, .aload_n 0, 1), (12, .getfield 15, 3), (15, .iload_n 1, 1), (16, .aaload, 1), (17, .lconst 0, 1), (18, .invokevirtual 24, 3), (21, .iinc 1 1, 3), (24, .goto (-22), 3), (27, .return_, 1)]
theorem kX7_wipe_0 : cdOf kX7_wipe 0 = some (.iconst 0, 1) := by decide +kernel
theorem kX7_wipe_1 : cdOf kX7_wipe 1 = some (.istore_n 1, 1) := by decide +kernel
theorem kX7_wipe_2 : cdOf kX7_wipe 2 = some (.iload_n 1, 1) := by decide +kernel
theorem kX7_wipe_3 : cdOf kX7_wipe 3 = some (.aload_n 0, 1) := by decide +kernel
theorem kX7_wipe_4 : cdOf kX7_wipe 4 = some (.getfield 15, 3) := by decide +kernel
theorem kX7_wipe_7 : cdOf kX7_wipe 7 = some (.arraylength, 1) := by decide +kernel
theorem kX7_wipe_8 : cdOf kX7_wipe 8 = some (.if_icmp .ge 19, 3) := by decide +kernel
theorem kX7_wipe_11 : cdOf kX7_wipe 11 = some (.aload_n 0, 1) := by decide +kernel
theorem kX7_wipe_12 : cdOf kX7_wipe 12 = some (.getfield 15, 3) := by decide +kernel
theorem kX7_wipe_15 : cdOf kX7_wipe 15 = some (.iload_n 1, 1) := by decide +kernel
theorem kX7_wipe_16 : cdOf kX7_wipe 16 = some (.aaload, 1) := by decide +kernel
theorem kX7_wipe_17 : cdOf kX7_wipe 17 = some (.lconst 0, 1) := by decide +kernel
theorem kX7_wipe_18 : cdOf kX7_wipe 18 = some (.invokevirtual 24, 3) := by decide +kernel
theorem kX7_wipe_21 : cdOf kX7_wipe 21 = some (.iinc 1 1, 3) := by decide +kernel
theorem kX7_wipe_24 : cdOf kX7_wipe 24 = some (.goto (-22), 3) := by decide +kernel
theorem kX7_wipe_27 : cdOf kX7_wipe 27 = some (.return_, 1) := by decide +kernel
set_option maxRecDepth 20000 in
theorem kX7_wipe_ok : ∀ pc i len, cdOf kX7_wipe pc = some (i, len) → decode cX7_wipe pc = .ok (i, len) ∧ stOK 2 i = true ∧ jOK pc i = true ∧ eLen i len = true := cdOf_ok cX7_wipe 2 kX7_wipe (by decide +kernel)
def vtX7_wipe : Nat → Option (Nat × eSp) := fun k => match k with
  | 24 => some (2, SX8_set)
  | _ => none
theorem vtX7_wipe_24 : vtX7_wipe 24 = some (2, SX8_set) := rfl
def stX7_wipe : Nat → Option (Nat × eSp) := fun _ => none
abbrev TX7_wipe : eT := (fl_RX7, cl_RX7, dl_RX7, vtX7_wipe, stX7_wipe)
set_option maxRecDepth 20000 in
theorem caX7_wipe : eCalls RX7 { frames := 1, cells := 0, slots := 0, locals := 27 } TX7_wipe := by
  refine ⟨fun k n sp h => ?_, fun k n sp h => ?_⟩
  · dsimp only [TX7_wipe] at h
    unfold vtX7_wipe at h
    split at h
    · cases h; exact eV_mk mX8_set wX8_set (by decide +kernel) (Or.inl (gW_at 424 (by decide +kernel) rfl))
    · cases h
  · cases h
set_option maxRecDepth 100000 in
set_option maxHeartbeats 4000000 in
theorem sX7_wipe : eSafe TX7_wipe (cdOf kX7_wipe) 2 none SX7_wipe := by
  intro K rt hK as M h
  obtain ⟨F, A, W, r, rfl, rfl, hr, h⟩ := h
  refine ⟨by simp [eE], ?_⟩
  have wr := wa_r (wa_6 hr)
  have loop : ∀ (d i : Nat) (W1 : Nat → Int → Int), i + d = rl r → (∀ t, (t < rb r ∨ rb r + i ≤ t) → W1 t = W t) → (∀ k, k < i → wq (lw (rb r + k)) (W1 (rb r + k)) 0) → K 2 [some (eR (7, r)), some (eI i)] [] (cC F A W1) := by
    intro d
    induction d with
    | zero =>
      intro i W1 hi hf hv
      have : i = rl r := by omega
      subst this
      refine x_iload_n hK kX7_wipe_2 (q := 3) rfl rfl ?_
      refine x_aload_n hK kX7_wipe_3 (q := 4) rfl rfl ?_
      refine x_getfield hK kX7_wipe_4 (q := 7) rfl (gX7_15 ?_)
      refine x_arraylength hK kX7_wipe_7 (q := 8) rfl (wa_n wa_6 ?_)
      refine x_icmp_ge hK kX7_wipe_8 (q := 11) rfl (tg := 27) rfl (by refine ⟨?_, ?_⟩ <;> omega) (fun c8 => ?_) (fun c8 => ?_)
      · refine x_return_ hK kX7_wipe_27 (by first | trivial | exact Or.inl rfl | exact Or.inr rfl) ?_
        exact h W1 hf hv
      · exfalso; omega
    | succ d ih =>
      intro i W1 hi hf hv
      refine x_iload_n hK kX7_wipe_2 (q := 3) rfl rfl ?_
      refine x_aload_n hK kX7_wipe_3 (q := 4) rfl rfl ?_
      refine x_getfield hK kX7_wipe_4 (q := 7) rfl (gX7_15 ?_)
      refine x_arraylength hK kX7_wipe_7 (q := 8) rfl (wa_n wa_6 ?_)
      refine x_icmp_ge hK kX7_wipe_8 (q := 11) rfl (tg := 27) rfl (by refine ⟨?_, ?_⟩ <;> omega) (fun c8 => ?_) (fun c8 => ?_)
      · exfalso; omega
      · refine x_aload_n hK kX7_wipe_11 (q := 12) rfl rfl ?_
        refine x_getfield hK kX7_wipe_12 (q := 15) rfl (gX7_15 ?_)
        refine x_iload_n hK kX7_wipe_15 (q := 16) rfl rfl ?_
        refine x_aaload hK kX7_wipe_16 (q := 17) rfl (wa_a wa_6 (by omega) ?_)
        refine x_lconst0 hK kX7_wipe_17 (q := 18) rfl ?_
        refine x_cv2 hK kX7_wipe_18 (q := 21) rfl (vtX7_wipe_24) (Nat.le_of_ble_eq_true rfl) ?_
        refine SX8_set_i (k := rb r + i) (by omega) (by decide) (fun f hf2 => ?_)
        refine x_iinc hK kX7_wipe_21 (q := 24) rfl rfl ?_
        simp only [lS, lS2, clr_0, clr_I, clr_L, clr_R]
        refine x_goto hK kX7_wipe_24 (tg := 2) rfl ?_
        rw [show (i : Int) + 1 = ((i + 1 : Nat) : Int) by omega]
        refine ih (i + 1) _ (by omega) (fun t ht => by rw [uA_n _ _ (by omega)]; exact hf t (by omega)) (fun k hk => ?_)
        rcases Nat.lt_or_ge k i with q | q
        · rw [uA_n _ _ (by omega)]; exact hv k q
        · rw [show k = i by omega, uA_g]; exact hf2
  simp only [eLoc, eE, List.length_cons, List.length_nil, List.replicate, List.cons_append, List.nil_append, Nat.reduceAdd, Nat.reduceSub]
  refine x_iconst hK kX7_wipe_0 (q := 1) rfl ?_
  refine x_istore_n hK kX7_wipe_1 (q := 2) (jn := 1) rfl rfl ?_
  simp only [lS, lS2, clr_0, clr_I, clr_L, clr_R]
  exact loop (rl r) 0 W (by omega) (fun _ _ => rfl) (fun k hk => absurd hk (by omega))
set_option maxRecDepth 20000 in
theorem mX7_wipe : eMet yX7_wipe cX7_wipe 2 none 1 27 SX7_wipe := eMet_of (by decide +kernel) sX7_wipe kX7_wipe_ok caX7_wipe tb_RX7
theorem wX7_wipe : eWV yX7_wipe cX7_wipe 2 none 1 6 SX7_wipe := ⟨(gW_at 423 (by decide +kernel) rfl), (gW_at 85 (by decide +kernel) rfl), (gW_at 421 (by decide +kernel) rfl), ⟨_, rfl, (gW_at 422 (by decide +kernel) rfl)⟩, by decide +kernel, SX7_wipe_r⟩
def SX7_turnAll : eSp := fun as M rt => ∃ (F : Nat → Int) (A W : Nat → Int → Int) (r : Nat) (V : Nat → Int), as = [eR (7, r)] ∧ M = cC F A W ∧ (r < 16) ∧ (∀ i, i < rl r → wq (lw (rb r + i)) (W (rb r + i)) (V i)) ∧ (∀ W' : Nat → Int → Int, (∀ t, (t < rb r ∨ rb r + rl r ≤ t) → W' t = W t) → (∀ i, i < rl r → wq (lw (rb r + i)) (W' (rb r + i)) (-V i)) → rt none (cC F A W'))
theorem SX7_turnAll_i {F : Nat → Int} {A W : Nat → Int → Int} {r : Nat} {V : Nat → Int} {rt : Option eV → eM → Prop} (hr : r < 16) (hV : ∀ i, i < rl r → wq (lw (rb r + i)) (W (rb r + i)) (V i)) (h : ∀ W' : Nat → Int → Int, (∀ t, (t < rb r ∨ rb r + rl r ≤ t) → W' t = W t) → (∀ i, i < rl r → wq (lw (rb r + i)) (W' (rb r + i)) (-V i)) → rt none (cC F A W')) : SX7_turnAll [eR (7, r)] (cC F A W) rt := ⟨F, A, W, r, V, rfl, rfl, hr, hV, h⟩
theorem SX7_turnAll_r : ∀ as M rt, SX7_turnAll as M rt → ∃ a r fs, as = eR a :: r ∧ M a = some (.inl (6, fs)) := by
  rintro as M rt ⟨F, A, W, r, V, rfl, rfl, hr, -⟩
  exact ⟨_, _, _, rfl, cC_7 hr⟩
def kX7_turnAll : List (Nat × Jvm.ClassFile.Instr × Nat) := [(0, .iconst 0, 1), (1, .istore_n 1, 1), (2, .iload_n 1, 1), (3, .aload_n 0, 1), (4, .getfield 15, 3), (7, .arraylength, 1), (8, .if_icmp .ge 18, 3), (11, .aload_n 0, 1), (12, .getfield 15, 3), (15, .iload_n 1, 1), (16, .aaload, 1), (17, .invokevirtual 32, 3), (20, .iinc 1 1, 3), (23, .goto (-21), 3), (26, .return_, 1)]
theorem kX7_turnAll_0 : cdOf kX7_turnAll 0 = some (.iconst 0, 1) := by decide +kernel
theorem kX7_turnAll_1 : cdOf kX7_turnAll 1 = some (.istore_n 1, 1) := by decide +kernel
theorem kX7_turnAll_2 : cdOf kX7_turnAll 2 = some (.iload_n 1, 1) := by decide +kernel
theorem kX7_turnAll_3 : cdOf kX7_turnAll 3 = some (.aload_n 0, 1) := by decide +kernel
theorem kX7_turnAll_4 : cdOf kX7_turnAll 4 = some (.getfield 15, 3) := by decide +kernel
theorem kX7_turnAll_7 : cdOf kX7_turnAll 7 = some (.arraylength, 1) := by decide +kernel
theorem kX7_turnAll_8 : cdOf kX7_turnAll 8 = some (.if_icmp .ge 18, 3) := by decide +kernel
theorem kX7_turnAll_11 : cdOf kX7_turnAll 11 = some (.aload_n 0, 1) := by decide +kernel
theorem kX7_turnAll_12 : cdOf kX7_turnAll 12 = some (.getfield 15, 3) := by decide +kernel
theorem kX7_turnAll_15 : cdOf kX7_turnAll 15 = some (.iload_n 1, 1) := by decide +kernel
theorem kX7_turnAll_16 : cdOf kX7_turnAll 16 = some (.aaload, 1) := by decide +kernel
theorem kX7_turnAll_17 : cdOf kX7_turnAll 17 = some (.invokevirtual 32, 3) := by decide +kernel
theorem kX7_turnAll_20 : cdOf kX7_turnAll 20 = some (.iinc 1 1, 3) := by decide +kernel
theorem kX7_turnAll_23 : cdOf kX7_turnAll 23 = some (.goto (-21), 3) := by decide +kernel
theorem kX7_turnAll_26 : cdOf kX7_turnAll 26 = some (.return_, 1) := by decide +kernel
set_option maxRecDepth 20000 in
theorem kX7_turnAll_ok : ∀ pc i len, cdOf kX7_turnAll pc = some (i, len) → decode cX7_turnAll pc = .ok (i, len) ∧ stOK 2 i = true ∧ jOK pc i = true ∧ eLen i len = true := cdOf_ok cX7_turnAll 2 kX7_turnAll (by decide +kernel)
def vtX7_turnAll : Nat → Option (Nat × eSp) := fun k => match k with
  | 32 => some (1, SX8_turn)
  | _ => none
theorem vtX7_turnAll_32 : vtX7_turnAll 32 = some (1, SX8_turn) := rfl
def stX7_turnAll : Nat → Option (Nat × eSp) := fun _ => none
abbrev TX7_turnAll : eT := (fl_RX7, cl_RX7, dl_RX7, vtX7_turnAll, stX7_turnAll)
set_option maxRecDepth 20000 in
theorem caX7_turnAll : eCalls RX7 { frames := 1, cells := 0, slots := 0, locals := 20 } TX7_turnAll := by
  refine ⟨fun k n sp h => ?_, fun k n sp h => ?_⟩
  · dsimp only [TX7_turnAll] at h
    unfold vtX7_turnAll at h
    split at h
    · cases h; exact eV_mk mX8_turn wX8_turn (by decide +kernel) (Or.inl (gW_at 561 (by decide +kernel) rfl))
    · cases h
  · cases h
set_option maxRecDepth 100000 in
set_option maxHeartbeats 4000000 in
theorem sX7_turnAll : eSafe TX7_turnAll (cdOf kX7_turnAll) 2 none SX7_turnAll := by
  intro K rt hK as M h
  obtain ⟨F, A, W, r, V, rfl, rfl, hr, hV, h⟩ := h
  refine ⟨by simp [eE], ?_⟩
  have wr := wa_r (wa_6 hr)
  have loop : ∀ (d i : Nat) (W1 : Nat → Int → Int), i + d = rl r → (∀ t, (t < rb r ∨ rb r + i ≤ t) → W1 t = W t) → (∀ k, k < i → wq (lw (rb r + k)) (W1 (rb r + k)) (-V k)) → K 2 [some (eR (7, r)), some (eI i)] [] (cC F A W1) := by
    intro d
    induction d with
    | zero =>
      intro i W1 hi hf hv
      have : i = rl r := by omega
      subst this
      refine x_iload_n hK kX7_turnAll_2 (q := 3) rfl rfl ?_
      refine x_aload_n hK kX7_turnAll_3 (q := 4) rfl rfl ?_
      refine x_getfield hK kX7_turnAll_4 (q := 7) rfl (gX7_15 ?_)
      refine x_arraylength hK kX7_turnAll_7 (q := 8) rfl (wa_n wa_6 ?_)
      refine x_icmp_ge hK kX7_turnAll_8 (q := 11) rfl (tg := 26) rfl (by refine ⟨?_, ?_⟩ <;> omega) (fun c8 => ?_) (fun c8 => ?_)
      · refine x_return_ hK kX7_turnAll_26 (by first | trivial | exact Or.inl rfl | exact Or.inr rfl) ?_
        exact h W1 hf hv
      · exfalso; omega
    | succ d ih =>
      intro i W1 hi hf hv
      refine x_iload_n hK kX7_turnAll_2 (q := 3) rfl rfl ?_
      refine x_aload_n hK kX7_turnAll_3 (q := 4) rfl rfl ?_
      refine x_getfield hK kX7_turnAll_4 (q := 7) rfl (gX7_15 ?_)
      refine x_arraylength hK kX7_turnAll_7 (q := 8) rfl (wa_n wa_6 ?_)
      refine x_icmp_ge hK kX7_turnAll_8 (q := 11) rfl (tg := 26) rfl (by refine ⟨?_, ?_⟩ <;> omega) (fun c8 => ?_) (fun c8 => ?_)
      · exfalso; omega
      · refine x_aload_n hK kX7_turnAll_11 (q := 12) rfl rfl ?_
        refine x_getfield hK kX7_turnAll_12 (q := 15) rfl (gX7_15 ?_)
        refine x_iload_n hK kX7_turnAll_15 (q := 16) rfl rfl ?_
        refine x_aaload hK kX7_turnAll_16 (q := 17) rfl (wa_a wa_6 (by omega) ?_)
        refine x_cv1 hK kX7_turnAll_17 (q := 20) rfl (vtX7_turnAll_32) (Nat.le_of_ble_eq_true rfl) ?_
        refine SX8_turn_i (k := rb r + i) (z := V i) (by omega) (by rw [hf _ (by omega)]; exact hV i (by omega)) (fun f hf2 => ?_)
        refine x_iinc hK kX7_turnAll_20 (q := 23) rfl rfl ?_
        simp only [lS, lS2, clr_0, clr_I, clr_L, clr_R]
        refine x_goto hK kX7_turnAll_23 (tg := 2) rfl ?_
        rw [show (i : Int) + 1 = ((i + 1 : Nat) : Int) by omega]
        refine ih (i + 1) _ (by omega) (fun t ht => by rw [uA_n _ _ (by omega)]; exact hf t (by omega)) (fun k hk => ?_)
        rcases Nat.lt_or_ge k i with q | q
        · rw [uA_n _ _ (by omega)]; exact hv k q
        · rw [show k = i by omega, uA_g]; exact hf2
  simp only [eLoc, eE, List.length_cons, List.length_nil, List.replicate, List.cons_append, List.nil_append, Nat.reduceAdd, Nat.reduceSub]
  refine x_iconst hK kX7_turnAll_0 (q := 1) rfl ?_
  refine x_istore_n hK kX7_turnAll_1 (q := 2) (jn := 1) rfl rfl ?_
  simp only [lS, lS2, clr_0, clr_I, clr_L, clr_R]
  exact loop (rl r) 0 W (by omega) (fun _ _ => rfl) (fun k hk => absurd hk (by omega))
set_option maxRecDepth 20000 in
theorem mX7_turnAll : eMet yX7_turnAll cX7_turnAll 2 none 1 20 SX7_turnAll := eMet_of (by decide +kernel) sX7_turnAll kX7_turnAll_ok caX7_turnAll tb_RX7
theorem wX7_turnAll : eWV yX7_turnAll cX7_turnAll 2 none 1 6 SX7_turnAll := ⟨(gW_at 560 (by decide +kernel) rfl), (gW_at 85 (by decide +kernel) rfl), (gW_at 558 (by decide +kernel) rfl), ⟨_, rfl, (gW_at 559 (by decide +kernel) rfl)⟩, by decide +kernel, SX7_turnAll_r⟩
def SX7_take : eSp := fun as M rt => ∃ (F : Nat → Int) (A W : Nat → Int → Int) (r q : Nat) (V : Nat → Int), as = [eR (7, r), eR (7, q)] ∧ M = cC F A W ∧ (r < 16) ∧ (q < 16) ∧ (r ≠ q) ∧ (rl r = rl q) ∧ (∀ i, i < rl r → wq (lw (rb q + i)) (W (rb q + i)) (V i)) ∧ (∀ W' : Nat → Int → Int, (∀ t, (t < rb r ∨ rb r + rl r ≤ t) → W' t = W t) → (∀ i, i < rl r → wq (lw (rb r + i)) (W' (rb r + i)) (V i)) → rt none (cC F A W'))
theorem SX7_take_i {F : Nat → Int} {A W : Nat → Int → Int} {r q : Nat} {V : Nat → Int} {rt : Option eV → eM → Prop} (hr : r < 16) (hq : q < 16) (rq : r ≠ q) (hl : rl r = rl q) (hV : ∀ i, i < rl r → wq (lw (rb q + i)) (W (rb q + i)) (V i)) (h : ∀ W' : Nat → Int → Int, (∀ t, (t < rb r ∨ rb r + rl r ≤ t) → W' t = W t) → (∀ i, i < rl r → wq (lw (rb r + i)) (W' (rb r + i)) (V i)) → rt none (cC F A W')) : SX7_take [eR (7, r), eR (7, q)] (cC F A W) rt := ⟨F, A, W, r, q, V, rfl, rfl, hr, hq, rq, hl, hV, h⟩
theorem SX7_take_r : ∀ as M rt, SX7_take as M rt → ∃ a r fs, as = eR a :: r ∧ M a = some (.inl (6, fs)) := by
  rintro as M rt ⟨F, A, W, r, q, V, rfl, rfl, hr, -⟩
  exact ⟨_, _, _, rfl, cC_7 hr⟩
def kX7_take : List (Nat × Jvm.ClassFile.Instr × Nat) := [(0, .iconst 0, 1), (1, .istore_n 2, 1), (2, .iload_n 2, 1), (3, .aload_n 0, 1), (4, .getfield 15, 3), (7, .arraylength, 1), (8, .if_icmp .ge 33, 3), (11, .iload_n 2, 1), (12, .aload_n 1, 1), (13, .getfield 15, 3), (16, .arraylength, 1), (17, .if_icmp .ge 24, 3), (20, .aload_n 0, 1), (21, .getfield 15, 3), (24, .iload_n 2, 1), (25, .aaload, 1), (26, .aload_n 1, 1), (27, .getfield 15, 3), (30, .iload_n 2, 1), (31, .aaload, 1), (32, .invokevirtual 28, 3), (35, .iinc 2 1, 3), (38, .goto (-36), 3), (41, .return_, 1)]
theorem kX7_take_0 : cdOf kX7_take 0 = some (.iconst 0, 1) := by decide +kernel
theorem kX7_take_1 : cdOf kX7_take 1 = some (.istore_n 2, 1) := by decide +kernel
theorem kX7_take_2 : cdOf kX7_take 2 = some (.iload_n 2, 1) := by decide +kernel
theorem kX7_take_3 : cdOf kX7_take 3 = some (.aload_n 0, 1) := by decide +kernel
theorem kX7_take_4 : cdOf kX7_take 4 = some (.getfield 15, 3) := by decide +kernel
theorem kX7_take_7 : cdOf kX7_take 7 = some (.arraylength, 1) := by decide +kernel
theorem kX7_take_8 : cdOf kX7_take 8 = some (.if_icmp .ge 33, 3) := by decide +kernel
theorem kX7_take_11 : cdOf kX7_take 11 = some (.iload_n 2, 1) := by decide +kernel
theorem kX7_take_12 : cdOf kX7_take 12 = some (.aload_n 1, 1) := by decide +kernel
theorem kX7_take_13 : cdOf kX7_take 13 = some (.getfield 15, 3) := by decide +kernel
theorem kX7_take_16 : cdOf kX7_take 16 = some (.arraylength, 1) := by decide +kernel
theorem kX7_take_17 : cdOf kX7_take 17 = some (.if_icmp .ge 24, 3) := by decide +kernel
theorem kX7_take_20 : cdOf kX7_take 20 = some (.aload_n 0, 1) := by decide +kernel
theorem kX7_take_21 : cdOf kX7_take 21 = some (.getfield 15, 3) := by decide +kernel
theorem kX7_take_24 : cdOf kX7_take 24 = some (.iload_n 2, 1) := by decide +kernel
theorem kX7_take_25 : cdOf kX7_take 25 = some (.aaload, 1) := by decide +kernel
theorem kX7_take_26 : cdOf kX7_take 26 = some (.aload_n 1, 1) := by decide +kernel
theorem kX7_take_27 : cdOf kX7_take 27 = some (.getfield 15, 3) := by decide +kernel
theorem kX7_take_30 : cdOf kX7_take 30 = some (.iload_n 2, 1) := by decide +kernel
theorem kX7_take_31 : cdOf kX7_take 31 = some (.aaload, 1) := by decide +kernel
theorem kX7_take_32 : cdOf kX7_take 32 = some (.invokevirtual 28, 3) := by decide +kernel
theorem kX7_take_35 : cdOf kX7_take 35 = some (.iinc 2 1, 3) := by decide +kernel
theorem kX7_take_38 : cdOf kX7_take 38 = some (.goto (-36), 3) := by decide +kernel
theorem kX7_take_41 : cdOf kX7_take 41 = some (.return_, 1) := by decide +kernel
set_option maxRecDepth 20000 in
theorem kX7_take_ok : ∀ pc i len, cdOf kX7_take pc = some (i, len) → decode cX7_take pc = .ok (i, len) ∧ stOK 3 i = true ∧ jOK pc i = true ∧ eLen i len = true := cdOf_ok cX7_take 3 kX7_take (by decide +kernel)
def vtX7_take : Nat → Option (Nat × eSp) := fun k => match k with
  | 28 => some (2, SX8_copy)
  | _ => none
theorem vtX7_take_28 : vtX7_take 28 = some (2, SX8_copy) := rfl
def stX7_take : Nat → Option (Nat × eSp) := fun _ => none
abbrev TX7_take : eT := (fl_RX7, cl_RX7, dl_RX7, vtX7_take, stX7_take)
set_option maxRecDepth 20000 in
theorem caX7_take : eCalls RX7 { frames := 1, cells := 0, slots := 0, locals := 22 } TX7_take := by
  refine ⟨fun k n sp h => ?_, fun k n sp h => ?_⟩
  · dsimp only [TX7_take] at h
    unfold vtX7_take at h
    split at h
    · cases h; exact eV_mk mX8_copy wX8_copy (by decide +kernel) (Or.inl (gW_at 556 (by decide +kernel) rfl))
    · cases h
  · cases h
set_option maxRecDepth 100000 in
set_option maxHeartbeats 4000000 in
theorem sX7_take : eSafe TX7_take (cdOf kX7_take) 3 none SX7_take := by
  intro K rt hK as M h
  obtain ⟨F, A, W, r, q, V, rfl, rfl, hr, hq, rq, hl, hV, h⟩ := h
  refine ⟨by simp [eE], ?_⟩
  have wr := wa_r (wa_6 hr)
  have wr2 := wa_r (wa_6 hq)
  have dd := rb_dd hr hq rq
  have loop : ∀ (d i : Nat) (W1 : Nat → Int → Int), i + d = rl r → (∀ t, (t < rb r ∨ rb r + i ≤ t) → W1 t = W t) → (∀ k, k < i → wq (lw (rb r + k)) (W1 (rb r + k)) (V k)) → K 2 [some (eR (7, r)), some (eR (7, q)), some (eI i)] [] (cC F A W1) := by
    intro d
    induction d with
    | zero =>
      intro i W1 hi hf hv
      have : i = rl r := by omega
      subst this
      refine x_iload_n hK kX7_take_2 (q := 3) rfl rfl ?_
      refine x_aload_n hK kX7_take_3 (q := 4) rfl rfl ?_
      refine x_getfield hK kX7_take_4 (q := 7) rfl (gX7_15 ?_)
      refine x_arraylength hK kX7_take_7 (q := 8) rfl (wa_n wa_6 ?_)
      refine x_icmp_ge hK kX7_take_8 (q := 11) rfl (tg := 41) rfl (by refine ⟨?_, ?_⟩ <;> omega) (fun c8 => ?_) (fun c8 => ?_)
      · refine x_return_ hK kX7_take_41 (by first | trivial | exact Or.inl rfl | exact Or.inr rfl) ?_
        exact h W1 hf hv
      · exfalso; omega
    | succ d ih =>
      intro i W1 hi hf hv
      refine x_iload_n hK kX7_take_2 (q := 3) rfl rfl ?_
      refine x_aload_n hK kX7_take_3 (q := 4) rfl rfl ?_
      refine x_getfield hK kX7_take_4 (q := 7) rfl (gX7_15 ?_)
      refine x_arraylength hK kX7_take_7 (q := 8) rfl (wa_n wa_6 ?_)
      refine x_icmp_ge hK kX7_take_8 (q := 11) rfl (tg := 41) rfl (by refine ⟨?_, ?_⟩ <;> omega) (fun c8 => ?_) (fun c8 => ?_)
      · exfalso; omega
      · refine x_iload_n hK kX7_take_11 (q := 12) rfl rfl ?_
        refine x_aload_n hK kX7_take_12 (q := 13) rfl rfl ?_
        refine x_getfield hK kX7_take_13 (q := 16) rfl (gX7_15 ?_)
        refine x_arraylength hK kX7_take_16 (q := 17) rfl (wa_n wa_6 ?_)
        refine x_icmp_ge hK kX7_take_17 (q := 20) rfl (tg := 41) rfl (by refine ⟨?_, ?_⟩ <;> omega) (fun c17 => ?_) (fun c17 => ?_)
        · exfalso; omega
        · refine x_aload_n hK kX7_take_20 (q := 21) rfl rfl ?_
          refine x_getfield hK kX7_take_21 (q := 24) rfl (gX7_15 ?_)
          refine x_iload_n hK kX7_take_24 (q := 25) rfl rfl ?_
          refine x_aaload hK kX7_take_25 (q := 26) rfl (wa_a wa_6 (by omega) ?_)
          refine x_aload_n hK kX7_take_26 (q := 27) rfl rfl ?_
          refine x_getfield hK kX7_take_27 (q := 30) rfl (gX7_15 ?_)
          refine x_iload_n hK kX7_take_30 (q := 31) rfl rfl ?_
          refine x_aaload hK kX7_take_31 (q := 32) rfl (wa_a wa_6 (by omega) ?_)
          refine x_cv2 hK kX7_take_32 (q := 35) rfl (vtX7_take_28) (Nat.le_of_ble_eq_true rfl) ?_
          refine SX8_copy_i (k := rb r + i) (j := rb q + i) (z := V i) (by omega) (by omega) (by omega) (by rw [hf _ (by omega)]; exact hV i (by omega)) (by
            have h1 := wq_lt (hV i (by omega))
            rw [lw_r hq (by omega)] at h1
            rw [lw_r hr (by omega)]
            exact h1) (fun f hf2 => ?_)
          refine x_iinc hK kX7_take_35 (q := 38) rfl rfl ?_
          simp only [lS, lS2, clr_0, clr_I, clr_L, clr_R]
          refine x_goto hK kX7_take_38 (tg := 2) rfl ?_
          rw [show (i : Int) + 1 = ((i + 1 : Nat) : Int) by omega]
          refine ih (i + 1) _ (by omega) (fun t ht => by rw [uA_n _ _ (by omega)]; exact hf t (by omega)) (fun k hk => ?_)
          rcases Nat.lt_or_ge k i with g | g
          · rw [uA_n _ _ (by omega)]; exact hv k g
          · rw [show k = i by omega, uA_g]; exact hf2
  simp only [eLoc, eE, List.length_cons, List.length_nil, List.replicate, List.cons_append, List.nil_append, Nat.reduceAdd, Nat.reduceSub]
  refine x_iconst hK kX7_take_0 (q := 1) rfl ?_
  refine x_istore_n hK kX7_take_1 (q := 2) (jn := 2) rfl rfl ?_
  simp only [lS, lS2, clr_0, clr_I, clr_L, clr_R]
  exact loop (rl r) 0 W (by omega) (fun _ _ => rfl) (fun k hk => absurd hk (by omega))
set_option maxRecDepth 20000 in
theorem mX7_take : eMet yX7_take cX7_take 3 none 1 22 SX7_take := eMet_of (by decide +kernel) sX7_take kX7_take_ok caX7_take tb_RX7
theorem wX7_take : eWV yX7_take cX7_take 3 none 2 6 SX7_take := ⟨(gW_at 555 (by decide +kernel) rfl), (gW_at 85 (by decide +kernel) rfl), (gW_at 553 (by decide +kernel) rfl), ⟨_, rfl, (gW_at 554 (by decide +kernel) rfl)⟩, by decide +kernel, SX7_take_r⟩
-- grids
def SX2_read : eSp := fun as M rt => ∃ (F : Nat → Int) (A W : Nat → Int → Int) (g i j : Nat), as = [eR (9, g), eI i, eI j] ∧ M = cC F A W ∧ (g < 11) ∧ (i < 4) ∧ (j < 4) ∧ (rt (some (eR (2, gb g + (4 * i + j)))) (cC F A W))
theorem SX2_read_i {F : Nat → Int} {A W : Nat → Int → Int} {g i j : Nat} {rt : Option eV → eM → Prop} (hg : g < 11) (hi : i < 4) (hj : j < 4) (h : rt (some (eR (2, gb g + (4 * i + j)))) (cC F A W)) : SX2_read [eR (9, g), eI i, eI j] (cC F A W) rt := ⟨F, A, W, g, i, j, rfl, rfl, hg, hi, hj, h⟩
theorem SX2_read_r : ∀ as M rt, SX2_read as M rt → ∃ a r fs, as = eR a :: r ∧ M a = some (.inl (2, fs)) := by
  rintro as M rt ⟨F, A, W, g, i, j, rfl, rfl, hg, -⟩
  exact ⟨_, _, _, rfl, cC_9 hg⟩
def kX2_read : List (Nat × Jvm.ClassFile.Instr × Nat) := [(0, .iconst 4, 1), (1, .iload_n 1, 1), (2, .imul, 1), (3, .iload_n 2, 1), (4, .iadd, 1), (5, .istore_n 3, 1), (6, .iload_n 3, 1), (7, .ifCond .lt 12, 3), (10, .iload_n 3, 1), (11, .aload_n 0, 1), (12, .getfield 11, 3), (15, .arraylength, 1), (16, .if_icmp .lt 10, 3), (19, .aload_n 0, 1), (20, .getfield 18, 3), (23, .goto 9, 3), (26, .aload_n 0, 1), (27, .getfield 11, 3), (30, .iload_n 3, 1), (31, .aaload, 1), (32, .areturn, 1)]
theorem kX2_read_0 : cdOf kX2_read 0 = some (.iconst 4, 1) := by decide +kernel
theorem kX2_read_1 : cdOf kX2_read 1 = some (.iload_n 1, 1) := by decide +kernel
theorem kX2_read_2 : cdOf kX2_read 2 = some (.imul, 1) := by decide +kernel
theorem kX2_read_3 : cdOf kX2_read 3 = some (.iload_n 2, 1) := by decide +kernel
theorem kX2_read_4 : cdOf kX2_read 4 = some (.iadd, 1) := by decide +kernel
theorem kX2_read_5 : cdOf kX2_read 5 = some (.istore_n 3, 1) := by decide +kernel
theorem kX2_read_6 : cdOf kX2_read 6 = some (.iload_n 3, 1) := by decide +kernel
theorem kX2_read_7 : cdOf kX2_read 7 = some (.ifCond .lt 12, 3) := by decide +kernel
theorem kX2_read_10 : cdOf kX2_read 10 = some (.iload_n 3, 1) := by decide +kernel
theorem kX2_read_11 : cdOf kX2_read 11 = some (.aload_n 0, 1) := by decide +kernel
theorem kX2_read_12 : cdOf kX2_read 12 = some (.getfield 11, 3) := by decide +kernel
theorem kX2_read_15 : cdOf kX2_read 15 = some (.arraylength, 1) := by decide +kernel
theorem kX2_read_16 : cdOf kX2_read 16 = some (.if_icmp .lt 10, 3) := by decide +kernel
theorem kX2_read_19 : cdOf kX2_read 19 = some (.aload_n 0, 1) := by decide +kernel
theorem kX2_read_20 : cdOf kX2_read 20 = some (.getfield 18, 3) := by decide +kernel
theorem kX2_read_23 : cdOf kX2_read 23 = some (.goto 9, 3) := by decide +kernel
theorem kX2_read_26 : cdOf kX2_read 26 = some (.aload_n 0, 1) := by decide +kernel
theorem kX2_read_27 : cdOf kX2_read 27 = some (.getfield 11, 3) := by decide +kernel
theorem kX2_read_30 : cdOf kX2_read 30 = some (.iload_n 3, 1) := by decide +kernel
theorem kX2_read_31 : cdOf kX2_read 31 = some (.aaload, 1) := by decide +kernel
theorem kX2_read_32 : cdOf kX2_read 32 = some (.areturn, 1) := by decide +kernel
set_option maxRecDepth 20000 in
theorem kX2_read_ok : ∀ pc i len, cdOf kX2_read pc = some (i, len) → decode cX2_read pc = .ok (i, len) ∧ stOK 4 i = true ∧ jOK pc i = true ∧ eLen i len = true := cdOf_ok cX2_read 4 kX2_read (by decide +kernel)
def vtX2_read : Nat → Option (Nat × eSp) := fun _ => none
def stX2_read : Nat → Option (Nat × eSp) := fun _ => none
abbrev TX2_read : eT := (fl_RX2, cl_RX2, dl_RX2, vtX2_read, stX2_read)
set_option maxRecDepth 20000 in
theorem caX2_read : eCalls RX2 { frames := 0, cells := 0, slots := 0, locals := 0 } TX2_read := by
  refine ⟨fun k n sp h => ?_, fun k n sp h => ?_⟩
  · cases h
  · cases h
set_option maxRecDepth 100000 in
set_option maxHeartbeats 4000000 in
theorem sX2_read : eSafe TX2_read (cdOf kX2_read) 4 (some (.object "ConicMeet$Whole")) SX2_read := by
  intro K rt hK as M h
  obtain ⟨F, A, W, g, i, j, rfl, rfl, hg, hi, hj, h⟩ := h
  refine ⟨by simp [eE], ?_⟩
  have e : (4 : Int) * (i : Int) + (j : Int) = ((4 * i + j : Nat) : Int) := by omega
  simp only [eLoc, eE, List.length_cons, List.length_nil, List.replicate, List.cons_append, List.nil_append, Nat.reduceAdd, Nat.reduceSub]
  refine x_iconst hK kX2_read_0 (q := 1) rfl ?_
  refine x_iload_n hK kX2_read_1 (q := 2) rfl rfl ?_
  refine x_imul hK kX2_read_2 (q := 3) rfl ?_
  refine x_iload_n hK kX2_read_3 (q := 4) rfl rfl ?_
  refine x_iadd hK kX2_read_4 (q := 5) rfl ?_
  rw [e]
  refine x_istore_n hK kX2_read_5 (q := 6) (jn := 3) rfl rfl ?_
  refine x_iload_n hK kX2_read_6 (q := 7) rfl rfl ?_
  simp only [lS, lS2, clr_0, clr_I, clr_L, clr_R]
  refine x_if_lt hK kX2_read_7 (q := 10) rfl (tg := 19) rfl (by omega) (fun c7 => ?_) (fun c7 => ?_)
  · exfalso; omega
  · refine x_iload_n hK kX2_read_10 (q := 11) rfl rfl ?_
    refine x_aload_n hK kX2_read_11 (q := 12) rfl rfl ?_
    refine x_getfield hK kX2_read_12 (q := 15) rfl (gX2_11 ?_)
    refine x_arraylength hK kX2_read_15 (q := 16) rfl (wa_n wa_2 ?_)
    refine x_icmp_lt hK kX2_read_16 (q := 19) rfl (tg := 26) rfl (by refine ⟨?_, ?_⟩ <;> omega) (fun c16 => ?_) (fun c16 => ?_)
    · refine x_aload_n hK kX2_read_26 (q := 27) rfl rfl ?_
      refine x_getfield hK kX2_read_27 (q := 30) rfl (gX2_11 ?_)
      refine x_iload_n hK kX2_read_30 (q := 31) rfl rfl ?_
      refine x_aaload hK kX2_read_31 (q := 32) rfl (wa_a wa_2 (by omega) ?_)
      refine x_areturn hK kX2_read_32 (by first | trivial | exact Or.inl rfl | exact Or.inr rfl) ?_
      exact h
    · exfalso; omega
set_option maxRecDepth 20000 in
theorem mX2_read : eMet yX2_read cX2_read 4 (some (.object "ConicMeet$Whole")) 0 0 SX2_read := eMet_of (by decide +kernel) sX2_read kX2_read_ok caX2_read tb_RX2
theorem wX2_read : eWV yX2_read cX2_read 4 (some (.object "ConicMeet$Whole")) 3 2 SX2_read := ⟨(gW_at 641 (by decide +kernel) rfl), (gW_at 88 (by decide +kernel) rfl), (gW_at 639 (by decide +kernel) rfl), ⟨_, rfl, (gW_at 640 (by decide +kernel) rfl)⟩, by decide +kernel, SX2_read_r⟩
def SX2_wipe : eSp := fun as M rt => ∃ (F : Nat → Int) (A W : Nat → Int → Int) (g : Nat), as = [eR (9, g)] ∧ M = cC F A W ∧ (g < 11) ∧ (∀ W' : Nat → Int → Int, (∀ t, (t < gb g ∨ gb g + 16 ≤ t) → W' t = W t) → (∀ i, i < 16 → wq (lw (gb g + i)) (W' (gb g + i)) 0) → rt none (cC F A W'))
theorem SX2_wipe_i {F : Nat → Int} {A W : Nat → Int → Int} {g : Nat} {rt : Option eV → eM → Prop} (hg : g < 11) (h : ∀ W' : Nat → Int → Int, (∀ t, (t < gb g ∨ gb g + 16 ≤ t) → W' t = W t) → (∀ i, i < 16 → wq (lw (gb g + i)) (W' (gb g + i)) 0) → rt none (cC F A W')) : SX2_wipe [eR (9, g)] (cC F A W) rt := ⟨F, A, W, g, rfl, rfl, hg, h⟩
theorem SX2_wipe_r : ∀ as M rt, SX2_wipe as M rt → ∃ a r fs, as = eR a :: r ∧ M a = some (.inl (2, fs)) := by
  rintro as M rt ⟨F, A, W, g, rfl, rfl, hg, -⟩
  exact ⟨_, _, _, rfl, cC_9 hg⟩
def kX2_wipe : List (Nat × Jvm.ClassFile.Instr × Nat) := [(0, .iconst 0, 1), (1, .istore_n 1, 1), (2, .iload_n 1, 1), (3, .aload_n 0, 1), (4, .getfield 11, 3), (7, .arraylength, 1), (8, .if_icmp .ge 19, 3), (11, .aload_n 0, 1), (12, .getfield 11, 3), (15, .iload_n 1, 1), (16, .aaload, 1), (17, .lconst 0, 1), (18, .invokevirtual 22, 3), (21, .iinc 1 1, 3), (24, .goto (-22), 3), (27, .return_, 1)]
theorem kX2_wipe_0 : cdOf kX2_wipe 0 = some (.iconst 0, 1) := by decide +kernel
theorem kX2_wipe_1 : cdOf kX2_wipe 1 = some (.istore_n 1, 1) := by decide +kernel
theorem kX2_wipe_2 : cdOf kX2_wipe 2 = some (.iload_n 1, 1) := by decide +kernel
theorem kX2_wipe_3 : cdOf kX2_wipe 3 = some (.aload_n 0, 1) := by decide +kernel
theorem kX2_wipe_4 : cdOf kX2_wipe 4 = some (.getfield 11, 3) := by decide +kernel
theorem kX2_wipe_7 : cdOf kX2_wipe 7 = some (.arraylength, 1) := by decide +kernel
theorem kX2_wipe_8 : cdOf kX2_wipe 8 = some (.if_icmp .ge 19, 3) := by decide +kernel
theorem kX2_wipe_11 : cdOf kX2_wipe 11 = some (.aload_n 0, 1) := by decide +kernel
theorem kX2_wipe_12 : cdOf kX2_wipe 12 = some (.getfield 11, 3) := by decide +kernel
theorem kX2_wipe_15 : cdOf kX2_wipe 15 = some (.iload_n 1, 1) := by decide +kernel
theorem kX2_wipe_16 : cdOf kX2_wipe 16 = some (.aaload, 1) := by decide +kernel
theorem kX2_wipe_17 : cdOf kX2_wipe 17 = some (.lconst 0, 1) := by decide +kernel
theorem kX2_wipe_18 : cdOf kX2_wipe 18 = some (.invokevirtual 22, 3) := by decide +kernel
theorem kX2_wipe_21 : cdOf kX2_wipe 21 = some (.iinc 1 1, 3) := by decide +kernel
theorem kX2_wipe_24 : cdOf kX2_wipe 24 = some (.goto (-22), 3) := by decide +kernel
theorem kX2_wipe_27 : cdOf kX2_wipe 27 = some (.return_, 1) := by decide +kernel
set_option maxRecDepth 20000 in
theorem kX2_wipe_ok : ∀ pc i len, cdOf kX2_wipe pc = some (i, len) → decode cX2_wipe pc = .ok (i, len) ∧ stOK 2 i = true ∧ jOK pc i = true ∧ eLen i len = true := cdOf_ok cX2_wipe 2 kX2_wipe (by decide +kernel)
def vtX2_wipe : Nat → Option (Nat × eSp) := fun k => match k with
  | 22 => some (2, SX8_set)
  | _ => none
theorem vtX2_wipe_22 : vtX2_wipe 22 = some (2, SX8_set) := rfl
def stX2_wipe : Nat → Option (Nat × eSp) := fun _ => none
abbrev TX2_wipe : eT := (fl_RX2, cl_RX2, dl_RX2, vtX2_wipe, stX2_wipe)
set_option maxRecDepth 20000 in
theorem caX2_wipe : eCalls RX2 { frames := 1, cells := 0, slots := 0, locals := 27 } TX2_wipe := by
  refine ⟨fun k n sp h => ?_, fun k n sp h => ?_⟩
  · dsimp only [TX2_wipe] at h
    unfold vtX2_wipe at h
    split at h
    · cases h; exact eV_mk mX8_set wX8_set (by decide +kernel) (Or.inl (gW_at 257 (by decide +kernel) rfl))
    · cases h
  · cases h
set_option maxRecDepth 100000 in
set_option maxHeartbeats 4000000 in
theorem sX2_wipe : eSafe TX2_wipe (cdOf kX2_wipe) 2 none SX2_wipe := by
  intro K rt hK as M h
  obtain ⟨F, A, W, g, rfl, rfl, hg, h⟩ := h
  refine ⟨by simp [eE], ?_⟩
  have wr := wa_r (wa_2 hg)
  have loop : ∀ (d i : Nat) (W1 : Nat → Int → Int), i + d = 16 → (∀ t, (t < gb g ∨ gb g + i ≤ t) → W1 t = W t) → (∀ k, k < i → wq (lw (gb g + k)) (W1 (gb g + k)) 0) → K 2 [some (eR (9, g)), some (eI i)] [] (cC F A W1) := by
    intro d
    induction d with
    | zero =>
      intro i W1 hi hf hv
      have : i = 16 := by omega
      subst this
      refine x_iload_n hK kX2_wipe_2 (q := 3) rfl rfl ?_
      refine x_aload_n hK kX2_wipe_3 (q := 4) rfl rfl ?_
      refine x_getfield hK kX2_wipe_4 (q := 7) rfl (gX2_11 ?_)
      refine x_arraylength hK kX2_wipe_7 (q := 8) rfl (wa_n wa_2 ?_)
      refine x_icmp_ge hK kX2_wipe_8 (q := 11) rfl (tg := 27) rfl (by refine ⟨?_, ?_⟩ <;> omega) (fun c8 => ?_) (fun c8 => ?_)
      · refine x_return_ hK kX2_wipe_27 (by first | trivial | exact Or.inl rfl | exact Or.inr rfl) ?_
        exact h W1 hf hv
      · exfalso; omega
    | succ d ih =>
      intro i W1 hi hf hv
      refine x_iload_n hK kX2_wipe_2 (q := 3) rfl rfl ?_
      refine x_aload_n hK kX2_wipe_3 (q := 4) rfl rfl ?_
      refine x_getfield hK kX2_wipe_4 (q := 7) rfl (gX2_11 ?_)
      refine x_arraylength hK kX2_wipe_7 (q := 8) rfl (wa_n wa_2 ?_)
      refine x_icmp_ge hK kX2_wipe_8 (q := 11) rfl (tg := 27) rfl (by refine ⟨?_, ?_⟩ <;> omega) (fun c8 => ?_) (fun c8 => ?_)
      · exfalso; omega
      · refine x_aload_n hK kX2_wipe_11 (q := 12) rfl rfl ?_
        refine x_getfield hK kX2_wipe_12 (q := 15) rfl (gX2_11 ?_)
        refine x_iload_n hK kX2_wipe_15 (q := 16) rfl rfl ?_
        refine x_aaload hK kX2_wipe_16 (q := 17) rfl (wa_a wa_2 (by omega) ?_)
        refine x_lconst0 hK kX2_wipe_17 (q := 18) rfl ?_
        refine x_cv2 hK kX2_wipe_18 (q := 21) rfl (vtX2_wipe_22) (Nat.le_of_ble_eq_true rfl) ?_
        refine SX8_set_i (k := gb g + i) (by omega) (by decide) (fun f hf2 => ?_)
        refine x_iinc hK kX2_wipe_21 (q := 24) rfl rfl ?_
        simp only [lS, lS2, clr_0, clr_I, clr_L, clr_R]
        refine x_goto hK kX2_wipe_24 (tg := 2) rfl ?_
        rw [show (i : Int) + 1 = ((i + 1 : Nat) : Int) by omega]
        refine ih (i + 1) _ (by omega) (fun t ht => by rw [uA_n _ _ (by omega)]; exact hf t (by omega)) (fun k hk => ?_)
        rcases Nat.lt_or_ge k i with q | q
        · rw [uA_n _ _ (by omega)]; exact hv k q
        · rw [show k = i by omega, uA_g]; exact hf2
  simp only [eLoc, eE, List.length_cons, List.length_nil, List.replicate, List.cons_append, List.nil_append, Nat.reduceAdd, Nat.reduceSub]
  refine x_iconst hK kX2_wipe_0 (q := 1) rfl ?_
  refine x_istore_n hK kX2_wipe_1 (q := 2) (jn := 1) rfl rfl ?_
  simp only [lS, lS2, clr_0, clr_I, clr_L, clr_R]
  exact loop 16 0 W (by omega) (fun _ _ => rfl) (fun k hk => absurd hk (by omega))
set_option maxRecDepth 20000 in
theorem mX2_wipe : eMet yX2_wipe cX2_wipe 2 none 1 27 SX2_wipe := eMet_of (by decide +kernel) sX2_wipe kX2_wipe_ok caX2_wipe tb_RX2
theorem wX2_wipe : eWV yX2_wipe cX2_wipe 2 none 1 2 SX2_wipe := ⟨(gW_at 636 (by decide +kernel) rfl), (gW_at 88 (by decide +kernel) rfl), (gW_at 634 (by decide +kernel) rfl), ⟨_, rfl, (gW_at 635 (by decide +kernel) rfl)⟩, by decide +kernel, SX2_wipe_r⟩
def SX2_take : eSp := fun as M rt => ∃ (F : Nat → Int) (A W : Nat → Int → Int) (g q : Nat) (V : Nat → Int), as = [eR (9, g), eR (9, q)] ∧ M = cC F A W ∧ (g < 11) ∧ (q < 11) ∧ (g ≠ q) ∧ (∀ i, i < 17 → wq (lw (gb q + i)) (W (gb q + i)) (V i)) ∧ (∀ i, i < 17 → zAbs (V i) < cB ^ lw (gb g + i)) ∧ (∀ W' : Nat → Int → Int, (∀ t, (t < gb g ∨ gb g + 17 ≤ t) → W' t = W t) → (∀ i, i < 17 → wq (lw (gb g + i)) (W' (gb g + i)) (V i)) → rt none (cC F A W'))
theorem SX2_take_i {F : Nat → Int} {A W : Nat → Int → Int} {g q : Nat} {V : Nat → Int} {rt : Option eV → eM → Prop} (hg : g < 11) (hq : q < 11) (gq : g ≠ q) (hV : ∀ i, i < 17 → wq (lw (gb q + i)) (W (gb q + i)) (V i)) (hfit : ∀ i, i < 17 → zAbs (V i) < cB ^ lw (gb g + i)) (h : ∀ W' : Nat → Int → Int, (∀ t, (t < gb g ∨ gb g + 17 ≤ t) → W' t = W t) → (∀ i, i < 17 → wq (lw (gb g + i)) (W' (gb g + i)) (V i)) → rt none (cC F A W')) : SX2_take [eR (9, g), eR (9, q)] (cC F A W) rt := ⟨F, A, W, g, q, V, rfl, rfl, hg, hq, gq, hV, hfit, h⟩
theorem SX2_take_r : ∀ as M rt, SX2_take as M rt → ∃ a r fs, as = eR a :: r ∧ M a = some (.inl (2, fs)) := by
  rintro as M rt ⟨F, A, W, g, q, V, rfl, rfl, hg, -⟩
  exact ⟨_, _, _, rfl, cC_9 hg⟩
def kX2_take : List (Nat × Jvm.ClassFile.Instr × Nat) := [(0, .iconst 0, 1), (1, .istore_n 2, 1), (2, .iload_n 2, 1), (3, .aload_n 0, 1), (4, .getfield 11, 3), (7, .arraylength, 1), (8, .if_icmp .ge 24, 3), (11, .aload_n 0, 1), (12, .getfield 11, 3), (15, .iload_n 2, 1), (16, .aaload, 1), (17, .aload_n 1, 1), (18, .getfield 11, 3), (21, .iload_n 2, 1), (22, .aaload, 1), (23, .invokevirtual 26, 3), (26, .iinc 2 1, 3), (29, .goto (-27), 3), (32, .aload_n 0, 1), (33, .getfield 18, 3), (36, .aload_n 1, 1), (37, .getfield 18, 3), (40, .invokevirtual 26, 3), (43, .return_, 1)]
theorem kX2_take_0 : cdOf kX2_take 0 = some (.iconst 0, 1) := by decide +kernel
theorem kX2_take_1 : cdOf kX2_take 1 = some (.istore_n 2, 1) := by decide +kernel
theorem kX2_take_2 : cdOf kX2_take 2 = some (.iload_n 2, 1) := by decide +kernel
theorem kX2_take_3 : cdOf kX2_take 3 = some (.aload_n 0, 1) := by decide +kernel
theorem kX2_take_4 : cdOf kX2_take 4 = some (.getfield 11, 3) := by decide +kernel
theorem kX2_take_7 : cdOf kX2_take 7 = some (.arraylength, 1) := by decide +kernel
theorem kX2_take_8 : cdOf kX2_take 8 = some (.if_icmp .ge 24, 3) := by decide +kernel
theorem kX2_take_11 : cdOf kX2_take 11 = some (.aload_n 0, 1) := by decide +kernel
theorem kX2_take_12 : cdOf kX2_take 12 = some (.getfield 11, 3) := by decide +kernel
theorem kX2_take_15 : cdOf kX2_take 15 = some (.iload_n 2, 1) := by decide +kernel
theorem kX2_take_16 : cdOf kX2_take 16 = some (.aaload, 1) := by decide +kernel
theorem kX2_take_17 : cdOf kX2_take 17 = some (.aload_n 1, 1) := by decide +kernel
theorem kX2_take_18 : cdOf kX2_take 18 = some (.getfield 11, 3) := by decide +kernel
theorem kX2_take_21 : cdOf kX2_take 21 = some (.iload_n 2, 1) := by decide +kernel
theorem kX2_take_22 : cdOf kX2_take 22 = some (.aaload, 1) := by decide +kernel
theorem kX2_take_23 : cdOf kX2_take 23 = some (.invokevirtual 26, 3) := by decide +kernel
theorem kX2_take_26 : cdOf kX2_take 26 = some (.iinc 2 1, 3) := by decide +kernel
theorem kX2_take_29 : cdOf kX2_take 29 = some (.goto (-27), 3) := by decide +kernel
theorem kX2_take_32 : cdOf kX2_take 32 = some (.aload_n 0, 1) := by decide +kernel
theorem kX2_take_33 : cdOf kX2_take 33 = some (.getfield 18, 3) := by decide +kernel
theorem kX2_take_36 : cdOf kX2_take 36 = some (.aload_n 1, 1) := by decide +kernel
theorem kX2_take_37 : cdOf kX2_take 37 = some (.getfield 18, 3) := by decide +kernel
theorem kX2_take_40 : cdOf kX2_take 40 = some (.invokevirtual 26, 3) := by decide +kernel
theorem kX2_take_43 : cdOf kX2_take 43 = some (.return_, 1) := by decide +kernel
set_option maxRecDepth 20000 in
theorem kX2_take_ok : ∀ pc i len, cdOf kX2_take pc = some (i, len) → decode cX2_take pc = .ok (i, len) ∧ stOK 3 i = true ∧ jOK pc i = true ∧ eLen i len = true := cdOf_ok cX2_take 3 kX2_take (by decide +kernel)
def vtX2_take : Nat → Option (Nat × eSp) := fun k => match k with
  | 26 => some (2, SX8_copy)
  | _ => none
theorem vtX2_take_26 : vtX2_take 26 = some (2, SX8_copy) := rfl
def stX2_take : Nat → Option (Nat × eSp) := fun _ => none
abbrev TX2_take : eT := (fl_RX2, cl_RX2, dl_RX2, vtX2_take, stX2_take)
set_option maxRecDepth 20000 in
theorem caX2_take : eCalls RX2 { frames := 1, cells := 0, slots := 0, locals := 22 } TX2_take := by
  refine ⟨fun k n sp h => ?_, fun k n sp h => ?_⟩
  · dsimp only [TX2_take] at h
    unfold vtX2_take at h
    split at h
    · cases h; exact eV_mk mX8_copy wX8_copy (by decide +kernel) (Or.inl (gW_at 692 (by decide +kernel) rfl))
    · cases h
  · cases h
set_option maxRecDepth 100000 in
set_option maxHeartbeats 4000000 in
theorem sX2_take : eSafe TX2_take (cdOf kX2_take) 3 none SX2_take := by
  intro K rt hK as M h
  obtain ⟨F, A, W, g, q, V, rfl, rfl, hg, hq, gq, hV, hfit, h⟩ := h
  refine ⟨by simp [eE], ?_⟩
  have wr := wa_r (wa_2 hg)
  have wr2 := wa_r (wa_2 hq)
  have dd : gb g + 17 ≤ gb q ∨ gb q + 17 ≤ gb g := by unfold gb; omega
  have e332 : gb g + 16 < 332 ∧ gb q + 16 < 332 := by unfold gb; omega
  have loop : ∀ (d i : Nat) (W1 : Nat → Int → Int), i + d = 16 → (∀ t, (t < gb g ∨ gb g + i ≤ t) → W1 t = W t) → (∀ k, k < i → wq (lw (gb g + k)) (W1 (gb g + k)) (V k)) → K 2 [some (eR (9, g)), some (eR (9, q)), some (eI i)] [] (cC F A W1) := by
    intro d
    induction d with
    | zero =>
      intro i W1 hi hf hv
      have : i = 16 := by omega
      subst this
      refine x_iload_n hK kX2_take_2 (q := 3) rfl rfl ?_
      refine x_aload_n hK kX2_take_3 (q := 4) rfl rfl ?_
      refine x_getfield hK kX2_take_4 (q := 7) rfl (gX2_11 ?_)
      refine x_arraylength hK kX2_take_7 (q := 8) rfl (wa_n wa_2 ?_)
      refine x_icmp_ge hK kX2_take_8 (q := 11) rfl (tg := 32) rfl (by refine ⟨?_, ?_⟩ <;> omega) (fun c8 => ?_) (fun c8 => ?_)
      · refine x_aload_n hK kX2_take_32 (q := 33) rfl rfl ?_
        refine x_getfield hK kX2_take_33 (q := 36) rfl (gX2_18 ?_)
        refine x_aload_n hK kX2_take_36 (q := 37) rfl rfl ?_
        refine x_getfield hK kX2_take_37 (q := 40) rfl (gX2_18 ?_)
        refine x_cv2 hK kX2_take_40 (q := 43) rfl (vtX2_take_26) (Nat.le_of_ble_eq_true rfl) ?_
        refine SX8_copy_i (z := V 16) (by omega) (by omega) (by omega) (by rw [hf _ (by omega)]; exact hV 16 (by decide)) (hfit 16 (by decide)) (fun f hf2 => ?_)
        refine x_return_ hK kX2_take_43 (by first | trivial | exact Or.inl rfl | exact Or.inr rfl) ?_
        refine h _ (fun t ht => by rw [uA_n _ _ (by omega)]; exact hf t (by omega)) (fun k hk => ?_)
        rcases Nat.lt_or_ge k 16 with a | a
        · rw [uA_n _ _ (by omega)]; exact hv k a
        · rw [show k = 16 by omega, uA_g]; exact hf2
      · exfalso; omega
    | succ d ih =>
      intro i W1 hi hf hv
      refine x_iload_n hK kX2_take_2 (q := 3) rfl rfl ?_
      refine x_aload_n hK kX2_take_3 (q := 4) rfl rfl ?_
      refine x_getfield hK kX2_take_4 (q := 7) rfl (gX2_11 ?_)
      refine x_arraylength hK kX2_take_7 (q := 8) rfl (wa_n wa_2 ?_)
      refine x_icmp_ge hK kX2_take_8 (q := 11) rfl (tg := 32) rfl (by refine ⟨?_, ?_⟩ <;> omega) (fun c8 => ?_) (fun c8 => ?_)
      · exfalso; omega
      · refine x_aload_n hK kX2_take_11 (q := 12) rfl rfl ?_
        refine x_getfield hK kX2_take_12 (q := 15) rfl (gX2_11 ?_)
        refine x_iload_n hK kX2_take_15 (q := 16) rfl rfl ?_
        refine x_aaload hK kX2_take_16 (q := 17) rfl (wa_a wa_2 (by omega) ?_)
        refine x_aload_n hK kX2_take_17 (q := 18) rfl rfl ?_
        refine x_getfield hK kX2_take_18 (q := 21) rfl (gX2_11 ?_)
        refine x_iload_n hK kX2_take_21 (q := 22) rfl rfl ?_
        refine x_aaload hK kX2_take_22 (q := 23) rfl (wa_a wa_2 (by omega) ?_)
        refine x_cv2 hK kX2_take_23 (q := 26) rfl (vtX2_take_26) (Nat.le_of_ble_eq_true rfl) ?_
        refine SX8_copy_i (k := gb g + i) (j := gb q + i) (z := V i) (by omega) (by omega) (by omega) (by rw [hf _ (by omega)]; exact hV i (by omega)) (hfit i (by omega)) (fun f hf2 => ?_)
        refine x_iinc hK kX2_take_26 (q := 29) rfl rfl ?_
        simp only [lS, lS2, clr_0, clr_I, clr_L, clr_R]
        refine x_goto hK kX2_take_29 (tg := 2) rfl ?_
        rw [show (i : Int) + 1 = ((i + 1 : Nat) : Int) by omega]
        refine ih (i + 1) _ (by omega) (fun t ht => by rw [uA_n _ _ (by omega)]; exact hf t (by omega)) (fun k hk => ?_)
        rcases Nat.lt_or_ge k i with a | a
        · rw [uA_n _ _ (by omega)]; exact hv k a
        · rw [show k = i by omega, uA_g]; exact hf2
  simp only [eLoc, eE, List.length_cons, List.length_nil, List.replicate, List.cons_append, List.nil_append, Nat.reduceAdd, Nat.reduceSub]
  refine x_iconst hK kX2_take_0 (q := 1) rfl ?_
  refine x_istore_n hK kX2_take_1 (q := 2) (jn := 2) rfl rfl ?_
  simp only [lS, lS2, clr_0, clr_I, clr_L, clr_R]
  exact loop 16 0 W (by omega) (fun _ _ => rfl) (fun k hk => absurd hk (by omega))
set_option maxRecDepth 20000 in
theorem mX2_take : eMet yX2_take cX2_take 3 none 1 22 SX2_take := eMet_of (by decide +kernel) sX2_take kX2_take_ok caX2_take tb_RX2
theorem wX2_take : eWV yX2_take cX2_take 3 none 2 2 SX2_take := ⟨(gW_at 691 (by decide +kernel) rfl), (gW_at 88 (by decide +kernel) rfl), (gW_at 689 (by decide +kernel) rfl), ⟨_, rfl, (gW_at 690 (by decide +kernel) rfl)⟩, by decide +kernel, SX2_take_r⟩
-- the order
def oD (p : Int) : Int := if p < 1 then 0 else if p < 3 then 1 else if p < 6 then 2 else 3
def oF (d : Int) : Int := d * (d + 1) / 2
def oX (p : Int) : Int := p - oF (oD p)
def oY (p : Int) : Int := oD p - oX p
def oT (p : Int) : Int := 16 * oX p + oY p
def oP (a b g : Int) : Int := if a < 0 ∨ b < 0 ∨ g < a ∨ g - a < b then -1 else oF (a + b) + a
theorem oD_r (p : Int) : 0 ≤ oD p ∧ oD p ≤ 3 := by unfold oD; split <;> (try split) <;> (try split) <;> omega
theorem oF_r {d : Int} (h : 0 ≤ d ∧ d ≤ 3) : 0 ≤ oF d ∧ oF d ≤ 6 := by
  have : d = 0 ∨ d = 1 ∨ d = 2 ∨ d = 3 := by omega
  rcases this with rfl | rfl | rfl | rfl <;> decide
def SX5_first : eSp := fun as M rt => ∃ (F : Nat → Int) (A W : Nat → Int → Int) (d : Int), as = [eI d] ∧ M = cC F A W ∧ (0 ≤ d ∧ d ≤ 3) ∧ (rt (some (eI (oF d))) (cC F A W))
theorem SX5_first_i {F : Nat → Int} {A W : Nat → Int → Int} {d : Int} {rt : Option eV → eM → Prop} (hd : 0 ≤ d ∧ d ≤ 3) (h : rt (some (eI (oF d))) (cC F A W)) : SX5_first [eI d] (cC F A W) rt := ⟨F, A, W, d, rfl, rfl, hd, h⟩
def kX5_first : List (Nat × Jvm.ClassFile.Instr × Nat) := [(0, .iload_n 0, 1), (1, .iload_n 0, 1), (2, .iconst 1, 1), (3, .iadd, 1), (4, .imul, 1), (5, .iconst 2, 1), (6, .idiv, 1), (7, .ireturn, 1)]
theorem kX5_first_0 : cdOf kX5_first 0 = some (.iload_n 0, 1) := by decide +kernel
theorem kX5_first_1 : cdOf kX5_first 1 = some (.iload_n 0, 1) := by decide +kernel
theorem kX5_first_2 : cdOf kX5_first 2 = some (.iconst 1, 1) := by decide +kernel
theorem kX5_first_3 : cdOf kX5_first 3 = some (.iadd, 1) := by decide +kernel
theorem kX5_first_4 : cdOf kX5_first 4 = some (.imul, 1) := by decide +kernel
theorem kX5_first_5 : cdOf kX5_first 5 = some (.iconst 2, 1) := by decide +kernel
theorem kX5_first_6 : cdOf kX5_first 6 = some (.idiv, 1) := by decide +kernel
theorem kX5_first_7 : cdOf kX5_first 7 = some (.ireturn, 1) := by decide +kernel
set_option maxRecDepth 20000 in
theorem kX5_first_ok : ∀ pc i len, cdOf kX5_first pc = some (i, len) → decode cX5_first pc = .ok (i, len) ∧ stOK 1 i = true ∧ jOK pc i = true ∧ eLen i len = true := cdOf_ok cX5_first 1 kX5_first (by decide +kernel)
def vtX5_first : Nat → Option (Nat × eSp) := fun _ => none
def stX5_first : Nat → Option (Nat × eSp) := fun _ => none
abbrev TX5_first : eT := (fl_RX5, cl_RX5, dl_RX5, vtX5_first, stX5_first)
set_option maxRecDepth 20000 in
theorem caX5_first : eCalls RX5 { frames := 0, cells := 0, slots := 0, locals := 0 } TX5_first := by
  refine ⟨fun k n sp h => ?_, fun k n sp h => ?_⟩
  · cases h
  · cases h
set_option maxRecDepth 100000 in
set_option maxHeartbeats 4000000 in
theorem sX5_first : eSafe TX5_first (cdOf kX5_first) 1 (some .int) SX5_first := by
  intro K rt hK as M h
  obtain ⟨F, A, W, d, rfl, rfl, hd, h⟩ := h
  refine ⟨by simp [eE], ?_⟩
  have e : (d * (d + 1)).tdiv 2 = oF d := by
    have : d = 0 ∨ d = 1 ∨ d = 2 ∨ d = 3 := by omega
    rcases this with rfl | rfl | rfl | rfl <;> decide
  have w : w32 (d * (d + 1)) := by
    have : d = 0 ∨ d = 1 ∨ d = 2 ∨ d = 3 := by omega
    rcases this with rfl | rfl | rfl | rfl <;> decide
  simp only [eLoc, eE, List.length_cons, List.length_nil, List.replicate, List.cons_append, List.nil_append, Nat.reduceAdd, Nat.reduceSub]
  refine x_iload_n hK kX5_first_0 (q := 1) rfl rfl ?_
  refine x_iload_n hK kX5_first_1 (q := 2) rfl rfl ?_
  refine x_iconst hK kX5_first_2 (q := 3) rfl ?_
  refine x_iadd hK kX5_first_3 (q := 4) rfl ?_
  refine x_imul hK kX5_first_4 (q := 5) rfl ?_
  refine x_iconst hK kX5_first_5 (q := 6) rfl ?_
  refine x_idiv hK kX5_first_6 (q := 7) rfl (by refine ⟨w, by decide, by decide⟩) ?_
  rw [e]
  refine x_ireturn hK kX5_first_7 (by first | trivial | exact Or.inl rfl | exact Or.inr rfl) ?_
  exact h
set_option maxRecDepth 20000 in
theorem mX5_first : eMet yX5_first cX5_first 1 (some .int) 0 0 SX5_first := eMet_of (by decide +kernel) sX5_first kX5_first_ok caX5_first tb_RX5
theorem wX5_first : eWS yX5_first cX5_first 1 (some .int) 1 := ⟨(gW_at 661 (by decide +kernel) rfl), (gW_at 94 (by decide +kernel) rfl), (gW_at 660 (by decide +kernel) rfl), by decide +kernel⟩
def SX5_degree : eSp := fun as M rt => ∃ (F : Nat → Int) (A W : Nat → Int → Int) (p : Int), as = [eI p] ∧ M = cC F A W ∧ (w32 p) ∧ (rt (some (eI (oD p))) (cC F A W))
theorem SX5_degree_i {F : Nat → Int} {A W : Nat → Int → Int} {p : Int} {rt : Option eV → eM → Prop} (hp : w32 p) (h : rt (some (eI (oD p))) (cC F A W)) : SX5_degree [eI p] (cC F A W) rt := ⟨F, A, W, p, rfl, rfl, hp, h⟩
def kX5_degree : List (Nat × Jvm.ClassFile.Instr × Nat) := [(0, .iload_n 0, 1), (1, .iconst 1, 1), (2, .if_icmp .ge 5, 3), (5, .iconst 0, 1), (6, .ireturn, 1), (7, .iload_n 0, 1), (8, .iconst 3, 1), (9, .if_icmp .ge 7, 3), (12, .iconst 1, 1), (13, .goto 14, 3), (16, .iload_n 0, 1), (17, .bipush 6, 2), (19, .if_icmp .ge 7, 3), (22, .iconst 2, 1), (23, .goto 4, 3), (26, .iconst 3, 1), (27, .ireturn, 1)]
theorem kX5_degree_0 : cdOf kX5_degree 0 = some (.iload_n 0, 1) := by decide +kernel
theorem kX5_degree_1 : cdOf kX5_degree 1 = some (.iconst 1, 1) := by decide +kernel
theorem kX5_degree_2 : cdOf kX5_degree 2 = some (.if_icmp .ge 5, 3) := by decide +kernel
theorem kX5_degree_5 : cdOf kX5_degree 5 = some (.iconst 0, 1) := by decide +kernel
theorem kX5_degree_6 : cdOf kX5_degree 6 = some (.ireturn, 1) := by decide +kernel
theorem kX5_degree_7 : cdOf kX5_degree 7 = some (.iload_n 0, 1) := by decide +kernel
theorem kX5_degree_8 : cdOf kX5_degree 8 = some (.iconst 3, 1) := by decide +kernel
theorem kX5_degree_9 : cdOf kX5_degree 9 = some (.if_icmp .ge 7, 3) := by decide +kernel
theorem kX5_degree_12 : cdOf kX5_degree 12 = some (.iconst 1, 1) := by decide +kernel
theorem kX5_degree_13 : cdOf kX5_degree 13 = some (.goto 14, 3) := by decide +kernel
theorem kX5_degree_16 : cdOf kX5_degree 16 = some (.iload_n 0, 1) := by decide +kernel
theorem kX5_degree_17 : cdOf kX5_degree 17 = some (.bipush 6, 2) := by decide +kernel
theorem kX5_degree_19 : cdOf kX5_degree 19 = some (.if_icmp .ge 7, 3) := by decide +kernel
theorem kX5_degree_22 : cdOf kX5_degree 22 = some (.iconst 2, 1) := by decide +kernel
theorem kX5_degree_23 : cdOf kX5_degree 23 = some (.goto 4, 3) := by decide +kernel
theorem kX5_degree_26 : cdOf kX5_degree 26 = some (.iconst 3, 1) := by decide +kernel
theorem kX5_degree_27 : cdOf kX5_degree 27 = some (.ireturn, 1) := by decide +kernel
set_option maxRecDepth 20000 in
theorem kX5_degree_ok : ∀ pc i len, cdOf kX5_degree pc = some (i, len) → decode cX5_degree pc = .ok (i, len) ∧ stOK 1 i = true ∧ jOK pc i = true ∧ eLen i len = true := cdOf_ok cX5_degree 1 kX5_degree (by decide +kernel)
def vtX5_degree : Nat → Option (Nat × eSp) := fun _ => none
def stX5_degree : Nat → Option (Nat × eSp) := fun _ => none
abbrev TX5_degree : eT := (fl_RX5, cl_RX5, dl_RX5, vtX5_degree, stX5_degree)
set_option maxRecDepth 20000 in
theorem caX5_degree : eCalls RX5 { frames := 0, cells := 0, slots := 0, locals := 0 } TX5_degree := by
  refine ⟨fun k n sp h => ?_, fun k n sp h => ?_⟩
  · cases h
  · cases h
set_option maxRecDepth 100000 in
set_option maxHeartbeats 4000000 in
theorem sX5_degree : eSafe TX5_degree (cdOf kX5_degree) 1 (some .int) SX5_degree := by
  intro K rt hK as M h
  obtain ⟨F, A, W, p, rfl, rfl, hp, h⟩ := h
  refine ⟨by simp [eE], ?_⟩
  unfold oD at h
  simp only [eLoc, eE, List.length_cons, List.length_nil, List.replicate, List.cons_append, List.nil_append, Nat.reduceAdd, Nat.reduceSub]
  refine x_iload_n hK kX5_degree_0 (q := 1) rfl rfl ?_
  refine x_iconst hK kX5_degree_1 (q := 2) rfl ?_
  refine x_icmp_ge hK kX5_degree_2 (q := 5) rfl (tg := 7) rfl (by refine ⟨hp, by decide⟩) (fun c2 => ?_) (fun c2 => ?_)
  · refine x_iload_n hK kX5_degree_7 (q := 8) rfl rfl ?_
    refine x_iconst hK kX5_degree_8 (q := 9) rfl ?_
    refine x_icmp_ge hK kX5_degree_9 (q := 12) rfl (tg := 16) rfl (by refine ⟨hp, by decide⟩) (fun c9 => ?_) (fun c9 => ?_)
    · refine x_iload_n hK kX5_degree_16 (q := 17) rfl rfl ?_
      refine x_bipush hK kX5_degree_17 (q := 19) rfl (by decide) ?_
      refine x_icmp_ge hK kX5_degree_19 (q := 22) rfl (tg := 26) rfl (by refine ⟨hp, by decide⟩) (fun c19 => ?_) (fun c19 => ?_)
      · refine x_iconst hK kX5_degree_26 (q := 27) rfl ?_
        refine x_ireturn hK kX5_degree_27 (by first | trivial | exact Or.inl rfl | exact Or.inr rfl) ?_
        rw [if_neg (by omega)] at h
        first | (rw [if_pos (by omega)] at h; exact h) | (rw [if_neg (by omega), if_pos (by omega)] at h; exact h) | (rw [if_neg (by omega), if_neg (by omega)] at h; exact h)
      · refine x_iconst hK kX5_degree_22 (q := 23) rfl ?_
        refine x_goto hK kX5_degree_23 (tg := 27) rfl ?_
        refine x_ireturn hK kX5_degree_27 (by first | trivial | exact Or.inl rfl | exact Or.inr rfl) ?_
        rw [if_neg (by omega)] at h
        first | (rw [if_pos (by omega)] at h; exact h) | (rw [if_neg (by omega), if_pos (by omega)] at h; exact h) | (rw [if_neg (by omega), if_neg (by omega)] at h; exact h)
    · refine x_iconst hK kX5_degree_12 (q := 13) rfl ?_
      refine x_goto hK kX5_degree_13 (tg := 27) rfl ?_
      refine x_ireturn hK kX5_degree_27 (by first | trivial | exact Or.inl rfl | exact Or.inr rfl) ?_
      rw [if_neg (by omega)] at h
      first | (rw [if_pos (by omega)] at h; exact h) | (rw [if_neg (by omega), if_pos (by omega)] at h; exact h) | (rw [if_neg (by omega), if_neg (by omega)] at h; exact h)
  · refine x_iconst hK kX5_degree_5 (q := 6) rfl ?_
    refine x_ireturn hK kX5_degree_6 (by first | trivial | exact Or.inl rfl | exact Or.inr rfl) ?_
    rw [if_pos (by omega)] at h; exact h
set_option maxRecDepth 20000 in
theorem mX5_degree : eMet yX5_degree cX5_degree 1 (some .int) 0 0 SX5_degree := eMet_of (by decide +kernel) sX5_degree kX5_degree_ok caX5_degree tb_RX5
theorem wX5_degree : eWS yX5_degree cX5_degree 1 (some .int) 1 := ⟨(gW_at 575 (by decide +kernel) rfl), (gW_at 94 (by decide +kernel) rfl), (gW_at 574 (by decide +kernel) rfl), by decide +kernel⟩
def SX5_powerOfX : eSp := fun as M rt => ∃ (F : Nat → Int) (A W : Nat → Int → Int) (p : Int), as = [eI p] ∧ M = cC F A W ∧ (w32 p) ∧ (rt (some (eI (oX p))) (cC F A W))
theorem SX5_powerOfX_i {F : Nat → Int} {A W : Nat → Int → Int} {p : Int} {rt : Option eV → eM → Prop} (hp : w32 p) (h : rt (some (eI (oX p))) (cC F A W)) : SX5_powerOfX [eI p] (cC F A W) rt := ⟨F, A, W, p, rfl, rfl, hp, h⟩
def kX5_powerOfX : List (Nat × Jvm.ClassFile.Instr × Nat) := [(0, .iload_n 0, 1), (1, .iload_n 0, 1), (2, .invokestatic 15, 3), (5, .invokestatic 9, 3), (8, .isub, 1), (9, .ireturn, 1)]
theorem kX5_powerOfX_0 : cdOf kX5_powerOfX 0 = some (.iload_n 0, 1) := by decide +kernel
theorem kX5_powerOfX_1 : cdOf kX5_powerOfX 1 = some (.iload_n 0, 1) := by decide +kernel
theorem kX5_powerOfX_2 : cdOf kX5_powerOfX 2 = some (.invokestatic 15, 3) := by decide +kernel
theorem kX5_powerOfX_5 : cdOf kX5_powerOfX 5 = some (.invokestatic 9, 3) := by decide +kernel
theorem kX5_powerOfX_8 : cdOf kX5_powerOfX 8 = some (.isub, 1) := by decide +kernel
theorem kX5_powerOfX_9 : cdOf kX5_powerOfX 9 = some (.ireturn, 1) := by decide +kernel
set_option maxRecDepth 20000 in
theorem kX5_powerOfX_ok : ∀ pc i len, cdOf kX5_powerOfX pc = some (i, len) → decode cX5_powerOfX pc = .ok (i, len) ∧ stOK 1 i = true ∧ jOK pc i = true ∧ eLen i len = true := cdOf_ok cX5_powerOfX 1 kX5_powerOfX (by decide +kernel)
def vtX5_powerOfX : Nat → Option (Nat × eSp) := fun _ => none
def stX5_powerOfX : Nat → Option (Nat × eSp) := fun k => match k with
  | 15 => some (1, SX5_degree)
  | 9 => some (1, SX5_first)
  | _ => none
theorem stX5_powerOfX_15 : stX5_powerOfX 15 = some (1, SX5_degree) := rfl
theorem stX5_powerOfX_9 : stX5_powerOfX 9 = some (1, SX5_first) := rfl
abbrev TX5_powerOfX : eT := (fl_RX5, cl_RX5, dl_RX5, vtX5_powerOfX, stX5_powerOfX)
set_option maxRecDepth 20000 in
theorem caX5_powerOfX : eCalls RX5 { frames := 1, cells := 0, slots := 0, locals := 20 } TX5_powerOfX := by
  refine ⟨fun k n sp h => ?_, fun k n sp h => ?_⟩
  · cases h
  · dsimp only [TX5_powerOfX] at h
    unfold stX5_powerOfX at h
    split at h
    · cases h; exact eS_mk mX5_degree wX5_degree (by decide +kernel) (Or.inl (gW_at 573 (by decide +kernel) rfl))
    · cases h; exact eS_mk mX5_first wX5_first (by decide +kernel) (Or.inl (gW_at 659 (by decide +kernel) rfl))
    · cases h
set_option maxRecDepth 100000 in
set_option maxHeartbeats 4000000 in
theorem sX5_powerOfX : eSafe TX5_powerOfX (cdOf kX5_powerOfX) 1 (some .int) SX5_powerOfX := by
  intro K rt hK as M h
  obtain ⟨F, A, W, p, rfl, rfl, hp, h⟩ := h
  refine ⟨by simp [eE], ?_⟩
  simp only [eLoc, eE, List.length_cons, List.length_nil, List.replicate, List.cons_append, List.nil_append, Nat.reduceAdd, Nat.reduceSub]
  refine x_iload_n hK kX5_powerOfX_0 (q := 1) rfl rfl ?_
  refine x_iload_n hK kX5_powerOfX_1 (q := 2) rfl rfl ?_
  refine x_cs1 hK kX5_powerOfX_2 (q := 5) rfl (stX5_powerOfX_15) (Nat.le_of_ble_eq_true rfl) ?_
  refine SX5_degree_i hp ?_
  refine x_cs1 hK kX5_powerOfX_5 (q := 8) rfl (stX5_powerOfX_9) (Nat.le_of_ble_eq_true rfl) ?_
  refine SX5_first_i (oD_r p) ?_
  refine x_isub hK kX5_powerOfX_8 (q := 9) rfl ?_
  refine x_ireturn hK kX5_powerOfX_9 (by first | trivial | exact Or.inl rfl | exact Or.inr rfl) ?_
  exact h
set_option maxRecDepth 20000 in
theorem mX5_powerOfX : eMet yX5_powerOfX cX5_powerOfX 1 (some .int) 1 20 SX5_powerOfX := eMet_of (by decide +kernel) sX5_powerOfX kX5_powerOfX_ok caX5_powerOfX tb_RX5
theorem wX5_powerOfX : eWS yX5_powerOfX cX5_powerOfX 1 (some .int) 1 := ⟨(gW_at 658 (by decide +kernel) rfl), (gW_at 94 (by decide +kernel) rfl), (gW_at 657 (by decide +kernel) rfl), by decide +kernel⟩
def SX5_powerOfY : eSp := fun as M rt => ∃ (F : Nat → Int) (A W : Nat → Int → Int) (p : Int), as = [eI p] ∧ M = cC F A W ∧ (w32 p) ∧ (rt (some (eI (oY p))) (cC F A W))
theorem SX5_powerOfY_i {F : Nat → Int} {A W : Nat → Int → Int} {p : Int} {rt : Option eV → eM → Prop} (hp : w32 p) (h : rt (some (eI (oY p))) (cC F A W)) : SX5_powerOfY [eI p] (cC F A W) rt := ⟨F, A, W, p, rfl, rfl, hp, h⟩
def kX5_powerOfY : List (Nat × Jvm.ClassFile.Instr × Nat) := [(0, .iload_n 0, 1), (1, .invokestatic 15, 3), (4, .iload_n 0, 1), (5, .invokestatic 18, 3), (8, .isub, 1), (9, .ireturn, 1)]
theorem kX5_powerOfY_0 : cdOf kX5_powerOfY 0 = some (.iload_n 0, 1) := by decide +kernel
theorem kX5_powerOfY_1 : cdOf kX5_powerOfY 1 = some (.invokestatic 15, 3) := by decide +kernel
theorem kX5_powerOfY_4 : cdOf kX5_powerOfY 4 = some (.iload_n 0, 1) := by decide +kernel
theorem kX5_powerOfY_5 : cdOf kX5_powerOfY 5 = some (.invokestatic 18, 3) := by decide +kernel
theorem kX5_powerOfY_8 : cdOf kX5_powerOfY 8 = some (.isub, 1) := by decide +kernel
theorem kX5_powerOfY_9 : cdOf kX5_powerOfY 9 = some (.ireturn, 1) := by decide +kernel
set_option maxRecDepth 20000 in
theorem kX5_powerOfY_ok : ∀ pc i len, cdOf kX5_powerOfY pc = some (i, len) → decode cX5_powerOfY pc = .ok (i, len) ∧ stOK 1 i = true ∧ jOK pc i = true ∧ eLen i len = true := cdOf_ok cX5_powerOfY 1 kX5_powerOfY (by decide +kernel)
def vtX5_powerOfY : Nat → Option (Nat × eSp) := fun _ => none
def stX5_powerOfY : Nat → Option (Nat × eSp) := fun k => match k with
  | 15 => some (1, SX5_degree)
  | 18 => some (1, SX5_powerOfX)
  | _ => none
theorem stX5_powerOfY_15 : stX5_powerOfY 15 = some (1, SX5_degree) := rfl
theorem stX5_powerOfY_18 : stX5_powerOfY 18 = some (1, SX5_powerOfX) := rfl
abbrev TX5_powerOfY : eT := (fl_RX5, cl_RX5, dl_RX5, vtX5_powerOfY, stX5_powerOfY)
set_option maxRecDepth 20000 in
theorem caX5_powerOfY : eCalls RX5 { frames := 2, cells := 0, slots := 0, locals := 40 } TX5_powerOfY := by
  refine ⟨fun k n sp h => ?_, fun k n sp h => ?_⟩
  · cases h
  · dsimp only [TX5_powerOfY] at h
    unfold stX5_powerOfY at h
    split at h
    · cases h; exact eS_mk mX5_degree wX5_degree (by decide +kernel) (Or.inl (gW_at 573 (by decide +kernel) rfl))
    · cases h; exact eS_mk mX5_powerOfX wX5_powerOfX (by decide +kernel) (Or.inl (gW_at 752 (by decide +kernel) rfl))
    · cases h
set_option maxRecDepth 100000 in
set_option maxHeartbeats 4000000 in
theorem sX5_powerOfY : eSafe TX5_powerOfY (cdOf kX5_powerOfY) 1 (some .int) SX5_powerOfY := by
  intro K rt hK as M h
  obtain ⟨F, A, W, p, rfl, rfl, hp, h⟩ := h
  refine ⟨by simp [eE], ?_⟩
  simp only [eLoc, eE, List.length_cons, List.length_nil, List.replicate, List.cons_append, List.nil_append, Nat.reduceAdd, Nat.reduceSub]
  refine x_iload_n hK kX5_powerOfY_0 (q := 1) rfl rfl ?_
  refine x_cs1 hK kX5_powerOfY_1 (q := 4) rfl (stX5_powerOfY_15) (Nat.le_of_ble_eq_true rfl) ?_
  refine SX5_degree_i hp ?_
  refine x_iload_n hK kX5_powerOfY_4 (q := 5) rfl rfl ?_
  refine x_cs1 hK kX5_powerOfY_5 (q := 8) rfl (stX5_powerOfY_18) (Nat.le_of_ble_eq_true rfl) ?_
  refine SX5_powerOfX_i hp ?_
  refine x_isub hK kX5_powerOfY_8 (q := 9) rfl ?_
  refine x_ireturn hK kX5_powerOfY_9 (by first | trivial | exact Or.inl rfl | exact Or.inr rfl) ?_
  exact h
set_option maxRecDepth 20000 in
theorem mX5_powerOfY : eMet yX5_powerOfY cX5_powerOfY 1 (some .int) 2 40 SX5_powerOfY := eMet_of (by decide +kernel) sX5_powerOfY kX5_powerOfY_ok caX5_powerOfY tb_RX5
theorem wX5_powerOfY : eWS yX5_powerOfY cX5_powerOfY 1 (some .int) 1 := ⟨(gW_at 751 (by decide +kernel) rfl), (gW_at 94 (by decide +kernel) rfl), (gW_at 750 (by decide +kernel) rfl), by decide +kernel⟩
def SX5_timesX : eSp := fun as M rt => ∃ (F : Nat → Int) (A W : Nat → Int → Int) (p : Int), as = [eI p] ∧ M = cC F A W ∧ (w32 p) ∧ (rt (some (eI (p + oD p + 2))) (cC F A W))
theorem SX5_timesX_i {F : Nat → Int} {A W : Nat → Int → Int} {p : Int} {rt : Option eV → eM → Prop} (hp : w32 p) (h : rt (some (eI (p + oD p + 2))) (cC F A W)) : SX5_timesX [eI p] (cC F A W) rt := ⟨F, A, W, p, rfl, rfl, hp, h⟩
def kX5_timesX : List (Nat × Jvm.ClassFile.Instr × Nat) := [(0, .iload_n 0, 1), (1, .iload_n 0, 1), (2, .invokestatic 15, 3), (5, .iadd, 1), (6, .iconst 2, 1), (7, .iadd, 1), (8, .ireturn, 1)]
theorem kX5_timesX_0 : cdOf kX5_timesX 0 = some (.iload_n 0, 1) := by decide +kernel
theorem kX5_timesX_1 : cdOf kX5_timesX 1 = some (.iload_n 0, 1) := by decide +kernel
theorem kX5_timesX_2 : cdOf kX5_timesX 2 = some (.invokestatic 15, 3) := by decide +kernel
theorem kX5_timesX_5 : cdOf kX5_timesX 5 = some (.iadd, 1) := by decide +kernel
theorem kX5_timesX_6 : cdOf kX5_timesX 6 = some (.iconst 2, 1) := by decide +kernel
theorem kX5_timesX_7 : cdOf kX5_timesX 7 = some (.iadd, 1) := by decide +kernel
theorem kX5_timesX_8 : cdOf kX5_timesX 8 = some (.ireturn, 1) := by decide +kernel
set_option maxRecDepth 20000 in
theorem kX5_timesX_ok : ∀ pc i len, cdOf kX5_timesX pc = some (i, len) → decode cX5_timesX pc = .ok (i, len) ∧ stOK 1 i = true ∧ jOK pc i = true ∧ eLen i len = true := cdOf_ok cX5_timesX 1 kX5_timesX (by decide +kernel)
def vtX5_timesX : Nat → Option (Nat × eSp) := fun _ => none
def stX5_timesX : Nat → Option (Nat × eSp) := fun k => match k with
  | 15 => some (1, SX5_degree)
  | _ => none
theorem stX5_timesX_15 : stX5_timesX 15 = some (1, SX5_degree) := rfl
abbrev TX5_timesX : eT := (fl_RX5, cl_RX5, dl_RX5, vtX5_timesX, stX5_timesX)
set_option maxRecDepth 20000 in
theorem caX5_timesX : eCalls RX5 { frames := 1, cells := 0, slots := 0, locals := 20 } TX5_timesX := by
  refine ⟨fun k n sp h => ?_, fun k n sp h => ?_⟩
  · cases h
  · dsimp only [TX5_timesX] at h
    unfold stX5_timesX at h
    split at h
    · cases h; exact eS_mk mX5_degree wX5_degree (by decide +kernel) (Or.inl (gW_at 573 (by decide +kernel) rfl))
    · cases h
set_option maxRecDepth 100000 in
set_option maxHeartbeats 4000000 in
theorem sX5_timesX : eSafe TX5_timesX (cdOf kX5_timesX) 1 (some .int) SX5_timesX := by
  intro K rt hK as M h
  obtain ⟨F, A, W, p, rfl, rfl, hp, h⟩ := h
  refine ⟨by simp [eE], ?_⟩
  simp only [eLoc, eE, List.length_cons, List.length_nil, List.replicate, List.cons_append, List.nil_append, Nat.reduceAdd, Nat.reduceSub]
  refine x_iload_n hK kX5_timesX_0 (q := 1) rfl rfl ?_
  refine x_iload_n hK kX5_timesX_1 (q := 2) rfl rfl ?_
  refine x_cs1 hK kX5_timesX_2 (q := 5) rfl (stX5_timesX_15) (Nat.le_of_ble_eq_true rfl) ?_
  refine SX5_degree_i hp ?_
  refine x_iadd hK kX5_timesX_5 (q := 6) rfl ?_
  refine x_iconst hK kX5_timesX_6 (q := 7) rfl ?_
  refine x_iadd hK kX5_timesX_7 (q := 8) rfl ?_
  refine x_ireturn hK kX5_timesX_8 (by first | trivial | exact Or.inl rfl | exact Or.inr rfl) ?_
  exact h
set_option maxRecDepth 20000 in
theorem mX5_timesX : eMet yX5_timesX cX5_timesX 1 (some .int) 1 20 SX5_timesX := eMet_of (by decide +kernel) sX5_timesX kX5_timesX_ok caX5_timesX tb_RX5
theorem wX5_timesX : eWS yX5_timesX cX5_timesX 1 (some .int) 1 := ⟨(gW_at 572 (by decide +kernel) rfl), (gW_at 94 (by decide +kernel) rfl), (gW_at 571 (by decide +kernel) rfl), by decide +kernel⟩
def SX5_timesY : eSp := fun as M rt => ∃ (F : Nat → Int) (A W : Nat → Int → Int) (p : Int), as = [eI p] ∧ M = cC F A W ∧ (w32 p) ∧ (rt (some (eI (p + oD p + 1))) (cC F A W))
theorem SX5_timesY_i {F : Nat → Int} {A W : Nat → Int → Int} {p : Int} {rt : Option eV → eM → Prop} (hp : w32 p) (h : rt (some (eI (p + oD p + 1))) (cC F A W)) : SX5_timesY [eI p] (cC F A W) rt := ⟨F, A, W, p, rfl, rfl, hp, h⟩
def kX5_timesY : List (Nat × Jvm.ClassFile.Instr × Nat) := [(0, .iload_n 0, 1), (1, .iload_n 0, 1), (2, .invokestatic 15, 3), (5, .iadd, 1), (6, .iconst 1, 1), (7, .iadd, 1), (8, .ireturn, 1)]
theorem kX5_timesY_0 : cdOf kX5_timesY 0 = some (.iload_n 0, 1) := by decide +kernel
theorem kX5_timesY_1 : cdOf kX5_timesY 1 = some (.iload_n 0, 1) := by decide +kernel
theorem kX5_timesY_2 : cdOf kX5_timesY 2 = some (.invokestatic 15, 3) := by decide +kernel
theorem kX5_timesY_5 : cdOf kX5_timesY 5 = some (.iadd, 1) := by decide +kernel
theorem kX5_timesY_6 : cdOf kX5_timesY 6 = some (.iconst 1, 1) := by decide +kernel
theorem kX5_timesY_7 : cdOf kX5_timesY 7 = some (.iadd, 1) := by decide +kernel
theorem kX5_timesY_8 : cdOf kX5_timesY 8 = some (.ireturn, 1) := by decide +kernel
set_option maxRecDepth 20000 in
theorem kX5_timesY_ok : ∀ pc i len, cdOf kX5_timesY pc = some (i, len) → decode cX5_timesY pc = .ok (i, len) ∧ stOK 1 i = true ∧ jOK pc i = true ∧ eLen i len = true := cdOf_ok cX5_timesY 1 kX5_timesY (by decide +kernel)
def vtX5_timesY : Nat → Option (Nat × eSp) := fun _ => none
def stX5_timesY : Nat → Option (Nat × eSp) := fun k => match k with
  | 15 => some (1, SX5_degree)
  | _ => none
theorem stX5_timesY_15 : stX5_timesY 15 = some (1, SX5_degree) := rfl
abbrev TX5_timesY : eT := (fl_RX5, cl_RX5, dl_RX5, vtX5_timesY, stX5_timesY)
set_option maxRecDepth 20000 in
theorem caX5_timesY : eCalls RX5 { frames := 1, cells := 0, slots := 0, locals := 20 } TX5_timesY := by
  refine ⟨fun k n sp h => ?_, fun k n sp h => ?_⟩
  · cases h
  · dsimp only [TX5_timesY] at h
    unfold stX5_timesY at h
    split at h
    · cases h; exact eS_mk mX5_degree wX5_degree (by decide +kernel) (Or.inl (gW_at 573 (by decide +kernel) rfl))
    · cases h
set_option maxRecDepth 100000 in
set_option maxHeartbeats 4000000 in
theorem sX5_timesY : eSafe TX5_timesY (cdOf kX5_timesY) 1 (some .int) SX5_timesY := by
  intro K rt hK as M h
  obtain ⟨F, A, W, p, rfl, rfl, hp, h⟩ := h
  refine ⟨by simp [eE], ?_⟩
  simp only [eLoc, eE, List.length_cons, List.length_nil, List.replicate, List.cons_append, List.nil_append, Nat.reduceAdd, Nat.reduceSub]
  refine x_iload_n hK kX5_timesY_0 (q := 1) rfl rfl ?_
  refine x_iload_n hK kX5_timesY_1 (q := 2) rfl rfl ?_
  refine x_cs1 hK kX5_timesY_2 (q := 5) rfl (stX5_timesY_15) (Nat.le_of_ble_eq_true rfl) ?_
  refine SX5_degree_i hp ?_
  refine x_iadd hK kX5_timesY_5 (q := 6) rfl ?_
  refine x_iconst hK kX5_timesY_6 (q := 7) rfl ?_
  refine x_iadd hK kX5_timesY_7 (q := 8) rfl ?_
  refine x_ireturn hK kX5_timesY_8 (by first | trivial | exact Or.inl rfl | exact Or.inr rfl) ?_
  exact h
set_option maxRecDepth 20000 in
theorem mX5_timesY : eMet yX5_timesY cX5_timesY 1 (some .int) 1 20 SX5_timesY := eMet_of (by decide +kernel) sX5_timesY kX5_timesY_ok caX5_timesY tb_RX5
theorem wX5_timesY : eWS yX5_timesY cX5_timesY 1 (some .int) 1 := ⟨(gW_at 578 (by decide +kernel) rfl), (gW_at 94 (by decide +kernel) rfl), (gW_at 577 (by decide +kernel) rfl), by decide +kernel⟩
def SX5_told : eSp := fun as M rt => ∃ (F : Nat → Int) (A W : Nat → Int → Int) (p : Int), as = [eI p] ∧ M = cC F A W ∧ (w32 p) ∧ (rt (some (eI (oT p))) (cC F A W))
theorem SX5_told_i {F : Nat → Int} {A W : Nat → Int → Int} {p : Int} {rt : Option eV → eM → Prop} (hp : w32 p) (h : rt (some (eI (oT p))) (cC F A W)) : SX5_told [eI p] (cC F A W) rt := ⟨F, A, W, p, rfl, rfl, hp, h⟩
def kX5_told : List (Nat × Jvm.ClassFile.Instr × Nat) := [(0, .bipush 16, 2), (2, .iload_n 0, 1), (3, .invokestatic 18, 3), (6, .imul, 1), (7, .iload_n 0, 1), (8, .invokestatic 21, 3), (11, .iadd, 1), (12, .ireturn, 1)]
theorem kX5_told_0 : cdOf kX5_told 0 = some (.bipush 16, 2) := by decide +kernel
theorem kX5_told_2 : cdOf kX5_told 2 = some (.iload_n 0, 1) := by decide +kernel
theorem kX5_told_3 : cdOf kX5_told 3 = some (.invokestatic 18, 3) := by decide +kernel
theorem kX5_told_6 : cdOf kX5_told 6 = some (.imul, 1) := by decide +kernel
theorem kX5_told_7 : cdOf kX5_told 7 = some (.iload_n 0, 1) := by decide +kernel
theorem kX5_told_8 : cdOf kX5_told 8 = some (.invokestatic 21, 3) := by decide +kernel
theorem kX5_told_11 : cdOf kX5_told 11 = some (.iadd, 1) := by decide +kernel
theorem kX5_told_12 : cdOf kX5_told 12 = some (.ireturn, 1) := by decide +kernel
set_option maxRecDepth 20000 in
theorem kX5_told_ok : ∀ pc i len, cdOf kX5_told pc = some (i, len) → decode cX5_told pc = .ok (i, len) ∧ stOK 1 i = true ∧ jOK pc i = true ∧ eLen i len = true := cdOf_ok cX5_told 1 kX5_told (by decide +kernel)
def vtX5_told : Nat → Option (Nat × eSp) := fun _ => none
def stX5_told : Nat → Option (Nat × eSp) := fun k => match k with
  | 18 => some (1, SX5_powerOfX)
  | 21 => some (1, SX5_powerOfY)
  | _ => none
theorem stX5_told_18 : stX5_told 18 = some (1, SX5_powerOfX) := rfl
theorem stX5_told_21 : stX5_told 21 = some (1, SX5_powerOfY) := rfl
abbrev TX5_told : eT := (fl_RX5, cl_RX5, dl_RX5, vtX5_told, stX5_told)
set_option maxRecDepth 20000 in
theorem caX5_told : eCalls RX5 { frames := 3, cells := 0, slots := 0, locals := 60 } TX5_told := by
  refine ⟨fun k n sp h => ?_, fun k n sp h => ?_⟩
  · cases h
  · dsimp only [TX5_told] at h
    unfold stX5_told at h
    split at h
    · cases h; exact eS_mk mX5_powerOfX wX5_powerOfX (by decide +kernel) (Or.inl (gW_at 752 (by decide +kernel) rfl))
    · cases h; exact eS_mk mX5_powerOfY wX5_powerOfY (by decide +kernel) (Or.inl (gW_at 767 (by decide +kernel) rfl))
    · cases h
set_option maxRecDepth 100000 in
set_option maxHeartbeats 4000000 in
theorem sX5_told : eSafe TX5_told (cdOf kX5_told) 1 (some .int) SX5_told := by
  intro K rt hK as M h
  obtain ⟨F, A, W, p, rfl, rfl, hp, h⟩ := h
  refine ⟨by simp [eE], ?_⟩
  simp only [eLoc, eE, List.length_cons, List.length_nil, List.replicate, List.cons_append, List.nil_append, Nat.reduceAdd, Nat.reduceSub]
  refine x_bipush hK kX5_told_0 (q := 2) rfl (by decide) ?_
  refine x_iload_n hK kX5_told_2 (q := 3) rfl rfl ?_
  refine x_cs1 hK kX5_told_3 (q := 6) rfl (stX5_told_18) (Nat.le_of_ble_eq_true rfl) ?_
  refine SX5_powerOfX_i hp ?_
  refine x_imul hK kX5_told_6 (q := 7) rfl ?_
  refine x_iload_n hK kX5_told_7 (q := 8) rfl rfl ?_
  refine x_cs1 hK kX5_told_8 (q := 11) rfl (stX5_told_21) (Nat.le_of_ble_eq_true rfl) ?_
  refine SX5_powerOfY_i hp ?_
  refine x_iadd hK kX5_told_11 (q := 12) rfl ?_
  refine x_ireturn hK kX5_told_12 (by first | trivial | exact Or.inl rfl | exact Or.inr rfl) ?_
  exact h
set_option maxRecDepth 20000 in
theorem mX5_told : eMet yX5_told cX5_told 1 (some .int) 3 60 SX5_told := eMet_of (by decide +kernel) sX5_told kX5_told_ok caX5_told tb_RX5
theorem wX5_told : eWS yX5_told cX5_told 1 (some .int) 1 := ⟨(gW_at 766 (by decide +kernel) rfl), (gW_at 94 (by decide +kernel) rfl), (gW_at 765 (by decide +kernel) rfl), by decide +kernel⟩
def SX5_place : eSp := fun as M rt => ∃ (F : Nat → Int) (A W : Nat → Int → Int) (a b g : Int), as = [eI a, eI b, eI g] ∧ M = cC F A W ∧ (w32 a) ∧ (w32 b) ∧ (0 ≤ g ∧ g ≤ 3) ∧ (rt (some (eI (oP a b g))) (cC F A W))
theorem SX5_place_i {F : Nat → Int} {A W : Nat → Int → Int} {a b g : Int} {rt : Option eV → eM → Prop} (ha : w32 a) (hb : w32 b) (hg : 0 ≤ g ∧ g ≤ 3) (h : rt (some (eI (oP a b g))) (cC F A W)) : SX5_place [eI a, eI b, eI g] (cC F A W) rt := ⟨F, A, W, a, b, g, rfl, rfl, ha, hb, hg, h⟩
def kX5_place : List (Nat × Jvm.ClassFile.Instr × Nat) := [(0, .iload_n 0, 1), (1, .ifCond .lt 19, 3), (4, .iload_n 1, 1), (5, .ifCond .lt 15, 3), (8, .iload_n 0, 1), (9, .iload_n 2, 1), (10, .if_icmp .gt 10, 3), (13, .iload_n 1, 1), (14, .iload_n 2, 1), (15, .iload_n 0, 1), (16, .isub, 1), (17, .if_icmp .le 5, 3), (20, .iconst (-1), 1), (21, .ireturn, 1), (22, .iload_n 0, 1), (23, .iload_n 1, 1), (24, .iadd, 1), (25, .invokestatic 9, 3), (28, .iload_n 0, 1), (29, .iadd, 1), (30, .ireturn, 1)]
theorem kX5_place_0 : cdOf kX5_place 0 = some (.iload_n 0, 1) := by decide +kernel
theorem kX5_place_1 : cdOf kX5_place 1 = some (.ifCond .lt 19, 3) := by decide +kernel
theorem kX5_place_4 : cdOf kX5_place 4 = some (.iload_n 1, 1) := by decide +kernel
theorem kX5_place_5 : cdOf kX5_place 5 = some (.ifCond .lt 15, 3) := by decide +kernel
theorem kX5_place_8 : cdOf kX5_place 8 = some (.iload_n 0, 1) := by decide +kernel
theorem kX5_place_9 : cdOf kX5_place 9 = some (.iload_n 2, 1) := by decide +kernel
theorem kX5_place_10 : cdOf kX5_place 10 = some (.if_icmp .gt 10, 3) := by decide +kernel
theorem kX5_place_13 : cdOf kX5_place 13 = some (.iload_n 1, 1) := by decide +kernel
theorem kX5_place_14 : cdOf kX5_place 14 = some (.iload_n 2, 1) := by decide +kernel
theorem kX5_place_15 : cdOf kX5_place 15 = some (.iload_n 0, 1) := by decide +kernel
theorem kX5_place_16 : cdOf kX5_place 16 = some (.isub, 1) := by decide +kernel
theorem kX5_place_17 : cdOf kX5_place 17 = some (.if_icmp .le 5, 3) := by decide +kernel
theorem kX5_place_20 : cdOf kX5_place 20 = some (.iconst (-1), 1) := by decide +kernel
theorem kX5_place_21 : cdOf kX5_place 21 = some (.ireturn, 1) := by decide +kernel
theorem kX5_place_22 : cdOf kX5_place 22 = some (.iload_n 0, 1) := by decide +kernel
theorem kX5_place_23 : cdOf kX5_place 23 = some (.iload_n 1, 1) := by decide +kernel
theorem kX5_place_24 : cdOf kX5_place 24 = some (.iadd, 1) := by decide +kernel
theorem kX5_place_25 : cdOf kX5_place 25 = some (.invokestatic 9, 3) := by decide +kernel
theorem kX5_place_28 : cdOf kX5_place 28 = some (.iload_n 0, 1) := by decide +kernel
theorem kX5_place_29 : cdOf kX5_place 29 = some (.iadd, 1) := by decide +kernel
theorem kX5_place_30 : cdOf kX5_place 30 = some (.ireturn, 1) := by decide +kernel
set_option maxRecDepth 20000 in
theorem kX5_place_ok : ∀ pc i len, cdOf kX5_place pc = some (i, len) → decode cX5_place pc = .ok (i, len) ∧ stOK 3 i = true ∧ jOK pc i = true ∧ eLen i len = true := cdOf_ok cX5_place 3 kX5_place (by decide +kernel)
def vtX5_place : Nat → Option (Nat × eSp) := fun _ => none
def stX5_place : Nat → Option (Nat × eSp) := fun k => match k with
  | 9 => some (1, SX5_first)
  | _ => none
theorem stX5_place_9 : stX5_place 9 = some (1, SX5_first) := rfl
abbrev TX5_place : eT := (fl_RX5, cl_RX5, dl_RX5, vtX5_place, stX5_place)
set_option maxRecDepth 20000 in
theorem caX5_place : eCalls RX5 { frames := 1, cells := 0, slots := 0, locals := 20 } TX5_place := by
  refine ⟨fun k n sp h => ?_, fun k n sp h => ?_⟩
  · cases h
  · dsimp only [TX5_place] at h
    unfold stX5_place at h
    split at h
    · cases h; exact eS_mk mX5_first wX5_first (by decide +kernel) (Or.inl (gW_at 659 (by decide +kernel) rfl))
    · cases h
set_option maxRecDepth 100000 in
set_option maxHeartbeats 4000000 in
theorem sX5_place : eSafe TX5_place (cdOf kX5_place) 3 (some .int) SX5_place := by
  intro K rt hK as M h
  obtain ⟨F, A, W, a, b, g, rfl, rfl, ha, hb, hg, h⟩ := h
  refine ⟨by simp [eE], ?_⟩
  unfold oP at h
  simp only [eLoc, eE, List.length_cons, List.length_nil, List.replicate, List.cons_append, List.nil_append, Nat.reduceAdd, Nat.reduceSub]
  refine x_iload_n hK kX5_place_0 (q := 1) rfl rfl ?_
  refine x_if_lt hK kX5_place_1 (q := 4) rfl (tg := 20) rfl (by exact ha) (fun c1 => ?_) (fun c1 => ?_)
  · refine x_iconst hK kX5_place_20 (q := 21) rfl ?_
    refine x_ireturn hK kX5_place_21 (by first | trivial | exact Or.inl rfl | exact Or.inr rfl) ?_
    rw [if_pos (by omega)] at h; exact h
  · refine x_iload_n hK kX5_place_4 (q := 5) rfl rfl ?_
    refine x_if_lt hK kX5_place_5 (q := 8) rfl (tg := 20) rfl (by exact hb) (fun c5 => ?_) (fun c5 => ?_)
    · refine x_iconst hK kX5_place_20 (q := 21) rfl ?_
      refine x_ireturn hK kX5_place_21 (by first | trivial | exact Or.inl rfl | exact Or.inr rfl) ?_
      rw [if_pos (by omega)] at h; exact h
    · refine x_iload_n hK kX5_place_8 (q := 9) rfl rfl ?_
      refine x_iload_n hK kX5_place_9 (q := 10) rfl rfl ?_
      refine x_icmp_gt hK kX5_place_10 (q := 13) rfl (tg := 20) rfl (by refine ⟨ha, by omega, by omega⟩) (fun c10 => ?_) (fun c10 => ?_)
      · refine x_iconst hK kX5_place_20 (q := 21) rfl ?_
        refine x_ireturn hK kX5_place_21 (by first | trivial | exact Or.inl rfl | exact Or.inr rfl) ?_
        rw [if_pos (by omega)] at h; exact h
      · refine x_iload_n hK kX5_place_13 (q := 14) rfl rfl ?_
        refine x_iload_n hK kX5_place_14 (q := 15) rfl rfl ?_
        refine x_iload_n hK kX5_place_15 (q := 16) rfl rfl ?_
        refine x_isub hK kX5_place_16 (q := 17) rfl ?_
        refine x_icmp_le hK kX5_place_17 (q := 20) rfl (tg := 22) rfl (by refine ⟨hb, by omega, by omega⟩) (fun c17 => ?_) (fun c17 => ?_)
        · refine x_iload_n hK kX5_place_22 (q := 23) rfl rfl ?_
          refine x_iload_n hK kX5_place_23 (q := 24) rfl rfl ?_
          refine x_iadd hK kX5_place_24 (q := 25) rfl ?_
          refine x_cs1 hK kX5_place_25 (q := 28) rfl (stX5_place_9) (Nat.le_of_ble_eq_true rfl) ?_
          refine SX5_first_i ⟨by omega, by omega⟩ ?_
          refine x_iload_n hK kX5_place_28 (q := 29) rfl rfl ?_
          refine x_iadd hK kX5_place_29 (q := 30) rfl ?_
          refine x_ireturn hK kX5_place_30 (by first | trivial | exact Or.inl rfl | exact Or.inr rfl) ?_
          rw [if_neg (by omega)] at h; exact h
        · refine x_iconst hK kX5_place_20 (q := 21) rfl ?_
          refine x_ireturn hK kX5_place_21 (by first | trivial | exact Or.inl rfl | exact Or.inr rfl) ?_
          rw [if_pos (by omega)] at h; exact h
set_option maxRecDepth 20000 in
theorem mX5_place : eMet yX5_place cX5_place 3 (some .int) 1 20 SX5_place := eMet_of (by decide +kernel) sX5_place kX5_place_ok caX5_place tb_RX5
theorem wX5_place : eWS yX5_place cX5_place 3 (some .int) 3 := ⟨(gW_at 755 (by decide +kernel) rfl), (gW_at 94 (by decide +kernel) rfl), (gW_at 754 (by decide +kernel) rfl), by decide +kernel⟩
