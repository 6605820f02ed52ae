/-! The ideal: load, lowestToGrow, isLead, loadMultiple, reduce. -/
def uR (R : Nat → Nat → Int) (r : Nat) (v : Nat → Int) : Nat → Nat → Int := fun q => if q = r then v else R q
theorem uR_s (R : Nat → Nat → Int) (r : Nat) (v : Nat → Int) : uR R r v r = v := if_pos rfl
theorem uR_n (R : Nat → Nat → Int) {r q : Nat} (v : Nat → Int) (h : q ≠ r) : uR R r v q = R q := if_neg h
theorem uR_u (R : Nat → Nat → Int) (r : Nat) (v u : Nat → Int) : uR (uR R r v) r u = uR R r u := by
  funext q
  unfold uR
  split <;> rfl
theorem uR_i (R : Nat → Nat → Int) (r : Nat) : uR R r (R r) = R := by
  funext q
  unfold uR
  split
  · rename_i e
    rw [e]
  · rfl
def iR (W : Nat → Int → Int) (R : Nat → Nat → Int) : Prop := (∀ r, r < 11 → ∀ c, c < 10 → wq (lw (rb r + c)) (W (rb r + c)) (R r c)) ∧ ∀ t, t < 10 → dv W t
theorem c32_62 {x : Int} (h : x < cB ^ 32) : x < cB ^ 62 := Int.lt_of_lt_of_le h (cB_mono (by decide))
def iO (W W' : Nat → Int → Int) : Prop := ∀ t, 120 ≤ t → W' t = W t
theorem rb_11 {r : Nat} (h : r < 11) : rb r = 10 + 10 * r ∧ rl r = 10 := by
  unfold rb rl
  rw [if_pos h, if_pos h]
  exact ⟨rfl, rfl⟩
theorem lw_11 {r c : Nat} (hr : r < 11) (hc : c < 10) : lw (rb r + c) = 32 := by
  have := rb_11 hr
  exact lw_n (by omega) (by omega)
theorem iR_lt {W : Nat → Int → Int} {R : Nat → Nat → Int} (h : iR W R) {r c : Nat} (hr : r < 11) (hc : c < 10) : zAbs (R r c) < cB ^ 32 := by
  have := wq_lt (h.1 r hr c hc)
  rw [lw_11 hr hc] at this
  exact this
/-- one row is laid anew -/
theorem iR_u {W W' : Nat → Int → Int} {R : Nat → Nat → Int} {r : Nat} {v : Nat → Int} (h : iR W R) (hr : r < 11) (hf : ∀ t, 10 ≤ t → t < 120 → (t < rb r ∨ rb r + 10 ≤ t) → W' t = W t) (hv : ∀ c, c < 10 → wq (lw (rb r + c)) (W' (rb r + c)) (v c)) (hd : ∀ t, t < 10 → dv W' t) : iR W' (uR R r v) := by
  refine ⟨fun q hq c hc => ?_, hd⟩
  have e1 := rb_11 hr
  have e2 := rb_11 hq
  rcases Decidable.em (q = r) with g | g
  · rw [g, uR_s]; exact hv c hc
  · rw [uR_n R v g, hf _ (by omega) (by omega) (by omega)]
    exact h.1 q hq c hc
theorem iR_c {W : Nat → Int → Int} {R R' : Nat → Nat → Int} (h : iR W R) (e : ∀ r, r < 11 → ∀ c, c < 10 → R' r c = R r c) : iR W R' := ⟨fun r hr c hc => by rw [e r hr c hc]; exact h.1 r hr c hc, h.2⟩
def SX3_isLead : eSp := fun as M rt => ∃ (F : Nat → Int) (A W : Nat → Int → Int) (k : Int), as = [eR (1, 3), eI k] ∧ M = cC F A W ∧ (w32 k) ∧ (∀ i : Int, 0 ≤ i → i < 10 → A 2 i = 0 ∨ A 2 i = 1) ∧ (rt (some (eI (zE (0 ≤ k ∧ k < 10 ∧ A 2 k = 1)))) (cC F A W))
theorem SX3_isLead_i {F : Nat → Int} {A W : Nat → Int → Int} {k : Int} {rt : Option eV → eM → Prop} (hk : w32 k) (hL : ∀ i : Int, 0 ≤ i → i < 10 → A 2 i = 0 ∨ A 2 i = 1) (h : rt (some (eI (zE (0 ≤ k ∧ k < 10 ∧ A 2 k = 1)))) (cC F A W)) : SX3_isLead [eR (1, 3), eI k] (cC F A W) rt := ⟨F, A, W, k, rfl, rfl, hk, hL, h⟩
theorem SX3_isLead_r : ∀ as M rt, SX3_isLead as M rt → ∃ a r fs, as = eR a :: r ∧ M a = some (.inl (3, fs)) := by
  rintro as M rt ⟨F, A, W, k, rfl, rfl, -⟩
  exact ⟨_, _, _, rfl, rfl⟩
def kX3_isLead : List (Nat × Jvm.ClassFile.Instr × Nat) := [(0, .iload_n 1, 1), (1, .ifCond .lt 22, 3), (4, .iload_n 1, 1), (5, .bipush 10, 2), (7, .if_icmp .ge 16, 3), (10, .aload_n 0, 1), (11, .getfield 19, 3), (14, .iload_n 1, 1), (15, .baload, 1), (16, .ifCond .eq 7, 3), (19, .iconst 1, 1), (20, .goto 4, 3), (23, .iconst 0, 1), (24, .ireturn, 1)]
theorem kX3_isLead_0 : cdOf kX3_isLead 0 = some (.iload_n 1, 1) := by decide +kernel
theorem kX3_isLead_1 : cdOf kX3_isLead 1 = some (.ifCond .lt 22, 3) := by decide +kernel
theorem kX3_isLead_4 : cdOf kX3_isLead 4 = some (.iload_n 1, 1) := by decide +kernel
theorem kX3_isLead_5 : cdOf kX3_isLead 5 = some (.bipush 10, 2) := by decide +kernel
theorem kX3_isLead_7 : cdOf kX3_isLead 7 = some (.if_icmp .ge 16, 3) := by decide +kernel
theorem kX3_isLead_10 : cdOf kX3_isLead 10 = some (.aload_n 0, 1) := by decide +kernel
theorem kX3_isLead_11 : cdOf kX3_isLead 11 = some (.getfield 19, 3) := by decide +kernel
theorem kX3_isLead_14 : cdOf kX3_isLead 14 = some (.iload_n 1, 1) := by decide +kernel
theorem kX3_isLead_15 : cdOf kX3_isLead 15 = some (.baload, 1) := by decide +kernel
theorem kX3_isLead_16 : cdOf kX3_isLead 16 = some (.ifCond .eq 7, 3) := by decide +kernel
theorem kX3_isLead_19 : cdOf kX3_isLead 19 = some (.iconst 1, 1) := by decide +kernel
theorem kX3_isLead_20 : cdOf kX3_isLead 20 = some (.goto 4, 3) := by decide +kernel
theorem kX3_isLead_23 : cdOf kX3_isLead 23 = some (.iconst 0, 1) := by decide +kernel
theorem kX3_isLead_24 : cdOf kX3_isLead 24 = some (.ireturn, 1) := by decide +kernel
set_option maxRecDepth 20000 in
theorem kX3_isLead_ok : ∀ pc i len, cdOf kX3_isLead pc = some (i, len) → decode cX3_isLead pc = .ok (i, len) ∧ stOK 2 i = true ∧ jOK pc i = true ∧ eLen i len = true := cdOf_ok cX3_isLead 2 kX3_isLead (by decide +kernel)
def vtX3_isLead : Nat → Option (Nat × eSp) := fun _ => none
def stX3_isLead : Nat → Option (Nat × eSp) := fun _ => none
abbrev TX3_isLead : eT := (fl_RX3, cl_RX3, dl_RX3, vtX3_isLead, stX3_isLead)
set_option maxRecDepth 20000 in
theorem caX3_isLead : eCalls RX3 { frames := 0, cells := 0, slots := 0, locals := 0 } TX3_isLead := by
  refine ⟨fun k n sp h => ?_, fun k n sp h => ?_⟩
  · cases h
  · cases h
set_option maxRecDepth 100000 in
set_option maxHeartbeats 4000000 in
theorem sX3_isLead : eSafe TX3_isLead (cdOf kX3_isLead) 2 (some .boolean) SX3_isLead := by
  intro K rt hK as M h
  obtain ⟨F, A, W, k, rfl, rfl, hk, hL, h⟩ := h
  refine ⟨by simp [eE], ?_⟩
  unfold zE at h
  simp only [eLoc, eE, List.length_cons, List.length_nil, List.replicate, List.cons_append, List.nil_append, Nat.reduceAdd, Nat.reduceSub]
  refine x_iload_n hK kX3_isLead_0 (q := 1) rfl rfl ?_
  refine x_if_lt hK kX3_isLead_1 (q := 4) rfl (tg := 23) rfl (by exact hk) (fun c1 => ?_) (fun c1 => ?_)
  · refine x_iconst hK kX3_isLead_23 (q := 24) rfl ?_
    refine x_ireturn hK kX3_isLead_24 (by first | exact Or.inl rfl | exact Or.inr rfl) ?_
    first | (rw [if_pos ⟨by omega, by omega, by have := hL k (by omega) (by omega); omega⟩] at h; exact h) | (rw [if_neg (by omega)] at h; exact h)
  · refine x_iload_n hK kX3_isLead_4 (q := 5) rfl rfl ?_
    refine x_bipush hK kX3_isLead_5 (q := 7) rfl (by decide) ?_
    refine x_icmp_ge hK kX3_isLead_7 (q := 10) rfl (tg := 23) rfl (by refine ⟨?_, ?_⟩ <;> omega) (fun c7 => ?_) (fun c7 => ?_)
    · refine x_iconst hK kX3_isLead_23 (q := 24) rfl ?_
      refine x_ireturn hK kX3_isLead_24 (by first | exact Or.inl rfl | exact Or.inr rfl) ?_
      first | (rw [if_pos ⟨by omega, by omega, by have := hL k (by omega) (by omega); omega⟩] at h; exact h) | (rw [if_neg (by omega)] at h; exact h)
    · refine x_aload_n hK kX3_isLead_10 (q := 11) rfl rfl ?_
      refine x_getfield hK kX3_isLead_11 (q := 14) rfl (gX3_19 ?_)
      refine x_iload_n hK kX3_isLead_14 (q := 15) rfl rfl ?_
      refine x_baload hK kX3_isLead_15 (q := 16) rfl (aC3_2 (by refine ⟨?_, ?_⟩ <;> omega) ?_)
      refine x_if_eq hK kX3_isLead_16 (q := 19) rfl (tg := 23) rfl (by rcases hL k (by omega) (by omega) with e | e <;> (rw [e]; decide)) (fun c16 => ?_) (fun c16 => ?_)
      · refine x_iconst hK kX3_isLead_23 (q := 24) rfl ?_
        refine x_ireturn hK kX3_isLead_24 (by first | exact Or.inl rfl | exact Or.inr rfl) ?_
        first | (rw [if_pos ⟨by omega, by omega, by have := hL k (by omega) (by omega); omega⟩] at h; exact h) | (rw [if_neg (by omega)] at h; exact h)
      · refine x_iconst hK kX3_isLead_19 (q := 20) rfl ?_
        refine x_goto hK kX3_isLead_20 (tg := 24) rfl ?_
        refine x_ireturn hK kX3_isLead_24 (by first | exact Or.inl rfl | exact Or.inr rfl) ?_
        first | (rw [if_pos ⟨by omega, by omega, by have := hL k (by omega) (by omega); omega⟩] at h; exact h) | (rw [if_neg (by omega)] at h; exact h)
set_option maxRecDepth 20000 in
theorem mX3_isLead : eMet yX3_isLead cX3_isLead 2 (some .boolean) 0 0 SX3_isLead := eMet_of (by decide +kernel) sX3_isLead kX3_isLead_ok caX3_isLead tb_RX3
theorem wX3_isLead : eWV yX3_isLead cX3_isLead 2 (some .boolean) 2 3 SX3_isLead := ⟨(gW_at 582 (by decide +kernel) rfl), (gW_at 84 (by decide +kernel) rfl), (gW_at 580 (by decide +kernel) rfl), ⟨_, rfl, (gW_at 581 (by decide +kernel) rfl)⟩, by decide +kernel, SX3_isLead_r⟩
/-- the lowest lead that has not grown -/
def lg (L G : Int → Int) (k : Int) : Prop := (k = -1 ∧ ∀ i : Int, 0 ≤ i → i < 6 → ¬ (L i = 1 ∧ G i = 0)) ∨ (0 ≤ k ∧ k < 6 ∧ L k = 1 ∧ G k = 0 ∧ ∀ i : Int, 0 ≤ i → i < k → ¬ (L i = 1 ∧ G i = 0))
def SX3_lowestToGrow : eSp := fun as M rt => ∃ (F : Nat → Int) (A W : Nat → Int → Int), as = [eR (1, 3)] ∧ M = cC F A W ∧ (∀ i : Int, 0 ≤ i → i < 10 → A 2 i = 0 ∨ A 2 i = 1) ∧ (∀ i : Int, 0 ≤ i → i < 6 → A 3 i = 0 ∨ A 3 i = 1) ∧ (∀ k, lg (A 2) (A 3) k → rt (some (eI k)) (cC F A W))
theorem SX3_lowestToGrow_i {F : Nat → Int} {A W : Nat → Int → Int} {rt : Option eV → eM → Prop} (hL : ∀ i : Int, 0 ≤ i → i < 10 → A 2 i = 0 ∨ A 2 i = 1) (hG : ∀ i : Int, 0 ≤ i → i < 6 → A 3 i = 0 ∨ A 3 i = 1) (h : ∀ k, lg (A 2) (A 3) k → rt (some (eI k)) (cC F A W)) : SX3_lowestToGrow [eR (1, 3)] (cC F A W) rt := ⟨F, A, W, rfl, rfl, hL, hG, h⟩
theorem SX3_lowestToGrow_r : ∀ as M rt, SX3_lowestToGrow as M rt → ∃ a r fs, as = eR a :: r ∧ M a = some (.inl (3, fs)) := by
  rintro as M rt ⟨F, A, W, rfl, rfl, -⟩
  exact ⟨_, _, _, rfl, rfl⟩
def kX3_lowestToGrow : List (Nat × Jvm.ClassFile.Instr × Nat) := [(0, .iconst 0, 1), (1, .istore_n 1, 1), (2, .iload_n 1, 1), (3, .bipush 6, 2), (5, .if_icmp .ge 29, 3), (8, .aload_n 0, 1), (9, .getfield 19, 3), (12, .iload_n 1, 1), (13, .baload, 1), (14, .ifCond .eq 14, 3), (17, .aload_n 0, 1), (18, .getfield 23, 3), (21, .iload_n 1, 1), (22, .baload, 1), (23, .ifCond .ne 5, 3), (26, .iload_n 1, 1), (27, .ireturn, 1), (28, .iinc 1 1, 3), (31, .goto (-29), 3), (34, .iconst (-1), 1), (35, .ireturn, 1)]
theorem kX3_lowestToGrow_0 : cdOf kX3_lowestToGrow 0 = some (.iconst 0, 1) := by decide +kernel
theorem kX3_lowestToGrow_1 : cdOf kX3_lowestToGrow 1 = some (.istore_n 1, 1) := by decide +kernel
theorem kX3_lowestToGrow_2 : cdOf kX3_lowestToGrow 2 = some (.iload_n 1, 1) := by decide +kernel
theorem kX3_lowestToGrow_3 : cdOf kX3_lowestToGrow 3 = some (.bipush 6, 2) := by decide +kernel
theorem kX3_lowestToGrow_5 : cdOf kX3_lowestToGrow 5 = some (.if_icmp .ge 29, 3) := by decide +kernel
theorem kX3_lowestToGrow_8 : cdOf kX3_lowestToGrow 8 = some (.aload_n 0, 1) := by decide +kernel
theorem kX3_lowestToGrow_9 : cdOf kX3_lowestToGrow 9 = some (.getfield 19, 3) := by decide +kernel
theorem kX3_lowestToGrow_12 : cdOf kX3_lowestToGrow 12 = some (.iload_n 1, 1) := by decide +kernel
theorem kX3_lowestToGrow_13 : cdOf kX3_lowestToGrow 13 = some (.baload, 1) := by decide +kernel
theorem kX3_lowestToGrow_14 : cdOf kX3_lowestToGrow 14 = some (.ifCond .eq 14, 3) := by decide +kernel
theorem kX3_lowestToGrow_17 : cdOf kX3_lowestToGrow 17 = some (.aload_n 0, 1) := by decide +kernel
theorem kX3_lowestToGrow_18 : cdOf kX3_lowestToGrow 18 = some (.getfield 23, 3) := by decide +kernel
theorem kX3_lowestToGrow_21 : cdOf kX3_lowestToGrow 21 = some (.iload_n 1, 1) := by decide +kernel
theorem kX3_lowestToGrow_22 : cdOf kX3_lowestToGrow 22 = some (.baload, 1) := by decide +kernel
theorem kX3_lowestToGrow_23 : cdOf kX3_lowestToGrow 23 = some (.ifCond .ne 5, 3) := by decide +kernel
theorem kX3_lowestToGrow_26 : cdOf kX3_lowestToGrow 26 = some (.iload_n 1, 1) := by decide +kernel
theorem kX3_lowestToGrow_27 : cdOf kX3_lowestToGrow 27 = some (.ireturn, 1) := by decide +kernel
theorem kX3_lowestToGrow_28 : cdOf kX3_lowestToGrow 28 = some (.iinc 1 1, 3) := by decide +kernel
theorem kX3_lowestToGrow_31 : cdOf kX3_lowestToGrow 31 = some (.goto (-29), 3) := by decide +kernel
theorem kX3_lowestToGrow_34 : cdOf kX3_lowestToGrow 34 = some (.iconst (-1), 1) := by decide +kernel
theorem kX3_lowestToGrow_35 : cdOf kX3_lowestToGrow 35 = some (.ireturn, 1) := by decide +kernel
set_option maxRecDepth 20000 in
theorem kX3_lowestToGrow_ok : ∀ pc i len, cdOf kX3_lowestToGrow pc = some (i, len) → decode cX3_lowestToGrow pc = .ok (i, len) ∧ stOK 2 i = true ∧ jOK pc i = true ∧ eLen i len = true := cdOf_ok cX3_lowestToGrow 2 kX3_lowestToGrow (by decide +kernel)
def vtX3_lowestToGrow : Nat → Option (Nat × eSp) := fun _ => none
def stX3_lowestToGrow : Nat → Option (Nat × eSp) := fun _ => none
abbrev TX3_lowestToGrow : eT := (fl_RX3, cl_RX3, dl_RX3, vtX3_lowestToGrow, stX3_lowestToGrow)
set_option maxRecDepth 20000 in
theorem caX3_lowestToGrow : eCalls RX3 { frames := 0, cells := 0, slots := 0, locals := 0 } TX3_lowestToGrow := by
  refine ⟨fun k n sp h => ?_, fun k n sp h => ?_⟩
  · cases h
  · cases h
set_option maxRecDepth 100000 in
set_option maxHeartbeats 4000000 in
theorem sX3_lowestToGrow : eSafe TX3_lowestToGrow (cdOf kX3_lowestToGrow) 2 (some .int) SX3_lowestToGrow := by
  intro K rt hK as M h
  obtain ⟨F, A, W, rfl, rfl, hL, hG, h⟩ := h
  refine ⟨by simp [eE], ?_⟩
  have loop : ∀ (d i : Nat), i + d = 6 → (∀ t : Int, 0 ≤ t → t < i → ¬ (A 2 t = 1 ∧ A 3 t = 0)) → K 2 [some (eR (1, 3)), some (eI i)] [] (cC F A W) := by
    intro d
    induction d with
    | zero =>
      intro i hi hv
      have : i = 6 := by omega
      subst this
      refine x_iload_n hK kX3_lowestToGrow_2 (q := 3) rfl rfl ?_
      refine x_bipush hK kX3_lowestToGrow_3 (q := 5) rfl (by decide) ?_
      refine x_icmp_ge hK kX3_lowestToGrow_5 (q := 8) rfl (tg := 34) rfl (by refine ⟨?_, ?_⟩ <;> omega) (fun c5 => ?_) (fun c5 => ?_)
      · refine x_iconst hK kX3_lowestToGrow_34 (q := 35) rfl ?_
        refine x_ireturn hK kX3_lowestToGrow_35 (by first | trivial | exact Or.inl rfl | exact Or.inr rfl) ?_
        exact h (-1) (Or.inl ⟨rfl, hv⟩)
      · exfalso; omega
    | succ d ih =>
      intro i hi hv
      have w2 := hL i (by omega) (by omega)
      have w3 := hG i (by omega) (by omega)
      refine x_iload_n hK kX3_lowestToGrow_2 (q := 3) rfl rfl ?_
      refine x_bipush hK kX3_lowestToGrow_3 (q := 5) rfl (by decide) ?_
      refine x_icmp_ge hK kX3_lowestToGrow_5 (q := 8) rfl (tg := 34) rfl (by refine ⟨?_, ?_⟩ <;> omega) (fun c5 => ?_) (fun c5 => ?_)
      · exfalso; omega
      · refine x_aload_n hK kX3_lowestToGrow_8 (q := 9) rfl rfl ?_
        refine x_getfield hK kX3_lowestToGrow_9 (q := 12) rfl (gX3_19 ?_)
        refine x_iload_n hK kX3_lowestToGrow_12 (q := 13) rfl rfl ?_
        refine x_baload hK kX3_lowestToGrow_13 (q := 14) rfl (aC3_2 (by refine ⟨?_, ?_⟩ <;> omega) ?_)
        refine x_if_eq hK kX3_lowestToGrow_14 (q := 17) rfl (tg := 28) rfl (by rcases w2 with e | e <;> (rw [e]; decide)) (fun c14 => ?_) (fun c14 => ?_)
        · refine x_iinc hK kX3_lowestToGrow_28 (q := 31) rfl rfl ?_
          simp only [lS, lS2, clr_0, clr_I, clr_L, clr_R]
          refine x_goto hK kX3_lowestToGrow_31 (tg := 2) rfl ?_
          rw [show (i : Int) + 1 = ((i + 1 : Nat) : Int) by omega]
          refine ih (i + 1) (by omega) (fun t t0 t1 => ?_)
          rcases Decidable.em (t = i) with q | q
          · rw [q]; omega
          · exact hv t t0 (by omega)
        · refine x_aload_n hK kX3_lowestToGrow_17 (q := 18) rfl rfl ?_
          refine x_getfield hK kX3_lowestToGrow_18 (q := 21) rfl (gX3_23 ?_)
          refine x_iload_n hK kX3_lowestToGrow_21 (q := 22) rfl rfl ?_
          refine x_baload hK kX3_lowestToGrow_22 (q := 23) rfl (aC3_3 (by refine ⟨?_, ?_⟩ <;> omega) ?_)
          refine x_if_ne hK kX3_lowestToGrow_23 (q := 26) rfl (tg := 28) rfl (by rcases w3 with e | e <;> (rw [e]; decide)) (fun c23 => ?_) (fun c23 => ?_)
          · refine x_iinc hK kX3_lowestToGrow_28 (q := 31) rfl rfl ?_
            simp only [lS, lS2, clr_0, clr_I, clr_L, clr_R]
            refine x_goto hK kX3_lowestToGrow_31 (tg := 2) rfl ?_
            rw [show (i : Int) + 1 = ((i + 1 : Nat) : Int) by omega]
            refine ih (i + 1) (by omega) (fun t t0 t1 => ?_)
            rcases Decidable.em (t = i) with q | q
            · rw [q]; omega
            · exact hv t t0 (by omega)
          · refine x_iload_n hK kX3_lowestToGrow_26 (q := 27) rfl rfl ?_
            refine x_ireturn hK kX3_lowestToGrow_27 (by first | trivial | exact Or.inl rfl | exact Or.inr rfl) ?_
            exact h i (Or.inr ⟨by omega, by omega, by omega, by omega, hv⟩)
  simp only [eLoc, eE, List.length_cons, List.length_nil, List.replicate, List.cons_append, List.nil_append, Nat.reduceAdd, Nat.reduceSub]
  refine x_iconst hK kX3_lowestToGrow_0 (q := 1) rfl ?_
  refine x_istore_n hK kX3_lowestToGrow_1 (q := 2) (jn := 1) rfl rfl ?_
  simp only [lS, lS2, clr_0, clr_I, clr_L, clr_R]
  exact loop 6 0 rfl (fun t t0 t1 => by omega)
set_option maxRecDepth 20000 in
theorem mX3_lowestToGrow : eMet yX3_lowestToGrow cX3_lowestToGrow 2 (some .int) 0 0 SX3_lowestToGrow := eMet_of (by decide +kernel) sX3_lowestToGrow kX3_lowestToGrow_ok caX3_lowestToGrow tb_RX3
theorem wX3_lowestToGrow : eWV yX3_lowestToGrow cX3_lowestToGrow 2 (some .int) 1 3 SX3_lowestToGrow := ⟨(gW_at 565 (by decide +kernel) rfl), (gW_at 84 (by decide +kernel) rfl), (gW_at 564 (by decide +kernel) rfl), ⟨_, rfl, (gW_at 15 (by decide +kernel) rfl)⟩, by decide +kernel, SX3_lowestToGrow_r⟩
def ldr (f : Int → Int) (k : Nat) : Nat → Int := fun c => if c < 6 then f (6 * (k : Int) + c) else 0
def SX3_load : eSp := fun as M rt => ∃ (F : Nat → Int) (A W : Nat → Int → Int) (p k : Nat) (R : Nat → Nat → Int), as = [eR (1, 3), eR (1, p), eI k] ∧ M = cC F A W ∧ (p < 2) ∧ (k < 5) ∧ (iR W R) ∧ (∀ i : Int, 0 ≤ i → i < 30 → w32 (A p i)) ∧ (∀ W', iO W W' → iR W' (uR R 10 (ldr (A p) k)) → rt none (cC F A W'))
theorem SX3_load_i {F : Nat → Int} {A W : Nat → Int → Int} {p k : Nat} {R : Nat → Nat → Int} {rt : Option eV → eM → Prop} (hp : p < 2) (hk : k < 5) (hR : iR W R) (hA : ∀ i : Int, 0 ≤ i → i < 30 → w32 (A p i)) (h : ∀ W', iO W W' → iR W' (uR R 10 (ldr (A p) k)) → rt none (cC F A W')) : SX3_load [eR (1, 3), eR (1, p), eI k] (cC F A W) rt := ⟨F, A, W, p, k, R, rfl, rfl, hp, hk, hR, hA, h⟩
theorem SX3_load_r : ∀ as M rt, SX3_load as M rt → ∃ a r fs, as = eR a :: r ∧ M a = some (.inl (3, fs)) := by
  rintro as M rt ⟨F, A, W, p, k, R, rfl, rfl, -⟩
  exact ⟨_, _, _, rfl, rfl⟩
def kX3_load : List (Nat × Jvm.ClassFile.Instr × Nat) := [(0, .aload_n 0, 1), (1, .getfield 29, 3), (4, .invokevirtual 71, 3), (7, .iconst 0, 1), (8, .istore_n 3, 1), (9, .iload_n 3, 1), (10, .bipush 6, 2), (12, .if_icmp .ge 28, 3), (15, .aload_n 0, 1), (16, .getfield 29, 3), (19, .getfield 74, 3), (22, .iload_n 3, 1), (23, .aaload, 1), (24, .aload_n 1, 1), (25, .iload_n 2, 1), (26, .iload_n 3, 1), (27, .invokevirtual 78, 3), (30, .i2l, 1), (31, .invokevirtual 82, 3), (34, .iinc 3 1, 3), (37, .goto (-28), 3), (40, .return_, 1)]
theorem kX3_load_0 : cdOf kX3_load 0 = some (.aload_n 0, 1) := by decide +kernel
theorem kX3_load_1 : cdOf kX3_load 1 = some (.getfield 29, 3) := by decide +kernel
theorem kX3_load_4 : cdOf kX3_load 4 = some (.invokevirtual 71, 3) := by decide +kernel
theorem kX3_load_7 : cdOf kX3_load 7 = some (.iconst 0, 1) := by decide +kernel
theorem kX3_load_8 : cdOf kX3_load 8 = some (.istore_n 3, 1) := by decide +kernel
theorem kX3_load_9 : cdOf kX3_load 9 = some (.iload_n 3, 1) := by decide +kernel
theorem kX3_load_10 : cdOf kX3_load 10 = some (.bipush 6, 2) := by decide +kernel
theorem kX3_load_12 : cdOf kX3_load 12 = some (.if_icmp .ge 28, 3) := by decide +kernel
theorem kX3_load_15 : cdOf kX3_load 15 = some (.aload_n 0, 1) := by decide +kernel
theorem kX3_load_16 : cdOf kX3_load 16 = some (.getfield 29, 3) := by decide +kernel
theorem kX3_load_19 : cdOf kX3_load 19 = some (.getfield 74, 3) := by decide +kernel
theorem kX3_load_22 : cdOf kX3_load 22 = some (.iload_n 3, 1) := by decide +kernel
theorem kX3_load_23 : cdOf kX3_load 23 = some (.aaload, 1) := by decide +kernel
theorem kX3_load_24 : cdOf kX3_load 24 = some (.aload_n 1, 1) := by decide +kernel
theorem kX3_load_25 : cdOf kX3_load 25 = some (.iload_n 2, 1) := by decide +kernel
theorem kX3_load_26 : cdOf kX3_load 26 = some (.iload_n 3, 1) := by decide +kernel
theorem kX3_load_27 : cdOf kX3_load 27 = some (.invokevirtual 78, 3) := by decide +kernel
theorem kX3_load_30 : cdOf kX3_load 30 = some (.i2l, 1) := by decide +kernel
theorem kX3_load_31 : cdOf kX3_load 31 = some (.invokevirtual 82, 3) := by decide +kernel
theorem kX3_load_34 : cdOf kX3_load 34 = some (.iinc 3 1, 3) := by decide +kernel
theorem kX3_load_37 : cdOf kX3_load 37 = some (.goto (-28), 3) := by decide +kernel
theorem kX3_load_40 : cdOf kX3_load 40 = some (.return_, 1) := by decide +kernel
set_option maxRecDepth 20000 in
theorem kX3_load_ok : ∀ pc i len, cdOf kX3_load pc = some (i, len) → decode cX3_load pc = .ok (i, len) ∧ stOK 4 i = true ∧ jOK pc i = true ∧ eLen i len = true := cdOf_ok cX3_load 4 kX3_load (by decide +kernel)
def vtX3_load : Nat → Option (Nat × eSp) := fun k => match k with
  | 71 => some (1, SX7_wipe)
  | 78 => some (3, SX6_read)
  | 82 => some (2, SX8_set)
  | _ => none
theorem vtX3_load_71 : vtX3_load 71 = some (1, SX7_wipe) := rfl
theorem vtX3_load_78 : vtX3_load 78 = some (3, SX6_read) := rfl
theorem vtX3_load_82 : vtX3_load 82 = some (2, SX8_set) := rfl
def stX3_load : Nat → Option (Nat × eSp) := fun _ => none
abbrev TX3_load : eT := (fl_RX3, cl_RX3, dl_RX3, vtX3_load, stX3_load)
set_option maxRecDepth 20000 in
theorem caX3_load : eCalls RX3 { frames := 2, cells := 0, slots := 0, locals := 48 } TX3_load := by
  refine ⟨fun k n sp h => ?_, fun k n sp h => ?_⟩
  · dsimp only [TX3_load] at h
    unfold vtX3_load at h
    split at h
    · cases h; exact eV_mk mX7_wipe wX7_wipe (by decide +kernel) (Or.inl (gW_at 420 (by decide +kernel) rfl))
    · cases h; exact eV_mk mX6_read wX6_read (by decide +kernel) (Or.inl (gW_at 425 (by decide +kernel) rfl))
    · cases h; exact eV_mk mX8_set wX8_set (by decide +kernel) (Or.inl (gW_at 426 (by decide +kernel) rfl))
    · cases h
  · cases h
set_option maxRecDepth 100000 in
set_option maxHeartbeats 4000000 in
theorem sX3_load : eSafe TX3_load (cdOf kX3_load) 4 none SX3_load := by
  intro K rt hK as M h
  obtain ⟨F, A, W, p, k, R, rfl, rfl, hp, hk, hR, hA, h⟩ := h
  refine ⟨by simp [eE], ?_⟩
  have e10 : rb 10 = 110 ∧ rl 10 = 10 := rb_11 (by decide)
  have loop : ∀ (d i : Nat) (W1 : Nat → Int → Int), i + d = 6 → iO W W1 → iR W1 (uR R 10 (fun c => if c < i then A p (6 * (k : Int) + c) else 0)) → K 9 [some (eR (1, 3)), some (eR (1, p)), some (eI k), some (eI i)] [] (cC F A W1) := by
    intro d
    induction d with
    | zero =>
      intro i W1 hi ho hr
      have : i = 6 := by omega
      subst this
      refine x_iload_n hK kX3_load_9 (q := 10) rfl rfl ?_
      refine x_bipush hK kX3_load_10 (q := 12) rfl (by decide) ?_
      refine x_icmp_ge hK kX3_load_12 (q := 15) rfl (tg := 40) rfl (by refine ⟨?_, ?_⟩ <;> omega) (fun c12 => ?_) (fun c12 => ?_)
      · refine x_return_ hK kX3_load_40 (by first | trivial | exact Or.inl rfl | exact Or.inr rfl) ?_
        exact h W1 ho hr
      · exfalso; omega
    | succ d ih =>
      intro i W1 hi ho hr
      have e : pr (A p) k i = A p (6 * (k : Int) + i) := by unfold pr; rw [if_pos ⟨by omega, by omega, by omega, by omega⟩]
      have wA := hA (6 * (k : Int) + i) (by omega) (by omega)
      refine x_iload_n hK kX3_load_9 (q := 10) rfl rfl ?_
      refine x_bipush hK kX3_load_10 (q := 12) rfl (by decide) ?_
      refine x_icmp_ge hK kX3_load_12 (q := 15) rfl (tg := 40) rfl (by refine ⟨?_, ?_⟩ <;> omega) (fun c12 => ?_) (fun c12 => ?_)
      · exfalso; omega
      · refine x_aload_n hK kX3_load_15 (q := 16) rfl rfl ?_
        refine x_getfield hK kX3_load_16 (q := 19) rfl (gX3_29 ?_)
        refine x_getfield hK kX3_load_19 (q := 22) rfl (gX3_74 ?_)
        refine x_iload_n hK kX3_load_22 (q := 23) rfl rfl ?_
        refine x_aaload hK kX3_load_23 (q := 24) rfl (wa_a wa_6 (by rw [e10.2]; omega) ?_)
        refine x_aload_n hK kX3_load_24 (q := 25) rfl rfl ?_
        refine x_iload_n hK kX3_load_25 (q := 26) rfl rfl ?_
        refine x_iload_n hK kX3_load_26 (q := 27) rfl rfl ?_
        refine x_cv3 hK kX3_load_27 (q := 30) rfl (vtX3_load_78) (Nat.le_of_ble_eq_true rfl) ?_
        refine SX6_read_i hp ⟨by omega, by omega⟩ ⟨by omega, by omega⟩ ?_
        rw [e]
        refine x_i2l hK kX3_load_30 (q := 31) rfl (by exact wA) ?_
        refine x_cv2 hK kX3_load_31 (q := 34) rfl (vtX3_load_82) (Nat.le_of_ble_eq_true rfl) ?_
        refine SX8_set_i (by omega) ⟨by have := wA.1; omega, by have := wA.2; omega⟩ (fun f hf => ?_)
        refine x_iinc hK kX3_load_34 (q := 37) rfl rfl ?_
        simp only [lS, lS2, clr_0, clr_I, clr_L, clr_R]
        refine x_goto hK kX3_load_37 (tg := 9) rfl ?_
        rw [show (i : Int) + 1 = ((i + 1 : Nat) : Int) by omega]
        refine ih (i + 1) _ (by omega) (fun t ht => by rw [uA_n _ _ (by omega)]; exact ho t ht) ?_
        have q := iR_u (W' := uA W1 (rb 10 + i) f) (v := fun c => if c < i + 1 then A p (6 * (k : Int) + c) else 0) hr (show 10 < 11 by decide) (fun t t0 _ t1 => uA_n _ _ (by omega)) (fun c hc => by
          rcases Decidable.em (c = i) with g | g
          · rw [g, uA_g, if_pos (by omega)]; exact hf
          · rw [uA_n _ _ (by omega)]
            have := hr.1 10 (by decide) c hc
            rw [uR_s] at this
            rcases Nat.lt_or_ge c i with g2 | g2
            · rw [if_pos (by omega)]; rw [if_pos g2] at this; exact this
            · rw [if_neg (by omega)]; rw [if_neg (by omega)] at this; exact this) (fun t ht => dv_n (hr.2 t ht) (uA_n _ _ (by omega)))
        rw [uR_u] at q
        exact q
  simp only [eLoc, eE, List.length_cons, List.length_nil, List.replicate, List.cons_append, List.nil_append, Nat.reduceAdd, Nat.reduceSub]
  refine x_aload_n hK kX3_load_0 (q := 1) rfl rfl ?_
  refine x_getfield hK kX3_load_1 (q := 4) rfl (gX3_29 ?_)
  refine x_cv1 hK kX3_load_4 (q := 7) rfl (vtX3_load_71) (Nat.le_of_ble_eq_true rfl) ?_
  refine SX7_wipe_i (by decide) (fun W1 f1 g1 => ?_)
  refine x_iconst hK kX3_load_7 (q := 8) rfl ?_
  refine x_istore_n hK kX3_load_8 (q := 9) (jn := 3) rfl rfl ?_
  simp only [lS, lS2, clr_0, clr_I, clr_L, clr_R]
  refine loop 6 0 W1 rfl (fun t ht => f1 t (by omega)) ?_
  exact iR_u hR (show 10 < 11 by decide) (fun t _ _ t1 => f1 t (by omega)) (fun c hc => by rw [if_neg (by omega)]; exact g1 c (by omega)) (fun t ht => dv_n (hR.2 t ht) (f1 t (by omega)))
set_option maxRecDepth 20000 in
theorem mX3_load : eMet yX3_load cX3_load 4 none 2 48 SX3_load := eMet_of (by decide +kernel) sX3_load kX3_load_ok caX3_load tb_RX3
theorem wX3_load : eWV yX3_load cX3_load 4 none 3 3 SX3_load := ⟨(gW_at 419 (by decide +kernel) rfl), (gW_at 84 (by decide +kernel) rfl), (gW_at 418 (by decide +kernel) rfl), ⟨_, rfl, (gW_at 2 (by decide +kernel) rfl)⟩, by decide +kernel, SX3_load_r⟩
