/-! Rows for the two long rows a1, b1 (fields 2 and 3), by their number t. -/
theorem aX10_P {F : Nat → Int} {A : Nat → Int → Int} {i : Int} {f : eV → Prop} {t : Nat} (ht : t = 2 ∨ t = 3) (h : 0 ≤ i ∧ i < 602) (k : f (eI (A t i))) : gA (cR F A) (1, t) 0 i f := by
  rcases ht with rfl | rfl
  · exact aX10_A2 h k
  · exact aX10_A3 h k
theorem yX10_P {F : Nat → Int} {A : Nat → Int → Int} {i z : Int} {f : eM → Prop} {t : Nat} (ht : t = 2 ∨ t = 3) (h : 0 ≤ i ∧ i < 602) (k : f (cR F (uA A t (uI (A t) i z)))) : pY (cR F A) (1, t) 0 i (eI z) f := by
  rcases ht with rfl | rfl
  · exact yX10_A2 h k
  · exact yX10_A3 h k
/-- the number in a long row: not below 0 -/
def rw_ (g : Int → Int) (z : Int) : Prop := ∃ n : Nat, n ≤ 600 ∧ g 0 = n ∧ lr g 1 n ∧ (0 < n → g n ≠ 0) ∧ z = vl g 1 n
-- lift(a, p)
def SX10_lift : eSp := fun as M rt => ∃ (F : Nat → Int) (A : Nat → Int → Int) (t : Nat) (p z : Int), as = [eRR, eR (1, t), eI p] ∧ M = cR F A ∧ (t = 2 ∨ t = 3) ∧ (0 ≤ p ∧ p < 2666) ∧ nm (A 0) p z ∧ ∀ g, rw_ g (zAbs z) → rt none (cR F (uA A t g))
theorem SX10_lift_i {F : Nat → Int} {A : Nat → Int → Int} {t : Nat} {p : Int} {rt : Option eV → eM → Prop} (z : Int) (ht : t = 2 ∨ t = 3) (h0 : 0 ≤ p ∧ p < 2666) (h2 : nm (A 0) p z) (h : ∀ g, rw_ g (zAbs z) → rt none (cR F (uA A t g))) : SX10_lift [eRR, eR (1, t), eI p] (cR F A) rt := ⟨F, A, t, p, z, rfl, rfl, ht, h0, h2, h⟩
theorem SX10_lift_r : ∀ as M rt, SX10_lift as M rt → ∃ a r fs, as = eR a :: r ∧ M a = some (.inl (9, fs)) := by
  rintro as M rt ⟨F, A, t, p, z, rfl, rfl, -⟩
  exact ⟨_, _, _, rfl, rfl⟩
def kX10_lift : List (Nat × Jvm.ClassFile.Instr × Nat) := [(0, .aload_n 0, 1), (1, .iload_n 2, 1), (2, .invokevirtual 75, 3), (5, .istore_n 3, 1), (6, .aload_n 1, 1), (7, .iconst 0, 1), (8, .iload_n 3, 1), (9, .iastore, 1), (10, .iconst 1, 1), (11, .istore 4, 2), (13, .iload 4, 2), (15, .iload_n 3, 1), (16, .if_icmp .gt 25, 3), (19, .aload_n 1, 1), (20, .iload 4, 2), (22, .aload_n 0, 1), (23, .getfield 12, 3), (26, .iload_n 2, 1), (27, .invokestatic 64, 3), (30, .iload 4, 2), (32, .iadd, 1), (33, .iaload, 1), (34, .iastore, 1), (35, .iinc 4 1, 3), (38, .goto (-25), 3), (41, .return_, 1)]
theorem kX10_lift_0 : cdOf kX10_lift 0 = some (.aload_n 0, 1) := by decide +kernel
theorem kX10_lift_1 : cdOf kX10_lift 1 = some (.iload_n 2, 1) := by decide +kernel
theorem kX10_lift_2 : cdOf kX10_lift 2 = some (.invokevirtual 75, 3) := by decide +kernel
theorem kX10_lift_5 : cdOf kX10_lift 5 = some (.istore_n 3, 1) := by decide +kernel
theorem kX10_lift_6 : cdOf kX10_lift 6 = some (.aload_n 1, 1) := by decide +kernel
theorem kX10_lift_7 : cdOf kX10_lift 7 = some (.iconst 0, 1) := by decide +kernel
theorem kX10_lift_8 : cdOf kX10_lift 8 = some (.iload_n 3, 1) := by decide +kernel
theorem kX10_lift_9 : cdOf kX10_lift 9 = some (.iastore, 1) := by decide +kernel
theorem kX10_lift_10 : cdOf kX10_lift 10 = some (.iconst 1, 1) := by decide +kernel
theorem kX10_lift_11 : cdOf kX10_lift 11 = some (.istore 4, 2) := by decide +kernel
theorem kX10_lift_13 : cdOf kX10_lift 13 = some (.iload 4, 2) := by decide +kernel
theorem kX10_lift_15 : cdOf kX10_lift 15 = some (.iload_n 3, 1) := by decide +kernel
theorem kX10_lift_16 : cdOf kX10_lift 16 = some (.if_icmp .gt 25, 3) := by decide +kernel
theorem kX10_lift_19 : cdOf kX10_lift 19 = some (.aload_n 1, 1) := by decide +kernel
theorem kX10_lift_20 : cdOf kX10_lift 20 = some (.iload 4, 2) := by decide +kernel
theorem kX10_lift_22 : cdOf kX10_lift 22 = some (.aload_n 0, 1) := by decide +kernel
theorem kX10_lift_23 : cdOf kX10_lift 23 = some (.getfield 12, 3) := by decide +kernel
theorem kX10_lift_26 : cdOf kX10_lift 26 = some (.iload_n 2, 1) := by decide +kernel
theorem kX10_lift_27 : cdOf kX10_lift 27 = some (.invokestatic 64, 3) := by decide +kernel
theorem kX10_lift_30 : cdOf kX10_lift 30 = some (.iload 4, 2) := by decide +kernel
theorem kX10_lift_32 : cdOf kX10_lift 32 = some (.iadd, 1) := by decide +kernel
theorem kX10_lift_33 : cdOf kX10_lift 33 = some (.iaload, 1) := by decide +kernel
theorem kX10_lift_34 : cdOf kX10_lift 34 = some (.iastore, 1) := by decide +kernel
theorem kX10_lift_35 : cdOf kX10_lift 35 = some (.iinc 4 1, 3) := by decide +kernel
theorem kX10_lift_38 : cdOf kX10_lift 38 = some (.goto (-25), 3) := by decide +kernel
theorem kX10_lift_41 : cdOf kX10_lift 41 = some (.return_, 1) := by decide +kernel
set_option maxRecDepth 20000 in
theorem kX10_lift_ok : ∀ pc i len, cdOf kX10_lift pc = some (i, len) → decode cX10_lift pc = .ok (i, len) ∧ stOK 5 i = true ∧ jOK pc i = true ∧ eLen i len = true := cdOf_ok cX10_lift 5 kX10_lift (by decide +kernel)
def vtX10_lift : Nat → Option (Nat × eSp) := fun k => match k with
  | 75 => some (2, SX10_length)
  | _ => none
theorem vtX10_lift_75 : vtX10_lift 75 = some (2, SX10_length) := rfl
def stX10_lift : Nat → Option (Nat × eSp) := fun k => match k with
  | 64 => some (1, SX10_at)
  | _ => none
theorem stX10_lift_64 : stX10_lift 64 = some (1, SX10_at) := rfl
abbrev TX10_lift : eT := (fl_RX10, cl_RX10, dl_RX10, vtX10_lift, stX10_lift)
set_option maxRecDepth 20000 in
theorem caX10_lift : eCalls RX10 { frames := 2, cells := 0, slots := 0, locals := 42 } TX10_lift := by
  refine ⟨fun k n sp h => ?_, fun k n sp h => ?_⟩
  · dsimp only [TX10_lift] at h
    unfold vtX10_lift at h
    split at h
    · cases h; exact eV_mk mX10_length wX10_length (by decide +kernel) (Or.inl (gW_at 1101 (by decide +kernel) rfl))
    · cases h
  · dsimp only [TX10_lift] at h
    unfold stX10_lift at h
    split at h
    · cases h; exact eS_mk mX10_at wX10_at (by decide +kernel) (Or.inl (gW_at 1070 (by decide +kernel) rfl))
    · cases h
set_option maxRecDepth 100000 in
set_option maxHeartbeats 4000000 in
theorem sX10_lift : eSafe TX10_lift (cdOf kX10_lift) 5 none SX10_lift := by
  intro K rt hK as M h
  obtain ⟨F, A, t, p, z, rfl, rfl, ht, h0, h2, h⟩ := h
  have hw := nm_w h2
  obtain ⟨n, hn, hr, htop, hln, hav, -⟩ := nm_h h2
  refine ⟨by simp [eE], ?_⟩
  have hA : ∀ g, (uA A t g) 0 = A 0 := fun g => uA_n _ _ (by rcases ht with rfl | rfl <;> decide)
  have loop : ∀ (d k : Nat) (g : Int → Int), k + d = n + 1 → 1 ≤ k → g 0 = n → (∀ j : Nat, 1 ≤ j → j < k → g j = A 0 (p * 601 + j)) → K 13 [some eRR, some (eR (1, t)), some (eI p), some (eI n), some (eI k)] [] (cR F (uA A t g)) := by
    intro d
    induction d with
    | zero =>
      intro k g hk h1 hg he
      refine x_iload hK kX10_lift_13 (q := 15) rfl rfl ?_
      refine x_iload_n hK kX10_lift_15 (q := 16) rfl rfl ?_
      refine x_icmp_gt hK kX10_lift_16 (q := 19) rfl (tg := 41) rfl (by refine ⟨?_, ?_⟩ <;> omega) (fun c16 => ?_) (fun c16 => ?_)
      · refine x_return_ hK kX10_lift_41 (by first | trivial | exact Or.inl rfl | exact Or.inr rfl) ?_
        refine h g ⟨n, hn, hg, ?_, ?_, ?_⟩
        · refine lr_cong hr (fun j hj => ?_)
          have := he (j + 1) (by omega) (by omega)
          have e1 : ((j + 1 : Nat) : Int) = 1 + (j : Int) := by omega
          rw [e1] at this
          rw [this]
          congr 1
          omega
        · intro q
          have := he n (by omega) (by omega)
          rw [this]
          exact htop q
        · rw [hav]
          refine (vl_cong (fun j hj => ?_)).symm
          have := he (j + 1) (by omega) (by omega)
          have e1 : ((j + 1 : Nat) : Int) = 1 + (j : Int) := by omega
          rw [e1] at this
          rw [this]
          congr 1
          omega
      · exact absurd c16 (by omega)
    | succ d ih =>
      intro k g hk h1 hg he
      refine x_iload hK kX10_lift_13 (q := 15) rfl rfl ?_
      refine x_iload_n hK kX10_lift_15 (q := 16) rfl rfl ?_
      refine x_icmp_gt hK kX10_lift_16 (q := 19) rfl (tg := 41) rfl (by refine ⟨?_, ?_⟩ <;> omega) (fun c16 => ?_) (fun c16 => ?_)
      · exact absurd c16 (by omega)
      · refine x_aload_n hK kX10_lift_19 (q := 20) rfl rfl ?_
        refine x_iload hK kX10_lift_20 (q := 22) rfl rfl ?_
        refine x_aload_n hK kX10_lift_22 (q := 23) rfl rfl ?_
        refine x_getfield hK kX10_lift_23 (q := 26) rfl (gX10_12 ?_)
        refine x_iload_n hK kX10_lift_26 (q := 27) rfl rfl ?_
        refine x_cs1 hK kX10_lift_27 (q := 30) rfl (stX10_lift_64) (Nat.le_of_ble_eq_true rfl) ?_
        refine SX10_at_i ?_
        refine x_iload hK kX10_lift_30 (q := 32) rfl rfl ?_
        refine x_iadd hK kX10_lift_32 (q := 33) rfl ?_
        refine x_iaload hK kX10_lift_33 (q := 34) rfl (aX10_A0 (by refine ⟨?_, ?_⟩ <;> omega) ?_)
        refine x_iastore hK kX10_lift_34 (q := 35) rfl (yX10_P ht (by refine ⟨?_, ?_⟩ <;> omega) ?_)
        refine x_iinc hK kX10_lift_35 (q := 38) rfl rfl ?_
        simp only [lS, lS2, clr_0, clr_I, clr_L, clr_R]
        refine x_goto hK kX10_lift_38 (tg := 13) rfl ?_
        rw [hA, uA_g, uA_u]
        refine ih (k + 1) _ (by omega) (by omega) ?_ (fun j a b => ?_)
        · rw [uI_n _ _ (by omega)]; exact hg
        · rcases Nat.lt_or_ge j k with q | q
          · rw [uI_n _ _ (by omega)]; exact he j a q
          · have : j = k := by omega
            subst this
            rw [uI_s]
  simp only [eLoc, eE, List.length_cons, List.length_nil, List.replicate, List.cons_append, List.nil_append, Nat.reduceAdd, Nat.reduceSub]
  refine x_aload_n hK kX10_lift_0 (q := 1) rfl rfl ?_
  refine x_iload_n hK kX10_lift_1 (q := 2) rfl rfl ?_
  refine x_cv2 hK kX10_lift_2 (q := 5) rfl (vtX10_lift_75) (Nat.le_of_ble_eq_true rfl) ?_
  refine SX10_length_i (by omega) hw ?_
  rw [hln]
  refine x_istore_n hK kX10_lift_5 (q := 6) (jn := 3) rfl rfl ?_
  refine x_aload_n hK kX10_lift_6 (q := 7) rfl rfl ?_
  refine x_iconst hK kX10_lift_7 (q := 8) rfl ?_
  refine x_iload_n hK kX10_lift_8 (q := 9) rfl rfl ?_
  refine x_iastore hK kX10_lift_9 (q := 10) rfl (yX10_P ht (by refine ⟨?_, ?_⟩ <;> omega) ?_)
  refine x_iconst hK kX10_lift_10 (q := 11) rfl ?_
  refine x_istore hK kX10_lift_11 (q := 13) rfl ?_
  simp only [lS, lS2, clr_0, clr_I, clr_L, clr_R]
  exact loop n 1 _ (by omega) (by omega) (by rw [uI_s]) (fun j a b => absurd a (by omega))
set_option maxRecDepth 20000 in
theorem mX10_lift : eMet yX10_lift cX10_lift 5 none 2 42 SX10_lift := eMet_of (by decide +kernel) sX10_lift kX10_lift_ok caX10_lift tb_RX10
theorem wX10_lift : eWV yX10_lift cX10_lift 5 none 3 9 SX10_lift := ⟨(gW_at 1100 (by decide +kernel) rfl), (gW_at 89 (by decide +kernel) rfl), (gW_at 1099 (by decide +kernel) rfl), ⟨_, rfl, (gW_at 44 (by decide +kernel) rfl)⟩, by decide +kernel, SX10_lift_r⟩
