/-! Laying, copying, comparing. -/
theorem uA_g (A : Nat → Int → Int) (k : Nat) (f : Int → Int) : uA A k f k = f := by unfold uA; exact if_pos rfl
theorem uA_n (A : Nat → Int → Int) {k j : Nat} (f : Int → Int) (h : j ≠ k) : uA A k f j = A j := by unfold uA; exact if_neg h
theorem uA_u (A : Nat → Int → Int) (k : Nat) (f g : Int → Int) : uA (uA A k f) k g = uA A k g := by funext j; unfold uA; split <;> rfl
theorem uA_s (A : Nat → Int → Int) (k : Nat) : uA A k (A k) = A := by
  funext j
  unfold uA
  split
  · rename_i h
    rw [h]
  · rfl
theorem uI_s (f : Int → Int) (i z : Int) : uI f i z i = z := by unfold uI; exact if_pos rfl
theorem uI_n (f : Int → Int) {i j : Int} (z : Int) (h : j ≠ i) : uI f i z j = f j := by unfold uI; exact if_neg h
/-- nothing but p's block differs -/
def oB (f g : Int → Int) (p : Int) : Prop := ∀ j, (j < p * 601 ∨ p * 601 + 600 < j) → g j = f j
-- set(p, v)
def SX10_set : eSp := fun as M rt => ∃ (F : Nat → Int) (A : Nat → Int → Int) (p v : Int), as = [eRR, eI p, eL v] ∧ M = cR F A ∧ (0 ≤ p ∧ p < 2666) ∧ (-9223372036854775808 < v ∧ v < 9223372036854775808) ∧ ∀ f, oB (A 0) f p → nm f p v → rt none (cR F (uA A 0 f))
theorem SX10_set_i {F : Nat → Int} {A : Nat → Int → Int} {p v : Int} {rt : Option eV → eM → Prop} (h0 : 0 ≤ p ∧ p < 2666) (h1 : -9223372036854775808 < v ∧ v < 9223372036854775808) (h : ∀ f, oB (A 0) f p → nm f p v → rt none (cR F (uA A 0 f))) : SX10_set [eRR, eI p, eL v] (cR F A) rt := ⟨F, A, p, v, rfl, rfl, h0, h1, h⟩
theorem SX10_set_r : ∀ as M rt, SX10_set as M rt → ∃ a r fs, as = eR a :: r ∧ M a = some (.inl (9, fs)) := by
  rintro as M rt ⟨F, A, p, v, rfl, rfl, -⟩
  exact ⟨_, _, _, rfl, rfl⟩
def kX10_set : List (Nat × Jvm.ClassFile.Instr × Nat) := [(0, .iload_n 1, 1), (1, .invokestatic 64, 3), (4, .istore 4, 2), (6, .lload_n 2, 1), (7, .lconst 0, 1), (8, .lcmp, 1), (9, .ifCond .ge 8, 3), (12, .lload_n 2, 1), (13, .lneg, 1), (14, .goto 4, 3), (17, .lload_n 2, 1), (18, .lstore 5, 2), (20, .iconst 0, 1), (21, .istore 7, 2), (23, .lload 5, 2), (25, .lconst 0, 1), (26, .lcmp, 1), (27, .ifCond .le 33, 3), (30, .iinc 7 1, 3), (33, .aload_n 0, 1), (34, .getfield 12, 3), (37, .iload 4, 2), (39, .iload 7, 2), (41, .iadd, 1), (42, .lload 5, 2), (44, .ldc2_w 73, 3), (47, .land, 1), (48, .l2i, 1), (49, .iastore, 1), (50, .lload 5, 2), (52, .bipush 28, 2), (54, .lshr, 1), (55, .lstore 5, 2), (57, .goto (-34), 3), (60, .aload_n 0, 1), (61, .getfield 12, 3), (64, .iload 4, 2), (66, .lload_n 2, 1), (67, .lconst 0, 1), (68, .lcmp, 1), (69, .ifCond .ge 9, 3), (72, .iload 7, 2), (74, .ineg, 1), (75, .goto 5, 3), (78, .iload 7, 2), (80, .iastore, 1), (81, .return_, 1)]
theorem kX10_set_0 : cdOf kX10_set 0 = some (.iload_n 1, 1) := by decide +kernel
theorem kX10_set_1 : cdOf kX10_set 1 = some (.invokestatic 64, 3) := by decide +kernel
theorem kX10_set_4 : cdOf kX10_set 4 = some (.istore 4, 2) := by decide +kernel
theorem kX10_set_6 : cdOf kX10_set 6 = some (.lload_n 2, 1) := by decide +kernel
theorem kX10_set_7 : cdOf kX10_set 7 = some (.lconst 0, 1) := by decide +kernel
theorem kX10_set_8 : cdOf kX10_set 8 = some (.lcmp, 1) := by decide +kernel
theorem kX10_set_9 : cdOf kX10_set 9 = some (.ifCond .ge 8, 3) := by decide +kernel
theorem kX10_set_12 : cdOf kX10_set 12 = some (.lload_n 2, 1) := by decide +kernel
theorem kX10_set_13 : cdOf kX10_set 13 = some (.lneg, 1) := by decide +kernel
theorem kX10_set_14 : cdOf kX10_set 14 = some (.goto 4, 3) := by decide +kernel
theorem kX10_set_17 : cdOf kX10_set 17 = some (.lload_n 2, 1) := by decide +kernel
theorem kX10_set_18 : cdOf kX10_set 18 = some (.lstore 5, 2) := by decide +kernel
theorem kX10_set_20 : cdOf kX10_set 20 = some (.iconst 0, 1) := by decide +kernel
theorem kX10_set_21 : cdOf kX10_set 21 = some (.istore 7, 2) := by decide +kernel
theorem kX10_set_23 : cdOf kX10_set 23 = some (.lload 5, 2) := by decide +kernel
theorem kX10_set_25 : cdOf kX10_set 25 = some (.lconst 0, 1) := by decide +kernel
theorem kX10_set_26 : cdOf kX10_set 26 = some (.lcmp, 1) := by decide +kernel
theorem kX10_set_27 : cdOf kX10_set 27 = some (.ifCond .le 33, 3) := by decide +kernel
theorem kX10_set_30 : cdOf kX10_set 30 = some (.iinc 7 1, 3) := by decide +kernel
theorem kX10_set_33 : cdOf kX10_set 33 = some (.aload_n 0, 1) := by decide +kernel
theorem kX10_set_34 : cdOf kX10_set 34 = some (.getfield 12, 3) := by decide +kernel
theorem kX10_set_37 : cdOf kX10_set 37 = some (.iload 4, 2) := by decide +kernel
theorem kX10_set_39 : cdOf kX10_set 39 = some (.iload 7, 2) := by decide +kernel
theorem kX10_set_41 : cdOf kX10_set 41 = some (.iadd, 1) := by decide +kernel
theorem kX10_set_42 : cdOf kX10_set 42 = some (.lload 5, 2) := by decide +kernel
theorem kX10_set_44 : cdOf kX10_set 44 = some (.ldc2_w 73, 3) := by decide +kernel
theorem kX10_set_47 : cdOf kX10_set 47 = some (.land, 1) := by decide +kernel
theorem kX10_set_48 : cdOf kX10_set 48 = some (.l2i, 1) := by decide +kernel
theorem kX10_set_49 : cdOf kX10_set 49 = some (.iastore, 1) := by decide +kernel
theorem kX10_set_50 : cdOf kX10_set 50 = some (.lload 5, 2) := by decide +kernel
theorem kX10_set_52 : cdOf kX10_set 52 = some (.bipush 28, 2) := by decide +kernel
theorem kX10_set_54 : cdOf kX10_set 54 = some (.lshr, 1) := by decide +kernel
theorem kX10_set_55 : cdOf kX10_set 55 = some (.lstore 5, 2) := by decide +kernel
theorem kX10_set_57 : cdOf kX10_set 57 = some (.goto (-34), 3) := by decide +kernel
theorem kX10_set_60 : cdOf kX10_set 60 = some (.aload_n 0, 1) := by decide +kernel
theorem kX10_set_61 : cdOf kX10_set 61 = some (.getfield 12, 3) := by decide +kernel
theorem kX10_set_64 : cdOf kX10_set 64 = some (.iload 4, 2) := by decide +kernel
theorem kX10_set_66 : cdOf kX10_set 66 = some (.lload_n 2, 1) := by decide +kernel
theorem kX10_set_67 : cdOf kX10_set 67 = some (.lconst 0, 1) := by decide +kernel
theorem kX10_set_68 : cdOf kX10_set 68 = some (.lcmp, 1) := by decide +kernel
theorem kX10_set_69 : cdOf kX10_set 69 = some (.ifCond .ge 9, 3) := by decide +kernel
theorem kX10_set_72 : cdOf kX10_set 72 = some (.iload 7, 2) := by decide +kernel
theorem kX10_set_74 : cdOf kX10_set 74 = some (.ineg, 1) := by decide +kernel
theorem kX10_set_75 : cdOf kX10_set 75 = some (.goto 5, 3) := by decide +kernel
theorem kX10_set_78 : cdOf kX10_set 78 = some (.iload 7, 2) := by decide +kernel
theorem kX10_set_80 : cdOf kX10_set 80 = some (.iastore, 1) := by decide +kernel
theorem kX10_set_81 : cdOf kX10_set 81 = some (.return_, 1) := by decide +kernel
set_option maxRecDepth 20000 in
theorem kX10_set_ok : ∀ pc i len, cdOf kX10_set pc = some (i, len) → decode cX10_set pc = .ok (i, len) ∧ stOK 8 i = true ∧ jOK pc i = true ∧ eLen i len = true := cdOf_ok cX10_set 8 kX10_set (by decide +kernel)
def vtX10_set : Nat → Option (Nat × eSp) := fun _ => none
def stX10_set : Nat → Option (Nat × eSp) := fun k => match k with
  | 64 => some (1, SX10_at)
  | _ => none
theorem stX10_set_64 : stX10_set 64 = some (1, SX10_at) := rfl
abbrev TX10_set : eT := (fl_RX10, cl_RX10, dl_RX10, vtX10_set, stX10_set)
set_option maxRecDepth 20000 in
theorem caX10_set : eCalls RX10 { frames := 1, cells := 0, slots := 0, locals := 20 } TX10_set := by
  refine ⟨fun k n sp h => ?_, fun k n sp h => ?_⟩
  · cases h
  · dsimp only [TX10_set] at h
    unfold stX10_set at h
    split at h
    · cases h; exact eS_mk mX10_at wX10_at (by decide +kernel) (Or.inl (gW_at 1070 (by decide +kernel) rfl))
    · cases h
set_option maxRecDepth 100000 in
set_option maxHeartbeats 4000000 in
theorem sX10_set : eSafe TX10_set (cdOf kX10_set) 8 none SX10_set := by
  intro K rt hK as M h
  obtain ⟨F, A, p, v, rfl, rfl, h0, h1, h⟩ := h
  refine ⟨by simp [eE], ?_⟩
  have hv : 0 ≤ zAbs v ∧ zAbs v < 9223372036854775808 := by unfold zAbs; split <;> omega
  have fin : ∀ (n : Nat) (f : Int → Int), n ≤ 3 → oB (A 0) f p → lr f (p * 601 + 1) n → zAbs v = vl f (p * 601 + 1) n → (0 < n → f (p * 601 + n) ≠ 0) →
      K 60 [some eRR, some (eI p), some (eL v), none, some (eI (p * 601)), some (eL 0), none, some (eI n)] [] (cR F (uA A 0 f)) := by
    intro n f hn ho hr hz ht
    have htk : tk f (p * 601 + 1) n = n := tk_eq (fun q => by
      have e : p * 601 + 1 + (n : Int) - 1 = p * 601 + n := by omega
      rw [e]; exact ht q)
    have mk : ∀ s, s = 1 ∨ s = -1 → nm (uI f (p * 601) (s * n)) p (s * vl f (p * 601 + 1) n) := fun s hs => by
      have := nm_mk (n := n) (by omega) hr (by rw [htk]; omega) hs
      rw [htk] at this; exact this
    have ob : ∀ z, oB (A 0) (uI f (p * 601) z) p := fun z j hj => by rw [uI_n _ _ (by omega)]; exact ho j hj
    refine x_aload_n hK kX10_set_60 (q := 61) rfl rfl ?_
    refine x_getfield hK kX10_set_61 (q := 64) rfl (gX10_12 ?_)
    refine x_iload hK kX10_set_64 (q := 66) rfl rfl ?_
    refine x_lload_n hK kX10_set_66 (q := 67) rfl rfl ?_
    refine x_lconst0 hK kX10_set_67 (q := 68) rfl ?_
    refine x_lcmp hK kX10_set_68 (q := 69) rfl (by refine ⟨?_, ?_⟩ <;> omega) ?_
    refine x_ifc_ge hK kX10_set_69 (q := 72) rfl (tg := 78) rfl (fun c69 => ?_) (fun c69 => ?_)
    · have hv2 : v = vl f (p * 601 + 1) n := by unfold zAbs at hz; rw [if_neg (by omega)] at hz; exact hz
      have m1 := mk 1 (Or.inl rfl)
      rw [Int.one_mul, Int.one_mul, ← hv2] at m1
      refine x_iload hK kX10_set_78 (q := 80) rfl rfl ?_
      refine x_iastore hK kX10_set_80 (q := 81) rfl (yX10_A0 (by refine ⟨?_, ?_⟩ <;> omega) ?_)
      refine x_return_ hK kX10_set_81 (by first | trivial | exact Or.inl rfl | exact Or.inr rfl) ?_
      rw [uA_g, uA_u]
      exact h _ (ob _) m1
    · have hv2 : v = -vl f (p * 601 + 1) n := by unfold zAbs at hz; rw [if_pos (by omega)] at hz; omega
      have m1 := mk (-1) (Or.inr rfl)
      have e1 : -1 * (n : Int) = -(n : Int) := by omega
      have e2 : -1 * vl f (p * 601 + 1) n = v := by omega
      rw [e1, e2] at m1
      refine x_iload hK kX10_set_72 (q := 74) rfl rfl ?_
      refine x_ineg hK kX10_set_74 (q := 75) rfl ?_
      refine x_goto hK kX10_set_75 (tg := 80) rfl ?_
      refine x_iastore hK kX10_set_80 (q := 81) rfl (yX10_A0 (by refine ⟨?_, ?_⟩ <;> omega) ?_)
      refine x_return_ hK kX10_set_81 (by first | trivial | exact Or.inl rfl | exact Or.inr rfl) ?_
      rw [uA_g, uA_u]
      exact h _ (ob _) m1
  have loop : ∀ (d n : Nat) (f : Int → Int) (left : Int), n + d = 3 → oB (A 0) f p → lr f (p * 601 + 1) n → 0 ≤ left → zAbs v = vl f (p * 601 + 1) n + left * bB ^ n → (0 < n → left = 0 → f (p * 601 + n) ≠ 0) →
      K 23 [some eRR, some (eI p), some (eL v), none, some (eI (p * 601)), some (eL left), none, some (eI n)] [] (cR F (uA A 0 f)) := by
    intro d
    induction d with
    | zero =>
      intro n f left hn ho hr hl hz ht
      have hn3 : n = 3 := by omega
      subst hn3
      have h5 := vl_nn hr
      have hl0 : left = 0 := by
        have e3 : bB ^ 3 = 19342813113834066795298816 := by decide
        rw [e3] at hz
        omega
      subst hl0
      refine x_lload hK kX10_set_23 (q := 25) rfl rfl ?_
      refine x_lconst0 hK kX10_set_25 (q := 26) rfl ?_
      refine x_lcmp hK kX10_set_26 (q := 27) rfl (by refine ⟨?_, ?_⟩ <;> omega) ?_
      refine x_ifc_le hK kX10_set_27 (q := 30) rfl (tg := 60) rfl (fun c27 => ?_) (fun c27 => ?_)
      · exact fin 3 f (by omega) ho hr (by simpa using hz) (fun q => ht q rfl)
      · exact absurd c27 (by omega)
    | succ d ih =>
      intro n f left hn ho hr hl hz ht
      have h5 := vl_nn hr
      have hb : left < 9223372036854775808 := by
        have h6 := bB_pos n
        have h7 : left * 1 ≤ left * bB ^ n := Int.mul_le_mul_of_nonneg_left (by omega) hl
        omega
      refine x_lload hK kX10_set_23 (q := 25) rfl rfl ?_
      refine x_lconst0 hK kX10_set_25 (q := 26) rfl ?_
      refine x_lcmp hK kX10_set_26 (q := 27) rfl (by refine ⟨?_, ?_⟩ <;> omega) ?_
      refine x_ifc_le hK kX10_set_27 (q := 30) rfl (tg := 60) rfl (fun c27 => ?_) (fun c27 => ?_)
      · have hl0 : left = 0 := by omega
        subst hl0
        exact fin n f (by omega) ho hr (by simpa using hz) (fun q => ht q rfl)
      · refine x_iinc hK kX10_set_30 (q := 33) rfl rfl ?_
        refine x_aload_n hK kX10_set_33 (q := 34) rfl rfl ?_
        refine x_getfield hK kX10_set_34 (q := 37) rfl (gX10_12 ?_)
        refine x_iload hK kX10_set_37 (q := 39) rfl rfl ?_
        refine x_iload hK kX10_set_39 (q := 41) rfl rfl ?_
        refine x_iadd hK kX10_set_41 (q := 42) rfl ?_
        refine x_lload hK kX10_set_42 (q := 44) rfl rfl ?_
        refine x_ldc2_w hK kX10_set_44 (q := 47) rfl lc2_RX10_73 ?_
        refine x_land hK kX10_set_47 (q := 48) rfl ?_
        refine x_l2i hK kX10_set_48 (q := 49) rfl ?_
        simp only [lS, lS2, clr_0, clr_I, clr_L, clr_R]
        rw [zAndL_m left 268435455 28 (by decide) (by decide)]
        refine x_iastore hK kX10_set_49 (q := 50) rfl (yX10_A0 (by refine ⟨?_, ?_⟩ <;> omega) ?_)
        refine x_lload hK kX10_set_50 (q := 52) rfl rfl ?_
        refine x_bipush hK kX10_set_52 (q := 54) rfl (by decide) ?_
        refine x_lshr hK kX10_set_54 (q := 55) rfl ?_
        rw [show (28 : Int) = ((28 : Nat) : Int) from rfl, zShrL_n left (by omega) 28 (by decide)]
        refine x_lstore hK kX10_set_55 (q := 57) rfl ?_
        simp only [lS, lS2, clr_0, clr_I, clr_L, clr_R]
        refine x_goto hK kX10_set_57 (tg := 23) rfl ?_
        have e0 : (2 : Int) ^ 28 = 268435456 := by decide
        rw [e0]
        have e1 : p * 601 + ((n : Int) + 1) = p * 601 + 1 + n := by omega
        refine x_to (ih (n + 1) (uI f (p * 601 + 1 + n) (left % 268435456)) (left / 268435456) (by omega) ?_ ?_ (by omega) ?_ ?_) rfl rfl ?_
        · intro j hj
          rw [uI_n _ _ (by omega)]; exact ho j hj
        · intro k hk
          rcases Nat.lt_or_ge k n with h8 | h8
          · rw [uI_n _ _ (by omega)]; exact hr k h8
          · have : k = n := by omega
            subst this
            rw [uI_s]
            show 0 ≤ left % 268435456 ∧ left % 268435456 < 268435456
            omega
        · have e2 : vl (uI f (p * 601 + 1 + n) (left % 268435456)) (p * 601 + 1) n = vl f (p * 601 + 1) n := vl_cong (fun k hk => uI_n _ _ (by omega))
          rw [vl, e2, uI_s, bB_succ, hz]
          have e3 : left = left / 268435456 * 268435456 + left % 268435456 := by omega
          have e4 : left * bB ^ n = left / 268435456 * (bB ^ n * bB) + left % 268435456 * bB ^ n := by
            rw [Int.mul_comm (bB ^ n) bB, ← Int.mul_assoc, ← Int.add_mul]
            congr 1
          omega
        · intro _ hz0
          have e5 : p * 601 + ((n + 1 : Nat) : Int) = p * 601 + 1 + n := by omega
          rw [e5, uI_s]
          omega
        · rw [uA_g, uA_u, e1]
  have go : ∀ left, left = zAbs v → K 18 [some eRR, some (eI p), some (eL v), none, some (eI (p * 601)), none, none, none] [eL left] (cR F A) := by
    intro left hl
    refine x_lstore hK kX10_set_18 (q := 20) rfl ?_
    refine x_iconst hK kX10_set_20 (q := 21) rfl ?_
    refine x_istore hK kX10_set_21 (q := 23) rfl ?_
    simp only [lS, lS2, clr_0, clr_I, clr_L, clr_R]
    refine x_to (loop 3 0 (A 0) left rfl (fun _ _ => rfl) (fun k hk => absurd hk (by omega)) (by omega) ?_ (fun q => absurd q (by omega))) rfl rfl (by rw [uA_s])
    rw [hl]; simp [vl]
  simp only [eLoc, eE, List.length_cons, List.length_nil, List.replicate, List.cons_append, List.nil_append, Nat.reduceAdd, Nat.reduceSub]
  refine x_iload_n hK kX10_set_0 (q := 1) rfl rfl ?_
  refine x_cs1 hK kX10_set_1 (q := 4) rfl (stX10_set_64) (Nat.le_of_ble_eq_true rfl) ?_
  refine SX10_at_i ?_
  refine x_istore hK kX10_set_4 (q := 6) rfl ?_
  refine x_lload_n hK kX10_set_6 (q := 7) rfl rfl ?_
  refine x_lconst0 hK kX10_set_7 (q := 8) rfl ?_
  refine x_lcmp hK kX10_set_8 (q := 9) rfl (by refine ⟨?_, ?_⟩ <;> omega) ?_
  simp only [lS, lS2, clr_0, clr_I, clr_L, clr_R]
  refine x_ifc_ge hK kX10_set_9 (q := 12) rfl (tg := 17) rfl (fun c9 => ?_) (fun c9 => ?_)
  · refine x_lload_n hK kX10_set_17 (q := 18) rfl rfl ?_
    refine go _ ?_
    unfold zAbs
    first | (rw [if_neg (by omega)]; done) | (rw [if_pos (by omega)]; done)
  · refine x_lload_n hK kX10_set_12 (q := 13) rfl rfl ?_
    refine x_lneg hK kX10_set_13 (q := 14) rfl ?_
    refine x_goto hK kX10_set_14 (tg := 18) rfl ?_
    refine go _ ?_
    unfold zAbs
    first | (rw [if_neg (by omega)]; done) | (rw [if_pos (by omega)]; done)
set_option maxRecDepth 20000 in
theorem mX10_set : eMet yX10_set cX10_set 8 none 1 20 SX10_set := eMet_of (by decide +kernel) sX10_set kX10_set_ok caX10_set tb_RX10
theorem wX10_set : eWV yX10_set cX10_set 8 none 3 9 SX10_set := ⟨(gW_at 1076 (by decide +kernel) rfl), (gW_at 89 (by decide +kernel) rfl), (gW_at 1075 (by decide +kernel) rfl), ⟨_, rfl, (gW_at 39 (by decide +kernel) rfl)⟩, by decide +kernel, SX10_set_r⟩
