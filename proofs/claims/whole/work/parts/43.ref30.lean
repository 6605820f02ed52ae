/-! askMember, gather. -/
def aK (hs : Int → Int) (q s : Int → Int) (n : Nat) : Int → Int := dA hs n n (lW s q 0 6)
def SX10_askMember : eSp := fun as M rt => ∃ (F : Nat → Int) (A : Nat → Int → Int) (s : Int → Int) (n : Nat), as = [eRR] ∧ M = cR F A ∧ rn (A 0) s ∧ F 14 = n ∧ n ≤ 45 ∧ (∀ k, A 15 k = 0 ∨ A 15 k = 1) ∧ (∀ k : Nat, k < 6 → w32 (A 5 k)) ∧ dP (A 15) n n (lW s (A 5) 0 6) ∧ ∀ A', sN A A' → rn (A' 0) (aK (A 15) (A 5) s n) → rt none (cR (uF F 22 (if tF (aK (A 15) (A 5) s n) 2025 n < 0 then 1 else 0)) A')
theorem SX10_askMember_i {F : Nat → Int} {A : Nat → Int → Int} {s : Int → Int} {n : Nat} {rt : Option eV → eM → Prop} (hr : rn (A 0) s) (h0 : F 14 = n) (h1 : n ≤ 45) (h2 : ∀ k, A 15 k = 0 ∨ A 15 k = 1) (h3 : ∀ k : Nat, k < 6 → w32 (A 5 k)) (h4 : dP (A 15) n n (lW s (A 5) 0 6)) (h : ∀ A', sN A A' → rn (A' 0) (aK (A 15) (A 5) s n) → rt none (cR (uF F 22 (if tF (aK (A 15) (A 5) s n) 2025 n < 0 then 1 else 0)) A')) : SX10_askMember [eRR] (cR F A) rt := ⟨F, A, s, n, rfl, rfl, hr, h0, h1, h2, h3, h4, h⟩
theorem SX10_askMember_r : ∀ as M rt, SX10_askMember as M rt → ∃ a r fs, as = eR a :: r ∧ M a = some (.inl (9, fs)) := by
  rintro as M rt ⟨F, A, s, n, rfl, rfl, -⟩
  exact ⟨_, _, _, rfl, rfl⟩
def kX10_askMember : List (Nat × Jvm.ClassFile.Instr × Nat) := [(0, .aload_n 0, 1), (1, .invokevirtual 182, 3), (4, .iconst 0, 1), (5, .istore_n 1, 1), (6, .iload_n 1, 1), (7, .bipush 6, 2), (9, .if_icmp .ge 25, 3), (12, .aload_n 0, 1), (13, .sipush 2025, 3), (16, .iload_n 1, 1), (17, .iadd, 1), (18, .aload_n 0, 1), (19, .getfield 29, 3), (22, .iload_n 1, 1), (23, .iaload, 1), (24, .i2l, 1), (25, .invokevirtual 132, 3), (28, .iinc 1 1, 3), (31, .goto (-25), 3), (34, .aload_n 0, 1), (35, .getfield 167, 3), (38, .iconst 1, 1), (39, .isub, 1), (40, .istore_n 1, 1), (41, .iload_n 1, 1), (42, .ifCond .lt 32, 3), (45, .aload_n 0, 1), (46, .getfield 45, 3), (49, .iload_n 1, 1), (50, .baload, 1), (51, .ifCond .eq 17, 3), (54, .aload_n 0, 1), (55, .sipush 2025, 3), (58, .iload_n 1, 1), (59, .aload_n 0, 1), (60, .getfield 167, 3), (63, .iconst 1, 1), (64, .isub, 1), (65, .invokevirtual 170, 3), (68, .iinc 1 (-1), 3), (71, .goto (-30), 3), (74, .aload_n 0, 1), (75, .aload_n 0, 1), (76, .sipush 2025, 3), (79, .invokevirtual 173, 3), (82, .ifCond .ge 7, 3), (85, .iconst 1, 1), (86, .goto 4, 3), (89, .iconst 0, 1), (90, .putfield 235, 3), (93, .return_, 1)]
theorem kX10_askMember_0 : cdOf kX10_askMember 0 = some (.aload_n 0, 1) := by decide +kernel
theorem kX10_askMember_1 : cdOf kX10_askMember 1 = some (.invokevirtual 182, 3) := by decide +kernel
theorem kX10_askMember_4 : cdOf kX10_askMember 4 = some (.iconst 0, 1) := by decide +kernel
theorem kX10_askMember_5 : cdOf kX10_askMember 5 = some (.istore_n 1, 1) := by decide +kernel
theorem kX10_askMember_6 : cdOf kX10_askMember 6 = some (.iload_n 1, 1) := by decide +kernel
theorem kX10_askMember_7 : cdOf kX10_askMember 7 = some (.bipush 6, 2) := by decide +kernel
theorem kX10_askMember_9 : cdOf kX10_askMember 9 = some (.if_icmp .ge 25, 3) := by decide +kernel
theorem kX10_askMember_12 : cdOf kX10_askMember 12 = some (.aload_n 0, 1) := by decide +kernel
theorem kX10_askMember_13 : cdOf kX10_askMember 13 = some (.sipush 2025, 3) := by decide +kernel
theorem kX10_askMember_16 : cdOf kX10_askMember 16 = some (.iload_n 1, 1) := by decide +kernel
theorem kX10_askMember_17 : cdOf kX10_askMember 17 = some (.iadd, 1) := by decide +kernel
theorem kX10_askMember_18 : cdOf kX10_askMember 18 = some (.aload_n 0, 1) := by decide +kernel
theorem kX10_askMember_19 : cdOf kX10_askMember 19 = some (.getfield 29, 3) := by decide +kernel
theorem kX10_askMember_22 : cdOf kX10_askMember 22 = some (.iload_n 1, 1) := by decide +kernel
theorem kX10_askMember_23 : cdOf kX10_askMember 23 = some (.iaload, 1) := by decide +kernel
theorem kX10_askMember_24 : cdOf kX10_askMember 24 = some (.i2l, 1) := by decide +kernel
theorem kX10_askMember_25 : cdOf kX10_askMember 25 = some (.invokevirtual 132, 3) := by decide +kernel
theorem kX10_askMember_28 : cdOf kX10_askMember 28 = some (.iinc 1 1, 3) := by decide +kernel
theorem kX10_askMember_31 : cdOf kX10_askMember 31 = some (.goto (-25), 3) := by decide +kernel
theorem kX10_askMember_34 : cdOf kX10_askMember 34 = some (.aload_n 0, 1) := by decide +kernel
theorem kX10_askMember_35 : cdOf kX10_askMember 35 = some (.getfield 167, 3) := by decide +kernel
theorem kX10_askMember_38 : cdOf kX10_askMember 38 = some (.iconst 1, 1) := by decide +kernel
theorem kX10_askMember_39 : cdOf kX10_askMember 39 = some (.isub, 1) := by decide +kernel
theorem kX10_askMember_40 : cdOf kX10_askMember 40 = some (.istore_n 1, 1) := by decide +kernel
theorem kX10_askMember_41 : cdOf kX10_askMember 41 = some (.iload_n 1, 1) := by decide +kernel
theorem kX10_askMember_42 : cdOf kX10_askMember 42 = some (.ifCond .lt 32, 3) := by decide +kernel
theorem kX10_askMember_45 : cdOf kX10_askMember 45 = some (.aload_n 0, 1) := by decide +kernel
theorem kX10_askMember_46 : cdOf kX10_askMember 46 = some (.getfield 45, 3) := by decide +kernel
theorem kX10_askMember_49 : cdOf kX10_askMember 49 = some (.iload_n 1, 1) := by decide +kernel
theorem kX10_askMember_50 : cdOf kX10_askMember 50 = some (.baload, 1) := by decide +kernel
theorem kX10_askMember_51 : cdOf kX10_askMember 51 = some (.ifCond .eq 17, 3) := by decide +kernel
theorem kX10_askMember_54 : cdOf kX10_askMember 54 = some (.aload_n 0, 1) := by decide +kernel
theorem kX10_askMember_55 : cdOf kX10_askMember 55 = some (.sipush 2025, 3) := by decide +kernel
theorem kX10_askMember_58 : cdOf kX10_askMember 58 = some (.iload_n 1, 1) := by decide +kernel
theorem kX10_askMember_59 : cdOf kX10_askMember 59 = some (.aload_n 0, 1) := by decide +kernel
theorem kX10_askMember_60 : cdOf kX10_askMember 60 = some (.getfield 167, 3) := by decide +kernel
theorem kX10_askMember_63 : cdOf kX10_askMember 63 = some (.iconst 1, 1) := by decide +kernel
theorem kX10_askMember_64 : cdOf kX10_askMember 64 = some (.isub, 1) := by decide +kernel
theorem kX10_askMember_65 : cdOf kX10_askMember 65 = some (.invokevirtual 170, 3) := by decide +kernel
theorem kX10_askMember_68 : cdOf kX10_askMember 68 = some (.iinc 1 (-1), 3) := by decide +kernel
theorem kX10_askMember_71 : cdOf kX10_askMember 71 = some (.goto (-30), 3) := by decide +kernel
theorem kX10_askMember_74 : cdOf kX10_askMember 74 = some (.aload_n 0, 1) := by decide +kernel
theorem kX10_askMember_75 : cdOf kX10_askMember 75 = some (.aload_n 0, 1) := by decide +kernel
theorem kX10_askMember_76 : cdOf kX10_askMember 76 = some (.sipush 2025, 3) := by decide +kernel
theorem kX10_askMember_79 : cdOf kX10_askMember 79 = some (.invokevirtual 173, 3) := by decide +kernel
theorem kX10_askMember_82 : cdOf kX10_askMember 82 = some (.ifCond .ge 7, 3) := by decide +kernel
theorem kX10_askMember_85 : cdOf kX10_askMember 85 = some (.iconst 1, 1) := by decide +kernel
theorem kX10_askMember_86 : cdOf kX10_askMember 86 = some (.goto 4, 3) := by decide +kernel
theorem kX10_askMember_89 : cdOf kX10_askMember 89 = some (.iconst 0, 1) := by decide +kernel
theorem kX10_askMember_90 : cdOf kX10_askMember 90 = some (.putfield 235, 3) := by decide +kernel
theorem kX10_askMember_93 : cdOf kX10_askMember 93 = some (.return_, 1) := by decide +kernel
set_option maxRecDepth 20000 in
theorem kX10_askMember_ok : ∀ pc i len, cdOf kX10_askMember pc = some (i, len) → decode cX10_askMember pc = .ok (i, len) ∧ stOK 2 i = true ∧ jOK pc i = true ∧ eLen i len = true := cdOf_ok cX10_askMember 2 kX10_askMember (by decide +kernel)
def vtX10_askMember : Nat → Option (Nat × eSp) := fun k => match k with
  | 182 => some (1, SX10_clearWork)
  | 132 => some (3, SX10_set)
  | 170 => some (4, SX10_lose)
  | 173 => some (2, SX10_topOf)
  | _ => none
theorem vtX10_askMember_182 : vtX10_askMember 182 = some (1, SX10_clearWork) := rfl
theorem vtX10_askMember_132 : vtX10_askMember 132 = some (3, SX10_set) := rfl
theorem vtX10_askMember_170 : vtX10_askMember 170 = some (4, SX10_lose) := rfl
theorem vtX10_askMember_173 : vtX10_askMember 173 = some (2, SX10_topOf) := rfl
def stX10_askMember : Nat → Option (Nat × eSp) := fun _ => none
abbrev TX10_askMember : eT := (fl_RX10, cl_RX10, dl_RX10, vtX10_askMember, stX10_askMember)
set_option maxRecDepth 20000 in
theorem caX10_askMember : eCalls RX10 { frames := 5, cells := 0, slots := 0, locals := 130 } TX10_askMember := by
  refine ⟨fun k n sp h => ?_, fun k n sp h => ?_⟩
  · dsimp only [TX10_askMember] at h
    unfold vtX10_askMember at h
    split at h
    · cases h; exact eV_mk mX10_clearWork wX10_clearWork (by decide +kernel) (Or.inl (gW_at 1066 (by decide +kernel) rfl))
    · cases h; exact eV_mk mX10_set wX10_set (by decide +kernel) (Or.inl (gW_at 1073 (by decide +kernel) rfl))
    · cases h; exact eV_mk mX10_lose wX10_lose (by decide +kernel) (Or.inl (gW_at 1082 (by decide +kernel) rfl))
    · cases h; exact eV_mk mX10_topOf wX10_topOf (by decide +kernel) (Or.inl (gW_at 1162 (by decide +kernel) rfl))
    · cases h
  · cases h
set_option maxRecDepth 100000 in
set_option maxHeartbeats 4000000 in
theorem sX10_askMember : eSafe TX10_askMember (cdOf kX10_askMember) 2 none SX10_askMember := by
  intro K rt hK as M h
  obtain ⟨F, A, s, n, rfl, rfl, hr, hF, hn, hh, hq, hB, h⟩ := h
  refine ⟨by simp [eE], ?_⟩
  obtain ⟨s1, hs1⟩ : ∃ f, aK (A 15) (A 5) s n = f := ⟨_, rfl⟩
  rw [hs1] at h
  have loop : ∀ (m : Nat) (k : Int) (A' : Nat → Int → Int) (s' : Int → Int), k + 1 = m → m ≤ n → sN A A' → rn (A' 0) s' → dP (A 15) n m s' → dA (A 15) n m s' = s1 → K 41 [some eRR, some (eI k)] [] (cR F A') := by
    intro m
    induction m with
    | zero =>
      intro k A' s' hk hm hA hr' hP' hd
      have e : k = -1 := by omega
      subst e
      have e2 : s' = s1 := hd
      subst e2
      refine x_iload_n hK kX10_askMember_41 (q := 42) rfl rfl ?_
      refine x_if_lt hK kX10_askMember_42 (q := 45) rfl (tg := 74) rfl (by omega) (fun c42 => ?_) (fun c42 => ?_)
      · refine x_aload_n hK kX10_askMember_74 (q := 75) rfl rfl ?_
        refine x_aload_n hK kX10_askMember_75 (q := 76) rfl rfl ?_
        refine x_sipush hK kX10_askMember_76 (q := 79) rfl (by decide) ?_
        refine x_cv2 hK kX10_askMember_79 (q := 82) rfl (vtX10_askMember_173) (Nat.le_of_ble_eq_true rfl) ?_
        refine SX10_topOf_i hr' (by omega) (by omega) (by omega) (fun t t0 t1 t2 t3 => ?_)
        have ht : t < 0 ↔ tF s' 2025 n < 0 := by
          rcases tF_h (s := s') (a := 2025) (n := n) with ⟨g, h1⟩ | ⟨u, g, g0, g1, g2⟩
          · rw [g]
            refine ⟨fun _ => by decide, fun _ => ?_⟩
            rcases t2 with e | e
            · omega
            · rcases Int.lt_or_le t 0 with h2 | h2
              · exact h2
              · exact absurd (h1 t h2 (by omega)) e
          · rw [g]
            refine ⟨fun h1 => ?_, fun h1 => by omega⟩
            exact absurd (t3 u (by omega) (by omega)) g1
        refine x_if_ge hK kX10_askMember_82 (q := 85) rfl (tg := 89) rfl (by constructor <;> omega) (fun c82 => ?_) (fun c82 => ?_)
        · refine x_iconst hK kX10_askMember_89 (q := 90) rfl ?_
          refine x_putfield hK kX10_askMember_90 (q := 93) rfl (pX10_235 (by first | exact Or.inl rfl | exact Or.inr rfl) ?_)
          refine x_return_ hK kX10_askMember_93 (by first | trivial | exact Or.inl rfl | exact Or.inr rfl) ?_
          first
          | (have := h A' hA hr'; rw [if_pos (ht.mp (by omega))] at this; exact this)
          | (have := h A' hA hr'; rw [if_neg (fun q => by have := ht.mpr q; omega)] at this; exact this)
        · refine x_iconst hK kX10_askMember_85 (q := 86) rfl ?_
          refine x_goto hK kX10_askMember_86 (tg := 90) rfl ?_
          refine x_putfield hK kX10_askMember_90 (q := 93) rfl (pX10_235 (by first | exact Or.inl rfl | exact Or.inr rfl) ?_)
          refine x_return_ hK kX10_askMember_93 (by first | trivial | exact Or.inl rfl | exact Or.inr rfl) ?_
          first
          | (have := h A' hA hr'; rw [if_pos (ht.mp (by omega))] at this; exact this)
          | (have := h A' hA hr'; rw [if_neg (fun q => by have := ht.mpr q; omega)] at this; exact this)
      · exfalso; omega
    | succ m ih =>
      intro k A' s' hk hm hA hr' hP' hd
      have e : k = m := by omega
      subst e
      obtain ⟨p1, p2⟩ := hP'
      have w1 : w32 (A 15 m) := by rcases hh m with e | e <;> rw [e] <;> decide
      refine x_iload_n hK kX10_askMember_41 (q := 42) rfl rfl ?_
      refine x_if_lt hK kX10_askMember_42 (q := 45) rfl (tg := 74) rfl (by constructor <;> omega) (fun c42 => ?_) (fun c42 => ?_)
      · exfalso; omega
      · refine x_aload_n hK kX10_askMember_45 (q := 46) rfl rfl ?_
        refine x_getfield hK kX10_askMember_46 (q := 49) rfl (gX10_45 ?_)
        refine x_iload_n hK kX10_askMember_49 (q := 50) rfl rfl ?_
        refine x_baload hK kX10_askMember_50 (q := 51) rfl (aX10_A15 (by refine ⟨?_, ?_⟩ <;> omega) ?_)
        rw [hA 15 (by decide)]
        refine x_if_eq hK kX10_askMember_51 (q := 54) rfl (tg := 68) rfl (by exact w1) (fun c51 => ?_) (fun c51 => ?_)
        · refine x_iinc hK kX10_askMember_68 (q := 71) rfl rfl ?_
          simp only [lS, lS2, clr_0, clr_I, clr_L, clr_R]
          refine x_goto hK kX10_askMember_71 (tg := 41) rfl ?_
          rw [if_pos c51] at p2
          refine ih _ A' s' (by omega) (by omega) hA hr' p2 ?_
          rw [← hd]
          show _ = dA (A 15) n m (if A 15 m = 0 then s' else _)
          rw [if_pos c51]
        · refine x_aload_n hK kX10_askMember_54 (q := 55) rfl rfl ?_
          refine x_sipush hK kX10_askMember_55 (q := 58) rfl (by decide) ?_
          refine x_iload_n hK kX10_askMember_58 (q := 59) rfl rfl ?_
          refine x_aload_n hK kX10_askMember_59 (q := 60) rfl rfl ?_
          refine x_getfield hK kX10_askMember_60 (q := 63) rfl (gX10_167 ?_)
          refine x_iconst hK kX10_askMember_63 (q := 64) rfl ?_
          refine x_isub hK kX10_askMember_64 (q := 65) rfl ?_
          rw [hF]
          refine x_cv4 hK kX10_askMember_65 (q := 68) rfl (vtX10_askMember_170) (Nat.le_of_ble_eq_true rfl) ?_
          refine SX10_lose_f hr' (by omega) (by omega) (by omega) (p1 c51) (fun A1 k1 r1 => ?_)
          refine x_iinc hK kX10_askMember_68 (q := 71) rfl rfl ?_
          simp only [lS, lS2, clr_0, clr_I, clr_L, clr_R]
          refine x_goto hK kX10_askMember_71 (tg := 41) rfl ?_
          rw [if_neg c51] at p2
          refine ih _ A1 _ (by omega) (by omega) (sN_tr hA k1) r1 p2 ?_
          rw [← hd]
          show _ = dA (A 15) n m (if A 15 m = 0 then s' else _)
          rw [if_neg c51]
  have six : ∀ (d k : Nat) (A' : Nat → Int → Int), k + d = 6 → sN A A' → rn (A' 0) (lW s (A 5) 0 k) → K 6 [some eRR, some (eI k)] [] (cR F A') := by
    intro d
    induction d with
    | zero =>
      intro k A' hk hA hr'
      have e : k = 6 := by omega
      subst e
      refine x_iload_n hK kX10_askMember_6 (q := 7) rfl rfl ?_
      refine x_bipush hK kX10_askMember_7 (q := 9) rfl (by decide) ?_
      refine x_icmp_ge hK kX10_askMember_9 (q := 12) rfl (tg := 34) rfl (by refine ⟨?_, ?_⟩ <;> omega) (fun c9 => ?_) (fun c9 => ?_)
      · refine x_aload_n hK kX10_askMember_34 (q := 35) rfl rfl ?_
        refine x_getfield hK kX10_askMember_35 (q := 38) rfl (gX10_167 ?_)
        rw [hF]
        refine x_iconst hK kX10_askMember_38 (q := 39) rfl ?_
        refine x_isub hK kX10_askMember_39 (q := 40) rfl ?_
        refine x_istore_n hK kX10_askMember_40 (q := 41) (jn := 1) rfl rfl ?_
        simp only [lS, lS2, clr_0, clr_I, clr_L, clr_R]
        exact loop n _ A' _ (by omega) (Nat.le_refl _) hA hr' hB hs1
      · exfalso; omega
    | succ d ih =>
      intro k A' hk hA hr'
      have w4 := hq k (by omega)
      refine x_iload_n hK kX10_askMember_6 (q := 7) rfl rfl ?_
      refine x_bipush hK kX10_askMember_7 (q := 9) rfl (by decide) ?_
      refine x_icmp_ge hK kX10_askMember_9 (q := 12) rfl (tg := 34) rfl (by refine ⟨?_, ?_⟩ <;> omega) (fun c9 => ?_) (fun c9 => ?_)
      · exfalso; omega
      · refine x_aload_n hK kX10_askMember_12 (q := 13) rfl rfl ?_
        refine x_sipush hK kX10_askMember_13 (q := 16) rfl (by decide) ?_
        refine x_iload_n hK kX10_askMember_16 (q := 17) rfl rfl ?_
        refine x_iadd hK kX10_askMember_17 (q := 18) rfl ?_
        refine x_aload_n hK kX10_askMember_18 (q := 19) rfl rfl ?_
        refine x_getfield hK kX10_askMember_19 (q := 22) rfl (gX10_29 ?_)
        refine x_iload_n hK kX10_askMember_22 (q := 23) rfl rfl ?_
        refine x_iaload hK kX10_askMember_23 (q := 24) rfl (aX10_A5 (by refine ⟨?_, ?_⟩ <;> omega) ?_)
        rw [hA 5 (by decide)]
        refine x_i2l hK kX10_askMember_24 (q := 25) rfl (by exact w4) ?_
        refine x_cv3 hK kX10_askMember_25 (q := 28) rfl (vtX10_askMember_132) (Nat.le_of_ble_eq_true rfl) ?_
        refine SX10_set_n hr' (by omega) (by obtain ⟨g0, g1⟩ := w4; constructor <;> omega) (fun A1 k1 r1 => ?_)
        refine x_iinc hK kX10_askMember_28 (q := 31) rfl rfl ?_
        simp only [lS, lS2, clr_0, clr_I, clr_L, clr_R]
        refine x_goto hK kX10_askMember_31 (tg := 6) rfl ?_
        rw [show (k : Int) + 1 = ((k + 1 : Nat) : Int) by omega]
        refine ih (k + 1) A1 (by omega) (sN_tr hA k1) ?_
        rw [show (k : Int) = 0 + (k : Int) by omega] at r1
        have e : uI (lW s (A 5) 0 k) (2025 + (0 + (k : Int))) (A 5 (0 + (k : Int))) = lW s (A 5) 0 (k + 1) := by
          rw [lW]
          congr 1
          omega
        rw [← e]
        exact r1
  simp only [eLoc, eE, List.length_cons, List.length_nil, List.replicate, List.cons_append, List.nil_append, Nat.reduceAdd, Nat.reduceSub]
  refine x_aload_n hK kX10_askMember_0 (q := 1) rfl rfl ?_
  refine x_cv1 hK kX10_askMember_1 (q := 4) rfl (vtX10_askMember_182) (Nat.le_of_ble_eq_true rfl) ?_
  refine SX10_clearWork_i hr (fun A1 k1 r1 => ?_)
  refine x_iconst hK kX10_askMember_4 (q := 5) rfl ?_
  refine x_istore_n hK kX10_askMember_5 (q := 6) (jn := 1) rfl rfl ?_
  simp only [lS, lS2, clr_0, clr_I, clr_L, clr_R]
  exact six 6 0 A1 (by omega) k1 r1
set_option maxRecDepth 20000 in
theorem mX10_askMember : eMet yX10_askMember cX10_askMember 2 none 5 130 SX10_askMember := eMet_of (by decide +kernel) sX10_askMember kX10_askMember_ok caX10_askMember tb_RX10
theorem wX10_askMember : eWV yX10_askMember cX10_askMember 2 none 1 9 SX10_askMember := ⟨(gW_at 1204 (by decide +kernel) rfl), (gW_at 89 (by decide +kernel) rfl), (gW_at 1203 (by decide +kernel) rfl), ⟨_, rfl, (gW_at 60 (by decide +kernel) rfl)⟩, by decide +kernel, SX10_askMember_r⟩
-- gather
def gFb (e : Int → Int) (N k : Nat) : Bool := (List.range N).all (fun i => !(decide (mX (e i) ≤ mX k ∧ mY (e i) ≤ mY k)))
theorem gFb_iff (e : Int → Int) (N k : Nat) : gFb e N k = true ↔ ∀ i : Nat, i < N → ¬ (mX (e i) ≤ mX k ∧ mY (e i) ≤ mY k) := by
  unfold gFb
  simp only [List.all_eq_true, List.mem_range, Bool.not_eq_true', decide_eq_false_iff_not]
def fG (e : Int → Int) (N : Nat) (f : Int → Int) : Nat → (Int → Int) × Nat
  | 0 => (f, 0)
  | k + 1 => if gFb e N k then (uI (fG e N f k).1 (fG e N f k).2 k, (fG e N f k).2 + 1) else fG e N f k
theorem fG_up (e : Int → Int) (N : Nat) (f : Int → Int) (k : Nat) : (fG e N f k).2 ≤ (fG e N f (k + 1)).2 := by
  show _ ≤ (if _ then _ else _ : (Int → Int) × Nat).2
  split
  · exact Nat.le_succ _
  · exact Nat.le_refl _
theorem fG_mo (e : Int → Int) (N : Nat) (f : Int → Int) (k : Nat) : ∀ d, (fG e N f k).2 ≤ (fG e N f (k + d)).2
  | 0 => Nat.le_refl _
  | d + 1 => Nat.le_trans (fG_mo e N f k d) (fG_up e N f (k + d))
def SX10_gather : eSp := fun as M rt => ∃ (F : Nat → Int) (A : Nat → Int → Int) (n N : Nat), as = [eRR] ∧ M = cR F A ∧ F 14 = n ∧ n ≤ 45 ∧ F 17 = N ∧ N ≤ 45 ∧ F 19 = 0 ∧ (∀ i : Nat, i < N → 0 ≤ A 16 i ∧ A 16 i < 45) ∧ (fG (A 16) N (A 18) n).2 ≤ 6 ∧ ∀ (F' : Nat → Int) (A' : Nat → Int → Int), (∀ j, j ≠ 19 → F' j = F j) → F' 19 = (fG (A 16) N (A 18) n).2 → (∀ k, k ≠ 18 → A' k = A k) → A' 18 = (fG (A 16) N (A 18) n).1 → rt none (cR F' A')
theorem SX10_gather_i {F : Nat → Int} {A : Nat → Int → Int} {n N : Nat} {rt : Option eV → eM → Prop} (h0 : F 14 = n) (h1 : n ≤ 45) (h2 : F 17 = N) (h3 : N ≤ 45) (h4 : F 19 = 0) (h5 : ∀ i : Nat, i < N → 0 ≤ A 16 i ∧ A 16 i < 45) (h6 : (fG (A 16) N (A 18) n).2 ≤ 6) (h : ∀ (F' : Nat → Int) (A' : Nat → Int → Int), (∀ j, j ≠ 19 → F' j = F j) → F' 19 = (fG (A 16) N (A 18) n).2 → (∀ k, k ≠ 18 → A' k = A k) → A' 18 = (fG (A 16) N (A 18) n).1 → rt none (cR F' A')) : SX10_gather [eRR] (cR F A) rt := ⟨F, A, n, N, rfl, rfl, h0, h1, h2, h3, h4, h5, h6, h⟩
theorem SX10_gather_r : ∀ as M rt, SX10_gather as M rt → ∃ a r fs, as = eR a :: r ∧ M a = some (.inl (9, fs)) := by
  rintro as M rt ⟨F, A, n, N, rfl, rfl, -⟩
  exact ⟨_, _, _, rfl, rfl⟩
def kX10_gather : List (Nat × Jvm.ClassFile.Instr × Nat) := [(0, .iconst 0, 1), (1, .istore_n 1, 1), (2, .iload_n 1, 1), (3, .aload_n 0, 1), (4, .getfield 167, 3), (7, .if_icmp .ge 74, 3), (10, .iconst 1, 1), (11, .istore_n 2, 1), (12, .iconst 0, 1), (13, .istore_n 3, 1), (14, .iload_n 3, 1), (15, .aload_n 0, 1), (16, .getfield 196, 3), (19, .if_icmp .ge 32, 3), (22, .iload_n 2, 1), (23, .ifCond .eq 20, 3), (26, .aload_n 0, 1), (27, .getfield 49, 3), (30, .iload_n 3, 1), (31, .iaload, 1), (32, .iload_n 1, 1), (33, .invokestatic 192, 3), (36, .ifCond .ne 7, 3), (39, .iconst 1, 1), (40, .goto 4, 3), (43, .iconst 0, 1), (44, .istore_n 2, 1), (45, .iinc 3 1, 3), (48, .goto (-34), 3), (51, .iload_n 2, 1), (52, .ifCond .eq 23, 3), (55, .aload_n 0, 1), (56, .getfield 52, 3), (59, .aload_n 0, 1), (60, .getfield 223, 3), (63, .iload_n 1, 1), (64, .iastore, 1), (65, .aload_n 0, 1), (66, .dup, 1), (67, .getfield 223, 3), (70, .iconst 1, 1), (71, .iadd, 1), (72, .putfield 223, 3), (75, .iinc 1 1, 3), (78, .goto (-76), 3), (81, .return_, 1)]
theorem kX10_gather_0 : cdOf kX10_gather 0 = some (.iconst 0, 1) := by decide +kernel
theorem kX10_gather_1 : cdOf kX10_gather 1 = some (.istore_n 1, 1) := by decide +kernel
theorem kX10_gather_2 : cdOf kX10_gather 2 = some (.iload_n 1, 1) := by decide +kernel
theorem kX10_gather_3 : cdOf kX10_gather 3 = some (.aload_n 0, 1) := by decide +kernel
theorem kX10_gather_4 : cdOf kX10_gather 4 = some (.getfield 167, 3) := by decide +kernel
theorem kX10_gather_7 : cdOf kX10_gather 7 = some (.if_icmp .ge 74, 3) := by decide +kernel
theorem kX10_gather_10 : cdOf kX10_gather 10 = some (.iconst 1, 1) := by decide +kernel
theorem kX10_gather_11 : cdOf kX10_gather 11 = some (.istore_n 2, 1) := by decide +kernel
theorem kX10_gather_12 : cdOf kX10_gather 12 = some (.iconst 0, 1) := by decide +kernel
theorem kX10_gather_13 : cdOf kX10_gather 13 = some (.istore_n 3, 1) := by decide +kernel
theorem kX10_gather_14 : cdOf kX10_gather 14 = some (.iload_n 3, 1) := by decide +kernel
theorem kX10_gather_15 : cdOf kX10_gather 15 = some (.aload_n 0, 1) := by decide +kernel
theorem kX10_gather_16 : cdOf kX10_gather 16 = some (.getfield 196, 3) := by decide +kernel
theorem kX10_gather_19 : cdOf kX10_gather 19 = some (.if_icmp .ge 32, 3) := by decide +kernel
theorem kX10_gather_22 : cdOf kX10_gather 22 = some (.iload_n 2, 1) := by decide +kernel
theorem kX10_gather_23 : cdOf kX10_gather 23 = some (.ifCond .eq 20, 3) := by decide +kernel
theorem kX10_gather_26 : cdOf kX10_gather 26 = some (.aload_n 0, 1) := by decide +kernel
theorem kX10_gather_27 : cdOf kX10_gather 27 = some (.getfield 49, 3) := by decide +kernel
theorem kX10_gather_30 : cdOf kX10_gather 30 = some (.iload_n 3, 1) := by decide +kernel
theorem kX10_gather_31 : cdOf kX10_gather 31 = some (.iaload, 1) := by decide +kernel
theorem kX10_gather_32 : cdOf kX10_gather 32 = some (.iload_n 1, 1) := by decide +kernel
theorem kX10_gather_33 : cdOf kX10_gather 33 = some (.invokestatic 192, 3) := by decide +kernel
theorem kX10_gather_36 : cdOf kX10_gather 36 = some (.ifCond .ne 7, 3) := by decide +kernel
theorem kX10_gather_39 : cdOf kX10_gather 39 = some (.iconst 1, 1) := by decide +kernel
theorem kX10_gather_40 : cdOf kX10_gather 40 = some (.goto 4, 3) := by decide +kernel
theorem kX10_gather_43 : cdOf kX10_gather 43 = some (.iconst 0, 1) := by decide +kernel
theorem kX10_gather_44 : cdOf kX10_gather 44 = some (.istore_n 2, 1) := by decide +kernel
theorem kX10_gather_45 : cdOf kX10_gather 45 = some (.iinc 3 1, 3) := by decide +kernel
theorem kX10_gather_48 : cdOf kX10_gather 48 = some (.goto (-34), 3) := by decide +kernel
theorem kX10_gather_51 : cdOf kX10_gather 51 = some (.iload_n 2, 1) := by decide +kernel
theorem kX10_gather_52 : cdOf kX10_gather 52 = some (.ifCond .eq 23, 3) := by decide +kernel
theorem kX10_gather_55 : cdOf kX10_gather 55 = some (.aload_n 0, 1) := by decide +kernel
theorem kX10_gather_56 : cdOf kX10_gather 56 = some (.getfield 52, 3) := by decide +kernel
theorem kX10_gather_59 : cdOf kX10_gather 59 = some (.aload_n 0, 1) := by decide +kernel
theorem kX10_gather_60 : cdOf kX10_gather 60 = some (.getfield 223, 3) := by decide +kernel
theorem kX10_gather_63 : cdOf kX10_gather 63 = some (.iload_n 1, 1) := by decide +kernel
theorem kX10_gather_64 : cdOf kX10_gather 64 = some (.iastore, 1) := by decide +kernel
theorem kX10_gather_65 : cdOf kX10_gather 65 = some (.aload_n 0, 1) := by decide +kernel
theorem kX10_gather_66 : cdOf kX10_gather 66 = some (.dup, 1) := by decide +kernel
theorem kX10_gather_67 : cdOf kX10_gather 67 = some (.getfield 223, 3) := by decide +kernel
theorem kX10_gather_70 : cdOf kX10_gather 70 = some (.iconst 1, 1) := by decide +kernel
theorem kX10_gather_71 : cdOf kX10_gather 71 = some (.iadd, 1) := by decide +kernel
theorem kX10_gather_72 : cdOf kX10_gather 72 = some (.putfield 223, 3) := by decide +kernel
theorem kX10_gather_75 : cdOf kX10_gather 75 = some (.iinc 1 1, 3) := by decide +kernel
theorem kX10_gather_78 : cdOf kX10_gather 78 = some (.goto (-76), 3) := by decide +kernel
theorem kX10_gather_81 : cdOf kX10_gather 81 = some (.return_, 1) := by decide +kernel
set_option maxRecDepth 20000 in
theorem kX10_gather_ok : ∀ pc i len, cdOf kX10_gather pc = some (i, len) → decode cX10_gather pc = .ok (i, len) ∧ stOK 4 i = true ∧ jOK pc i = true ∧ eLen i len = true := cdOf_ok cX10_gather 4 kX10_gather (by decide +kernel)
def vtX10_gather : Nat → Option (Nat × eSp) := fun _ => none
def stX10_gather : Nat → Option (Nat × eSp) := fun k => match k with
  | 192 => some (2, SX10_divides)
  | _ => none
theorem stX10_gather_192 : stX10_gather 192 = some (2, SX10_divides) := rfl
abbrev TX10_gather : eT := (fl_RX10, cl_RX10, dl_RX10, vtX10_gather, stX10_gather)
set_option maxRecDepth 20000 in
theorem caX10_gather : eCalls RX10 { frames := 4, cells := 0, slots := 0, locals := 83 } TX10_gather := by
  refine ⟨fun k n sp h => ?_, fun k n sp h => ?_⟩
  · cases h
  · dsimp only [TX10_gather] at h
    unfold stX10_gather at h
    split at h
    · cases h; exact eS_mk mX10_divides wX10_divides (by decide +kernel) (Or.inl (gW_at 1194 (by decide +kernel) rfl))
    · cases h
set_option maxRecDepth 100000 in
set_option maxHeartbeats 4000000 in
theorem sX10_gather : eSafe TX10_gather (cdOf kX10_gather) 4 none SX10_gather := by
  intro K rt hK as M h
  obtain ⟨F, A, n, N, rfl, rfl, h14, hn, h17, hN, h19, he, h6, h⟩ := h
  refine ⟨by simp [eE], ?_⟩
  have outer : ∀ (d k : Nat) (F' : Nat → Int) (A' : Nat → Int → Int) (u2 u3 : Option eV), k + d = n → (∀ j, j ≠ 19 → F' j = F j) → F' 19 = (fG (A 16) N (A 18) k).2 → (∀ k, k ≠ 18 → A' k = A k) → A' 18 = (fG (A 16) N (A 18) k).1 → K 2 [some eRR, some (eI k), u2, u3] [] (cR F' A') := by
    intro d
    induction d with
    | zero =>
      intro k F' A' u2 u3 hk hF h19 hA h18
      have e : k = n := by omega
      subst e
      refine x_iload_n hK kX10_gather_2 (q := 3) rfl rfl ?_
      refine x_aload_n hK kX10_gather_3 (q := 4) rfl rfl ?_
      refine x_getfield hK kX10_gather_4 (q := 7) rfl (gX10_167 ?_)
      rw [hF 14 (by decide), h14]
      refine x_icmp_ge hK kX10_gather_7 (q := 10) rfl (tg := 81) rfl (by refine ⟨?_, ?_⟩ <;> omega) (fun c7 => ?_) (fun c7 => ?_)
      · refine x_return_ hK kX10_gather_81 (by first | trivial | exact Or.inl rfl | exact Or.inr rfl) ?_
        exact h F' A' hF h19 hA h18
      · exfalso; omega
    | succ d ih =>
      intro k F' A' u2 u3 hk hF h19 hA h18
      have hmo := fG_mo (A 16) N (A 18) (k + 1) d
      rw [show k + 1 + d = n by omega] at hmo
      have nx : ∀ (F'' : Nat → Int) (A'' : Nat → Int → Int) (u2 u3 : Option eV), (∀ j, j ≠ 19 → F'' j = F j) → F'' 19 = (fG (A 16) N (A 18) (k + 1)).2 → (∀ k, k ≠ 18 → A'' k = A k) → A'' 18 = (fG (A 16) N (A 18) (k + 1)).1 → K 75 [some eRR, some (eI k), u2, u3] [] (cR F'' A'') := by
        intro F'' A'' u2 u3 g1 g2 g3 g4
        refine x_iinc hK kX10_gather_75 (q := 78) rfl rfl ?_
        simp only [lS, lS2, clr_0, clr_I, clr_L, clr_R]
        refine x_goto hK kX10_gather_78 (tg := 2) rfl ?_
        rw [show (k : Int) + 1 = ((k + 1 : Nat) : Int) by omega]
        exact ih (k + 1) F'' A'' _ _ (by omega) g1 g2 g3 g4
      have inner : ∀ (d i : Nat) (b : Int), i + d = N → (b = 0 ∨ b = 1) → (b = 1 ↔ ∀ j : Nat, j < i → ¬ (mX (A 16 j) ≤ mX k ∧ mY (A 16 j) ≤ mY k)) → K 14 [some eRR, some (eI k), some (eI b), some (eI i)] [] (cR F' A') := by
        intro d
        induction d with
        | zero =>
          intro i b hi b0 b1
          have e : i = N := by omega
          subst e
          have b2 := b1.trans (gFb_iff (A 16) i k).symm
          refine x_iload_n hK kX10_gather_14 (q := 15) rfl rfl ?_
          refine x_aload_n hK kX10_gather_15 (q := 16) rfl rfl ?_
          refine x_getfield hK kX10_gather_16 (q := 19) rfl (gX10_196 ?_)
          rw [hF 17 (by decide), h17]
          refine x_icmp_ge hK kX10_gather_19 (q := 22) rfl (tg := 51) rfl (by refine ⟨?_, ?_⟩ <;> omega) (fun c19 => ?_) (fun c19 => ?_)
          · refine x_iload_n hK kX10_gather_51 (q := 52) rfl rfl ?_
            refine x_if_eq hK kX10_gather_52 (q := 55) rfl (tg := 75) rfl (by rcases b0 with e | e <;> rw [e] <;> decide) (fun c52 => ?_) (fun c52 => ?_)
            · have e : fG (A 16) i (A 18) (k + 1) = fG (A 16) i (A 18) k := if_neg (fun g => by have := b2.mpr g; omega)
              exact nx F' A' _ _ hF (by rw [e]; exact h19) hA (by rw [e]; exact h18)
            · have e : fG (A 16) i (A 18) (k + 1) = (uI (fG (A 16) i (A 18) k).1 (fG (A 16) i (A 18) k).2 k, (fG (A 16) i (A 18) k).2 + 1) := if_pos (b2.mp (by omega))
              have e3 : (fG (A 16) i (A 18) k).2 + 1 ≤ 6 := by rw [e] at hmo; exact Nat.le_trans hmo h6
              refine x_aload_n hK kX10_gather_55 (q := 56) rfl rfl ?_
              refine x_getfield hK kX10_gather_56 (q := 59) rfl (gX10_52 ?_)
              refine x_aload_n hK kX10_gather_59 (q := 60) rfl rfl ?_
              refine x_getfield hK kX10_gather_60 (q := 63) rfl (gX10_223 ?_)
              rw [h19]
              refine x_iload_n hK kX10_gather_63 (q := 64) rfl rfl ?_
              refine x_iastore hK kX10_gather_64 (q := 65) rfl (yX10_A18 (by refine ⟨?_, ?_⟩ <;> omega) ?_)
              refine x_aload_n hK kX10_gather_65 (q := 66) rfl rfl ?_
              refine x_dupR hK kX10_gather_66 (q := 67) rfl ?_
              refine x_getfield hK kX10_gather_67 (q := 70) rfl (gX10_223 ?_)
              refine x_iconst hK kX10_gather_70 (q := 71) rfl ?_
              refine x_iadd hK kX10_gather_71 (q := 72) rfl ?_
              refine x_putfield hK kX10_gather_72 (q := 75) rfl (pX10_223 ?_)
              rw [h19]
              refine nx _ (uA A' 18 (uI (A' 18) (fG (A 16) i (A 18) k).2 k)) _ _ (fun j j0 => ?_) ?_ (fun j j0 => ?_) ?_
              · rw [uF_n _ _ j0]; exact hF j j0
              · rw [uF_g, e]; rfl
              · rw [uA_n _ _ j0]; exact hA j j0
              · rw [uA_g, e, h18]
          · exfalso; omega
        | succ d ih2 =>
          intro i b hi b0 b1
          have e0 := he i (by omega)
          refine x_iload_n hK kX10_gather_14 (q := 15) rfl rfl ?_
          refine x_aload_n hK kX10_gather_15 (q := 16) rfl rfl ?_
          refine x_getfield hK kX10_gather_16 (q := 19) rfl (gX10_196 ?_)
          rw [hF 17 (by decide), h17]
          refine x_icmp_ge hK kX10_gather_19 (q := 22) rfl (tg := 51) rfl (by refine ⟨?_, ?_⟩ <;> omega) (fun c19 => ?_) (fun c19 => ?_)
          · exfalso; omega
          · refine x_iload_n hK kX10_gather_22 (q := 23) rfl rfl ?_
            refine x_if_eq hK kX10_gather_23 (q := 26) rfl (tg := 43) rfl (by rcases b0 with e | e <;> rw [e] <;> decide) (fun c23 => ?_) (fun c23 => ?_)
            · refine x_iconst hK kX10_gather_43 (q := 44) rfl ?_
              refine x_istore_n hK kX10_gather_44 (q := 45) (jn := 2) rfl rfl ?_
              refine x_iinc hK kX10_gather_45 (q := 48) rfl rfl ?_
              simp only [lS, lS2, clr_0, clr_I, clr_L, clr_R]
              refine x_goto hK kX10_gather_48 (tg := 14) rfl ?_
              rw [show (i : Int) + 1 = ((i + 1 : Nat) : Int) by omega]
              first
              | refine ih2 (i + 1) 0 (by omega) (Or.inl rfl) ⟨fun q => absurd q (by decide), fun q => absurd (b1.mpr (fun j hj => q j (by omega))) (by omega)⟩
              | refine ih2 (i + 1) 0 (by omega) (Or.inl rfl) ⟨fun q => absurd q (by decide), fun q => absurd (c1.mp (by omega)) (q i (by omega))⟩
              | refine ih2 (i + 1) 1 (by omega) (Or.inr rfl) ⟨fun _ => ?_, fun _ => rfl⟩
                have g := b1.mp (by omega)
                intro j hj
                rcases Nat.lt_or_ge j i with g2 | g2
                · exact g j g2
                · rw [show j = i by omega]
                  exact fun q => by have := c1.mpr q; omega
            · refine x_aload_n hK kX10_gather_26 (q := 27) rfl rfl ?_
              refine x_getfield hK kX10_gather_27 (q := 30) rfl (gX10_49 ?_)
              refine x_iload_n hK kX10_gather_30 (q := 31) rfl rfl ?_
              refine x_iaload hK kX10_gather_31 (q := 32) rfl (aX10_A16 (by refine ⟨?_, ?_⟩ <;> omega) ?_)
              rw [hA 16 (by decide)]
              refine x_iload_n hK kX10_gather_32 (q := 33) rfl rfl ?_
              refine x_cs2 hK kX10_gather_33 (q := 36) rfl (stX10_gather_192) (Nat.le_of_ble_eq_true rfl) ?_
              refine SX10_divides_i e0 (by omega) (fun c c0 c1 => ?_)
              refine x_if_ne hK kX10_gather_36 (q := 39) rfl (tg := 43) rfl (by rcases c0 with e | e <;> rw [e] <;> decide) (fun c36 => ?_) (fun c36 => ?_)
              · refine x_iconst hK kX10_gather_43 (q := 44) rfl ?_
                refine x_istore_n hK kX10_gather_44 (q := 45) (jn := 2) rfl rfl ?_
                refine x_iinc hK kX10_gather_45 (q := 48) rfl rfl ?_
                simp only [lS, lS2, clr_0, clr_I, clr_L, clr_R]
                refine x_goto hK kX10_gather_48 (tg := 14) rfl ?_
                rw [show (i : Int) + 1 = ((i + 1 : Nat) : Int) by omega]
                first
                | refine ih2 (i + 1) 0 (by omega) (Or.inl rfl) ⟨fun q => absurd q (by decide), fun q => absurd (b1.mpr (fun j hj => q j (by omega))) (by omega)⟩
                | refine ih2 (i + 1) 0 (by omega) (Or.inl rfl) ⟨fun q => absurd q (by decide), fun q => absurd (c1.mp (by omega)) (q i (by omega))⟩
                | refine ih2 (i + 1) 1 (by omega) (Or.inr rfl) ⟨fun _ => ?_, fun _ => rfl⟩
                  have g := b1.mp (by omega)
                  intro j hj
                  rcases Nat.lt_or_ge j i with g2 | g2
                  · exact g j g2
                  · rw [show j = i by omega]
                    exact fun q => by have := c1.mpr q; omega
              · refine x_iconst hK kX10_gather_39 (q := 40) rfl ?_
                refine x_goto hK kX10_gather_40 (tg := 44) rfl ?_
                refine x_istore_n hK kX10_gather_44 (q := 45) (jn := 2) rfl rfl ?_
                refine x_iinc hK kX10_gather_45 (q := 48) rfl rfl ?_
                simp only [lS, lS2, clr_0, clr_I, clr_L, clr_R]
                refine x_goto hK kX10_gather_48 (tg := 14) rfl ?_
                rw [show (i : Int) + 1 = ((i + 1 : Nat) : Int) by omega]
                first
                | refine ih2 (i + 1) 0 (by omega) (Or.inl rfl) ⟨fun q => absurd q (by decide), fun q => absurd (b1.mpr (fun j hj => q j (by omega))) (by omega)⟩
                | refine ih2 (i + 1) 0 (by omega) (Or.inl rfl) ⟨fun q => absurd q (by decide), fun q => absurd (c1.mp (by omega)) (q i (by omega))⟩
                | refine ih2 (i + 1) 1 (by omega) (Or.inr rfl) ⟨fun _ => ?_, fun _ => rfl⟩
                  have g := b1.mp (by omega)
                  intro j hj
                  rcases Nat.lt_or_ge j i with g2 | g2
                  · exact g j g2
                  · rw [show j = i by omega]
                    exact fun q => by have := c1.mpr q; omega
      refine x_iload_n hK kX10_gather_2 (q := 3) rfl rfl ?_
      refine x_aload_n hK kX10_gather_3 (q := 4) rfl rfl ?_
      refine x_getfield hK kX10_gather_4 (q := 7) rfl (gX10_167 ?_)
      rw [hF 14 (by decide), h14]
      refine x_icmp_ge hK kX10_gather_7 (q := 10) rfl (tg := 81) rfl (by refine ⟨?_, ?_⟩ <;> omega) (fun c7 => ?_) (fun c7 => ?_)
      · exfalso; omega
      · refine x_iconst hK kX10_gather_10 (q := 11) rfl ?_
        refine x_istore_n hK kX10_gather_11 (q := 12) (jn := 2) rfl rfl ?_
        refine x_iconst hK kX10_gather_12 (q := 13) rfl ?_
        refine x_istore_n hK kX10_gather_13 (q := 14) (jn := 3) rfl rfl ?_
        simp only [lS, lS2, clr_0, clr_I, clr_L, clr_R]
        exact inner N 0 1 (by omega) (Or.inr rfl) ⟨fun _ j hj => by omega, fun _ => rfl⟩
  simp only [eLoc, eE, List.length_cons, List.length_nil, List.replicate, List.cons_append, List.nil_append, Nat.reduceAdd, Nat.reduceSub]
  refine x_iconst hK kX10_gather_0 (q := 1) rfl ?_
  refine x_istore_n hK kX10_gather_1 (q := 2) (jn := 1) rfl rfl ?_
  simp only [lS, lS2, clr_0, clr_I, clr_L, clr_R]
  exact outer n 0 F A _ _ (by omega) (fun _ _ => rfl) (by rw [h19]; rfl) (fun _ _ => rfl) rfl
set_option maxRecDepth 20000 in
theorem mX10_gather : eMet yX10_gather cX10_gather 4 none 4 83 SX10_gather := eMet_of (by decide +kernel) sX10_gather kX10_gather_ok caX10_gather tb_RX10
theorem wX10_gather : eWV yX10_gather cX10_gather 4 none 1 9 SX10_gather := ⟨(gW_at 1208 (by decide +kernel) rfl), (gW_at 89 (by decide +kernel) rfl), (gW_at 1207 (by decide +kernel) rfl), ⟨_, rfl, (gW_at 61 (by decide +kernel) rfl)⟩, by decide +kernel, SX10_gather_r⟩
