/-! plain: a row by what divides all. -/
def zG (s : Int → Int) (a : Int) : Nat → Nat
  | 0 => 0
  | n + 1 => Nat.gcd (zG s a n) (s (a + n)).natAbs
theorem zG_d {s : Int → Int} {a : Int} : ∀ {n k : Nat}, k < n → (zG s a n : Int) ∣ s (a + k) := by
  intro n
  induction n with
  | zero => intro k hk; omega
  | succ n ih =>
    intro k hk
    have h1 : zG s a (n + 1) ∣ zG s a n := Nat.gcd_dvd_left _ _
    have h2 : zG s a (n + 1) ∣ (s (a + n)).natAbs := Nat.gcd_dvd_right _ _
    rcases Nat.lt_or_ge k n with g | g
    · exact Int.dvd_trans (Int.natCast_dvd_natCast.mpr h1) (ih g)
    · rw [show k = n by omega]
      exact Int.ofNat_dvd_left.mpr h2
theorem zG_m {s : Int → Int} {a c : Int} : ∀ {n : Nat}, (∀ k : Nat, k < n → c ∣ s (a + k)) → c ∣ (zG s a n : Int) := by
  intro n
  induction n with
  | zero => intro _; exact Int.dvd_zero c
  | succ n ih =>
    intro h
    have h1 := ih (fun k hk => h k (by omega))
    have h2 := h n (by omega)
    refine Int.ofNat_dvd_right.mpr ?_
    exact Nat.dvd_gcd (Int.ofNat_dvd_right.mp h1) (Int.natAbs_dvd_natAbs.mpr h2)
theorem zG_b {s : Int → Int} {a B : Int} (hB : 0 < B) : ∀ {n : Nat}, (∀ k : Nat, k < n → zAbs (s (a + k)) < B) → (zG s a n : Int) < B := by
  intro n
  induction n with
  | zero => intro _; exact hB
  | succ n ih =>
    intro h
    have h1 := ih (fun k hk => h k (by omega))
    have h2 := h n (by omega)
    rw [zAbs_n] at h2
    show ((Nat.gcd (zG s a n) (s (a + n)).natAbs : Nat) : Int) < B
    rcases Nat.eq_zero_or_pos (s (a + n)).natAbs with g | g
    · rw [g, Nat.gcd_zero_right]; exact h1
    · have := Nat.gcd_le_right (zG s a n) g
      omega
theorem zG_e (s : Int → Int) (a : Int) (n : Nat) : (Int.gcd (zG s a n : Int) (s (a + n)) : Int) = (zG s a (n + 1) : Int) := rfl
def pl (s : Int → Int) (a h : Int) (n : Int) : Int → Int := fun p => if p = 2070 then h else if a ≤ p ∧ p < a + n then s p / h else s p
def SX10_plain : eSp := fun as M rt => ∃ (F : Nat → Int) (A : Nat → Int → Int) (s : Int → Int) (a : Int) (l : Nat), as = [eRR, eI a, eI l] ∧ M = cR F A ∧ rn (A 0) s ∧ 0 ≤ a ∧ a + l < 2070 ∧ s (a + l) ≠ 0 ∧ (∀ k : Nat, k ≤ l → zAbs (s (a + k)) < bB ^ 598) ∧ ∀ A' h, sN A A' → h ≠ 0 → 0 < h * s (a + l) → zAbs h = zG s a (l + 1) → rn (A' 0) (pl s a h (l + 1)) → rt none (cR F A')
theorem SX10_plain_i {F : Nat → Int} {A : Nat → Int → Int} {s : Int → Int} {a : Int} (l : Nat) {rt : Option eV → eM → Prop} (hr : rn (A 0) s) (h0 : 0 ≤ a) (h1 : a + l < 2070) (h2 : s (a + l) ≠ 0) (h3 : ∀ k : Nat, k ≤ l → zAbs (s (a + k)) < bB ^ 598) (h : ∀ A' h, sN A A' → h ≠ 0 → 0 < h * s (a + l) → zAbs h = zG s a (l + 1) → rn (A' 0) (pl s a h (l + 1)) → rt none (cR F A')) : SX10_plain [eRR, eI a, eI l] (cR F A) rt := ⟨F, A, s, a, l, rfl, rfl, hr, h0, h1, h2, h3, h⟩
theorem SX10_plain_r : ∀ as M rt, SX10_plain as M rt → ∃ a r fs, as = eR a :: r ∧ M a = some (.inl (9, fs)) := by
  rintro as M rt ⟨F, A, s, a, l, rfl, rfl, -⟩
  exact ⟨_, _, _, rfl, rfl⟩
def kX10_plain : List (Nat × Jvm.ClassFile.Instr × Nat) := [(0, .aload_n 0, 1), (1, .getfield 12, 3), (4, .sipush 2070, 3), (7, .invokestatic 64, 3), (10, .iconst 0, 1), (11, .iastore, 1), (12, .iconst 0, 1), (13, .istore_n 3, 1), (14, .iload_n 3, 1), (15, .iload_n 2, 1), (16, .if_icmp .gt 32, 3), (19, .aload_n 0, 1), (20, .iload_n 1, 1), (21, .iload_n 3, 1), (22, .iadd, 1), (23, .invokevirtual 81, 3), (26, .ifCond .ne 16, 3), (29, .aload_n 0, 1), (30, .sipush 2070, 3), (33, .sipush 2070, 3), (36, .iload_n 1, 1), (37, .iload_n 3, 1), (38, .iadd, 1), (39, .invokevirtual 148, 3), (42, .iinc 3 1, 3), (45, .goto (-31), 3), (48, .aload_n 0, 1), (49, .sipush 2070, 3), (52, .invokevirtual 81, 3), (55, .ifCond .eq 4, 3), (58, .return_, 1), (59, .aload_n 0, 1), (60, .iload_n 1, 1), (61, .iload_n 2, 1), (62, .iadd, 1), (63, .invokevirtual 78, 3), (66, .ifCond .ge 10, 3), (69, .aload_n 0, 1), (70, .sipush 2070, 3), (73, .invokevirtual 151, 3), (76, .iconst 0, 1), (77, .istore_n 3, 1), (78, .iload_n 3, 1), (79, .iload_n 2, 1), (80, .if_icmp .gt 19, 3), (83, .aload_n 0, 1), (84, .iload_n 1, 1), (85, .iload_n 3, 1), (86, .iadd, 1), (87, .sipush 2070, 3), (90, .invokevirtual 155, 3), (93, .iinc 3 1, 3), (96, .goto (-18), 3), (99, .return_, 1)]
theorem kX10_plain_0 : cdOf kX10_plain 0 = some (.aload_n 0, 1) := by decide +kernel
theorem kX10_plain_1 : cdOf kX10_plain 1 = some (.getfield 12, 3) := by decide +kernel
theorem kX10_plain_4 : cdOf kX10_plain 4 = some (.sipush 2070, 3) := by decide +kernel
theorem kX10_plain_7 : cdOf kX10_plain 7 = some (.invokestatic 64, 3) := by decide +kernel
theorem kX10_plain_10 : cdOf kX10_plain 10 = some (.iconst 0, 1) := by decide +kernel
theorem kX10_plain_11 : cdOf kX10_plain 11 = some (.iastore, 1) := by decide +kernel
theorem kX10_plain_12 : cdOf kX10_plain 12 = some (.iconst 0, 1) := by decide +kernel
theorem kX10_plain_13 : cdOf kX10_plain 13 = some (.istore_n 3, 1) := by decide +kernel
theorem kX10_plain_14 : cdOf kX10_plain 14 = some (.iload_n 3, 1) := by decide +kernel
theorem kX10_plain_15 : cdOf kX10_plain 15 = some (.iload_n 2, 1) := by decide +kernel
theorem kX10_plain_16 : cdOf kX10_plain 16 = some (.if_icmp .gt 32, 3) := by decide +kernel
theorem kX10_plain_19 : cdOf kX10_plain 19 = some (.aload_n 0, 1) := by decide +kernel
theorem kX10_plain_20 : cdOf kX10_plain 20 = some (.iload_n 1, 1) := by decide +kernel
theorem kX10_plain_21 : cdOf kX10_plain 21 = some (.iload_n 3, 1) := by decide +kernel
theorem kX10_plain_22 : cdOf kX10_plain 22 = some (.iadd, 1) := by decide +kernel
theorem kX10_plain_23 : cdOf kX10_plain 23 = some (.invokevirtual 81, 3) := by decide +kernel
theorem kX10_plain_26 : cdOf kX10_plain 26 = some (.ifCond .ne 16, 3) := by decide +kernel
theorem kX10_plain_29 : cdOf kX10_plain 29 = some (.aload_n 0, 1) := by decide +kernel
theorem kX10_plain_30 : cdOf kX10_plain 30 = some (.sipush 2070, 3) := by decide +kernel
theorem kX10_plain_33 : cdOf kX10_plain 33 = some (.sipush 2070, 3) := by decide +kernel
theorem kX10_plain_36 : cdOf kX10_plain 36 = some (.iload_n 1, 1) := by decide +kernel
theorem kX10_plain_37 : cdOf kX10_plain 37 = some (.iload_n 3, 1) := by decide +kernel
theorem kX10_plain_38 : cdOf kX10_plain 38 = some (.iadd, 1) := by decide +kernel
theorem kX10_plain_39 : cdOf kX10_plain 39 = some (.invokevirtual 148, 3) := by decide +kernel
theorem kX10_plain_42 : cdOf kX10_plain 42 = some (.iinc 3 1, 3) := by decide +kernel
theorem kX10_plain_45 : cdOf kX10_plain 45 = some (.goto (-31), 3) := by decide +kernel
theorem kX10_plain_48 : cdOf kX10_plain 48 = some (.aload_n 0, 1) := by decide +kernel
theorem kX10_plain_49 : cdOf kX10_plain 49 = some (.sipush 2070, 3) := by decide +kernel
theorem kX10_plain_52 : cdOf kX10_plain 52 = some (.invokevirtual 81, 3) := by decide +kernel
theorem kX10_plain_55 : cdOf kX10_plain 55 = some (.ifCond .eq 4, 3) := by decide +kernel
theorem kX10_plain_58 : cdOf kX10_plain 58 = some (.return_, 1) := by decide +kernel
theorem kX10_plain_59 : cdOf kX10_plain 59 = some (.aload_n 0, 1) := by decide +kernel
theorem kX10_plain_60 : cdOf kX10_plain 60 = some (.iload_n 1, 1) := by decide +kernel
theorem kX10_plain_61 : cdOf kX10_plain 61 = some (.iload_n 2, 1) := by decide +kernel
theorem kX10_plain_62 : cdOf kX10_plain 62 = some (.iadd, 1) := by decide +kernel
theorem kX10_plain_63 : cdOf kX10_plain 63 = some (.invokevirtual 78, 3) := by decide +kernel
theorem kX10_plain_66 : cdOf kX10_plain 66 = some (.ifCond .ge 10, 3) := by decide +kernel
theorem kX10_plain_69 : cdOf kX10_plain 69 = some (.aload_n 0, 1) := by decide +kernel
theorem kX10_plain_70 : cdOf kX10_plain 70 = some (.sipush 2070, 3) := by decide +kernel
theorem kX10_plain_73 : cdOf kX10_plain 73 = some (.invokevirtual 151, 3) := by decide +kernel
theorem kX10_plain_76 : cdOf kX10_plain 76 = some (.iconst 0, 1) := by decide +kernel
theorem kX10_plain_77 : cdOf kX10_plain 77 = some (.istore_n 3, 1) := by decide +kernel
theorem kX10_plain_78 : cdOf kX10_plain 78 = some (.iload_n 3, 1) := by decide +kernel
theorem kX10_plain_79 : cdOf kX10_plain 79 = some (.iload_n 2, 1) := by decide +kernel
theorem kX10_plain_80 : cdOf kX10_plain 80 = some (.if_icmp .gt 19, 3) := by decide +kernel
theorem kX10_plain_83 : cdOf kX10_plain 83 = some (.aload_n 0, 1) := by decide +kernel
theorem kX10_plain_84 : cdOf kX10_plain 84 = some (.iload_n 1, 1) := by decide +kernel
theorem kX10_plain_85 : cdOf kX10_plain 85 = some (.iload_n 3, 1) := by decide +kernel
theorem kX10_plain_86 : cdOf kX10_plain 86 = some (.iadd, 1) := by decide +kernel
theorem kX10_plain_87 : cdOf kX10_plain 87 = some (.sipush 2070, 3) := by decide +kernel
theorem kX10_plain_90 : cdOf kX10_plain 90 = some (.invokevirtual 155, 3) := by decide +kernel
theorem kX10_plain_93 : cdOf kX10_plain 93 = some (.iinc 3 1, 3) := by decide +kernel
theorem kX10_plain_96 : cdOf kX10_plain 96 = some (.goto (-18), 3) := by decide +kernel
theorem kX10_plain_99 : cdOf kX10_plain 99 = some (.return_, 1) := by decide +kernel
set_option maxRecDepth 20000 in
theorem kX10_plain_ok : ∀ pc i len, cdOf kX10_plain pc = some (i, len) → decode cX10_plain pc = .ok (i, len) ∧ stOK 4 i = true ∧ jOK pc i = true ∧ eLen i len = true := cdOf_ok cX10_plain 4 kX10_plain (by decide +kernel)
def vtX10_plain : Nat → Option (Nat × eSp) := fun k => match k with
  | 81 => some (2, SX10_isZero)
  | 148 => some (4, SX10_divisor)
  | 78 => some (2, SX10_sign)
  | 151 => some (2, SX10_negate)
  | 155 => some (3, SX10_over)
  | _ => none
theorem vtX10_plain_81 : vtX10_plain 81 = some (2, SX10_isZero) := rfl
theorem vtX10_plain_148 : vtX10_plain 148 = some (4, SX10_divisor) := rfl
theorem vtX10_plain_78 : vtX10_plain 78 = some (2, SX10_sign) := rfl
theorem vtX10_plain_151 : vtX10_plain 151 = some (2, SX10_negate) := rfl
theorem vtX10_plain_155 : vtX10_plain 155 = some (3, SX10_over) := rfl
def stX10_plain : Nat → Option (Nat × eSp) := fun k => match k with
  | 64 => some (1, SX10_at)
  | _ => none
theorem stX10_plain_64 : stX10_plain 64 = some (1, SX10_at) := rfl
abbrev TX10_plain : eT := (fl_RX10, cl_RX10, dl_RX10, vtX10_plain, stX10_plain)
set_option maxRecDepth 20000 in
theorem caX10_plain : eCalls RX10 { frames := 4, cells := 0, slots := 0, locals := 103 } TX10_plain := by
  refine ⟨fun k n sp h => ?_, fun k n sp h => ?_⟩
  · dsimp only [TX10_plain] at h
    unfold vtX10_plain at h
    split at h
    · cases h; exact eV_mk mX10_isZero wX10_isZero (by decide +kernel) (Or.inl (gW_at 1086 (by decide +kernel) rfl))
    · cases h; exact eV_mk mX10_divisor wX10_divisor (by decide +kernel) (Or.inl (gW_at 1093 (by decide +kernel) rfl))
    · cases h; exact eV_mk mX10_sign wX10_sign (by decide +kernel) (Or.inl (gW_at 1142 (by decide +kernel) rfl))
    · cases h; exact eV_mk mX10_negate wX10_negate (by decide +kernel) (Or.inl (gW_at 1170 (by decide +kernel) rfl))
    · cases h; exact eV_mk mX10_over wX10_over (by decide +kernel) (Or.inl (gW_at 1138 (by decide +kernel) rfl))
    · cases h
  · dsimp only [TX10_plain] at h
    unfold stX10_plain at h
    split at h
    · cases h; exact eS_mk mX10_at wX10_at (by decide +kernel) (Or.inl (gW_at 1070 (by decide +kernel) rfl))
    · cases h
set_option maxRecDepth 100000 in
set_option maxHeartbeats 4000000 in
theorem sX10_plain : eSafe TX10_plain (cdOf kX10_plain) 4 none SX10_plain := by
  intro K rt hK as M h
  obtain ⟨F, A, s, a, l, rfl, rfl, hr, h0, h1, h2, h3, h⟩ := h
  refine ⟨by simp [eE], ?_⟩
  have hw : w32 (l : Int) := by constructor <;> omega
  have gd : ∀ k : Nat, k ≤ l → (zG s a (l + 1) : Int) ∣ s (a + k) := fun k hk => zG_d (by omega)
  have gz : (zG s a (l + 1) : Int) ≠ 0 := by
    intro e
    have := gd l (Nat.le_refl _)
    rw [e] at this
    exact h2 (Int.zero_dvd.mp this)
  -- dividing
  have over : ∀ (d n : Nat) (A' : Nat → Int → Int) (e : Int), n + d = l + 1 → sN A A' → e ≠ 0 → 0 < e * s (a + l) → zAbs e = zG s a (l + 1) → rn (A' 0) (pl s a e n) → K 78 [some eRR, some (eI a), some (eI l), some (eI n)] [] (cR F A') := by
    intro d
    induction d with
    | zero =>
      intro n A' e hn hs e0 e1 e2 hr'
      have e3 : n = l + 1 := by omega
      subst e3
      have w1 : w32 ((l + 1 : Nat) : Int) := by constructor <;> omega
      clear h1
      refine x_iload_n hK kX10_plain_78 (q := 79) rfl rfl ?_
      refine x_iload_n hK kX10_plain_79 (q := 80) rfl rfl ?_
      refine x_icmp_gt hK kX10_plain_80 (q := 83) rfl (tg := 99) rfl (by exact ⟨w1, hw⟩) (fun c80 => ?_) (fun c80 => ?_)
      · refine x_return_ hK kX10_plain_99 (by first | trivial | exact Or.inl rfl | exact Or.inr rfl) ?_
        exact h A' e hs e0 e1 e2 hr'
      · exfalso; omega
    | succ d ih =>
      intro n A' e hn hs e0 e1 e2 hr'
      have w1 : w32 (n : Int) := by constructor <;> omega
      have b1 : 0 ≤ a + (n : Int) ∧ a + (n : Int) < 2070 := by omega
      have v1 : pl s a e n (a + n) = s (a + n) := by
        unfold pl
        rw [if_neg (by omega), if_neg (by omega)]
      have v2 : pl s a e n 2070 = e := by
        unfold pl
        exact if_pos rfl
      have v3 : s (a + n) = e * (s (a + n) / e) := by
        have d1 := gd n (by omega)
        rw [← e2, zAbs_n] at d1
        exact (Int.mul_ediv_cancel' (Int.natAbs_dvd.mp d1)).symm
      refine x_iload_n hK kX10_plain_78 (q := 79) rfl rfl ?_
      refine x_iload_n hK kX10_plain_79 (q := 80) rfl rfl ?_
      refine x_icmp_gt hK kX10_plain_80 (q := 83) rfl (tg := 99) rfl (by exact ⟨w1, hw⟩) (fun c80 => ?_) (fun c80 => ?_)
      · exfalso; omega
      · refine x_aload_n hK kX10_plain_83 (q := 84) rfl rfl ?_
        refine x_iload_n hK kX10_plain_84 (q := 85) rfl rfl ?_
        refine x_iload_n hK kX10_plain_85 (q := 86) rfl rfl ?_
        refine x_iadd hK kX10_plain_86 (q := 87) rfl ?_
        refine x_sipush hK kX10_plain_87 (q := 90) rfl (by decide) ?_
        refine x_cv3 hK kX10_plain_90 (q := 93) rfl (vtX10_plain_155) (Nat.le_of_ble_eq_true rfl) ?_
        refine SX10_over_n (s (a + n) / e) hr' (by omega) (by omega) (by rw [v1, v2]; exact v3) (by rw [v2]; exact e0) (fun A'' s1 hr1 => ?_)
        refine x_iinc hK kX10_plain_93 (q := 96) rfl rfl ?_
        simp only [lS, lS2, clr_0, clr_I, clr_L, clr_R]
        refine x_goto hK kX10_plain_96 (tg := 78) rfl ?_
        rw [show (n : Int) + 1 = ((n + 1 : Nat) : Int) by omega]
        refine ih (n + 1) A'' e (by omega) (sN_tr hs s1) e0 e1 e2 ?_
        have e5 : uI (pl s a e n) (a + n) (s (a + n) / e) = pl s a e ((n + 1 : Nat) : Int) := by
          funext j
          unfold uI pl
          split
          · rename_i g
            rw [g, if_neg (by omega), if_pos (by omega)]
          · split
            · rfl
            · split
              · rw [if_pos (by omega)]
              · rw [if_neg (by omega)]
        rw [e5] at hr1
        exact hr1
  -- the divisor's sign
  have mid : ∀ (A' : Nat → Int → Int) (u : Option eV), sN A A' → rn (A' 0) (uI s 2070 (zG s a (l + 1) : Int)) → K 48 [some eRR, some (eI a), some (eI l), u] [] (cR F A') := by
    intro A' u hs hr'
    have v1 : uI s 2070 (zG s a (l + 1) : Int) (a + l) = s (a + l) := uI_n _ _ (by omega)
    have v2 : uI s 2070 (zG s a (l + 1) : Int) 2070 = zG s a (l + 1) := uI_s _ _ _
    have z1 : zZ (zG s a (l + 1) : Int) = 0 := zZ_0.mpr gz
    have p0 : ∀ e, uI s 2070 e = pl s a e ((0 : Nat) : Int) := by
      intro e
      funext j
      unfold uI pl
      split
      · rfl
      · rw [if_neg (by omega)]
    have ng : 0 < (zG s a (l + 1) : Int) := by omega
    refine x_aload_n hK kX10_plain_48 (q := 49) rfl rfl ?_
    refine x_sipush hK kX10_plain_49 (q := 52) rfl (by decide) ?_
    refine x_cv2 hK kX10_plain_52 (q := 55) rfl (vtX10_plain_81) (Nat.le_of_ble_eq_true rfl) ?_
    refine SX10_isZero_n hr' (by omega) ?_
    rw [v2, z1]
    refine x_if_eq hK kX10_plain_55 (q := 58) rfl (tg := 59) rfl (by omega) (fun c55 => ?_) (fun c55 => ?_)
    · refine x_aload_n hK kX10_plain_59 (q := 60) rfl rfl ?_
      refine x_iload_n hK kX10_plain_60 (q := 61) rfl rfl ?_
      refine x_iload_n hK kX10_plain_61 (q := 62) rfl rfl ?_
      refine x_iadd hK kX10_plain_62 (q := 63) rfl ?_
      refine x_cv2 hK kX10_plain_63 (q := 66) rfl (vtX10_plain_78) (Nat.le_of_ble_eq_true rfl) ?_
      refine SX10_sign_n hr' (by omega) ?_
      rw [v1]
      refine x_if_ge hK kX10_plain_66 (q := 69) rfl (tg := 76) rfl (by exact zSgn_w _) (fun c66 => ?_) (fun c66 => ?_)
      · have c67 : 0 < s (a + l) := by unfold zSgn at c66; split at c66 <;> (try split at c66) <;> omega
        have m1 : 0 < (zG s a (l + 1) : Int) * s (a + l) := Int.mul_pos ng c67
        rw [p0] at hr'
        refine x_iconst hK kX10_plain_76 (q := 77) rfl ?_
        refine x_istore_n hK kX10_plain_77 (q := 78) (jn := 3) rfl rfl ?_
        simp only [lS, lS2, clr_0, clr_I, clr_L, clr_R]
        exact over (l + 1) 0 A' _ (by omega) hs gz m1 (by unfold zAbs; rw [if_neg (by omega)]) hr'
      · have c67 : s (a + l) < 0 := by unfold zSgn at c66; split at c66 <;> (try split at c66) <;> omega
        have m1 : 0 < -(zG s a (l + 1) : Int) * s (a + l) := Int.mul_pos_of_neg_of_neg (by omega) c67
        refine x_aload_n hK kX10_plain_69 (q := 70) rfl rfl ?_
        refine x_sipush hK kX10_plain_70 (q := 73) rfl (by decide) ?_
        refine x_cv2 hK kX10_plain_73 (q := 76) rfl (vtX10_plain_151) (Nat.le_of_ble_eq_true rfl) ?_
        refine SX10_negate_n hr' (by omega) (fun A'' s1 hr1 => ?_)
        rw [v2, uI_uI, p0] at hr1
        refine x_iconst hK kX10_plain_76 (q := 77) rfl ?_
        refine x_istore_n hK kX10_plain_77 (q := 78) (jn := 3) rfl rfl ?_
        simp only [lS, lS2, clr_0, clr_I, clr_L, clr_R]
        exact over (l + 1) 0 A'' _ (by omega) (sN_tr hs s1) (by omega) m1 (by unfold zAbs; rw [if_pos (by omega)]; omega) hr1
    · exact absurd rfl c55
  -- gathering the divisor
  have loop : ∀ (d n : Nat) (A' : Nat → Int → Int), n + d = l + 1 → sN A A' → rn (A' 0) (uI s 2070 (zG s a n : Int)) → K 14 [some eRR, some (eI a), some (eI l), some (eI n)] [] (cR F A') := by
    intro d
    induction d with
    | zero =>
      intro n A' hn hs hr'
      have e3 : n = l + 1 := by omega
      subst e3
      have w1 : w32 ((l + 1 : Nat) : Int) := by constructor <;> omega
      refine x_iload_n hK kX10_plain_14 (q := 15) rfl rfl ?_
      refine x_iload_n hK kX10_plain_15 (q := 16) rfl rfl ?_
      refine x_icmp_gt hK kX10_plain_16 (q := 19) rfl (tg := 48) rfl (by exact ⟨w1, hw⟩) (fun c16 => ?_) (fun c16 => ?_)
      · exact mid A' _ hs hr'
      · exfalso; omega
    | succ d ih =>
      intro n A' hn hs hr'
      have w1 : w32 (n : Int) := by constructor <;> omega
      have v1 : uI s 2070 (zG s a n : Int) (a + n) = s (a + n) := uI_n _ _ (by omega)
      have v2 : uI s 2070 (zG s a n : Int) 2070 = zG s a n := uI_s _ _ _
      have b2 : (zG s a n : Int) < bB ^ 598 := zG_b (bB_pos _) (fun k hk => h3 k (by omega))
      have b3 := h3 n (by omega)
      have b4 : zAbs (zG s a n : Int) < bB ^ 598 := by unfold zAbs; rw [if_neg (by omega)]; exact b2
      refine x_iload_n hK kX10_plain_14 (q := 15) rfl rfl ?_
      refine x_iload_n hK kX10_plain_15 (q := 16) rfl rfl ?_
      refine x_icmp_gt hK kX10_plain_16 (q := 19) rfl (tg := 48) rfl (by exact ⟨w1, hw⟩) (fun c16 => ?_) (fun c16 => ?_)
      · exfalso; omega
      · refine x_aload_n hK kX10_plain_19 (q := 20) rfl rfl ?_
        refine x_iload_n hK kX10_plain_20 (q := 21) rfl rfl ?_
        refine x_iload_n hK kX10_plain_21 (q := 22) rfl rfl ?_
        refine x_iadd hK kX10_plain_22 (q := 23) rfl ?_
        refine x_cv2 hK kX10_plain_23 (q := 26) rfl (vtX10_plain_81) (Nat.le_of_ble_eq_true rfl) ?_
        refine SX10_isZero_n hr' (by omega) ?_
        rw [v1]
        refine x_if_ne hK kX10_plain_26 (q := 29) rfl (tg := 42) rfl (by exact zZ_w _) (fun c26 => ?_) (fun c26 => ?_)
        · have c27 : s (a + n) = 0 := Decidable.not_not.mp (fun g => c26 (zZ_0.mpr g))
          have e6 : zG s a (n + 1) = zG s a n := by show Nat.gcd (zG s a n) (s (a + n)).natAbs = _; rw [c27]; simp
          refine x_iinc hK kX10_plain_42 (q := 45) rfl rfl ?_
          simp only [lS, lS2, clr_0, clr_I, clr_L, clr_R]
          refine x_goto hK kX10_plain_45 (tg := 14) rfl ?_
          rw [show (n : Int) + 1 = ((n + 1 : Nat) : Int) by omega]
          exact ih (n + 1) A' (by omega) hs (by rw [e6]; exact hr')
        · refine x_aload_n hK kX10_plain_29 (q := 30) rfl rfl ?_
          refine x_sipush hK kX10_plain_30 (q := 33) rfl (by decide) ?_
          refine x_sipush hK kX10_plain_33 (q := 36) rfl (by decide) ?_
          refine x_iload_n hK kX10_plain_36 (q := 37) rfl rfl ?_
          refine x_iload_n hK kX10_plain_37 (q := 38) rfl rfl ?_
          refine x_iadd hK kX10_plain_38 (q := 39) rfl ?_
          refine x_cv4 hK kX10_plain_39 (q := 42) rfl (vtX10_plain_148) (Nat.le_of_ble_eq_true rfl) ?_
          refine SX10_divisor_n hr' (by omega) (by omega) (by omega) (by rw [v1, v2]; exact ⟨b4, b3⟩) (fun A'' s1 hr1 => ?_)
          rw [v1, v2, uI_uI, zG_e] at hr1
          refine x_iinc hK kX10_plain_42 (q := 45) rfl rfl ?_
          simp only [lS, lS2, clr_0, clr_I, clr_L, clr_R]
          refine x_goto hK kX10_plain_45 (tg := 14) rfl ?_
          rw [show (n : Int) + 1 = ((n + 1 : Nat) : Int) by omega]
          exact ih (n + 1) A'' (by omega) (sN_tr hs s1) hr1
  simp only [eLoc, eE, List.length_cons, List.length_nil, List.replicate, List.cons_append, List.nil_append, Nat.reduceAdd, Nat.reduceSub]
  refine x_aload_n hK kX10_plain_0 (q := 1) rfl rfl ?_
  refine x_getfield hK kX10_plain_1 (q := 4) rfl (gX10_12 ?_)
  refine x_sipush hK kX10_plain_4 (q := 7) rfl (by decide) ?_
  refine x_cs1 hK kX10_plain_7 (q := 10) rfl (stX10_plain_64) (Nat.le_of_ble_eq_true rfl) ?_
  refine SX10_at_i ?_
  refine x_iconst hK kX10_plain_10 (q := 11) rfl ?_
  refine x_iastore hK kX10_plain_11 (q := 12) rfl (yX10_A0 (by omega) ?_)
  refine x_iconst hK kX10_plain_12 (q := 13) rfl ?_
  refine x_istore_n hK kX10_plain_13 (q := 14) (jn := 3) rfl rfl ?_
  simp only [lS, lS2, clr_0, clr_I, clr_L, clr_R]
  refine loop (l + 1) 0 _ (by omega) (sN_u (by decide) _) (rn_nil (p := 2070) hr)
set_option maxRecDepth 20000 in
theorem mX10_plain : eMet yX10_plain cX10_plain 4 none 4 103 SX10_plain := eMet_of (by decide +kernel) sX10_plain kX10_plain_ok caX10_plain tb_RX10
theorem wX10_plain : eWV yX10_plain cX10_plain 4 none 3 9 SX10_plain := ⟨(gW_at 1169 (by decide +kernel) rfl), (gW_at 89 (by decide +kernel) rfl), (gW_at 1168 (by decide +kernel) rfl), ⟨_, rfl, (gW_at 55 (by decide +kernel) rfl)⟩, by decide +kernel, SX10_plain_r⟩
