/-! changes, squares. -/
def chS (c : Nat → Int) (t : Int) (k : Nat) : Int := if t ≠ 0 ∧ k % 2 = 1 then -zSgn (c k) else zSgn (c k)
def chF (c : Nat → Int) (t : Int) : Nat → Int × Int
  | 0 => (0, 0)
  | k + 1 => if chS c t k = 0 then chF c t k else (chS c t k, (chF c t k).2 + (if (chF c t k).1 ≠ 0 ∧ chS c t k ≠ (chF c t k).1 then 1 else 0))
theorem zSgn_3 (x : Int) : zSgn x = -1 ∨ zSgn x = 0 ∨ zSgn x = 1 := by
  unfold zSgn
  split
  · exact Or.inl rfl
  · split
    · exact Or.inr (Or.inl rfl)
    · exact Or.inr (Or.inr rfl)
theorem chS_3 (c : Nat → Int) (t : Int) (k : Nat) : chS c t k = -1 ∨ chS c t k = 0 ∨ chS c t k = 1 := by
  have := zSgn_3 (c k)
  unfold chS
  split <;> omega
theorem chF_b (c : Nat → Int) (t : Int) : ∀ k : Nat, (-1 ≤ (chF c t k).1 ∧ (chF c t k).1 ≤ 1) ∧ 0 ≤ (chF c t k).2 ∧ (chF c t k).2 ≤ k
  | 0 => by
    show ((-1 : Int) ≤ 0 ∧ (0 : Int) ≤ 1) ∧ (0 : Int) ≤ 0 ∧ (0 : Int) ≤ ((0 : Nat) : Int)
    decide
  | k + 1 => by
    have h := chF_b c t k
    have h2 := chS_3 c t k
    unfold chF
    split
    · omega
    · dsimp only
      split <;> omega
def SX10_changes : eSp := fun as M rt => ∃ (F : Nat → Int) (A : Nat → Int → Int) (s : Int → Int) (n : Nat) (t : Int), as = [eRR, eI n, eI t] ∧ M = cR F A ∧ rn (A 0) s ∧ n ≤ 6 ∧ (t = 0 ∨ t = 1) ∧ rt (some (eI (chF (fun k => s (2656 + k)) t (n + 1)).2)) (cR F A)
theorem SX10_changes_i {F : Nat → Int} {A : Nat → Int → Int} {s : Int → Int} {n : Nat} {t : Int} {rt : Option eV → eM → Prop} (hr : rn (A 0) s) (h0 : n ≤ 6) (h1 : t = 0 ∨ t = 1) (h : rt (some (eI (chF (fun k => s (2656 + k)) t (n + 1)).2)) (cR F A)) : SX10_changes [eRR, eI n, eI t] (cR F A) rt := ⟨F, A, s, n, t, rfl, rfl, hr, h0, h1, h⟩
theorem SX10_changes_r : ∀ as M rt, SX10_changes as M rt → ∃ a r fs, as = eR a :: r ∧ M a = some (.inl (9, fs)) := by
  rintro as M rt ⟨F, A, s, n, t, rfl, rfl, -⟩
  exact ⟨_, _, _, rfl, rfl⟩
def kX10_changes : List (Nat × Jvm.ClassFile.Instr × Nat) := [(0, .iconst 0, 1), (1, .istore_n 3, 1), (2, .iconst 0, 1), (3, .istore 4, 2), (5, .iconst 0, 1), (6, .istore 5, 2), (8, .iload 5, 2), (10, .iload_n 1, 1), (11, .if_icmp .gt 74, 3), (14, .aload_n 0, 1), (15, .sipush 2656, 3), (18, .iload 5, 2), (20, .iadd, 1), (21, .invokevirtual 78, 3), (24, .istore 6, 2), (26, .iload_n 2, 1), (27, .ifCond .eq 17, 3), (30, .iload 5, 2), (32, .iconst 2, 1), (33, .irem, 1), (34, .iconst 1, 1), (35, .if_icmp .ne 9, 3), (38, .iload 6, 2), (40, .ineg, 1), (41, .goto 5, 3), (44, .iload 6, 2), (46, .istore 6, 2), (48, .iload 6, 2), (50, .ifCond .ne 6, 3), (53, .goto 26, 3), (56, .iload 4, 2), (58, .iload_n 3, 1), (59, .ifCond .eq 13, 3), (62, .iload 6, 2), (64, .iload_n 3, 1), (65, .if_icmp .eq 7, 3), (68, .iconst 1, 1), (69, .goto 4, 3), (72, .iconst 0, 1), (73, .iadd, 1), (74, .istore 4, 2), (76, .iload 6, 2), (78, .istore_n 3, 1), (79, .iinc 5 1, 3), (82, .goto (-74), 3), (85, .iload 4, 2), (87, .ireturn, 1)]
theorem kX10_changes_0 : cdOf kX10_changes 0 = some (.iconst 0, 1) := by decide +kernel
theorem kX10_changes_1 : cdOf kX10_changes 1 = some (.istore_n 3, 1) := by decide +kernel
theorem kX10_changes_2 : cdOf kX10_changes 2 = some (.iconst 0, 1) := by decide +kernel
theorem kX10_changes_3 : cdOf kX10_changes 3 = some (.istore 4, 2) := by decide +kernel
theorem kX10_changes_5 : cdOf kX10_changes 5 = some (.iconst 0, 1) := by decide +kernel
theorem kX10_changes_6 : cdOf kX10_changes 6 = some (.istore 5, 2) := by decide +kernel
theorem kX10_changes_8 : cdOf kX10_changes 8 = some (.iload 5, 2) := by decide +kernel
theorem kX10_changes_10 : cdOf kX10_changes 10 = some (.iload_n 1, 1) := by decide +kernel
theorem kX10_changes_11 : cdOf kX10_changes 11 = some (.if_icmp .gt 74, 3) := by decide +kernel
theorem kX10_changes_14 : cdOf kX10_changes 14 = some (.aload_n 0, 1) := by decide +kernel
theorem kX10_changes_15 : cdOf kX10_changes 15 = some (.sipush 2656, 3) := by decide +kernel
theorem kX10_changes_18 : cdOf kX10_changes 18 = some (.iload 5, 2) := by decide +kernel
theorem kX10_changes_20 : cdOf kX10_changes 20 = some (.iadd, 1) := by decide +kernel
theorem kX10_changes_21 : cdOf kX10_changes 21 = some (.invokevirtual 78, 3) := by decide +kernel
theorem kX10_changes_24 : cdOf kX10_changes 24 = some (.istore 6, 2) := by decide +kernel
theorem kX10_changes_26 : cdOf kX10_changes 26 = some (.iload_n 2, 1) := by decide +kernel
theorem kX10_changes_27 : cdOf kX10_changes 27 = some (.ifCond .eq 17, 3) := by decide +kernel
theorem kX10_changes_30 : cdOf kX10_changes 30 = some (.iload 5, 2) := by decide +kernel
theorem kX10_changes_32 : cdOf kX10_changes 32 = some (.iconst 2, 1) := by decide +kernel
theorem kX10_changes_33 : cdOf kX10_changes 33 = some (.irem, 1) := by decide +kernel
theorem kX10_changes_34 : cdOf kX10_changes 34 = some (.iconst 1, 1) := by decide +kernel
theorem kX10_changes_35 : cdOf kX10_changes 35 = some (.if_icmp .ne 9, 3) := by decide +kernel
theorem kX10_changes_38 : cdOf kX10_changes 38 = some (.iload 6, 2) := by decide +kernel
theorem kX10_changes_40 : cdOf kX10_changes 40 = some (.ineg, 1) := by decide +kernel
theorem kX10_changes_41 : cdOf kX10_changes 41 = some (.goto 5, 3) := by decide +kernel
theorem kX10_changes_44 : cdOf kX10_changes 44 = some (.iload 6, 2) := by decide +kernel
theorem kX10_changes_46 : cdOf kX10_changes 46 = some (.istore 6, 2) := by decide +kernel
theorem kX10_changes_48 : cdOf kX10_changes 48 = some (.iload 6, 2) := by decide +kernel
theorem kX10_changes_50 : cdOf kX10_changes 50 = some (.ifCond .ne 6, 3) := by decide +kernel
theorem kX10_changes_53 : cdOf kX10_changes 53 = some (.goto 26, 3) := by decide +kernel
theorem kX10_changes_56 : cdOf kX10_changes 56 = some (.iload 4, 2) := by decide +kernel
theorem kX10_changes_58 : cdOf kX10_changes 58 = some (.iload_n 3, 1) := by decide +kernel
theorem kX10_changes_59 : cdOf kX10_changes 59 = some (.ifCond .eq 13, 3) := by decide +kernel
theorem kX10_changes_62 : cdOf kX10_changes 62 = some (.iload 6, 2) := by decide +kernel
theorem kX10_changes_64 : cdOf kX10_changes 64 = some (.iload_n 3, 1) := by decide +kernel
theorem kX10_changes_65 : cdOf kX10_changes 65 = some (.if_icmp .eq 7, 3) := by decide +kernel
theorem kX10_changes_68 : cdOf kX10_changes 68 = some (.iconst 1, 1) := by decide +kernel
theorem kX10_changes_69 : cdOf kX10_changes 69 = some (.goto 4, 3) := by decide +kernel
theorem kX10_changes_72 : cdOf kX10_changes 72 = some (.iconst 0, 1) := by decide +kernel
theorem kX10_changes_73 : cdOf kX10_changes 73 = some (.iadd, 1) := by decide +kernel
theorem kX10_changes_74 : cdOf kX10_changes 74 = some (.istore 4, 2) := by decide +kernel
theorem kX10_changes_76 : cdOf kX10_changes 76 = some (.iload 6, 2) := by decide +kernel
theorem kX10_changes_78 : cdOf kX10_changes 78 = some (.istore_n 3, 1) := by decide +kernel
theorem kX10_changes_79 : cdOf kX10_changes 79 = some (.iinc 5 1, 3) := by decide +kernel
theorem kX10_changes_82 : cdOf kX10_changes 82 = some (.goto (-74), 3) := by decide +kernel
theorem kX10_changes_85 : cdOf kX10_changes 85 = some (.iload 4, 2) := by decide +kernel
theorem kX10_changes_87 : cdOf kX10_changes 87 = some (.ireturn, 1) := by decide +kernel
set_option maxRecDepth 20000 in
theorem kX10_changes_ok : ∀ pc i len, cdOf kX10_changes pc = some (i, len) → decode cX10_changes pc = .ok (i, len) ∧ stOK 7 i = true ∧ jOK pc i = true ∧ eLen i len = true := cdOf_ok cX10_changes 7 kX10_changes (by decide +kernel)
def vtX10_changes : Nat → Option (Nat × eSp) := fun k => match k with
  | 78 => some (2, SX10_sign)
  | _ => none
theorem vtX10_changes_78 : vtX10_changes 78 = some (2, SX10_sign) := rfl
def stX10_changes : Nat → Option (Nat × eSp) := fun _ => none
abbrev TX10_changes : eT := (fl_RX10, cl_RX10, dl_RX10, vtX10_changes, stX10_changes)
set_option maxRecDepth 20000 in
theorem caX10_changes : eCalls RX10 { frames := 2, cells := 0, slots := 0, locals := 41 } TX10_changes := by
  refine ⟨fun k n sp h => ?_, fun k n sp h => ?_⟩
  · dsimp only [TX10_changes] at h
    unfold vtX10_changes at h
    split at h
    · cases h; exact eV_mk mX10_sign wX10_sign (by decide +kernel) (Or.inl (gW_at 1142 (by decide +kernel) rfl))
    · cases h
  · cases h
set_option maxRecDepth 100000 in
set_option maxHeartbeats 4000000 in
theorem sX10_changes : eSafe TX10_changes (cdOf kX10_changes) 7 (some .int) SX10_changes := by
  intro K rt hK as M h
  obtain ⟨F, A, s, n, t, rfl, rfl, hr, hn, ht, h⟩ := h
  refine ⟨by simp [eE], ?_⟩
  obtain ⟨c, hc⟩ : ∃ c : Nat → Int, c = fun (k : Nat) => s (2656 + (k : Int)) := ⟨_, rfl⟩
  rw [← hc] at h
  have wt : w32 t := by rcases ht with e | e <;> rw [e] <;> decide
  have loop : ∀ (d k : Nat) (u6 : Option eV), k + d = n + 1 → K 8 [some eRR, some (eI n), some (eI t), some (eI (chF c t k).1), some (eI (chF c t k).2), some (eI k), u6] [] (cR F A) := by
    intro d
    induction d with
    | zero =>
      intro k u6 hk
      have e : k = n + 1 := by omega
      subst e
      refine x_iload hK kX10_changes_8 (q := 10) rfl rfl ?_
      refine x_iload_n hK kX10_changes_10 (q := 11) rfl rfl ?_
      refine x_icmp_gt hK kX10_changes_11 (q := 14) rfl (tg := 85) rfl (by constructor <;> (constructor <;> omega)) (fun c11 => ?_) (fun c11 => ?_)
      · refine x_iload hK kX10_changes_85 (q := 87) rfl rfl ?_
        refine x_ireturn hK kX10_changes_87 (by first | trivial | exact Or.inl rfl | exact Or.inr rfl) ?_
        exact h
      · exfalso; omega
    | succ d ih =>
      intro k u6 hk
      have hb := chF_b c t k
      obtain ⟨z, hz⟩ : ∃ z, chF c t k = z := ⟨_, rfl⟩
      have hs3 := chS_3 c t k
      have hg3 := zSgn_3 (c k)
      have hck : s (2656 + k) = c k := by rw [hc]
      rw [hz] at hb ⊢
      have wz : w32 z.1 := by constructor <;> omega
      obtain ⟨g, hg⟩ : ∃ g, zSgn (c k) = g := ⟨_, rfl⟩
      rw [hg] at hg3
      -- behind the sign
      have go : ∀ (x : Int), x = chS c t k → K 46 [some eRR, some (eI n), some (eI t), some (eI z.1), some (eI z.2), some (eI k), some (eI g)] [eI x] (cR F A) := by
        intro x hx
        have wx : w32 x := by constructor <;> omega
        have e0 : x = 0 → chF c t (k + 1) = z := fun e => by rw [← hz]; exact if_pos (by rw [← hx]; exact e)
        have e1 : x ≠ 0 → chF c t (k + 1) = (x, z.2 + (if z.1 ≠ 0 ∧ x ≠ z.1 then 1 else 0)) := fun e => by rw [hx, ← hz]; exact if_neg (by rw [← hx]; exact e)
        refine x_istore hK kX10_changes_46 (q := 48) rfl ?_
        refine x_iload hK kX10_changes_48 (q := 50) rfl rfl ?_
        simp only [lS, lS2, clr_0, clr_I, clr_L, clr_R]
        refine x_if_ne hK kX10_changes_50 (q := 53) rfl (tg := 56) rfl (by exact wx) (fun c50 => ?_) (fun c50 => ?_)
        · refine x_iload hK kX10_changes_56 (q := 58) rfl rfl ?_
          refine x_iload_n hK kX10_changes_58 (q := 59) rfl rfl ?_
          refine x_if_eq hK kX10_changes_59 (q := 62) rfl (tg := 72) rfl (by exact wz) (fun c59 => ?_) (fun c59 => ?_)
          · refine x_iconst hK kX10_changes_72 (q := 73) rfl ?_
            refine x_iadd hK kX10_changes_73 (q := 74) rfl ?_
            refine x_istore hK kX10_changes_74 (q := 76) rfl ?_
            refine x_iload hK kX10_changes_76 (q := 78) rfl rfl ?_
            refine x_istore_n hK kX10_changes_78 (q := 79) (jn := 3) rfl rfl ?_
            refine x_iinc hK kX10_changes_79 (q := 82) rfl rfl ?_
            simp only [lS, lS2, clr_0, clr_I, clr_L, clr_R]
            refine x_goto hK kX10_changes_82 (tg := 8) rfl ?_
            rw [show (k : Int) + 1 = ((k + 1 : Nat) : Int) by omega]
            first
            | (have := ih (k + 1) (some (eI x)) (by omega); rw [e1 c50, if_pos (show z.1 ≠ 0 ∧ x ≠ z.1 by omega)] at this; exact this)
            | (have := ih (k + 1) (some (eI x)) (by omega); rw [e1 c50, if_neg (show ¬ (z.1 ≠ 0 ∧ x ≠ z.1) by omega)] at this; exact this)
            | (have := ih (k + 1) (some (eI x)) (by omega); rw [e0 (by omega)] at this; exact this)
          · refine x_iload hK kX10_changes_62 (q := 64) rfl rfl ?_
            refine x_iload_n hK kX10_changes_64 (q := 65) rfl rfl ?_
            refine x_icmp_eq hK kX10_changes_65 (q := 68) rfl (tg := 72) rfl (by exact ⟨wx, wz⟩) (fun c65 => ?_) (fun c65 => ?_)
            · refine x_iconst hK kX10_changes_72 (q := 73) rfl ?_
              refine x_iadd hK kX10_changes_73 (q := 74) rfl ?_
              refine x_istore hK kX10_changes_74 (q := 76) rfl ?_
              refine x_iload hK kX10_changes_76 (q := 78) rfl rfl ?_
              refine x_istore_n hK kX10_changes_78 (q := 79) (jn := 3) rfl rfl ?_
              refine x_iinc hK kX10_changes_79 (q := 82) rfl rfl ?_
              simp only [lS, lS2, clr_0, clr_I, clr_L, clr_R]
              refine x_goto hK kX10_changes_82 (tg := 8) rfl ?_
              rw [show (k : Int) + 1 = ((k + 1 : Nat) : Int) by omega]
              first
              | (have := ih (k + 1) (some (eI x)) (by omega); rw [e1 c50, if_pos (show z.1 ≠ 0 ∧ x ≠ z.1 by omega)] at this; exact this)
              | (have := ih (k + 1) (some (eI x)) (by omega); rw [e1 c50, if_neg (show ¬ (z.1 ≠ 0 ∧ x ≠ z.1) by omega)] at this; exact this)
              | (have := ih (k + 1) (some (eI x)) (by omega); rw [e0 (by omega)] at this; exact this)
            · refine x_iconst hK kX10_changes_68 (q := 69) rfl ?_
              refine x_goto hK kX10_changes_69 (tg := 73) rfl ?_
              refine x_iadd hK kX10_changes_73 (q := 74) rfl ?_
              refine x_istore hK kX10_changes_74 (q := 76) rfl ?_
              refine x_iload hK kX10_changes_76 (q := 78) rfl rfl ?_
              refine x_istore_n hK kX10_changes_78 (q := 79) (jn := 3) rfl rfl ?_
              refine x_iinc hK kX10_changes_79 (q := 82) rfl rfl ?_
              simp only [lS, lS2, clr_0, clr_I, clr_L, clr_R]
              refine x_goto hK kX10_changes_82 (tg := 8) rfl ?_
              rw [show (k : Int) + 1 = ((k + 1 : Nat) : Int) by omega]
              first
              | (have := ih (k + 1) (some (eI x)) (by omega); rw [e1 c50, if_pos (show z.1 ≠ 0 ∧ x ≠ z.1 by omega)] at this; exact this)
              | (have := ih (k + 1) (some (eI x)) (by omega); rw [e1 c50, if_neg (show ¬ (z.1 ≠ 0 ∧ x ≠ z.1) by omega)] at this; exact this)
              | (have := ih (k + 1) (some (eI x)) (by omega); rw [e0 (by omega)] at this; exact this)
        · refine x_goto hK kX10_changes_53 (tg := 79) rfl ?_
          refine x_iinc hK kX10_changes_79 (q := 82) rfl rfl ?_
          simp only [lS, lS2, clr_0, clr_I, clr_L, clr_R]
          refine x_goto hK kX10_changes_82 (tg := 8) rfl ?_
          rw [show (k : Int) + 1 = ((k + 1 : Nat) : Int) by omega]
          first
          | (have := ih (k + 1) (some (eI x)) (by omega); rw [e1 c50, if_pos (show z.1 ≠ 0 ∧ x ≠ z.1 by omega)] at this; exact this)
          | (have := ih (k + 1) (some (eI x)) (by omega); rw [e1 c50, if_neg (show ¬ (z.1 ≠ 0 ∧ x ≠ z.1) by omega)] at this; exact this)
          | (have := ih (k + 1) (some (eI x)) (by omega); rw [e0 (by omega)] at this; exact this)
      refine x_iload hK kX10_changes_8 (q := 10) rfl rfl ?_
      refine x_iload_n hK kX10_changes_10 (q := 11) rfl rfl ?_
      refine x_icmp_gt hK kX10_changes_11 (q := 14) rfl (tg := 85) rfl (by constructor <;> (constructor <;> omega)) (fun c11 => ?_) (fun c11 => ?_)
      · exfalso; omega
      · refine x_aload_n hK kX10_changes_14 (q := 15) rfl rfl ?_
        refine x_sipush hK kX10_changes_15 (q := 18) rfl (by decide) ?_
        refine x_iload hK kX10_changes_18 (q := 20) rfl rfl ?_
        refine x_iadd hK kX10_changes_20 (q := 21) rfl ?_
        refine x_cv2 hK kX10_changes_21 (q := 24) rfl (vtX10_changes_78) (Nat.le_of_ble_eq_true rfl) ?_
        refine SX10_sign_n hr (by omega) ?_
        rw [hck, hg]
        refine x_istore hK kX10_changes_24 (q := 26) rfl ?_
        refine x_iload_n hK kX10_changes_26 (q := 27) rfl rfl ?_
        simp only [lS, lS2, clr_0, clr_I, clr_L, clr_R]
        refine x_if_eq hK kX10_changes_27 (q := 30) rfl (tg := 44) rfl (by exact wt) (fun c27 => ?_) (fun c27 => ?_)
        · refine x_iload hK kX10_changes_44 (q := 46) rfl rfl ?_
          first
          | (refine go _ ?_; unfold chS; rw [if_pos (show t ≠ 0 ∧ k % 2 = 1 by omega), hg])
          | (refine go _ ?_; unfold chS; rw [if_neg (show ¬ (t ≠ 0 ∧ k % 2 = 1) by omega), hg])
        · refine x_iload hK kX10_changes_30 (q := 32) rfl rfl ?_
          refine x_iconst hK kX10_changes_32 (q := 33) rfl ?_
          refine x_irem hK kX10_changes_33 (q := 34) rfl (by refine ⟨?_, ?_, ?_⟩ <;> omega) ?_
          rw [Int.tmod_eq_emod_of_nonneg (by omega)]
          refine x_iconst hK kX10_changes_34 (q := 35) rfl ?_
          refine x_icmp_ne hK kX10_changes_35 (q := 38) rfl (tg := 44) rfl (by constructor <;> (constructor <;> omega)) (fun c35 => ?_) (fun c35 => ?_)
          · refine x_iload hK kX10_changes_44 (q := 46) rfl rfl ?_
            first
            | (refine go _ ?_; unfold chS; rw [if_pos (show t ≠ 0 ∧ k % 2 = 1 by omega), hg])
            | (refine go _ ?_; unfold chS; rw [if_neg (show ¬ (t ≠ 0 ∧ k % 2 = 1) by omega), hg])
          · refine x_iload hK kX10_changes_38 (q := 40) rfl rfl ?_
            refine x_ineg hK kX10_changes_40 (q := 41) rfl ?_
            refine x_goto hK kX10_changes_41 (tg := 46) rfl ?_
            first
            | (refine go _ ?_; unfold chS; rw [if_pos (show t ≠ 0 ∧ k % 2 = 1 by omega), hg])
            | (refine go _ ?_; unfold chS; rw [if_neg (show ¬ (t ≠ 0 ∧ k % 2 = 1) by omega), hg])
  simp only [eLoc, eE, List.length_cons, List.length_nil, List.replicate, List.cons_append, List.nil_append, Nat.reduceAdd, Nat.reduceSub]
  refine x_iconst hK kX10_changes_0 (q := 1) rfl ?_
  refine x_istore_n hK kX10_changes_1 (q := 2) (jn := 3) rfl rfl ?_
  refine x_iconst hK kX10_changes_2 (q := 3) rfl ?_
  refine x_istore hK kX10_changes_3 (q := 5) rfl ?_
  refine x_iconst hK kX10_changes_5 (q := 6) rfl ?_
  refine x_istore hK kX10_changes_6 (q := 8) rfl ?_
  simp only [lS, lS2, clr_0, clr_I, clr_L, clr_R]
  exact loop (n + 1) 0 _ (by omega)
set_option maxRecDepth 20000 in
theorem mX10_changes : eMet yX10_changes cX10_changes 7 (some .int) 2 41 SX10_changes := eMet_of (by decide +kernel) sX10_changes kX10_changes_ok caX10_changes tb_RX10
theorem wX10_changes : eWV yX10_changes cX10_changes 7 (some .int) 3 9 SX10_changes := ⟨(gW_at 1248 (by decide +kernel) rfl), (gW_at 89 (by decide +kernel) rfl), (gW_at 1247 (by decide +kernel) rfl), ⟨_, rfl, (gW_at 71 (by decide +kernel) rfl)⟩, by decide +kernel, SX10_changes_r⟩
-- squares
def sqP (n : Nat) (f : mT) : Nat → mT × Int
  | 0 => (fun _ _ => 0, 1)
  | k + 1 => (fun i j => mM n f (sqP n f k).1 i j + (if i = j then (sqP n f k).2 else 0), -(dS (fun i => mM n f (fun i j => mM n f (sqP n f k).1 i j + (if i = j then (sqP n f k).2 else 0)) i i) n) / ((k : Int) + 1))
theorem sqP_1 (n : Nat) (f : mT) (k i j : Nat) : (sqP n f (k + 1)).1 i j = mM n f (sqP n f k).1 i j + (if i = j then (sqP n f k).2 else 0) := rfl
theorem sqP_2 (n : Nat) (f : mT) (k : Nat) : (sqP n f (k + 1)).2 = -(dS (fun i => mM n f (sqP n f (k + 1)).1 i i) n) / ((k : Int) + 1) := rfl
def sqC (n : Nat) (f : mT) (k : Nat) : Int := (sqP n f (n - k)).2
def lz (c : Nat → Int) : Nat → Nat → Nat
  | 0, l => l
  | d + 1, l => if c l = 0 then lz c d (l + 1) else l
def sqR (n : Nat) (f : mT) : Int := (n : Int) - lz (sqC n f) n 0
def sqS (n : Nat) (f : mT) : Int := (chF (sqC n f) 0 (n + 1)).2 - (chF (sqC n f) 1 (n + 1)).2
theorem chF_c {c d : Nat → Int} (t : Int) : ∀ n : Nat, (∀ k, k < n → c k = d k) → chF c t n = chF d t n
  | 0, _ => rfl
  | n + 1, h => by
    have h1 := chF_c (c := c) (d := d) t n (fun k hk => h k (by omega))
    have h2 : chS c t n = chS d t n := by unfold chS; rw [h n (by omega)]
    unfold chF
    rw [h1, h2]
/-- the room that squares needs -/
def sqM (n : Nat) (f : mT) (V W : Int) : Prop := 1 ≤ V ∧ 1 ≤ W ∧ mB n f V ∧ (∀ k, k ≤ n → mB n (sqP n f k).1 W) ∧ (∀ k, k < n → zAbs (sqP n f k).2 ≤ W) ∧ (∀ k : Nat, k < n → ((k : Int) + 1) ∣ dS (fun i => mM n f (sqP n f (k + 1)).1 i i) n) ∧ 36 * (V * W) < bB ^ 598
def sS (A A' : Nat → Int → Int) : Prop := ∀ k, 4 ≤ k → k ≠ 20 → k ≠ 21 → A' k = A k
def sqO (s s' : Int → Int) : Prop := ∀ p, p ≠ 2073 → p ≠ 2074 → p ≠ 2075 → ¬ (2188 ≤ p ∧ p < 2224) → ¬ (2260 ≤ p ∧ p < 2296) → ¬ (2656 ≤ p ∧ p < 2666) → s' p = s p
def SX10_squares : eSp := fun as M rt => ∃ (F : Nat → Int) (A : Nat → Int → Int) (s : Int → Int) (n e : Nat) (V W : Int), as = [eRR, eI e] ∧ M = cR F A ∧ rn (A 0) s ∧ F 19 = n ∧ n ≤ 6 ∧ e < 3 ∧ sqM n (tb s (2332 + 36 * e)) V W ∧ ∀ (A' : Nat → Int → Int) (s' : Int → Int), sS A A' → A' 20 = uI (A 20) e (sqR n (tb s (2332 + 36 * e))) → A' 21 = uI (A 21) e (sqS n (tb s (2332 + 36 * e))) → rn (A' 0) s' → sqO s s' → rt none (cR F A')
theorem SX10_squares_i {F : Nat → Int} {A : Nat → Int → Int} {s : Int → Int} {n e : Nat} (V W : Int) {rt : Option eV → eM → Prop} (hr : rn (A 0) s) (h0 : F 19 = n) (h1 : n ≤ 6) (h2 : e < 3) (h3 : sqM n (tb s (2332 + 36 * e)) V W) (h : ∀ (A' : Nat → Int → Int) (s' : Int → Int), sS A A' → A' 20 = uI (A 20) e (sqR n (tb s (2332 + 36 * e))) → A' 21 = uI (A 21) e (sqS n (tb s (2332 + 36 * e))) → rn (A' 0) s' → sqO s s' → rt none (cR F A')) : SX10_squares [eRR, eI e] (cR F A) rt := ⟨F, A, s, n, e, V, W, rfl, rfl, hr, h0, h1, h2, h3, h⟩
theorem SX10_squares_r : ∀ as M rt, SX10_squares as M rt → ∃ a r fs, as = eR a :: r ∧ M a = some (.inl (9, fs)) := by
  rintro as M rt ⟨F, A, s, n, e, V, W, rfl, rfl, -⟩
  exact ⟨_, _, _, rfl, rfl⟩
def kX10_squares : List (Nat × Jvm.ClassFile.Instr × Nat) := [(0, .aload_n 0, 1), (1, .getfield 223, 3), (4, .istore_n 2, 1), (5, .sipush 2332, 3), (8, .bipush 36, 2), (10, .iload_n 1, 1), (11, .imul, 1), (12, .iadd, 1), (13, .istore_n 3, 1), (14, .aload_n 0, 1), (15, .sipush 2656, 3), (18, .iload_n 2, 1), (19, .iadd, 1), (20, .lconst 1, 1), (21, .invokevirtual 132, 3), (24, .iconst 0, 1), (25, .istore 4, 2), (27, .iload 4, 2), (29, .bipush 36, 2), (31, .if_icmp .ge 24, 3), (34, .aload_n 0, 1), (35, .getfield 12, 3), (38, .sipush 2188, 3), (41, .iload 4, 2), (43, .iadd, 1), (44, .invokestatic 64, 3), (47, .iconst 0, 1), (48, .iastore, 1), (49, .iinc 4 1, 3), (52, .goto (-25), 3), (55, .iconst 1, 1), (56, .istore 4, 2), (58, .iload 4, 2), (60, .iload_n 2, 1), (61, .if_icmp .gt 163, 3), (64, .aload_n 0, 1), (65, .sipush 2260, 3), (68, .iload_n 3, 1), (69, .sipush 2188, 3), (72, .invokevirtual 252, 3), (75, .aload_n 0, 1), (76, .sipush 2188, 3), (79, .sipush 2260, 3), (82, .invokevirtual 255, 3), (85, .iconst 0, 1), (86, .istore 5, 2), (88, .iload 5, 2), (90, .iload_n 2, 1), (91, .if_icmp .ge 35, 3), (94, .aload_n 0, 1), (95, .aload_n 0, 1), (96, .sipush 2188, 3), (99, .iload 5, 2), (101, .iload 5, 2), (103, .invokevirtual 245, 3), (106, .sipush 2656, 3), (109, .iload_n 2, 1), (110, .iadd, 1), (111, .iload 4, 2), (113, .isub, 1), (114, .iconst 1, 1), (115, .iadd, 1), (116, .iconst 1, 1), (117, .invokevirtual 164, 3), (120, .iinc 5 1, 3), (123, .goto (-35), 3), (126, .aload_n 0, 1), (127, .sipush 2260, 3), (130, .iload_n 3, 1), (131, .sipush 2188, 3), (134, .invokevirtual 252, 3), (137, .aload_n 0, 1), (138, .getfield 12, 3), (141, .sipush 2656, 3), (144, .iload_n 2, 1), (145, .iadd, 1), (146, .iload 4, 2), (148, .isub, 1), (149, .invokestatic 64, 3), (152, .iconst 0, 1), (153, .iastore, 1), (154, .iconst 0, 1), (155, .istore 5, 2), (157, .iload 5, 2), (159, .iload_n 2, 1), (160, .if_icmp .ge 33, 3), (163, .aload_n 0, 1), (164, .sipush 2656, 3), (167, .iload_n 2, 1), (168, .iadd, 1), (169, .iload 4, 2), (171, .isub, 1), (172, .aload_n 0, 1), (173, .sipush 2260, 3), (176, .iload 5, 2), (178, .iload 5, 2), (180, .invokevirtual 245, 3), (183, .iconst (-1), 1), (184, .invokevirtual 164, 3), (187, .iinc 5 1, 3), (190, .goto (-33), 3), (193, .aload_n 0, 1), (194, .sipush 2074, 3), (197, .iload 4, 2), (199, .i2l, 1), (200, .invokevirtual 132, 3), (203, .aload_n 0, 1), (204, .sipush 2656, 3), (207, .iload_n 2, 1), (208, .iadd, 1), (209, .iload 4, 2), (211, .isub, 1), (212, .sipush 2074, 3), (215, .invokevirtual 155, 3), (218, .iinc 4 1, 3), (221, .goto (-163), 3), (224, .iconst 0, 1), (225, .istore 4, 2), (227, .iload 4, 2), (229, .iload_n 2, 1), (230, .if_icmp .ge 22, 3), (233, .aload_n 0, 1), (234, .sipush 2656, 3), (237, .iload 4, 2), (239, .iadd, 1), (240, .invokevirtual 81, 3), (243, .ifCond .eq 9, 3), (246, .iinc 4 1, 3), (249, .goto (-22), 3), (252, .aload_n 0, 1), (253, .getfield 55, 3), (256, .iload_n 1, 1), (257, .iload_n 2, 1), (258, .iload 4, 2), (260, .isub, 1), (261, .iastore, 1), (262, .aload_n 0, 1), (263, .getfield 58, 3), (266, .iload_n 1, 1), (267, .aload_n 0, 1), (268, .iload_n 2, 1), (269, .iconst 0, 1), (270, .invokevirtual 261, 3), (273, .aload_n 0, 1), (274, .iload_n 2, 1), (275, .iconst 1, 1), (276, .invokevirtual 261, 3), (279, .isub, 1), (280, .iastore, 1), (281, .return_, 1)]
theorem kX10_squares_0 : cdOf kX10_squares 0 = some (.aload_n 0, 1) := by decide +kernel
theorem kX10_squares_1 : cdOf kX10_squares 1 = some (.getfield 223, 3) := by decide +kernel
theorem kX10_squares_4 : cdOf kX10_squares 4 = some (.istore_n 2, 1) := by decide +kernel
theorem kX10_squares_5 : cdOf kX10_squares 5 = some (.sipush 2332, 3) := by decide +kernel
theorem kX10_squares_8 : cdOf kX10_squares 8 = some (.bipush 36, 2) := by decide +kernel
theorem kX10_squares_10 : cdOf kX10_squares 10 = some (.iload_n 1, 1) := by decide +kernel
theorem kX10_squares_11 : cdOf kX10_squares 11 = some (.imul, 1) := by decide +kernel
theorem kX10_squares_12 : cdOf kX10_squares 12 = some (.iadd, 1) := by decide +kernel
theorem kX10_squares_13 : cdOf kX10_squares 13 = some (.istore_n 3, 1) := by decide +kernel
theorem kX10_squares_14 : cdOf kX10_squares 14 = some (.aload_n 0, 1) := by decide +kernel
theorem kX10_squares_15 : cdOf kX10_squares 15 = some (.sipush 2656, 3) := by decide +kernel
theorem kX10_squares_18 : cdOf kX10_squares 18 = some (.iload_n 2, 1) := by decide +kernel
theorem kX10_squares_19 : cdOf kX10_squares 19 = some (.iadd, 1) := by decide +kernel
theorem kX10_squares_20 : cdOf kX10_squares 20 = some (.lconst 1, 1) := by decide +kernel
theorem kX10_squares_21 : cdOf kX10_squares 21 = some (.invokevirtual 132, 3) := by decide +kernel
theorem kX10_squares_24 : cdOf kX10_squares 24 = some (.iconst 0, 1) := by decide +kernel
theorem kX10_squares_25 : cdOf kX10_squares 25 = some (.istore 4, 2) := by decide +kernel
theorem kX10_squares_27 : cdOf kX10_squares 27 = some (.iload 4, 2) := by decide +kernel
theorem kX10_squares_29 : cdOf kX10_squares 29 = some (.bipush 36, 2) := by decide +kernel
theorem kX10_squares_31 : cdOf kX10_squares 31 = some (.if_icmp .ge 24, 3) := by decide +kernel
theorem kX10_squares_34 : cdOf kX10_squares 34 = some (.aload_n 0, 1) := by decide +kernel
theorem kX10_squares_35 : cdOf kX10_squares 35 = some (.getfield 12, 3) := by decide +kernel
theorem kX10_squares_38 : cdOf kX10_squares 38 = some (.sipush 2188, 3) := by decide +kernel
theorem kX10_squares_41 : cdOf kX10_squares 41 = some (.iload 4, 2) := by decide +kernel
theorem kX10_squares_43 : cdOf kX10_squares 43 = some (.iadd, 1) := by decide +kernel
theorem kX10_squares_44 : cdOf kX10_squares 44 = some (.invokestatic 64, 3) := by decide +kernel
theorem kX10_squares_47 : cdOf kX10_squares 47 = some (.iconst 0, 1) := by decide +kernel
theorem kX10_squares_48 : cdOf kX10_squares 48 = some (.iastore, 1) := by decide +kernel
theorem kX10_squares_49 : cdOf kX10_squares 49 = some (.iinc 4 1, 3) := by decide +kernel
theorem kX10_squares_52 : cdOf kX10_squares 52 = some (.goto (-25), 3) := by decide +kernel
theorem kX10_squares_55 : cdOf kX10_squares 55 = some (.iconst 1, 1) := by decide +kernel
theorem kX10_squares_56 : cdOf kX10_squares 56 = some (.istore 4, 2) := by decide +kernel
theorem kX10_squares_58 : cdOf kX10_squares 58 = some (.iload 4, 2) := by decide +kernel
theorem kX10_squares_60 : cdOf kX10_squares 60 = some (.iload_n 2, 1) := by decide +kernel
theorem kX10_squares_61 : cdOf kX10_squares 61 = some (.if_icmp .gt 163, 3) := by decide +kernel
theorem kX10_squares_64 : cdOf kX10_squares 64 = some (.aload_n 0, 1) := by decide +kernel
theorem kX10_squares_65 : cdOf kX10_squares 65 = some (.sipush 2260, 3) := by decide +kernel
theorem kX10_squares_68 : cdOf kX10_squares 68 = some (.iload_n 3, 1) := by decide +kernel
theorem kX10_squares_69 : cdOf kX10_squares 69 = some (.sipush 2188, 3) := by decide +kernel
theorem kX10_squares_72 : cdOf kX10_squares 72 = some (.invokevirtual 252, 3) := by decide +kernel
theorem kX10_squares_75 : cdOf kX10_squares 75 = some (.aload_n 0, 1) := by decide +kernel
theorem kX10_squares_76 : cdOf kX10_squares 76 = some (.sipush 2188, 3) := by decide +kernel
theorem kX10_squares_79 : cdOf kX10_squares 79 = some (.sipush 2260, 3) := by decide +kernel
theorem kX10_squares_82 : cdOf kX10_squares 82 = some (.invokevirtual 255, 3) := by decide +kernel
theorem kX10_squares_85 : cdOf kX10_squares 85 = some (.iconst 0, 1) := by decide +kernel
theorem kX10_squares_86 : cdOf kX10_squares 86 = some (.istore 5, 2) := by decide +kernel
theorem kX10_squares_88 : cdOf kX10_squares 88 = some (.iload 5, 2) := by decide +kernel
theorem kX10_squares_90 : cdOf kX10_squares 90 = some (.iload_n 2, 1) := by decide +kernel
theorem kX10_squares_91 : cdOf kX10_squares 91 = some (.if_icmp .ge 35, 3) := by decide +kernel
theorem kX10_squares_94 : cdOf kX10_squares 94 = some (.aload_n 0, 1) := by decide +kernel
theorem kX10_squares_95 : cdOf kX10_squares 95 = some (.aload_n 0, 1) := by decide +kernel
theorem kX10_squares_96 : cdOf kX10_squares 96 = some (.sipush 2188, 3) := by decide +kernel
theorem kX10_squares_99 : cdOf kX10_squares 99 = some (.iload 5, 2) := by decide +kernel
theorem kX10_squares_101 : cdOf kX10_squares 101 = some (.iload 5, 2) := by decide +kernel
theorem kX10_squares_103 : cdOf kX10_squares 103 = some (.invokevirtual 245, 3) := by decide +kernel
theorem kX10_squares_106 : cdOf kX10_squares 106 = some (.sipush 2656, 3) := by decide +kernel
theorem kX10_squares_109 : cdOf kX10_squares 109 = some (.iload_n 2, 1) := by decide +kernel
theorem kX10_squares_110 : cdOf kX10_squares 110 = some (.iadd, 1) := by decide +kernel
theorem kX10_squares_111 : cdOf kX10_squares 111 = some (.iload 4, 2) := by decide +kernel
theorem kX10_squares_113 : cdOf kX10_squares 113 = some (.isub, 1) := by decide +kernel
theorem kX10_squares_114 : cdOf kX10_squares 114 = some (.iconst 1, 1) := by decide +kernel
theorem kX10_squares_115 : cdOf kX10_squares 115 = some (.iadd, 1) := by decide +kernel
theorem kX10_squares_116 : cdOf kX10_squares 116 = some (.iconst 1, 1) := by decide +kernel
theorem kX10_squares_117 : cdOf kX10_squares 117 = some (.invokevirtual 164, 3) := by decide +kernel
theorem kX10_squares_120 : cdOf kX10_squares 120 = some (.iinc 5 1, 3) := by decide +kernel
theorem kX10_squares_123 : cdOf kX10_squares 123 = some (.goto (-35), 3) := by decide +kernel
theorem kX10_squares_126 : cdOf kX10_squares 126 = some (.aload_n 0, 1) := by decide +kernel
theorem kX10_squares_127 : cdOf kX10_squares 127 = some (.sipush 2260, 3) := by decide +kernel
theorem kX10_squares_130 : cdOf kX10_squares 130 = some (.iload_n 3, 1) := by decide +kernel
theorem kX10_squares_131 : cdOf kX10_squares 131 = some (.sipush 2188, 3) := by decide +kernel
theorem kX10_squares_134 : cdOf kX10_squares 134 = some (.invokevirtual 252, 3) := by decide +kernel
theorem kX10_squares_137 : cdOf kX10_squares 137 = some (.aload_n 0, 1) := by decide +kernel
theorem kX10_squares_138 : cdOf kX10_squares 138 = some (.getfield 12, 3) := by decide +kernel
theorem kX10_squares_141 : cdOf kX10_squares 141 = some (.sipush 2656, 3) := by decide +kernel
theorem kX10_squares_144 : cdOf kX10_squares 144 = some (.iload_n 2, 1) := by decide +kernel
theorem kX10_squares_145 : cdOf kX10_squares 145 = some (.iadd, 1) := by decide +kernel
theorem kX10_squares_146 : cdOf kX10_squares 146 = some (.iload 4, 2) := by decide +kernel
theorem kX10_squares_148 : cdOf kX10_squares 148 = some (.isub, 1) := by decide +kernel
theorem kX10_squares_149 : cdOf kX10_squares 149 = some (.invokestatic 64, 3) := by decide +kernel
theorem kX10_squares_152 : cdOf kX10_squares 152 = some (.iconst 0, 1) := by decide +kernel
theorem kX10_squares_153 : cdOf kX10_squares 153 = some (.iastore, 1) := by decide +kernel
theorem kX10_squares_154 : cdOf kX10_squares 154 = some (.iconst 0, 1) := by decide +kernel
theorem kX10_squares_155 : cdOf kX10_squares 155 = some (.istore 5, 2) := by decide +kernel
theorem kX10_squares_157 : cdOf kX10_squares 157 = some (.iload 5, 2) := by decide +kernel
theorem kX10_squares_159 : cdOf kX10_squares 159 = some (.iload_n 2, 1) := by decide +kernel
theorem kX10_squares_160 : cdOf kX10_squares 160 = some (.if_icmp .ge 33, 3) := by decide +kernel
theorem kX10_squares_163 : cdOf kX10_squares 163 = some (.aload_n 0, 1) := by decide +kernel
theorem kX10_squares_164 : cdOf kX10_squares 164 = some (.sipush 2656, 3) := by decide +kernel
theorem kX10_squares_167 : cdOf kX10_squares 167 = some (.iload_n 2, 1) := by decide +kernel
theorem kX10_squares_168 : cdOf kX10_squares 168 = some (.iadd, 1) := by decide +kernel
theorem kX10_squares_169 : cdOf kX10_squares 169 = some (.iload 4, 2) := by decide +kernel
theorem kX10_squares_171 : cdOf kX10_squares 171 = some (.isub, 1) := by decide +kernel
theorem kX10_squares_172 : cdOf kX10_squares 172 = some (.aload_n 0, 1) := by decide +kernel
theorem kX10_squares_173 : cdOf kX10_squares 173 = some (.sipush 2260, 3) := by decide +kernel
theorem kX10_squares_176 : cdOf kX10_squares 176 = some (.iload 5, 2) := by decide +kernel
theorem kX10_squares_178 : cdOf kX10_squares 178 = some (.iload 5, 2) := by decide +kernel
theorem kX10_squares_180 : cdOf kX10_squares 180 = some (.invokevirtual 245, 3) := by decide +kernel
theorem kX10_squares_183 : cdOf kX10_squares 183 = some (.iconst (-1), 1) := by decide +kernel
theorem kX10_squares_184 : cdOf kX10_squares 184 = some (.invokevirtual 164, 3) := by decide +kernel
theorem kX10_squares_187 : cdOf kX10_squares 187 = some (.iinc 5 1, 3) := by decide +kernel
theorem kX10_squares_190 : cdOf kX10_squares 190 = some (.goto (-33), 3) := by decide +kernel
theorem kX10_squares_193 : cdOf kX10_squares 193 = some (.aload_n 0, 1) := by decide +kernel
theorem kX10_squares_194 : cdOf kX10_squares 194 = some (.sipush 2074, 3) := by decide +kernel
theorem kX10_squares_197 : cdOf kX10_squares 197 = some (.iload 4, 2) := by decide +kernel
theorem kX10_squares_199 : cdOf kX10_squares 199 = some (.i2l, 1) := by decide +kernel
theorem kX10_squares_200 : cdOf kX10_squares 200 = some (.invokevirtual 132, 3) := by decide +kernel
theorem kX10_squares_203 : cdOf kX10_squares 203 = some (.aload_n 0, 1) := by decide +kernel
theorem kX10_squares_204 : cdOf kX10_squares 204 = some (.sipush 2656, 3) := by decide +kernel
theorem kX10_squares_207 : cdOf kX10_squares 207 = some (.iload_n 2, 1) := by decide +kernel
theorem kX10_squares_208 : cdOf kX10_squares 208 = some (.iadd, 1) := by decide +kernel
theorem kX10_squares_209 : cdOf kX10_squares 209 = some (.iload 4, 2) := by decide +kernel
theorem kX10_squares_211 : cdOf kX10_squares 211 = some (.isub, 1) := by decide +kernel
theorem kX10_squares_212 : cdOf kX10_squares 212 = some (.sipush 2074, 3) := by decide +kernel
theorem kX10_squares_215 : cdOf kX10_squares 215 = some (.invokevirtual 155, 3) := by decide +kernel
theorem kX10_squares_218 : cdOf kX10_squares 218 = some (.iinc 4 1, 3) := by decide +kernel
theorem kX10_squares_221 : cdOf kX10_squares 221 = some (.goto (-163), 3) := by decide +kernel
theorem kX10_squares_224 : cdOf kX10_squares 224 = some (.iconst 0, 1) := by decide +kernel
theorem kX10_squares_225 : cdOf kX10_squares 225 = some (.istore 4, 2) := by decide +kernel
theorem kX10_squares_227 : cdOf kX10_squares 227 = some (.iload 4, 2) := by decide +kernel
theorem kX10_squares_229 : cdOf kX10_squares 229 = some (.iload_n 2, 1) := by decide +kernel
theorem kX10_squares_230 : cdOf kX10_squares 230 = some (.if_icmp .ge 22, 3) := by decide +kernel
theorem kX10_squares_233 : cdOf kX10_squares 233 = some (.aload_n 0, 1) := by decide +kernel
theorem kX10_squares_234 : cdOf kX10_squares 234 = some (.sipush 2656, 3) := by decide +kernel
theorem kX10_squares_237 : cdOf kX10_squares 237 = some (.iload 4, 2) := by decide +kernel
theorem kX10_squares_239 : cdOf kX10_squares 239 = some (.iadd, 1) := by decide +kernel
theorem kX10_squares_240 : cdOf kX10_squares 240 = some (.invokevirtual 81, 3) := by decide +kernel
theorem kX10_squares_243 : cdOf kX10_squares 243 = some (.ifCond .eq 9, 3) := by decide +kernel
theorem kX10_squares_246 : cdOf kX10_squares 246 = some (.iinc 4 1, 3) := by decide +kernel
theorem kX10_squares_249 : cdOf kX10_squares 249 = some (.goto (-22), 3) := by decide +kernel
theorem kX10_squares_252 : cdOf kX10_squares 252 = some (.aload_n 0, 1) := by decide +kernel
theorem kX10_squares_253 : cdOf kX10_squares 253 = some (.getfield 55, 3) := by decide +kernel
theorem kX10_squares_256 : cdOf kX10_squares 256 = some (.iload_n 1, 1) := by decide +kernel
theorem kX10_squares_257 : cdOf kX10_squares 257 = some (.iload_n 2, 1) := by decide +kernel
theorem kX10_squares_258 : cdOf kX10_squares 258 = some (.iload 4, 2) := by decide +kernel
theorem kX10_squares_260 : cdOf kX10_squares 260 = some (.isub, 1) := by decide +kernel
theorem kX10_squares_261 : cdOf kX10_squares 261 = some (.iastore, 1) := by decide +kernel
theorem kX10_squares_262 : cdOf kX10_squares 262 = some (.aload_n 0, 1) := by decide +kernel
theorem kX10_squares_263 : cdOf kX10_squares 263 = some (.getfield 58, 3) := by decide +kernel
theorem kX10_squares_266 : cdOf kX10_squares 266 = some (.iload_n 1, 1) := by decide +kernel
theorem kX10_squares_267 : cdOf kX10_squares 267 = some (.aload_n 0, 1) := by decide +kernel
theorem kX10_squares_268 : cdOf kX10_squares 268 = some (.iload_n 2, 1) := by decide +kernel
theorem kX10_squares_269 : cdOf kX10_squares 269 = some (.iconst 0, 1) := by decide +kernel
theorem kX10_squares_270 : cdOf kX10_squares 270 = some (.invokevirtual 261, 3) := by decide +kernel
theorem kX10_squares_273 : cdOf kX10_squares 273 = some (.aload_n 0, 1) := by decide +kernel
theorem kX10_squares_274 : cdOf kX10_squares 274 = some (.iload_n 2, 1) := by decide +kernel
theorem kX10_squares_275 : cdOf kX10_squares 275 = some (.iconst 1, 1) := by decide +kernel
theorem kX10_squares_276 : cdOf kX10_squares 276 = some (.invokevirtual 261, 3) := by decide +kernel
theorem kX10_squares_279 : cdOf kX10_squares 279 = some (.isub, 1) := by decide +kernel
theorem kX10_squares_280 : cdOf kX10_squares 280 = some (.iastore, 1) := by decide +kernel
theorem kX10_squares_281 : cdOf kX10_squares 281 = some (.return_, 1) := by decide +kernel
set_option maxRecDepth 20000 in
theorem kX10_squares_ok : ∀ pc i len, cdOf kX10_squares pc = some (i, len) → decode cX10_squares pc = .ok (i, len) ∧ stOK 6 i = true ∧ jOK pc i = true ∧ eLen i len = true := cdOf_ok cX10_squares 6 kX10_squares (by decide +kernel)
def vtX10_squares : Nat → Option (Nat × eSp) := fun k => match k with
  | 132 => some (3, SX10_set)
  | 252 => some (4, SX10_product)
  | 255 => some (3, SX10_copyTable)
  | 245 => some (4, SX10_entry)
  | 164 => some (4, SX10_join)
  | 155 => some (3, SX10_over)
  | 81 => some (2, SX10_isZero)
  | 261 => some (3, SX10_changes)
  | _ => none
theorem vtX10_squares_132 : vtX10_squares 132 = some (3, SX10_set) := rfl
theorem vtX10_squares_252 : vtX10_squares 252 = some (4, SX10_product) := rfl
theorem vtX10_squares_255 : vtX10_squares 255 = some (3, SX10_copyTable) := rfl
theorem vtX10_squares_245 : vtX10_squares 245 = some (4, SX10_entry) := rfl
theorem vtX10_squares_164 : vtX10_squares 164 = some (4, SX10_join) := rfl
theorem vtX10_squares_155 : vtX10_squares 155 = some (3, SX10_over) := rfl
theorem vtX10_squares_81 : vtX10_squares 81 = some (2, SX10_isZero) := rfl
theorem vtX10_squares_261 : vtX10_squares 261 = some (3, SX10_changes) := rfl
def stX10_squares : Nat → Option (Nat × eSp) := fun k => match k with
  | 64 => some (1, SX10_at)
  | _ => none
theorem stX10_squares_64 : stX10_squares 64 = some (1, SX10_at) := rfl
abbrev TX10_squares : eT := (fl_RX10, cl_RX10, dl_RX10, vtX10_squares, stX10_squares)
set_option maxRecDepth 20000 in
theorem caX10_squares : eCalls RX10 { frames := 5, cells := 0, slots := 0, locals := 132 } TX10_squares := by
  refine ⟨fun k n sp h => ?_, fun k n sp h => ?_⟩
  · dsimp only [TX10_squares] at h
    unfold vtX10_squares at h
    split at h
    · cases h; exact eV_mk mX10_set wX10_set (by decide +kernel) (Or.inl (gW_at 1073 (by decide +kernel) rfl))
    · cases h; exact eV_mk mX10_product wX10_product (by decide +kernel) (Or.inl (gW_at 1229 (by decide +kernel) rfl))
    · cases h; exact eV_mk mX10_copyTable wX10_copyTable (by decide +kernel) (Or.inl (gW_at 1233 (by decide +kernel) rfl))
    · cases h; exact eV_mk mX10_entry wX10_entry (by decide +kernel) (Or.inl (gW_at 1217 (by decide +kernel) rfl))
    · cases h; exact eV_mk mX10_join wX10_join (by decide +kernel) (Or.inl (gW_at 1153 (by decide +kernel) rfl))
    · cases h; exact eV_mk mX10_over wX10_over (by decide +kernel) (Or.inl (gW_at 1138 (by decide +kernel) rfl))
    · cases h; exact eV_mk mX10_isZero wX10_isZero (by decide +kernel) (Or.inl (gW_at 1086 (by decide +kernel) rfl))
    · cases h; exact eV_mk mX10_changes wX10_changes (by decide +kernel) (Or.inl (gW_at 1245 (by decide +kernel) rfl))
    · cases h
  · dsimp only [TX10_squares] at h
    unfold stX10_squares at h
    split at h
    · cases h; exact eS_mk mX10_at wX10_at (by decide +kernel) (Or.inl (gW_at 1070 (by decide +kernel) rfl))
    · cases h
set_option maxRecDepth 100000 in
set_option maxHeartbeats 4000000 in
theorem sX10_squares : eSafe TX10_squares (cdOf kX10_squares) 6 none SX10_squares := by
  intro K rt hK as M h
  obtain ⟨F, A, s, n, e, V, W, rfl, rfl, hr, hF, hn, he, ⟨hV, hW, bf, bP, bC, dv, hB⟩, h⟩ := h
  refine ⟨by simp [eE], ?_⟩
  obtain ⟨f, hf⟩ : ∃ f, tb s (2332 + 36 * (e : Int)) = f := ⟨_, rfl⟩
  rw [hf] at bf bP bC dv h
  have h599 := bB_598
  have hVW : 0 ≤ V * W := Int.mul_nonneg (by omega) (by omega)
  have hWV : W ≤ V * W := by have := Int.mul_le_mul_of_nonneg_right hV (show 0 ≤ W by omega); omega
  have wn : w32 (n : Int) := by constructor <;> omega
  -- the end
  have tail : ∀ (A' : Nat → Int → Int) (s' : Int → Int) (u5 : Option eV), sN A A' → rn (A' 0) s' → (∀ k, k ≤ n → s' (2656 + k) = sqC n f k) → sqO s s' → K 224 [some eRR, some (eI e), some (eI n), some (eI (2332 + 36 * (e : Int))), some (eI ((n : Int) + 1)), u5] [] (cR F A') := by
    intro A' s' u5 hA hr' hc ho
    have hch : ∀ t, chF (fun k => s' (2656 + k)) t (n + 1) = chF (sqC n f) t (n + 1) := fun t => chF_c t _ (fun k hk => hc k (by omega))
    have fin : ∀ (l : Nat), l ≤ n → l = lz (sqC n f) n 0 → K 252 [some eRR, some (eI e), some (eI n), some (eI (2332 + 36 * (e : Int))), some (eI l), u5] [] (cR F A') := by
      intro l hl hlz
      have r2 : rn (uA A' 20 (uI (A' 20) e ((n : Int) - l)) 0) s' := by rw [uA_n _ _ (by decide)]; exact hr'
      refine x_aload_n hK kX10_squares_252 (q := 253) rfl rfl ?_
      refine x_getfield hK kX10_squares_253 (q := 256) rfl (gX10_55 ?_)
      refine x_iload_n hK kX10_squares_256 (q := 257) rfl rfl ?_
      refine x_iload_n hK kX10_squares_257 (q := 258) rfl rfl ?_
      refine x_iload hK kX10_squares_258 (q := 260) rfl rfl ?_
      refine x_isub hK kX10_squares_260 (q := 261) rfl ?_
      refine x_iastore hK kX10_squares_261 (q := 262) rfl (yX10_A20 (by refine ⟨?_, ?_⟩ <;> omega) ?_)
      refine x_aload_n hK kX10_squares_262 (q := 263) rfl rfl ?_
      refine x_getfield hK kX10_squares_263 (q := 266) rfl (gX10_58 ?_)
      refine x_iload_n hK kX10_squares_266 (q := 267) rfl rfl ?_
      refine x_aload_n hK kX10_squares_267 (q := 268) rfl rfl ?_
      refine x_iload_n hK kX10_squares_268 (q := 269) rfl rfl ?_
      refine x_iconst hK kX10_squares_269 (q := 270) rfl ?_
      refine x_cv3 hK kX10_squares_270 (q := 273) rfl (vtX10_squares_261) (Nat.le_of_ble_eq_true rfl) ?_
      refine SX10_changes_i r2 hn (Or.inl rfl) ?_
      rw [hch]
      refine x_aload_n hK kX10_squares_273 (q := 274) rfl rfl ?_
      refine x_iload_n hK kX10_squares_274 (q := 275) rfl rfl ?_
      refine x_iconst hK kX10_squares_275 (q := 276) rfl ?_
      refine x_cv3 hK kX10_squares_276 (q := 279) rfl (vtX10_squares_261) (Nat.le_of_ble_eq_true rfl) ?_
      refine SX10_changes_i r2 hn (Or.inr rfl) ?_
      rw [hch]
      refine x_isub hK kX10_squares_279 (q := 280) rfl ?_
      refine x_iastore hK kX10_squares_280 (q := 281) rfl (yX10_A21 (by refine ⟨?_, ?_⟩ <;> omega) ?_)
      refine x_return_ hK kX10_squares_281 (by first | trivial | exact Or.inl rfl | exact Or.inr rfl) ?_
      refine h _ s' (fun k k0 k1 k2 => ?_) ?_ ?_ ?_ ho
      · rw [uA_n _ _ k2, uA_n _ _ k1]; exact hA k k0
      · rw [uA_n _ _ (by decide), uA_g, hA 20 (by decide), hlz]; rfl
      · rw [uA_g, uA_n _ _ (by decide), hA 21 (by decide)]; rfl
      · rw [uA_n _ _ (by decide), uA_n _ _ (by decide)]; exact hr'
    have low : ∀ (d l : Nat), l + d = n → lz (sqC n f) d l = lz (sqC n f) n 0 → K 227 [some eRR, some (eI e), some (eI n), some (eI (2332 + 36 * (e : Int))), some (eI l), u5] [] (cR F A') := by
      intro d
      induction d with
      | zero =>
        intro l hl hz
        have e2 : l = n := by omega
        subst e2
        refine x_iload hK kX10_squares_227 (q := 229) rfl rfl ?_
        refine x_iload_n hK kX10_squares_229 (q := 230) rfl rfl ?_
        refine x_icmp_ge hK kX10_squares_230 (q := 233) rfl (tg := 252) rfl (by refine ⟨?_, ?_⟩ <;> omega) (fun c230 => ?_) (fun c230 => ?_)
        · exact fin l (Nat.le_refl _) hz
        · exfalso; omega
      | succ d ih =>
        intro l hl hz
        have wl : w32 (l : Int) := by constructor <;> omega
        have v := hc l (by omega)
        refine x_iload hK kX10_squares_227 (q := 229) rfl rfl ?_
        refine x_iload_n hK kX10_squares_229 (q := 230) rfl rfl ?_
        refine x_icmp_ge hK kX10_squares_230 (q := 233) rfl (tg := 252) rfl (by exact ⟨wl, wn⟩) (fun c230 => ?_) (fun c230 => ?_)
        · exfalso; omega
        · refine x_aload_n hK kX10_squares_233 (q := 234) rfl rfl ?_
          refine x_sipush hK kX10_squares_234 (q := 237) rfl (by decide) ?_
          refine x_iload hK kX10_squares_237 (q := 239) rfl rfl ?_
          refine x_iadd hK kX10_squares_239 (q := 240) rfl ?_
          refine x_cv2 hK kX10_squares_240 (q := 243) rfl (vtX10_squares_81) (Nat.le_of_ble_eq_true rfl) ?_
          refine SX10_isZero_n hr' (by omega) ?_
          refine x_if_eq hK kX10_squares_243 (q := 246) rfl (tg := 252) rfl (by exact zZ_w _) (fun c243 => ?_) (fun c243 => ?_)
          · have g := zZ_0.mp c243
            rw [v] at g
            have hz2 : lz (sqC n f) (d + 1) l = l := if_neg g
            rw [hz2] at hz
            exact fin l (by omega) hz
          · have g : s' (2656 + l) = 0 := Decidable.not_not.mp (fun q => c243 (zZ_0.mpr q))
            rw [v] at g
            have hz2 : lz (sqC n f) (d + 1) l = lz (sqC n f) d (l + 1) := if_pos g
            rw [hz2] at hz
            refine x_iinc hK kX10_squares_246 (q := 249) rfl rfl ?_
            simp only [lS, lS2, clr_0, clr_I, clr_L, clr_R]
            refine x_goto hK kX10_squares_249 (tg := 227) rfl ?_
            rw [show (l : Int) + 1 = ((l + 1 : Nat) : Int) by omega]
            exact ih (l + 1) (by omega) hz
    refine x_iconst hK kX10_squares_224 (q := 225) rfl ?_
    refine x_istore hK kX10_squares_225 (q := 227) rfl ?_
    simp only [lS, lS2, clr_0, clr_I, clr_L, clr_R]
    exact low n 0 (by omega) rfl
  -- one coefficient
  have loop : ∀ (d k : Nat) (A' : Nat → Int → Int) (s' : Int → Int) (u5 : Option eV), k + d = n → sN A A' → rn (A' 0) s' → mQ n (tb s' 2188) (sqP n f k).1 → (∀ l, n - k ≤ l → l ≤ n → s' (2656 + l) = sqC n f l) → sqO s s' → K 58 [some eRR, some (eI e), some (eI n), some (eI (2332 + 36 * (e : Int))), some (eI ((k : Int) + 1)), u5] [] (cR F A') := by
    intro d
    induction d with
    | zero =>
      intro k A' s' u5 hk hA hr' hP hc ho
      have e2 : k = n := by omega
      subst e2
      refine x_iload hK kX10_squares_58 (q := 60) rfl rfl ?_
      refine x_iload_n hK kX10_squares_60 (q := 61) rfl rfl ?_
      refine x_icmp_gt hK kX10_squares_61 (q := 64) rfl (tg := 224) rfl (by constructor <;> (constructor <;> omega)) (fun c61 => ?_) (fun c61 => ?_)
      · exact tail A' s' _ hA hr' (fun l hl => hc l (by omega) hl) ho
      · exfalso; omega
    | succ d ih =>
      intro k A' s' u5 hk hA hr' hP hc ho
      have hkn : k < n := by omega
      have qf : mQ n (tb s' (2332 + 36 * (e : Int))) f := by
        rw [← hf]
        exact fun i j hi hj => ho _ (by omega) (by omega) (by omega) (by omega) (by omega) (by omega)
      have bf' := mB_q qf bf
      have bPk : mB n (sqP n f k).1 W ∧ zAbs (sqP n f k).2 ≤ W := ⟨bP k (by omega), bC k hkn⟩
      have bPk1 : mB n (sqP n f (k + 1)).1 W ∧ True := ⟨bP (k + 1) (by omega), trivial⟩
      have ck : s' (2656 + (n : Int) - ((k : Int) + 1) + 1) = (sqP n f k).2 := by
        have := hc (n - k) (Nat.le_refl _) (by omega)
        unfold sqC at this
        rw [show n - (n - k) = k by omega] at this
        rw [show (2656 : Int) + (n : Int) - ((k : Int) + 1) + 1 = 2656 + ((n - k : Nat) : Int) by omega]
        exact this
      have cp : (2656 : Int) + (n : Int) - ((k : Int) + 1) = 2656 + ((n - (k + 1) : Nat) : Int) := by omega
      obtain ⟨c, hcc⟩ := dv k hkn
      have hc1 : (sqP n f (k + 1)).2 = -c := by
        rw [sqP_2, hcc, ← Int.mul_neg]
        exact Int.mul_ediv_cancel_left _ (by omega)
      have b6 : 6 * (V * W) < bB ^ 598 := by omega
      -- the trace, and the division
      have trc : ∀ (d i : Nat) (A1 : Nat → Int → Int) (s1 : Int → Int), i + d = n → sN A A1 → rn (A1 0) s1 → mQ n (tb s1 2188) (sqP n f (k + 1)).1 → mQ n (tb s1 2260) (mM n f (sqP n f (k + 1)).1) → s1 (2656 + ((n - (k + 1) : Nat) : Int)) = -(dS (fun i => mM n f (sqP n f (k + 1)).1 i i) i) → (∀ l, n - k ≤ l → l ≤ n → s1 (2656 + l) = sqC n f l) → sqO s s1 → K 157 [some eRR, some (eI e), some (eI n), some (eI (2332 + 36 * (e : Int))), some (eI ((k : Int) + 1)), some (eI i)] [] (cR F A1) := by
        intro d
        induction d with
        | zero =>
          intro i A1 s1 hi hA1 hr1 hP1 hR1 ht hc1' ho1
          have e2 : i = n := by omega
          subst e2
          refine x_iload hK kX10_squares_157 (q := 159) rfl rfl ?_
          refine x_iload_n hK kX10_squares_159 (q := 160) rfl rfl ?_
          refine x_icmp_ge hK kX10_squares_160 (q := 163) rfl (tg := 193) rfl (by refine ⟨?_, ?_⟩ <;> omega) (fun c160 => ?_) (fun c160 => ?_)
          · refine x_aload_n hK kX10_squares_193 (q := 194) rfl rfl ?_
            refine x_sipush hK kX10_squares_194 (q := 197) rfl (by decide) ?_
            refine x_iload hK kX10_squares_197 (q := 199) rfl rfl ?_
            refine x_i2l hK kX10_squares_199 (q := 200) rfl (by constructor <;> omega) ?_
            refine x_cv3 hK kX10_squares_200 (q := 203) rfl (vtX10_squares_132) (Nat.le_of_ble_eq_true rfl) ?_
            refine SX10_set_n hr1 (by decide) (by constructor <;> omega) (fun A2 k2 r2 => ?_)
            refine x_aload_n hK kX10_squares_203 (q := 204) rfl rfl ?_
            refine x_sipush hK kX10_squares_204 (q := 207) rfl (by decide) ?_
            refine x_iload_n hK kX10_squares_207 (q := 208) rfl rfl ?_
            refine x_iadd hK kX10_squares_208 (q := 209) rfl ?_
            refine x_iload hK kX10_squares_209 (q := 211) rfl rfl ?_
            refine x_isub hK kX10_squares_211 (q := 212) rfl ?_
            refine x_sipush hK kX10_squares_212 (q := 215) rfl (by decide) ?_
            refine x_cv3 hK kX10_squares_215 (q := 218) rfl (vtX10_squares_155) (Nat.le_of_ble_eq_true rfl) ?_
            refine SX10_over_n (-c) r2 (by omega) (by decide) (by rw [uI_s, uI_n _ _ (by omega), cp, ht, hcc, Int.mul_neg]) (by rw [uI_s]; omega) (fun A3 k3 r3 => ?_)
            rw [cp] at r3
            refine x_iinc hK kX10_squares_218 (q := 221) rfl rfl ?_
            simp only [lS, lS2, clr_0, clr_I, clr_L, clr_R]
            refine x_goto hK kX10_squares_221 (tg := 58) rfl ?_
            rw [show (k : Int) + 1 + 1 = ((k + 1 : Nat) : Int) + 1 by omega]
            refine ih (k + 1) A3 _ _ (by omega) (sN_tr hA1 (sN_tr k2 k3)) r3 (fun i' j' i0 j0 => ?_) (fun l hl hl2 => ?_) (fun p p0 p1 p2 p3 p4 p5 => ?_)
            · exact (uI_n _ _ (by omega)).trans ((uI_n _ _ (by omega)).trans (hP1 i' j' i0 j0))
            · rcases Decidable.em (l = i - (k + 1)) with g | g
              · rw [g, uI_s]
                unfold sqC
                rw [show i - (i - (k + 1)) = k + 1 by omega, hc1]
              · rw [uI_n _ _ (by omega), uI_n _ _ (by omega)]
                exact hc1' l (by omega) hl2
            · rw [uI_n _ _ (by omega), uI_n _ _ p1]
              exact ho1 p p0 p1 p2 p3 p4 p5
          · exfalso; omega
        | succ d ih2 =>
          intro i A1 s1 hi hA1 hr1 hP1 hR1 ht hc1' ho1
          have wi : w32 (i : Int) := by constructor <;> omega
          have hin : i < n := by omega
          have v1 : s1 (2260 + 6 * (i : Int) + (i : Int)) = mM n f (sqP n f (k + 1)).1 i i := hR1 i i hin hin
          have tb1 := mM_b hn (by omega) (by omega) bf bPk1.1
          have t2 := dS_b (f := fun i => mM n f (sqP n f (k + 1)).1 i i) (W := 6 * (V * W)) (n := i) (fun l hl => tb1 l l (by omega) (by omega))
          have t3 : (i : Int) * (6 * (V * W)) ≤ 5 * (6 * (V * W)) := Int.mul_le_mul_of_nonneg_right (by omega) (by omega)
          have t4 := tb1 i i hin hin
          have g5 : ∀ x : Int, zAbs (-x) = zAbs x := fun x => by unfold zAbs; split <;> split <;> omega
          refine x_iload hK kX10_squares_157 (q := 159) rfl rfl ?_
          refine x_iload_n hK kX10_squares_159 (q := 160) rfl rfl ?_
          refine x_icmp_ge hK kX10_squares_160 (q := 163) rfl (tg := 193) rfl (by exact ⟨wi, wn⟩) (fun c160 => ?_) (fun c160 => ?_)
          · exfalso; omega
          · refine x_aload_n hK kX10_squares_163 (q := 164) rfl rfl ?_
            refine x_sipush hK kX10_squares_164 (q := 167) rfl (by decide) ?_
            refine x_iload_n hK kX10_squares_167 (q := 168) rfl rfl ?_
            refine x_iadd hK kX10_squares_168 (q := 169) rfl ?_
            refine x_iload hK kX10_squares_169 (q := 171) rfl rfl ?_
            refine x_isub hK kX10_squares_171 (q := 172) rfl ?_
            refine x_aload_n hK kX10_squares_172 (q := 173) rfl rfl ?_
            refine x_sipush hK kX10_squares_173 (q := 176) rfl (by decide) ?_
            refine x_iload hK kX10_squares_176 (q := 178) rfl rfl ?_
            refine x_iload hK kX10_squares_178 (q := 180) rfl rfl ?_
            refine x_cv4 hK kX10_squares_180 (q := 183) rfl (vtX10_squares_245) (Nat.le_of_ble_eq_true rfl) ?_
            refine SX10_entry_i ?_
            refine x_iconst hK kX10_squares_183 (q := 184) rfl ?_
            refine x_cv4 hK kX10_squares_184 (q := 187) rfl (vtX10_squares_164) (Nat.le_of_ble_eq_true rfl) ?_
            rw [cp]
            refine SX10_join_n hr1 (by omega) (by omega) (by omega) (Or.inr rfl) (by rw [ht, v1, g5]; constructor <;> omega) (fun A2 k2 r2 => ?_)
            rw [ht, v1] at r2
            refine x_iinc hK kX10_squares_187 (q := 190) rfl rfl ?_
            simp only [lS, lS2, clr_0, clr_I, clr_L, clr_R]
            refine x_goto hK kX10_squares_190 (tg := 157) rfl ?_
            rw [show (i : Int) + 1 = ((i + 1 : Nat) : Int) by omega]
            refine ih2 (i + 1) A2 _ (by omega) (sN_tr hA1 k2) r2 (fun i' j' i0 j0 => ?_) (fun i' j' i0 j0 => ?_) ?_ (fun l hl hl2 => ?_) (fun p p0 p1 p2 p3 p4 p5 => ?_)
            · exact (uI_n _ _ (by omega)).trans (hP1 i' j' i0 j0)
            · exact (uI_n _ _ (by omega)).trans (hR1 i' j' i0 j0)
            · rw [uI_s]
              show _ = -(dS _ i + mM n f (sqP n f (k + 1)).1 i i)
              omega
            · rw [uI_n _ _ (by omega)]; exact hc1' l hl hl2
            · rw [uI_n _ _ (by omega)]; exact ho1 p p0 p1 p2 p3 p4 p5
      -- the diagonal
      have dia : ∀ (d i : Nat) (A1 : Nat → Int → Int) (s1 : Int → Int), i + d = n → sN A A1 → rn (A1 0) s1 → (∀ i' j' : Nat, i' < n → j' < n → s1 (2188 + 6 * i' + j') = mM n f (sqP n f k).1 i' j' + (if i' = j' ∧ i' < i then (sqP n f k).2 else 0)) → (∀ l, n - k ≤ l → l ≤ n → s1 (2656 + l) = sqC n f l) → sqO s s1 → K 88 [some eRR, some (eI e), some (eI n), some (eI (2332 + 36 * (e : Int))), some (eI ((k : Int) + 1)), some (eI i)] [] (cR F A1) := by
        intro d
        induction d with
        | zero =>
          intro i A1 s1 hi hA1 hr1 hP1 hc1' ho1
          have e2 : i = n := by omega
          subst e2
          have qf1 : mQ i (tb s1 (2332 + 36 * (e : Int))) f := by
            rw [← hf]
            exact fun i' j' hi' hj' => ho1 _ (by omega) (by omega) (by omega) (by omega) (by omega) (by omega)
          have qP1 : mQ i (tb s1 2188) (sqP i f (k + 1)).1 := fun i' j' i0 j0 => by
            rw [sqP_1]
            refine (hP1 i' j' i0 j0).trans ?_
            rcases Decidable.em (i' = j') with g | g
            · rw [if_pos ⟨g, i0⟩, if_pos g]
            · rw [if_neg (fun q => g q.1), if_neg g]
          refine x_iload hK kX10_squares_88 (q := 90) rfl rfl ?_
          refine x_iload_n hK kX10_squares_90 (q := 91) rfl rfl ?_
          refine x_icmp_ge hK kX10_squares_91 (q := 94) rfl (tg := 126) rfl (by refine ⟨?_, ?_⟩ <;> omega) (fun c91 => ?_) (fun c91 => ?_)
          · refine x_aload_n hK kX10_squares_126 (q := 127) rfl rfl ?_
            refine x_sipush hK kX10_squares_127 (q := 130) rfl (by decide) ?_
            refine x_iload_n hK kX10_squares_130 (q := 131) rfl rfl ?_
            refine x_sipush hK kX10_squares_131 (q := 134) rfl (by decide) ?_
            refine x_cv4 hK kX10_squares_134 (q := 137) rfl (vtX10_squares_252) (Nat.le_of_ble_eq_true rfl) ?_
            refine SX10_product_i V W hr1 hF hn (by decide) (by omega) (by decide) (by omega) (by decide) (by omega) (by omega) (mB_q qf1 bf) (mB_q qP1 bPk1.1) b6 (fun A2 s2 k2 r2 q2 o2 => ?_)
            refine x_aload_n hK kX10_squares_137 (q := 138) rfl rfl ?_
            refine x_getfield hK kX10_squares_138 (q := 141) rfl (gX10_12 ?_)
            refine x_sipush hK kX10_squares_141 (q := 144) rfl (by decide) ?_
            refine x_iload_n hK kX10_squares_144 (q := 145) rfl rfl ?_
            refine x_iadd hK kX10_squares_145 (q := 146) rfl ?_
            refine x_iload hK kX10_squares_146 (q := 148) rfl rfl ?_
            refine x_isub hK kX10_squares_148 (q := 149) rfl ?_
            refine x_cs1 hK kX10_squares_149 (q := 152) rfl (stX10_squares_64) (Nat.le_of_ble_eq_true rfl) ?_
            refine SX10_at_i ?_
            rw [cp]
            refine x_iconst hK kX10_squares_152 (q := 153) rfl ?_
            refine x_iastore hK kX10_squares_153 (q := 154) rfl (yX10_A0 (by refine ⟨?_, ?_⟩ <;> omega) ?_)
            refine x_iconst hK kX10_squares_154 (q := 155) rfl ?_
            refine x_istore hK kX10_squares_155 (q := 157) rfl ?_
            simp only [lS, lS2, clr_0, clr_I, clr_L, clr_R]
            refine trc i 0 _ (uI s2 (2656 + ((i - (k + 1) : Nat) : Int)) 0) (by omega) (sN_tr hA1 (sN_tr k2 (sN_u (by decide) _))) (rn_nil r2) (fun i' j' i0 j0 => ?_) (fun i' j' i0 j0 => ?_) (uI_s _ _ _) (fun l hl hl2 => ?_) (fun p p0 p1 p2 p3 p4 p5 => ?_)
            · exact (uI_n _ _ (by omega)).trans ((o2 _ (by omega) (by omega) (fun g => by unfold iT at g; omega)).trans (qP1 i' j' i0 j0))
            · exact (uI_n _ _ (by omega)).trans ((q2 i' j' i0 j0).trans (mM_q qf1 qP1 i' j' i0 j0))
            · rw [uI_n _ _ (by omega), o2 _ (by omega) (by omega) (fun g => by unfold iT at g; omega)]
              exact hc1' l hl hl2
            · rw [uI_n _ _ (by omega), o2 _ p0 p2 (fun g => by unfold iT at g; omega)]
              exact ho1 p p0 p1 p2 p3 p4 p5
          · exfalso; omega
        | succ d ih2 =>
          intro i A1 s1 hi hA1 hr1 hP1 hc1' ho1
          have wi : w32 (i : Int) := by constructor <;> omega
          have hin : i < n := by omega
          have v1 : s1 (2188 + 6 * (i : Int) + (i : Int)) = mM n f (sqP n f k).1 i i := by rw [hP1 i i hin hin, if_neg (by omega), Int.add_zero]
          have v2 : s1 (2656 + (n : Int) - ((k : Int) + 1) + 1) = (sqP n f k).2 := by
            rw [← ck, show (2656 : Int) + (n : Int) - ((k : Int) + 1) + 1 = 2656 + ((n - k : Nat) : Int) by omega, hc1' (n - k) (Nat.le_refl _) (by omega), hc (n - k) (Nat.le_refl _) (by omega)]
          have t4 := mM_b hn (by omega) (by omega) bf bPk.1 i i hin hin
          have t5 := bPk.2
          refine x_iload hK kX10_squares_88 (q := 90) rfl rfl ?_
          refine x_iload_n hK kX10_squares_90 (q := 91) rfl rfl ?_
          refine x_icmp_ge hK kX10_squares_91 (q := 94) rfl (tg := 126) rfl (by exact ⟨wi, wn⟩) (fun c91 => ?_) (fun c91 => ?_)
          · exfalso; omega
          · refine x_aload_n hK kX10_squares_94 (q := 95) rfl rfl ?_
            refine x_aload_n hK kX10_squares_95 (q := 96) rfl rfl ?_
            refine x_sipush hK kX10_squares_96 (q := 99) rfl (by decide) ?_
            refine x_iload hK kX10_squares_99 (q := 101) rfl rfl ?_
            refine x_iload hK kX10_squares_101 (q := 103) rfl rfl ?_
            refine x_cv4 hK kX10_squares_103 (q := 106) rfl (vtX10_squares_245) (Nat.le_of_ble_eq_true rfl) ?_
            refine SX10_entry_i ?_
            refine x_sipush hK kX10_squares_106 (q := 109) rfl (by decide) ?_
            refine x_iload_n hK kX10_squares_109 (q := 110) rfl rfl ?_
            refine x_iadd hK kX10_squares_110 (q := 111) rfl ?_
            refine x_iload hK kX10_squares_111 (q := 113) rfl rfl ?_
            refine x_isub hK kX10_squares_113 (q := 114) rfl ?_
            refine x_iconst hK kX10_squares_114 (q := 115) rfl ?_
            refine x_iadd hK kX10_squares_115 (q := 116) rfl ?_
            refine x_iconst hK kX10_squares_116 (q := 117) rfl ?_
            refine x_cv4 hK kX10_squares_117 (q := 120) rfl (vtX10_squares_164) (Nat.le_of_ble_eq_true rfl) ?_
            refine SX10_join_n hr1 (by omega) (by omega) (by omega) (Or.inl rfl) (by rw [v1, v2]; constructor <;> omega) (fun A2 k2 r2 => ?_)
            rw [v1, v2, Int.one_mul] at r2
            refine x_iinc hK kX10_squares_120 (q := 123) rfl rfl ?_
            simp only [lS, lS2, clr_0, clr_I, clr_L, clr_R]
            refine x_goto hK kX10_squares_123 (tg := 88) rfl ?_
            rw [show (i : Int) + 1 = ((i + 1 : Nat) : Int) by omega]
            refine ih2 (i + 1) A2 _ (by omega) (sN_tr hA1 k2) r2 (fun i' j' i0 j0 => ?_) (fun l hl hl2 => ?_) (fun p p0 p1 p2 p3 p4 p5 => ?_)
            · rcases Decidable.em (i' = i ∧ j' = i) with g | g
              · obtain ⟨rfl, rfl⟩ := g
                rw [uI_s, if_pos ⟨rfl, by omega⟩]
              · rw [uI_n _ _ (by omega), hP1 i' j' i0 j0]
                rcases Decidable.em (i' = j' ∧ i' < i) with g2 | g2
                · rw [if_pos g2, if_pos ⟨g2.1, by omega⟩]
                · rw [if_neg g2, if_neg (by omega)]
            · rw [uI_n _ _ (by omega)]; exact hc1' l hl hl2
            · rw [uI_n _ _ (by omega)]; exact ho1 p p0 p1 p2 p3 p4 p5
      refine x_iload hK kX10_squares_58 (q := 60) rfl rfl ?_
      refine x_iload_n hK kX10_squares_60 (q := 61) rfl rfl ?_
      refine x_icmp_gt hK kX10_squares_61 (q := 64) rfl (tg := 224) rfl (by constructor <;> (constructor <;> omega)) (fun c61 => ?_) (fun c61 => ?_)
      · exfalso; omega
      · refine x_aload_n hK kX10_squares_64 (q := 65) rfl rfl ?_
        refine x_sipush hK kX10_squares_65 (q := 68) rfl (by decide) ?_
        refine x_iload_n hK kX10_squares_68 (q := 69) rfl rfl ?_
        refine x_sipush hK kX10_squares_69 (q := 72) rfl (by decide) ?_
        refine x_cv4 hK kX10_squares_72 (q := 75) rfl (vtX10_squares_252) (Nat.le_of_ble_eq_true rfl) ?_
        refine SX10_product_i V W hr' hF hn (by decide) (by omega) (by decide) (by omega) (by decide) (by omega) (by omega) bf' (mB_q hP bPk.1) b6 (fun A1 s1 k1 r1 q1 o1 => ?_)
        refine x_aload_n hK kX10_squares_75 (q := 76) rfl rfl ?_
        refine x_sipush hK kX10_squares_76 (q := 79) rfl (by decide) ?_
        refine x_sipush hK kX10_squares_79 (q := 82) rfl (by decide) ?_
        refine x_cv3 hK kX10_squares_82 (q := 85) rfl (vtX10_squares_255) (Nat.le_of_ble_eq_true rfl) ?_
        refine SX10_copyTable_i r1 hF hn (by decide) (by decide) (by decide) (fun A2 s2 k2 r2 q2 o2 => ?_)
        refine x_iconst hK kX10_squares_85 (q := 86) rfl ?_
        refine x_istore hK kX10_squares_86 (q := 88) rfl ?_
        simp only [lS, lS2, clr_0, clr_I, clr_L, clr_R]
        refine dia n 0 A2 s2 (by omega) (sN_tr hA (sN_tr k1 k2)) r2 (fun i' j' i0 j0 => ?_) (fun l hl hl2 => ?_) (fun p p0 p1 p2 p3 p4 p5 => ?_)
        · rw [if_neg (by omega), Int.add_zero]
          exact (q2 i' j' i0 j0).trans ((q1 i' j' i0 j0).trans (mM_q qf hP i' j' i0 j0))
        · rw [o2 _ (fun g => by unfold iT at g; omega), o1 _ (by omega) (by omega) (fun g => by unfold iT at g; omega)]
          exact hc l hl hl2
        · rw [o2 _ (fun g => by unfold iT at g; omega), o1 _ p0 p2 (fun g => by unfold iT at g; omega)]
          exact ho p p0 p1 p2 p3 p4 p5
  have zer : ∀ (d k : Nat) (A' : Nat → Int → Int) (s' : Int → Int) (u5 : Option eV), k + d = 36 → sN A A' → rn (A' 0) s' → (∀ p : Int, 2188 ≤ p → p < 2188 + k → s' p = 0) → s' (2656 + n) = 1 → sqO s s' → K 27 [some eRR, some (eI e), some (eI n), some (eI (2332 + 36 * (e : Int))), some (eI k), u5] [] (cR F A') := by
    intro d
    induction d with
    | zero =>
      intro k A' s' u5 hk hA hr' hz h1 ho
      have e2 : k = 36 := by omega
      subst e2
      refine x_iload hK kX10_squares_27 (q := 29) rfl rfl ?_
      refine x_bipush hK kX10_squares_29 (q := 31) rfl (by decide) ?_
      refine x_icmp_ge hK kX10_squares_31 (q := 34) rfl (tg := 55) rfl (by refine ⟨?_, ?_⟩ <;> omega) (fun c31 => ?_) (fun c31 => ?_)
      · refine x_iconst hK kX10_squares_55 (q := 56) rfl ?_
        refine x_istore hK kX10_squares_56 (q := 58) rfl ?_
        simp only [lS, lS2, clr_0, clr_I, clr_L, clr_R]
        refine loop n 0 A' s' _ (by omega) hA hr' (fun i' j' i0 j0 => ?_) (fun l hl hl2 => ?_) ho
        · exact hz (2188 + 6 * (i' : Int) + (j' : Int)) (by omega) (by omega)
        · have e3 : l = n := by omega
          rw [e3, h1]
          unfold sqC
          rw [Nat.sub_self]
          rfl
      · exfalso; omega
    | succ d ih =>
      intro k A' s' u5 hk hA hr' hz h1 ho
      refine x_iload hK kX10_squares_27 (q := 29) rfl rfl ?_
      refine x_bipush hK kX10_squares_29 (q := 31) rfl (by decide) ?_
      refine x_icmp_ge hK kX10_squares_31 (q := 34) rfl (tg := 55) rfl (by refine ⟨?_, ?_⟩ <;> omega) (fun c31 => ?_) (fun c31 => ?_)
      · exfalso; omega
      · refine x_aload_n hK kX10_squares_34 (q := 35) rfl rfl ?_
        refine x_getfield hK kX10_squares_35 (q := 38) rfl (gX10_12 ?_)
        refine x_sipush hK kX10_squares_38 (q := 41) rfl (by decide) ?_
        refine x_iload hK kX10_squares_41 (q := 43) rfl rfl ?_
        refine x_iadd hK kX10_squares_43 (q := 44) rfl ?_
        refine x_cs1 hK kX10_squares_44 (q := 47) rfl (stX10_squares_64) (Nat.le_of_ble_eq_true rfl) ?_
        refine SX10_at_i ?_
        refine x_iconst hK kX10_squares_47 (q := 48) rfl ?_
        refine x_iastore hK kX10_squares_48 (q := 49) rfl (yX10_A0 (by refine ⟨?_, ?_⟩ <;> omega) ?_)
        refine x_iinc hK kX10_squares_49 (q := 52) rfl rfl ?_
        simp only [lS, lS2, clr_0, clr_I, clr_L, clr_R]
        refine x_goto hK kX10_squares_52 (tg := 27) rfl ?_
        rw [show (k : Int) + 1 = ((k + 1 : Nat) : Int) by omega]
        refine ih (k + 1) _ (uI s' (2188 + k) 0) _ (by omega) (sN_tr hA (sN_u (by decide) _)) (rn_nil hr') (fun p p0 p1 => ?_) (by rw [uI_n _ _ (by omega)]; exact h1) (fun p p0 p1 p2 p3 p4 p5 => by rw [uI_n _ _ (by omega)]; exact ho p p0 p1 p2 p3 p4 p5)
        rcases Decidable.em (p = 2188 + k) with g | g
        · subst g; exact uI_s _ _ _
        · rw [uI_n _ _ g]
          exact hz p p0 (by omega)
  simp only [eLoc, eE, List.length_cons, List.length_nil, List.replicate, List.cons_append, List.nil_append, Nat.reduceAdd, Nat.reduceSub]
  refine x_aload_n hK kX10_squares_0 (q := 1) rfl rfl ?_
  refine x_getfield hK kX10_squares_1 (q := 4) rfl (gX10_223 ?_)
  rw [hF]
  refine x_istore_n hK kX10_squares_4 (q := 5) (jn := 2) rfl rfl ?_
  refine x_sipush hK kX10_squares_5 (q := 8) rfl (by decide) ?_
  refine x_bipush hK kX10_squares_8 (q := 10) rfl (by decide) ?_
  refine x_iload_n hK kX10_squares_10 (q := 11) rfl rfl ?_
  refine x_imul hK kX10_squares_11 (q := 12) rfl ?_
  refine x_iadd hK kX10_squares_12 (q := 13) rfl ?_
  refine x_istore_n hK kX10_squares_13 (q := 14) (jn := 3) rfl rfl ?_
  refine x_aload_n hK kX10_squares_14 (q := 15) rfl rfl ?_
  refine x_sipush hK kX10_squares_15 (q := 18) rfl (by decide) ?_
  refine x_iload_n hK kX10_squares_18 (q := 19) rfl rfl ?_
  refine x_iadd hK kX10_squares_19 (q := 20) rfl ?_
  refine x_lconst1 hK kX10_squares_20 (q := 21) rfl ?_
  simp only [lS, lS2, clr_0, clr_I, clr_L, clr_R]
  refine x_cv3 hK kX10_squares_21 (q := 24) rfl (vtX10_squares_132) (Nat.le_of_ble_eq_true rfl) ?_
  refine SX10_set_n hr (by omega) (by decide) (fun A1 k1 r1 => ?_)
  refine x_iconst hK kX10_squares_24 (q := 25) rfl ?_
  refine x_istore hK kX10_squares_25 (q := 27) rfl ?_
  simp only [lS, lS2, clr_0, clr_I, clr_L, clr_R]
  exact zer 36 0 A1 _ _ (by omega) k1 r1 (fun p p0 p1 => by omega) (uI_s _ _ _) (fun p p0 p1 p2 p3 p4 p5 => uI_n _ _ (by omega))
set_option maxRecDepth 20000 in
theorem mX10_squares : eMet yX10_squares cX10_squares 6 none 5 132 SX10_squares := eMet_of (by decide +kernel) sX10_squares kX10_squares_ok caX10_squares tb_RX10
theorem wX10_squares : eWV yX10_squares cX10_squares 6 none 2 9 SX10_squares := ⟨(gW_at 1244 (by decide +kernel) rfl), (gW_at 89 (by decide +kernel) rfl), (gW_at 1243 (by decide +kernel) rfl), ⟨_, rfl, (gW_at 70 (by decide +kernel) rfl)⟩, by decide +kernel, SX10_squares_r⟩
