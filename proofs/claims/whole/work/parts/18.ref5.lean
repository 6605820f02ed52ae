/-! compare(p, q), lift(a, p). -/
theorem vl_diff {f g : Int → Int} {o o' : Int} {k : Nat} : ∀ (d : Nat), (∀ j : Nat, k ≤ j → j < k + d → f (o + j) = g (o' + j)) → vl f o (k + d) - vl g o' (k + d) = vl f o k - vl g o' k
  | 0, _ => rfl
  | d + 1, h => by
    have h1 := vl_diff d (fun j a b => h j a (by omega))
    have h2 := h (k + d) (by omega) (by omega)
    rw [← Nat.add_assoc, vl, vl, h2]
    omega
theorem vl_less {f g : Int → Int} {o o' : Int} {k : Nat} (hf : lr f o (k + 1)) (hg : lr g o' (k + 1)) (h : f (o + k) < g (o' + k)) : vl f o (k + 1) < vl g o' (k + 1) := by
  have h1 := vl_lt (hf.sub (Nat.le_succ k))
  have h2 := vl_nn (hg.sub (Nat.le_succ k))
  have h3 := Int.mul_le_mul_of_nonneg_right (show f (o + k) + 1 ≤ g (o' + k) by omega) (Int.le_of_lt (bB_pos k))
  rw [Int.add_mul, Int.one_mul] at h3
  rw [vl, vl]
  omega
def SX10_compare : eSp := fun as M rt => ∃ (F : Nat → Int) (A : Nat → Int → Int) (p q y z : Int), as = [eRR, eI p, eI q] ∧ M = cR F A ∧ (0 ≤ p ∧ p < 2666) ∧ (0 ≤ q ∧ q < 2666) ∧ nm (A 0) p y ∧ nm (A 0) q z ∧ rt (some (eI (zSgn (zAbs y - zAbs z)))) (cR F A)
theorem SX10_compare_i {F : Nat → Int} {A : Nat → Int → Int} {p q : Int} {rt : Option eV → eM → Prop} (y z : Int) (h0 : 0 ≤ p ∧ p < 2666) (h1 : 0 ≤ q ∧ q < 2666) (h2 : nm (A 0) p y) (h3 : nm (A 0) q z) (h : rt (some (eI (zSgn (zAbs y - zAbs z)))) (cR F A)) : SX10_compare [eRR, eI p, eI q] (cR F A) rt := ⟨F, A, p, q, y, z, rfl, rfl, h0, h1, h2, h3, h⟩
theorem SX10_compare_r : ∀ as M rt, SX10_compare as M rt → ∃ a r fs, as = eR a :: r ∧ M a = some (.inl (9, fs)) := by
  rintro as M rt ⟨F, A, p, q, y, z, rfl, rfl, -⟩
  exact ⟨_, _, _, rfl, rfl⟩
theorem zSgn_lt {a : Int} (h : a < 0) : zSgn a = -1 := by unfold zSgn; rw [if_pos h]
theorem zSgn_gt {a : Int} (h : 0 < a) : zSgn a = 1 := by unfold zSgn; rw [if_neg (by omega), if_neg (by omega)]
theorem zSgn_0 : zSgn 0 = 0 := rfl
def kX10_compare : List (Nat × Jvm.ClassFile.Instr × Nat) := [(0, .aload_n 0, 1), (1, .iload_n 1, 1), (2, .invokevirtual 75, 3), (5, .istore_n 3, 1), (6, .iload_n 3, 1), (7, .aload_n 0, 1), (8, .iload_n 2, 1), (9, .invokevirtual 75, 3), (12, .if_icmp .eq 18, 3), (15, .iload_n 3, 1), (16, .aload_n 0, 1), (17, .iload_n 2, 1), (18, .invokevirtual 75, 3), (21, .if_icmp .ge 7, 3), (24, .iconst (-1), 1), (25, .goto 4, 3), (28, .iconst 1, 1), (29, .ireturn, 1), (30, .iload_n 3, 1), (31, .istore 4, 2), (33, .iload 4, 2), (35, .ifCond .le 57, 3), (38, .aload_n 0, 1), (39, .getfield 12, 3), (42, .iload_n 1, 1), (43, .invokestatic 64, 3), (46, .iload 4, 2), (48, .iadd, 1), (49, .iaload, 1), (50, .istore 5, 2), (52, .aload_n 0, 1), (53, .getfield 12, 3), (56, .iload_n 2, 1), (57, .invokestatic 64, 3), (60, .iload 4, 2), (62, .iadd, 1), (63, .iaload, 1), (64, .istore 6, 2), (66, .iload 5, 2), (68, .iload 6, 2), (70, .if_icmp .eq 16, 3), (73, .iload 5, 2), (75, .iload 6, 2), (77, .if_icmp .ge 7, 3), (80, .iconst (-1), 1), (81, .goto 4, 3), (84, .iconst 1, 1), (85, .ireturn, 1), (86, .iinc 4 (-1), 3), (89, .goto (-56), 3), (92, .iconst 0, 1), (93, .ireturn, 1)]
theorem kX10_compare_0 : cdOf kX10_compare 0 = some (.aload_n 0, 1) := by decide +kernel
theorem kX10_compare_1 : cdOf kX10_compare 1 = some (.iload_n 1, 1) := by decide +kernel
theorem kX10_compare_2 : cdOf kX10_compare 2 = some (.invokevirtual 75, 3) := by decide +kernel
theorem kX10_compare_5 : cdOf kX10_compare 5 = some (.istore_n 3, 1) := by decide +kernel
theorem kX10_compare_6 : cdOf kX10_compare 6 = some (.iload_n 3, 1) := by decide +kernel
theorem kX10_compare_7 : cdOf kX10_compare 7 = some (.aload_n 0, 1) := by decide +kernel
theorem kX10_compare_8 : cdOf kX10_compare 8 = some (.iload_n 2, 1) := by decide +kernel
theorem kX10_compare_9 : cdOf kX10_compare 9 = some (.invokevirtual 75, 3) := by decide +kernel
theorem kX10_compare_12 : cdOf kX10_compare 12 = some (.if_icmp .eq 18, 3) := by decide +kernel
theorem kX10_compare_15 : cdOf kX10_compare 15 = some (.iload_n 3, 1) := by decide +kernel
theorem kX10_compare_16 : cdOf kX10_compare 16 = some (.aload_n 0, 1) := by decide +kernel
theorem kX10_compare_17 : cdOf kX10_compare 17 = some (.iload_n 2, 1) := by decide +kernel
theorem kX10_compare_18 : cdOf kX10_compare 18 = some (.invokevirtual 75, 3) := by decide +kernel
theorem kX10_compare_21 : cdOf kX10_compare 21 = some (.if_icmp .ge 7, 3) := by decide +kernel
theorem kX10_compare_24 : cdOf kX10_compare 24 = some (.iconst (-1), 1) := by decide +kernel
theorem kX10_compare_25 : cdOf kX10_compare 25 = some (.goto 4, 3) := by decide +kernel
theorem kX10_compare_28 : cdOf kX10_compare 28 = some (.iconst 1, 1) := by decide +kernel
theorem kX10_compare_29 : cdOf kX10_compare 29 = some (.ireturn, 1) := by decide +kernel
theorem kX10_compare_30 : cdOf kX10_compare 30 = some (.iload_n 3, 1) := by decide +kernel
theorem kX10_compare_31 : cdOf kX10_compare 31 = some (.istore 4, 2) := by decide +kernel
theorem kX10_compare_33 : cdOf kX10_compare 33 = some (.iload 4, 2) := by decide +kernel
theorem kX10_compare_35 : cdOf kX10_compare 35 = some (.ifCond .le 57, 3) := by decide +kernel
theorem kX10_compare_38 : cdOf kX10_compare 38 = some (.aload_n 0, 1) := by decide +kernel
theorem kX10_compare_39 : cdOf kX10_compare 39 = some (.getfield 12, 3) := by decide +kernel
theorem kX10_compare_42 : cdOf kX10_compare 42 = some (.iload_n 1, 1) := by decide +kernel
theorem kX10_compare_43 : cdOf kX10_compare 43 = some (.invokestatic 64, 3) := by decide +kernel
theorem kX10_compare_46 : cdOf kX10_compare 46 = some (.iload 4, 2) := by decide +kernel
theorem kX10_compare_48 : cdOf kX10_compare 48 = some (.iadd, 1) := by decide +kernel
theorem kX10_compare_49 : cdOf kX10_compare 49 = some (.iaload, 1) := by decide +kernel
theorem kX10_compare_50 : cdOf kX10_compare 50 = some (.istore 5, 2) := by decide +kernel
theorem kX10_compare_52 : cdOf kX10_compare 52 = some (.aload_n 0, 1) := by decide +kernel
theorem kX10_compare_53 : cdOf kX10_compare 53 = some (.getfield 12, 3) := by decide +kernel
theorem kX10_compare_56 : cdOf kX10_compare 56 = some (.iload_n 2, 1) := by decide +kernel
theorem kX10_compare_57 : cdOf kX10_compare 57 = some (.invokestatic 64, 3) := by decide +kernel
theorem kX10_compare_60 : cdOf kX10_compare 60 = some (.iload 4, 2) := by decide +kernel
theorem kX10_compare_62 : cdOf kX10_compare 62 = some (.iadd, 1) := by decide +kernel
theorem kX10_compare_63 : cdOf kX10_compare 63 = some (.iaload, 1) := by decide +kernel
theorem kX10_compare_64 : cdOf kX10_compare 64 = some (.istore 6, 2) := by decide +kernel
theorem kX10_compare_66 : cdOf kX10_compare 66 = some (.iload 5, 2) := by decide +kernel
theorem kX10_compare_68 : cdOf kX10_compare 68 = some (.iload 6, 2) := by decide +kernel
theorem kX10_compare_70 : cdOf kX10_compare 70 = some (.if_icmp .eq 16, 3) := by decide +kernel
theorem kX10_compare_73 : cdOf kX10_compare 73 = some (.iload 5, 2) := by decide +kernel
theorem kX10_compare_75 : cdOf kX10_compare 75 = some (.iload 6, 2) := by decide +kernel
theorem kX10_compare_77 : cdOf kX10_compare 77 = some (.if_icmp .ge 7, 3) := by decide +kernel
theorem kX10_compare_80 : cdOf kX10_compare 80 = some (.iconst (-1), 1) := by decide +kernel
theorem kX10_compare_81 : cdOf kX10_compare 81 = some (.goto 4, 3) := by decide +kernel
theorem kX10_compare_84 : cdOf kX10_compare 84 = some (.iconst 1, 1) := by decide +kernel
theorem kX10_compare_85 : cdOf kX10_compare 85 = some (.ireturn, 1) := by decide +kernel
theorem kX10_compare_86 : cdOf kX10_compare 86 = some (.iinc 4 (-1), 3) := by decide +kernel
theorem kX10_compare_89 : cdOf kX10_compare 89 = some (.goto (-56), 3) := by decide +kernel
theorem kX10_compare_92 : cdOf kX10_compare 92 = some (.iconst 0, 1) := by decide +kernel
theorem kX10_compare_93 : cdOf kX10_compare 93 = some (.ireturn, 1) := by decide +kernel
set_option maxRecDepth 20000 in
theorem kX10_compare_ok : ∀ pc i len, cdOf kX10_compare pc = some (i, len) → decode cX10_compare pc = .ok (i, len) ∧ stOK 7 i = true ∧ jOK pc i = true ∧ eLen i len = true := cdOf_ok cX10_compare 7 kX10_compare (by decide +kernel)
def vtX10_compare : Nat → Option (Nat × eSp) := fun k => match k with
  | 75 => some (2, SX10_length)
  | _ => none
theorem vtX10_compare_75 : vtX10_compare 75 = some (2, SX10_length) := rfl
def stX10_compare : Nat → Option (Nat × eSp) := fun k => match k with
  | 64 => some (1, SX10_at)
  | _ => none
theorem stX10_compare_64 : stX10_compare 64 = some (1, SX10_at) := rfl
abbrev TX10_compare : eT := (fl_RX10, cl_RX10, dl_RX10, vtX10_compare, stX10_compare)
set_option maxRecDepth 20000 in
theorem caX10_compare : eCalls RX10 { frames := 2, cells := 0, slots := 0, locals := 42 } TX10_compare := by
  refine ⟨fun k n sp h => ?_, fun k n sp h => ?_⟩
  · dsimp only [TX10_compare] at h
    unfold vtX10_compare at h
    split at h
    · cases h; exact eV_mk mX10_length wX10_length (by decide +kernel) (Or.inl (gW_at 1101 (by decide +kernel) rfl))
    · cases h
  · dsimp only [TX10_compare] at h
    unfold stX10_compare at h
    split at h
    · cases h; exact eS_mk mX10_at wX10_at (by decide +kernel) (Or.inl (gW_at 1070 (by decide +kernel) rfl))
    · cases h
set_option maxRecDepth 100000 in
set_option maxHeartbeats 4000000 in
theorem sX10_compare : eSafe TX10_compare (cdOf kX10_compare) 7 (some .int) SX10_compare := by
  intro K rt hK as M h
  obtain ⟨F, A, p, q, y, z, rfl, rfl, h0, h1, h2, h3, h⟩ := h
  have hwp := nm_w h2
  have hwq := nm_w h3
  obtain ⟨n, hn, hr, ht, hln, hav, hz0, -, -, hge, hlt, -⟩ := nm_h h2
  obtain ⟨n', hn', hr', ht', hln', hav', hz0', -, -, hge', hlt', -⟩ := nm_h h3
  have hlow : n < n' → zAbs y < zAbs z := fun q => by
    have a1 := hge' (by rw [Ne, hz0']; omega)
    have a2 := bB_mono (show n ≤ n' - 1 by omega)
    omega
  have hhigh : n' < n → zAbs z < zAbs y := fun q => by
    have a1 := hge (by rw [Ne, hz0]; omega)
    have a2 := bB_mono (show n' ≤ n - 1 by omega)
    omega
  refine ⟨by simp [eE], ?_⟩
  have loop : ∀ (i : Nat) (u v : Option eV), n = n' → i ≤ n → (∀ j : Nat, i ≤ j → j < n → A 0 (p * 601 + 1 + j) = A 0 (q * 601 + 1 + j)) → K 33 [some eRR, some (eI p), some (eI q), some (eI n), some (eI i), u, v] [] (cR F A) := by
    intro i
    induction i with
    | zero =>
      intro u v e hi he
      subst e
      refine x_iload hK kX10_compare_33 (q := 35) rfl rfl ?_
      refine x_if_le hK kX10_compare_35 (q := 38) rfl (tg := 92) rfl (by omega) (fun c35 => ?_) (fun c35 => ?_)
      · refine x_iconst hK kX10_compare_92 (q := 93) rfl ?_
        refine x_ireturn hK kX10_compare_93 (by first | trivial | exact Or.inl rfl | exact Or.inr rfl) ?_
        have h5 := vl_diff (f := A 0) (g := A 0) (o := p * 601 + 1) (o' := q * 601 + 1) (k := 0) n (fun j a b => he j a (by omega))
        rw [Nat.zero_add] at h5
        have h6 : zAbs y - zAbs z = 0 := by rw [hav, hav', h5]; rfl
        rw [h6] at h; exact h
      · exact absurd (Int.le_refl 0) c35
    | succ i ih =>
      intro u v e hi he
      subst e
      have e1 : p * 601 + ((i + 1 : Nat) : Int) = p * 601 + 1 + i := by omega
      have e2 : q * 601 + ((i + 1 : Nat) : Int) = q * 601 + 1 + i := by omega
      have w1 := hr i (by omega)
      have w2 := hr' i (by omega)
      have b0 : bB = 268435456 := rfl
      have h5 := vl_diff (f := A 0) (g := A 0) (o := p * 601 + 1) (o' := q * 601 + 1) (k := i + 1) (n - (i + 1)) (fun j a b => he j a (by omega))
      rw [show i + 1 + (n - (i + 1)) = n by omega, ← hav, ← hav'] at h5
      refine x_iload hK kX10_compare_33 (q := 35) rfl rfl ?_
      refine x_if_le hK kX10_compare_35 (q := 38) rfl (tg := 92) rfl (by omega) (fun c35 => ?_) (fun c35 => ?_)
      · exact absurd c35 (by omega)
      · refine x_aload_n hK kX10_compare_38 (q := 39) rfl rfl ?_
        refine x_getfield hK kX10_compare_39 (q := 42) rfl (gX10_12 ?_)
        refine x_iload_n hK kX10_compare_42 (q := 43) rfl rfl ?_
        refine x_cs1 hK kX10_compare_43 (q := 46) rfl (stX10_compare_64) (Nat.le_of_ble_eq_true rfl) ?_
        refine SX10_at_i ?_
        refine x_iload hK kX10_compare_46 (q := 48) rfl rfl ?_
        refine x_iadd hK kX10_compare_48 (q := 49) rfl ?_
        refine x_iaload hK kX10_compare_49 (q := 50) rfl (aX10_A0 (by refine ⟨?_, ?_⟩ <;> omega) ?_)
        refine x_istore hK kX10_compare_50 (q := 52) rfl ?_
        refine x_aload_n hK kX10_compare_52 (q := 53) rfl rfl ?_
        refine x_getfield hK kX10_compare_53 (q := 56) rfl (gX10_12 ?_)
        refine x_iload_n hK kX10_compare_56 (q := 57) rfl rfl ?_
        simp only [lS, lS2, clr_0, clr_I, clr_L, clr_R]
        refine x_cs1 hK kX10_compare_57 (q := 60) rfl (stX10_compare_64) (Nat.le_of_ble_eq_true rfl) ?_
        refine SX10_at_i ?_
        refine x_iload hK kX10_compare_60 (q := 62) rfl rfl ?_
        refine x_iadd hK kX10_compare_62 (q := 63) rfl ?_
        refine x_iaload hK kX10_compare_63 (q := 64) rfl (aX10_A0 (by refine ⟨?_, ?_⟩ <;> omega) ?_)
        refine x_istore hK kX10_compare_64 (q := 66) rfl ?_
        refine x_iload hK kX10_compare_66 (q := 68) rfl rfl ?_
        refine x_iload hK kX10_compare_68 (q := 70) rfl rfl ?_
        simp only [lS, lS2, clr_0, clr_I, clr_L, clr_R]
        rw [e1, e2]
        refine x_icmp_eq hK kX10_compare_70 (q := 73) rfl (tg := 86) rfl (by refine ⟨?_, ?_⟩ <;> omega) (fun c70 => ?_) (fun c70 => ?_)
        · refine x_iinc hK kX10_compare_86 (q := 89) rfl rfl ?_
          simp only [lS, lS2, clr_0, clr_I, clr_L, clr_R]
          refine x_goto hK kX10_compare_89 (tg := 33) rfl ?_
          rw [show ((i + 1 : Nat) : Int) + -1 = (i : Int) by omega]
          refine ih _ _ rfl (by omega) (fun j a b => ?_)
          rcases Nat.lt_or_ge i j with q1 | q1
          · exact he j (by omega) b
          · have : j = i := by omega
            subst this
            exact c70
        · refine x_iload hK kX10_compare_73 (q := 75) rfl rfl ?_
          refine x_iload hK kX10_compare_75 (q := 77) rfl rfl ?_
          refine x_icmp_ge hK kX10_compare_77 (q := 80) rfl (tg := 84) rfl (by refine ⟨?_, ?_⟩ <;> omega) (fun c77 => ?_) (fun c77 => ?_)
          · have h6 := vl_less (hr'.sub hi) (hr.sub hi) (show A 0 (q * 601 + 1 + i) < A 0 (p * 601 + 1 + i) by omega)
            rw [zSgn_gt (by omega)] at h
            refine x_iconst hK kX10_compare_84 (q := 85) rfl ?_
            refine x_ireturn hK kX10_compare_85 (by first | trivial | exact Or.inl rfl | exact Or.inr rfl) ?_
            exact h
          · have h6 := vl_less (hr.sub hi) (hr'.sub hi) (show A 0 (p * 601 + 1 + i) < A 0 (q * 601 + 1 + i) by omega)
            rw [zSgn_lt (by omega)] at h
            refine x_iconst hK kX10_compare_80 (q := 81) rfl ?_
            refine x_goto hK kX10_compare_81 (tg := 85) rfl ?_
            refine x_ireturn hK kX10_compare_85 (by first | trivial | exact Or.inl rfl | exact Or.inr rfl) ?_
            exact h
  simp only [eLoc, eE, List.length_cons, List.length_nil, List.replicate, List.cons_append, List.nil_append, Nat.reduceAdd, Nat.reduceSub]
  refine x_aload_n hK kX10_compare_0 (q := 1) rfl rfl ?_
  refine x_iload_n hK kX10_compare_1 (q := 2) rfl rfl ?_
  refine x_cv2 hK kX10_compare_2 (q := 5) rfl (vtX10_compare_75) (Nat.le_of_ble_eq_true rfl) ?_
  refine SX10_length_i (by omega) hwp ?_
  rw [hln]
  refine x_istore_n hK kX10_compare_5 (q := 6) (jn := 3) rfl rfl ?_
  refine x_iload_n hK kX10_compare_6 (q := 7) rfl rfl ?_
  refine x_aload_n hK kX10_compare_7 (q := 8) rfl rfl ?_
  refine x_iload_n hK kX10_compare_8 (q := 9) rfl rfl ?_
  simp only [lS, lS2, clr_0, clr_I, clr_L, clr_R]
  refine x_cv2 hK kX10_compare_9 (q := 12) rfl (vtX10_compare_75) (Nat.le_of_ble_eq_true rfl) ?_
  refine SX10_length_i (by omega) hwq ?_
  rw [hln']
  refine x_icmp_eq hK kX10_compare_12 (q := 15) rfl (tg := 30) rfl (by refine ⟨?_, ?_⟩ <;> omega) (fun c12 => ?_) (fun c12 => ?_)
  · refine x_iload_n hK kX10_compare_30 (q := 31) rfl rfl ?_
    refine x_istore hK kX10_compare_31 (q := 33) rfl ?_
    simp only [lS, lS2, clr_0, clr_I, clr_L, clr_R]
    exact loop n _ _ (by omega) (Nat.le_refl _) (fun j a b => by omega)
  · refine x_iload_n hK kX10_compare_15 (q := 16) rfl rfl ?_
    refine x_aload_n hK kX10_compare_16 (q := 17) rfl rfl ?_
    refine x_iload_n hK kX10_compare_17 (q := 18) rfl rfl ?_
    refine x_cv2 hK kX10_compare_18 (q := 21) rfl (vtX10_compare_75) (Nat.le_of_ble_eq_true rfl) ?_
    refine SX10_length_i (by omega) hwq ?_
    rw [hln']
    refine x_icmp_ge hK kX10_compare_21 (q := 24) rfl (tg := 28) rfl (by refine ⟨?_, ?_⟩ <;> omega) (fun c21 => ?_) (fun c21 => ?_)
    · rw [zSgn_gt (by have := hhigh (by omega); omega)] at h
      refine x_iconst hK kX10_compare_28 (q := 29) rfl ?_
      refine x_ireturn hK kX10_compare_29 (by first | trivial | exact Or.inl rfl | exact Or.inr rfl) ?_
      exact h
    · rw [zSgn_lt (by have := hlow (by omega); omega)] at h
      refine x_iconst hK kX10_compare_24 (q := 25) rfl ?_
      refine x_goto hK kX10_compare_25 (tg := 29) rfl ?_
      refine x_ireturn hK kX10_compare_29 (by first | trivial | exact Or.inl rfl | exact Or.inr rfl) ?_
      exact h
set_option maxRecDepth 20000 in
theorem mX10_compare : eMet yX10_compare cX10_compare 7 (some .int) 2 42 SX10_compare := eMet_of (by decide +kernel) sX10_compare kX10_compare_ok caX10_compare tb_RX10
theorem wX10_compare : eWV yX10_compare cX10_compare 7 (some .int) 3 9 SX10_compare := ⟨(gW_at 1161 (by decide +kernel) rfl), (gW_at 89 (by decide +kernel) rfl), (gW_at 1160 (by decide +kernel) rfl), ⟨_, rfl, (gW_at 53 (by decide +kernel) rfl)⟩, by decide +kernel, SX10_compare_r⟩
