/-! less(a, b): a becomes a less b. -/
theorem vl_one (f : Int → Int) (o : Int) (n : Nat) : vl f o (n + 1) = vl f o n + f (o + n) * bB ^ n := rfl
def SX10_less : eSp := fun as M rt => ∃ (F : Nat → Int) (A : Nat → Int → Int) (t t' : Nat) (x y : Int), as = [eR (1, t), eR (1, t')] ∧ M = cR F A ∧ (t = 2 ∨ t = 3) ∧ (t' = 2 ∨ t' = 3) ∧ t' ≠ t ∧ rw_ (A t) x ∧ rw_ (A t') y ∧ y ≤ x ∧ ∀ g, rw_ g (x - y) → rt none (cR F (uA A t g))
theorem SX10_less_i {F : Nat → Int} {A : Nat → Int → Int} {t t' : Nat} {rt : Option eV → eM → Prop} (x y : Int) (ht : t = 2 ∨ t = 3) (ht' : t' = 2 ∨ t' = 3) (hne : t' ≠ t) (h0 : rw_ (A t) x) (h1 : rw_ (A t') y) (h2 : y ≤ x) (h : ∀ g, rw_ g (x - y) → rt none (cR F (uA A t g))) : SX10_less [eR (1, t), eR (1, t')] (cR F A) rt := ⟨F, A, t, t', x, y, rfl, rfl, ht, ht', hne, h0, h1, h2, h⟩
def kX10_less : List (Nat × Jvm.ClassFile.Instr × Nat) := [(0, .iconst 0, 1), (1, .istore_n 2, 1), (2, .iconst 1, 1), (3, .istore_n 3, 1), (4, .iload_n 3, 1), (5, .aload_n 0, 1), (6, .iconst 0, 1), (7, .iaload, 1), (8, .if_icmp .gt 45, 3), (11, .aload_n 0, 1), (12, .iload_n 3, 1), (13, .iaload, 1), (14, .iload_n 3, 1), (15, .aload_n 1, 1), (16, .iconst 0, 1), (17, .iaload, 1), (18, .if_icmp .gt 9, 3), (21, .aload_n 1, 1), (22, .iload_n 3, 1), (23, .iaload, 1), (24, .goto 4, 3), (27, .iconst 0, 1), (28, .isub, 1), (29, .iload_n 2, 1), (30, .iadd, 1), (31, .istore 4, 2), (33, .aload_n 0, 1), (34, .iload_n 3, 1), (35, .iload 4, 2), (37, .ldc 98, 2), (39, .iand, 1), (40, .iastore, 1), (41, .iload 4, 2), (43, .bipush 28, 2), (45, .ishr, 1), (46, .istore_n 2, 1), (47, .iinc 3 1, 3), (50, .goto (-46), 3), (53, .aload_n 0, 1), (54, .iconst 0, 1), (55, .iaload, 1), (56, .ifCond .le 21, 3), (59, .aload_n 0, 1), (60, .aload_n 0, 1), (61, .iconst 0, 1), (62, .iaload, 1), (63, .iaload, 1), (64, .ifCond .ne 13, 3), (67, .aload_n 0, 1), (68, .iconst 0, 1), (69, .dup2, 1), (70, .iaload, 1), (71, .iconst 1, 1), (72, .isub, 1), (73, .iastore, 1), (74, .goto (-21), 3), (77, .return_, 1)]
theorem kX10_less_0 : cdOf kX10_less 0 = some (.iconst 0, 1) := by decide +kernel
theorem kX10_less_1 : cdOf kX10_less 1 = some (.istore_n 2, 1) := by decide +kernel
theorem kX10_less_2 : cdOf kX10_less 2 = some (.iconst 1, 1) := by decide +kernel
theorem kX10_less_3 : cdOf kX10_less 3 = some (.istore_n 3, 1) := by decide +kernel
theorem kX10_less_4 : cdOf kX10_less 4 = some (.iload_n 3, 1) := by decide +kernel
theorem kX10_less_5 : cdOf kX10_less 5 = some (.aload_n 0, 1) := by decide +kernel
theorem kX10_less_6 : cdOf kX10_less 6 = some (.iconst 0, 1) := by decide +kernel
theorem kX10_less_7 : cdOf kX10_less 7 = some (.iaload, 1) := by decide +kernel
theorem kX10_less_8 : cdOf kX10_less 8 = some (.if_icmp .gt 45, 3) := by decide +kernel
theorem kX10_less_11 : cdOf kX10_less 11 = some (.aload_n 0, 1) := by decide +kernel
theorem kX10_less_12 : cdOf kX10_less 12 = some (.iload_n 3, 1) := by decide +kernel
theorem kX10_less_13 : cdOf kX10_less 13 = some (.iaload, 1) := by decide +kernel
theorem kX10_less_14 : cdOf kX10_less 14 = some (.iload_n 3, 1) := by decide +kernel
theorem kX10_less_15 : cdOf kX10_less 15 = some (.aload_n 1, 1) := by decide +kernel
theorem kX10_less_16 : cdOf kX10_less 16 = some (.iconst 0, 1) := by decide +kernel
theorem kX10_less_17 : cdOf kX10_less 17 = some (.iaload, 1) := by decide +kernel
theorem kX10_less_18 : cdOf kX10_less 18 = some (.if_icmp .gt 9, 3) := by decide +kernel
theorem kX10_less_21 : cdOf kX10_less 21 = some (.aload_n 1, 1) := by decide +kernel
theorem kX10_less_22 : cdOf kX10_less 22 = some (.iload_n 3, 1) := by decide +kernel
theorem kX10_less_23 : cdOf kX10_less 23 = some (.iaload, 1) := by decide +kernel
theorem kX10_less_24 : cdOf kX10_less 24 = some (.goto 4, 3) := by decide +kernel
theorem kX10_less_27 : cdOf kX10_less 27 = some (.iconst 0, 1) := by decide +kernel
theorem kX10_less_28 : cdOf kX10_less 28 = some (.isub, 1) := by decide +kernel
theorem kX10_less_29 : cdOf kX10_less 29 = some (.iload_n 2, 1) := by decide +kernel
theorem kX10_less_30 : cdOf kX10_less 30 = some (.iadd, 1) := by decide +kernel
theorem kX10_less_31 : cdOf kX10_less 31 = some (.istore 4, 2) := by decide +kernel
theorem kX10_less_33 : cdOf kX10_less 33 = some (.aload_n 0, 1) := by decide +kernel
theorem kX10_less_34 : cdOf kX10_less 34 = some (.iload_n 3, 1) := by decide +kernel
theorem kX10_less_35 : cdOf kX10_less 35 = some (.iload 4, 2) := by decide +kernel
theorem kX10_less_37 : cdOf kX10_less 37 = some (.ldc 98, 2) := by decide +kernel
theorem kX10_less_39 : cdOf kX10_less 39 = some (.iand, 1) := by decide +kernel
theorem kX10_less_40 : cdOf kX10_less 40 = some (.iastore, 1) := by decide +kernel
theorem kX10_less_41 : cdOf kX10_less 41 = some (.iload 4, 2) := by decide +kernel
theorem kX10_less_43 : cdOf kX10_less 43 = some (.bipush 28, 2) := by decide +kernel
theorem kX10_less_45 : cdOf kX10_less 45 = some (.ishr, 1) := by decide +kernel
theorem kX10_less_46 : cdOf kX10_less 46 = some (.istore_n 2, 1) := by decide +kernel
theorem kX10_less_47 : cdOf kX10_less 47 = some (.iinc 3 1, 3) := by decide +kernel
theorem kX10_less_50 : cdOf kX10_less 50 = some (.goto (-46), 3) := by decide +kernel
theorem kX10_less_53 : cdOf kX10_less 53 = some (.aload_n 0, 1) := by decide +kernel
theorem kX10_less_54 : cdOf kX10_less 54 = some (.iconst 0, 1) := by decide +kernel
theorem kX10_less_55 : cdOf kX10_less 55 = some (.iaload, 1) := by decide +kernel
theorem kX10_less_56 : cdOf kX10_less 56 = some (.ifCond .le 21, 3) := by decide +kernel
theorem kX10_less_59 : cdOf kX10_less 59 = some (.aload_n 0, 1) := by decide +kernel
theorem kX10_less_60 : cdOf kX10_less 60 = some (.aload_n 0, 1) := by decide +kernel
theorem kX10_less_61 : cdOf kX10_less 61 = some (.iconst 0, 1) := by decide +kernel
theorem kX10_less_62 : cdOf kX10_less 62 = some (.iaload, 1) := by decide +kernel
theorem kX10_less_63 : cdOf kX10_less 63 = some (.iaload, 1) := by decide +kernel
theorem kX10_less_64 : cdOf kX10_less 64 = some (.ifCond .ne 13, 3) := by decide +kernel
theorem kX10_less_67 : cdOf kX10_less 67 = some (.aload_n 0, 1) := by decide +kernel
theorem kX10_less_68 : cdOf kX10_less 68 = some (.iconst 0, 1) := by decide +kernel
theorem kX10_less_69 : cdOf kX10_less 69 = some (.dup2, 1) := by decide +kernel
theorem kX10_less_70 : cdOf kX10_less 70 = some (.iaload, 1) := by decide +kernel
theorem kX10_less_71 : cdOf kX10_less 71 = some (.iconst 1, 1) := by decide +kernel
theorem kX10_less_72 : cdOf kX10_less 72 = some (.isub, 1) := by decide +kernel
theorem kX10_less_73 : cdOf kX10_less 73 = some (.iastore, 1) := by decide +kernel
theorem kX10_less_74 : cdOf kX10_less 74 = some (.goto (-21), 3) := by decide +kernel
theorem kX10_less_77 : cdOf kX10_less 77 = some (.return_, 1) := by decide +kernel
set_option maxRecDepth 20000 in
theorem kX10_less_ok : ∀ pc i len, cdOf kX10_less pc = some (i, len) → decode cX10_less pc = .ok (i, len) ∧ stOK 5 i = true ∧ jOK pc i = true ∧ eLen i len = true := cdOf_ok cX10_less 5 kX10_less (by decide +kernel)
def vtX10_less : Nat → Option (Nat × eSp) := fun _ => none
def stX10_less : Nat → Option (Nat × eSp) := fun _ => none
abbrev TX10_less : eT := (fl_RX10, cl_RX10, dl_RX10, vtX10_less, stX10_less)
set_option maxRecDepth 20000 in
theorem caX10_less : eCalls RX10 { frames := 0, cells := 0, slots := 0, locals := 0 } TX10_less := by
  refine ⟨fun k n sp h => ?_, fun k n sp h => ?_⟩
  · cases h
  · cases h
set_option maxRecDepth 100000 in
set_option maxHeartbeats 4000000 in
theorem sX10_less : eSafe TX10_less (cdOf kX10_less) 5 none SX10_less := by
  intro K rt hK as M h
  obtain ⟨F, A, t, t', x, y, rfl, rfl, ht, ht', hne, h2, h3, hyx, h⟩ := h
  obtain ⟨n, hn, hg, hr, htop, hav, hx0, hz0, hge, hlt⟩ := rw_h h2
  obtain ⟨n', hn', hg', hr', htop', hav', hy0, hz0', hge', hlt'⟩ := rw_h h3
  have b0 : bB = 268435456 := rfl
  have hnn : n' ≤ n := by
    rcases Nat.lt_or_ge n n' with q | q
    · have a1 := hge' (by rw [Ne, hz0']; omega)
      have a2 := bB_mono (show n ≤ n' - 1 by omega)
      omega
    · exact q
  have hA' : ∀ g, uA A t g t' = A t' := fun g => uA_n _ _ hne
  have hbl : ∃ bl : Int → Int, (∀ j : Int, bl j = if j ≤ n' then A t' j else 0) := ⟨fun j => if j ≤ n' then A t' j else 0, fun _ => rfl⟩
  obtain ⟨bl, hbl⟩ := hbl
  have hbr : lr bl 1 n := by
    intro j hj
    rw [hbl]
    split
    · exact hr' j (by omega)
    · omega
  have hbv : vl bl 1 n = y := by
    have h5 := vl_split (f := bl) (o := 1) n' (n - n')
    rw [show n' + (n - n') = n by omega, vl_0 (o := 1 + (n' : Int)) (fun k hk => by rw [hbl, if_neg (by omega)])] at h5
    have h6 : vl bl 1 n' = vl (A t') 1 n' := vl_cong (fun k hk => by rw [hbl, if_pos (by omega)])
    rw [h5, h6, hav']; omega
  refine ⟨by simp [eE], ?_⟩
  have tail : ∀ (k : Nat) (g : Int → Int) (u v w : Option eV), k ≤ 600 → g 0 = k → lr g 1 k → vl g 1 k = x - y → K 53 [some (eR (1, t)), some (eR (1, t')), u, v, w] [] (cR F (uA A t g)) := by
    intro k
    induction k with
    | zero =>
      intro g u v w hk hg0 hr0 hv
      refine x_aload_n hK kX10_less_53 (q := 54) rfl rfl ?_
      refine x_iconst hK kX10_less_54 (q := 55) rfl ?_
      refine x_iaload hK kX10_less_55 (q := 56) rfl (aX10_P ht (by refine ⟨?_, ?_⟩ <;> omega) ?_)
      rw [uA_g, hg0]
      refine x_if_le hK kX10_less_56 (q := 59) rfl (tg := 77) rfl (by omega) (fun c56 => ?_) (fun c56 => ?_)
      · refine x_return_ hK kX10_less_77 (by first | trivial | exact Or.inl rfl | exact Or.inr rfl) ?_
        refine h g ?_
        rw [← hv]
        exact rw_mk (by omega) hr0 (by rw [hg0]; rfl)
      · exact absurd c56 (by omega)
    | succ k ih =>
      intro g u v w hk hg0 hr0 hv
      have w0 := hr0 k (by omega)
      have e1 : (1 : Int) + k = ((k + 1 : Nat) : Int) := by omega
      rw [e1] at w0
      refine x_aload_n hK kX10_less_53 (q := 54) rfl rfl ?_
      refine x_iconst hK kX10_less_54 (q := 55) rfl ?_
      refine x_iaload hK kX10_less_55 (q := 56) rfl (aX10_P ht (by refine ⟨?_, ?_⟩ <;> omega) ?_)
      rw [uA_g, hg0]
      refine x_if_le hK kX10_less_56 (q := 59) rfl (tg := 77) rfl (by omega) (fun c56 => ?_) (fun c56 => ?_)
      · exact absurd c56 (by omega)
      · refine x_aload_n hK kX10_less_59 (q := 60) rfl rfl ?_
        refine x_aload_n hK kX10_less_60 (q := 61) rfl rfl ?_
        refine x_iconst hK kX10_less_61 (q := 62) rfl ?_
        refine x_iaload hK kX10_less_62 (q := 63) rfl (aX10_P ht (by refine ⟨?_, ?_⟩ <;> omega) ?_)
        rw [uA_g, hg0]
        refine x_iaload hK kX10_less_63 (q := 64) rfl (aX10_P ht (by omega) ?_)
        rw [uA_g]
        refine x_if_ne hK kX10_less_64 (q := 67) rfl (tg := 77) rfl (by omega) (fun c64 => ?_) (fun c64 => ?_)
        · refine x_return_ hK kX10_less_77 (by first | trivial | exact Or.inl rfl | exact Or.inr rfl) ?_
          refine h g ?_
          rw [← hv]
          refine rw_mk (by omega) hr0 ?_
          rw [hg0, tk, if_neg (by rw [e1]; exact c64)]
        · refine x_aload_n hK kX10_less_67 (q := 68) rfl rfl ?_
          refine x_iconst hK kX10_less_68 (q := 69) rfl ?_
          refine x_dup2 hK kX10_less_69 (q := 70) rfl ?_
          refine x_iaload hK kX10_less_70 (q := 71) rfl (aX10_P ht (by refine ⟨?_, ?_⟩ <;> omega) ?_)
          rw [uA_g, hg0]
          refine x_iconst hK kX10_less_71 (q := 72) rfl ?_
          refine x_isub hK kX10_less_72 (q := 73) rfl ?_
          refine x_iastore hK kX10_less_73 (q := 74) rfl (yX10_P ht (by refine ⟨?_, ?_⟩ <;> omega) ?_)
          refine x_goto hK kX10_less_74 (tg := 53) rfl ?_
          rw [uA_g, uA_u]
          have hz2 : vl g 1 (k + 1) = vl g 1 k := by rw [vl, e1, show g ((k + 1 : Nat) : Int) = 0 by omega]; simp
          refine ih _ _ _ _ (by omega) (by rw [uI_s]; omega) (lr_cong (hr0.sub (Nat.le_succ k)) (fun j hj => uI_n _ _ (by omega))) ?_
          rw [vl_cong (f := g) (fun j hj => uI_n _ _ (by omega)), ← hz2]
          exact hv
  have loop : ∀ (d k : Nat) (g : Int → Int) (c : Int) (u : Option eV), k + d = n → g 0 = n → (c = 0 ∨ c = -1) → lr g 1 k → (∀ j : Nat, k < j → g j = A t j) → vl g 1 k + c * bB ^ k = vl (A t) 1 k - vl bl 1 k → K 4 [some (eR (1, t)), some (eR (1, t')), some (eI c), some (eI (k + 1 : Nat)), u] [] (cR F (uA A t g)) := by
    intro d
    induction d with
    | zero =>
      intro k g c u hk hg0 hc hrg hhi hv
      refine x_iload_n hK kX10_less_4 (q := 5) rfl rfl ?_
      refine x_aload_n hK kX10_less_5 (q := 6) rfl rfl ?_
      refine x_iconst hK kX10_less_6 (q := 7) rfl ?_
      refine x_iaload hK kX10_less_7 (q := 8) rfl (aX10_P ht (by refine ⟨?_, ?_⟩ <;> omega) ?_)
      rw [uA_g, hg0]
      refine x_icmp_gt hK kX10_less_8 (q := 11) rfl (tg := 53) rfl (by refine ⟨?_, ?_⟩ <;> omega) (fun c8 => ?_) (fun c8 => ?_)
      · have e2 : k = n := by omega
        subst e2
        rw [← hav, hbv] at hv
        have h5 := vl_lt hrg
        have h6 := vl_nn hrg
        have hc0 : c = 0 := by
          rcases hc with rfl | rfl
          · rfl
          · omega
        subst hc0
        exact tail k g _ _ _ (by omega) hg0 hrg (by omega)
      · exact absurd c8 (by omega)
    | succ d ih =>
      intro k g c u hk hg0 hc hrg hhi hv
      have w1 := hr k (by omega)
      have w2 := hbr k (by omega)
      have e1 : (1 : Int) + k = ((k + 1 : Nat) : Int) := by omega
      rw [e1] at w1 w2
      have hb2 := hbl ((k + 1 : Nat) : Int)
      have next : ∀ v : Int, v = A t ((k + 1 : Nat) : Int) - bl ((k + 1 : Nat) : Int) + c → ∀ u, K 4 [some (eR (1, t)), some (eR (1, t')), some (eI (v / 2 ^ 28)), some (eI (((k + 1 : Nat) : Int) + 1)), u] [] (cR F (uA A t (uI g ((k + 1 : Nat) : Int) (v % 2 ^ 28)))) := by
        intro v hv2 u
        have e28 : (2 : Int) ^ 28 = 268435456 := by decide
        rw [e28]
        have e5 : ((k + 1 : Nat) : Int) + 1 = ((k + 1 + 1 : Nat) : Int) := by omega
        rw [e5]
        refine ih (k + 1) _ _ u (by omega) (by rw [uI_n _ _ (by omega)]; exact hg0) (by omega) (fun j hj => ?_) (fun j hj => by rw [uI_n _ _ (by omega)]; exact hhi j (by omega)) ?_
        · rcases Nat.lt_or_ge j k with q | q
          · rw [uI_n _ _ (by omega)]; exact hrg j q
          · rw [show j = k by omega, e1, uI_s]
            show 0 ≤ v % 268435456 ∧ v % 268435456 < 268435456
            omega
        · rw [vl_one, vl_one, vl_one, e1, uI_s, vl_cong (f := g) (fun j hj => uI_n _ _ (by omega)), bB_succ]
          have e6 : v = v / 268435456 * 268435456 + v % 268435456 := by omega
          have e7 : v * bB ^ k = v / 268435456 * (bB ^ k * bB) + v % 268435456 * bB ^ k := by
            rw [Int.mul_comm (bB ^ k) bB, ← Int.mul_assoc, ← Int.add_mul]
            congr 1
          have e8 : v * bB ^ k = A t ((k + 1 : Nat) : Int) * bB ^ k - bl ((k + 1 : Nat) : Int) * bB ^ k + c * bB ^ k := by rw [hv2, Int.add_mul, Int.sub_mul]
          omega
      refine x_iload_n hK kX10_less_4 (q := 5) rfl rfl ?_
      refine x_aload_n hK kX10_less_5 (q := 6) rfl rfl ?_
      refine x_iconst hK kX10_less_6 (q := 7) rfl ?_
      refine x_iaload hK kX10_less_7 (q := 8) rfl (aX10_P ht (by refine ⟨?_, ?_⟩ <;> omega) ?_)
      rw [uA_g, hg0]
      refine x_icmp_gt hK kX10_less_8 (q := 11) rfl (tg := 53) rfl (by refine ⟨?_, ?_⟩ <;> omega) (fun c8 => ?_) (fun c8 => ?_)
      · exact absurd c8 (by omega)
      · refine x_aload_n hK kX10_less_11 (q := 12) rfl rfl ?_
        refine x_iload_n hK kX10_less_12 (q := 13) rfl rfl ?_
        refine x_iaload hK kX10_less_13 (q := 14) rfl (aX10_P ht (by refine ⟨?_, ?_⟩ <;> omega) ?_)
        refine x_iload_n hK kX10_less_14 (q := 15) rfl rfl ?_
        refine x_aload_n hK kX10_less_15 (q := 16) rfl rfl ?_
        refine x_iconst hK kX10_less_16 (q := 17) rfl ?_
        refine x_iaload hK kX10_less_17 (q := 18) rfl (aX10_P ht' (by refine ⟨?_, ?_⟩ <;> omega) ?_)
        rw [hA', hg', uA_g, hhi (k + 1) (by omega)]
        refine x_icmp_gt hK kX10_less_18 (q := 21) rfl (tg := 27) rfl (by refine ⟨?_, ?_⟩ <;> omega) (fun c18 => ?_) (fun c18 => ?_)
        · rw [if_neg (by omega)] at hb2
          refine x_iconst hK kX10_less_27 (q := 28) rfl ?_
          refine x_isub hK kX10_less_28 (q := 29) rfl ?_
          refine x_iload_n hK kX10_less_29 (q := 30) rfl rfl ?_
          refine x_iadd hK kX10_less_30 (q := 31) rfl ?_
          refine x_istore hK kX10_less_31 (q := 33) rfl ?_
          refine x_aload_n hK kX10_less_33 (q := 34) rfl rfl ?_
          refine x_iload_n hK kX10_less_34 (q := 35) rfl rfl ?_
          refine x_iload hK kX10_less_35 (q := 37) rfl rfl ?_
          refine x_ldc hK kX10_less_37 (q := 39) rfl lc_RX10_98 ?_
          refine x_iand hK kX10_less_39 (q := 40) rfl ?_
          simp only [lS, lS2, clr_0, clr_I, clr_L, clr_R]
          rw [zAnd_m _ _ 28 (by decide) (by decide)]
          refine x_iastore hK kX10_less_40 (q := 41) rfl (yX10_P ht (by refine ⟨?_, ?_⟩ <;> omega) ?_)
          refine x_iload hK kX10_less_41 (q := 43) rfl rfl ?_
          refine x_bipush hK kX10_less_43 (q := 45) rfl (by decide) ?_
          refine x_ishr hK kX10_less_45 (q := 46) rfl ?_
          rw [show zShr _ 28 = _ from zShr_n _ (by constructor <;> omega) 28 (by decide)]
          refine x_istore_n hK kX10_less_46 (q := 47) (jn := 2) rfl rfl ?_
          refine x_iinc hK kX10_less_47 (q := 50) rfl rfl ?_
          simp only [lS, lS2, clr_0, clr_I, clr_L, clr_R]
          refine x_goto hK kX10_less_50 (tg := 4) rfl ?_
          rw [uA_g, uA_u]
          exact next _ (by omega) _
        · rw [if_pos (by omega)] at hb2
          refine x_aload_n hK kX10_less_21 (q := 22) rfl rfl ?_
          refine x_iload_n hK kX10_less_22 (q := 23) rfl rfl ?_
          refine x_iaload hK kX10_less_23 (q := 24) rfl (aX10_P ht' (by refine ⟨?_, ?_⟩ <;> omega) ?_)
          rw [hA', ← hb2]
          refine x_goto hK kX10_less_24 (tg := 28) rfl ?_
          refine x_isub hK kX10_less_28 (q := 29) rfl ?_
          refine x_iload_n hK kX10_less_29 (q := 30) rfl rfl ?_
          refine x_iadd hK kX10_less_30 (q := 31) rfl ?_
          refine x_istore hK kX10_less_31 (q := 33) rfl ?_
          refine x_aload_n hK kX10_less_33 (q := 34) rfl rfl ?_
          refine x_iload_n hK kX10_less_34 (q := 35) rfl rfl ?_
          refine x_iload hK kX10_less_35 (q := 37) rfl rfl ?_
          refine x_ldc hK kX10_less_37 (q := 39) rfl lc_RX10_98 ?_
          refine x_iand hK kX10_less_39 (q := 40) rfl ?_
          simp only [lS, lS2, clr_0, clr_I, clr_L, clr_R]
          rw [zAnd_m _ _ 28 (by decide) (by decide)]
          refine x_iastore hK kX10_less_40 (q := 41) rfl (yX10_P ht (by refine ⟨?_, ?_⟩ <;> omega) ?_)
          refine x_iload hK kX10_less_41 (q := 43) rfl rfl ?_
          refine x_bipush hK kX10_less_43 (q := 45) rfl (by decide) ?_
          refine x_ishr hK kX10_less_45 (q := 46) rfl ?_
          rw [show zShr _ 28 = _ from zShr_n _ (by constructor <;> omega) 28 (by decide)]
          refine x_istore_n hK kX10_less_46 (q := 47) (jn := 2) rfl rfl ?_
          refine x_iinc hK kX10_less_47 (q := 50) rfl rfl ?_
          simp only [lS, lS2, clr_0, clr_I, clr_L, clr_R]
          refine x_goto hK kX10_less_50 (tg := 4) rfl ?_
          rw [uA_g, uA_u]
          exact next _ (by omega) _
  simp only [eLoc, eE, List.length_cons, List.length_nil, List.replicate, List.cons_append, List.nil_append, Nat.reduceAdd, Nat.reduceSub]
  refine x_iconst hK kX10_less_0 (q := 1) rfl ?_
  refine x_istore_n hK kX10_less_1 (q := 2) (jn := 2) rfl rfl ?_
  refine x_iconst hK kX10_less_2 (q := 3) rfl ?_
  refine x_istore_n hK kX10_less_3 (q := 4) (jn := 3) rfl rfl ?_
  simp only [lS, lS2, clr_0, clr_I, clr_L, clr_R]
  refine x_to (loop n 0 (A t) 0 _ (by omega) hg (Or.inl rfl) (fun j hj => absurd hj (by omega)) (fun j hj => rfl) (by simp [vl])) rfl rfl (by rw [uA_s])
set_option maxRecDepth 20000 in
theorem mX10_less : eMet yX10_less cX10_less 5 none 0 0 SX10_less := eMet_of (by decide +kernel) sX10_less kX10_less_ok caX10_less tb_RX10
theorem wX10_less : eWS yX10_less cX10_less 5 none 2 := ⟨(gW_at 1122 (by decide +kernel) rfl), (gW_at 89 (by decide +kernel) rfl), (gW_at 1121 (by decide +kernel) rfl), by decide +kernel⟩
