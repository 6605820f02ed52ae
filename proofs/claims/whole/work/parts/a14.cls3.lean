/-! Wholes: compareSize, trim, widen, setGap, add. -/
theorem vL_cmp {f g : Int → Int} {n i : Nat} (hf : lR f n) (hg : lR g n) (hi : i < n) (he : ∀ k : Nat, i < k → k < n → f k = g k) (hl : f i < g i) : vL f n < vL g n := by
  obtain ⟨d, rfl⟩ : ∃ d, n = (i + 1) + d := ⟨n - (i + 1), by omega⟩
  have s1 := vL_split (f := f) (i + 1) d
  have s2 := vL_split (f := g) (i + 1) d
  rw [vL_cong (f := fun j : Int => g ((i + 1 : Nat) + j)) (g := fun j : Int => f ((i + 1 : Nat) + j)) (fun k hk => by
    have := he (i + 1 + k) (by omega) (by omega)
    rw [show ((i + 1 + k : Nat) : Int) = ((i + 1 : Nat) : Int) + k by omega] at this
    exact this)] at s1
  have h1 := vL_lt (hf.sub (show i ≤ i + 1 + d by omega))
  have h2 := vL_nn (hg.sub (show i ≤ i + 1 + d by omega))
  have h3 := Int.mul_le_mul_of_nonneg_right (show f i + 1 ≤ g i by omega) (Int.le_of_lt (cB_pos i))
  rw [Int.add_mul, Int.one_mul] at h3
  have q1 : vL f (i + 1) = vL f i + f i * cB ^ i := rfl
  have q2 : vL g (i + 1) = vL g i + g i * cB ^ i := rfl
  rw [s1, s2, q1, q2]
  omega
theorem vL_eq {f g : Int → Int} {n : Nat} (he : ∀ k : Nat, k < n → f k = g k) : vL f n = vL g n := vL_cong he
def SX8_compareSize : eSp := fun as M rt => ∃ (F : Nat → Int) (A W : Nat → Int → Int) (k j : Nat) (z y : Int), as = [eR (2, k), eR (2, j)] ∧ M = cC F A W ∧ (k < 332) ∧ (j < 332) ∧ (wq (W k) z) ∧ (wq (W j) y) ∧ (rt (some (eI (zCmp (zAbs z) (zAbs y)))) (cC F A W))
theorem SX8_compareSize_i {F : Nat → Int} {A W : Nat → Int → Int} {k j : Nat} {z y : Int} {rt : Option eV → eM → Prop} (hk : k < 332) (hj : j < 332) (hz : wq (W k) z) (hy : wq (W j) y) (h : rt (some (eI (zCmp (zAbs z) (zAbs y)))) (cC F A W)) : SX8_compareSize [eR (2, k), eR (2, j)] (cC F A W) rt := ⟨F, A, W, k, j, z, y, rfl, rfl, hk, hj, hz, hy, h⟩
theorem SX8_compareSize_r : ∀ as M rt, SX8_compareSize as M rt → ∃ a r fs, as = eR a :: r ∧ M a = some (.inl (7, fs)) := by
  rintro as M rt ⟨F, A, W, k, j, z, y, rfl, rfl, hk, -⟩
  exact ⟨_, _, _, rfl, cC_2 hk⟩
def kX8_compareSize : List (Nat × Jvm.ClassFile.Instr × Nat) := [(0, .aload_n 0, 1), (1, .getfield 13, 3), (4, .aload_n 1, 1), (5, .getfield 13, 3), (8, .if_icmp .eq 20, 3), (11, .aload_n 0, 1), (12, .getfield 13, 3), (15, .aload_n 1, 1), (16, .getfield 13, 3), (19, .if_icmp .ge 7, 3), (22, .iconst (-1), 1), (23, .goto 4, 3), (26, .iconst 1, 1), (27, .ireturn, 1), (28, .aload_n 0, 1), (29, .getfield 13, 3), (32, .iconst 1, 1), (33, .isub, 1), (34, .istore_n 2, 1), (35, .iload_n 2, 1), (36, .ifCond .lt 51, 3), (39, .iload_n 2, 1), (40, .bipush 80, 2), (42, .if_icmp .ge 45, 3), (45, .aload_n 0, 1), (46, .getfield 9, 3), (49, .iload_n 2, 1), (50, .iaload, 1), (51, .aload_n 1, 1), (52, .getfield 9, 3), (55, .iload_n 2, 1), (56, .iaload, 1), (57, .if_icmp .eq 24, 3), (60, .aload_n 0, 1), (61, .getfield 9, 3), (64, .iload_n 2, 1), (65, .iaload, 1), (66, .aload_n 1, 1), (67, .getfield 9, 3), (70, .iload_n 2, 1), (71, .iaload, 1), (72, .if_icmp .ge 7, 3), (75, .iconst (-1), 1), (76, .goto 4, 3), (79, .iconst 1, 1), (80, .ireturn, 1), (81, .iinc 2 (-1), 3), (84, .goto (-49), 3), (87, .iconst 0, 1), (88, .ireturn, 1)]
theorem kX8_compareSize_0 : cdOf kX8_compareSize 0 = some (.aload_n 0, 1) := by decide +kernel
theorem kX8_compareSize_1 : cdOf kX8_compareSize 1 = some (.getfield 13, 3) := by decide +kernel
theorem kX8_compareSize_4 : cdOf kX8_compareSize 4 = some (.aload_n 1, 1) := by decide +kernel
theorem kX8_compareSize_5 : cdOf kX8_compareSize 5 = some (.getfield 13, 3) := by decide +kernel
theorem kX8_compareSize_8 : cdOf kX8_compareSize 8 = some (.if_icmp .eq 20, 3) := by decide +kernel
theorem kX8_compareSize_11 : cdOf kX8_compareSize 11 = some (.aload_n 0, 1) := by decide +kernel
theorem kX8_compareSize_12 : cdOf kX8_compareSize 12 = some (.getfield 13, 3) := by decide +kernel
theorem kX8_compareSize_15 : cdOf kX8_compareSize 15 = some (.aload_n 1, 1) := by decide +kernel
theorem kX8_compareSize_16 : cdOf kX8_compareSize 16 = some (.getfield 13, 3) := by decide +kernel
theorem kX8_compareSize_19 : cdOf kX8_compareSize 19 = some (.if_icmp .ge 7, 3) := by decide +kernel
theorem kX8_compareSize_22 : cdOf kX8_compareSize 22 = some (.iconst (-1), 1) := by decide +kernel
theorem kX8_compareSize_23 : cdOf kX8_compareSize 23 = some (.goto 4, 3) := by decide +kernel
theorem kX8_compareSize_26 : cdOf kX8_compareSize 26 = some (.iconst 1, 1) := by decide +kernel
theorem kX8_compareSize_27 : cdOf kX8_compareSize 27 = some (.ireturn, 1) := by decide +kernel
theorem kX8_compareSize_28 : cdOf kX8_compareSize 28 = some (.aload_n 0, 1) := by decide +kernel
theorem kX8_compareSize_29 : cdOf kX8_compareSize 29 = some (.getfield 13, 3) := by decide +kernel
theorem kX8_compareSize_32 : cdOf kX8_compareSize 32 = some (.iconst 1, 1) := by decide +kernel
theorem kX8_compareSize_33 : cdOf kX8_compareSize 33 = some (.isub, 1) := by decide +kernel
theorem kX8_compareSize_34 : cdOf kX8_compareSize 34 = some (.istore_n 2, 1) := by decide +kernel
theorem kX8_compareSize_35 : cdOf kX8_compareSize 35 = some (.iload_n 2, 1) := by decide +kernel
theorem kX8_compareSize_36 : cdOf kX8_compareSize 36 = some (.ifCond .lt 51, 3) := by decide +kernel
theorem kX8_compareSize_39 : cdOf kX8_compareSize 39 = some (.iload_n 2, 1) := by decide +kernel
theorem kX8_compareSize_40 : cdOf kX8_compareSize 40 = some (.bipush 80, 2) := by decide +kernel
theorem kX8_compareSize_42 : cdOf kX8_compareSize 42 = some (.if_icmp .ge 45, 3) := by decide +kernel
theorem kX8_compareSize_45 : cdOf kX8_compareSize 45 = some (.aload_n 0, 1) := by decide +kernel
theorem kX8_compareSize_46 : cdOf kX8_compareSize 46 = some (.getfield 9, 3) := by decide +kernel
theorem kX8_compareSize_49 : cdOf kX8_compareSize 49 = some (.iload_n 2, 1) := by decide +kernel
theorem kX8_compareSize_50 : cdOf kX8_compareSize 50 = some (.iaload, 1) := by decide +kernel
theorem kX8_compareSize_51 : cdOf kX8_compareSize 51 = some (.aload_n 1, 1) := by decide +kernel
theorem kX8_compareSize_52 : cdOf kX8_compareSize 52 = some (.getfield 9, 3) := by decide +kernel
theorem kX8_compareSize_55 : cdOf kX8_compareSize 55 = some (.iload_n 2, 1) := by decide +kernel
theorem kX8_compareSize_56 : cdOf kX8_compareSize 56 = some (.iaload, 1) := by decide +kernel
theorem kX8_compareSize_57 : cdOf kX8_compareSize 57 = some (.if_icmp .eq 24, 3) := by decide +kernel
theorem kX8_compareSize_60 : cdOf kX8_compareSize 60 = some (.aload_n 0, 1) := by decide +kernel
theorem kX8_compareSize_61 : cdOf kX8_compareSize 61 = some (.getfield 9, 3) := by decide +kernel
theorem kX8_compareSize_64 : cdOf kX8_compareSize 64 = some (.iload_n 2, 1) := by decide +kernel
theorem kX8_compareSize_65 : cdOf kX8_compareSize 65 = some (.iaload, 1) := by decide +kernel
theorem kX8_compareSize_66 : cdOf kX8_compareSize 66 = some (.aload_n 1, 1) := by decide +kernel
theorem kX8_compareSize_67 : cdOf kX8_compareSize 67 = some (.getfield 9, 3) := by decide +kernel
theorem kX8_compareSize_70 : cdOf kX8_compareSize 70 = some (.iload_n 2, 1) := by decide +kernel
theorem kX8_compareSize_71 : cdOf kX8_compareSize 71 = some (.iaload, 1) := by decide +kernel
theorem kX8_compareSize_72 : cdOf kX8_compareSize 72 = some (.if_icmp .ge 7, 3) := by decide +kernel
theorem kX8_compareSize_75 : cdOf kX8_compareSize 75 = some (.iconst (-1), 1) := by decide +kernel
theorem kX8_compareSize_76 : cdOf kX8_compareSize 76 = some (.goto 4, 3) := by decide +kernel
theorem kX8_compareSize_79 : cdOf kX8_compareSize 79 = some (.iconst 1, 1) := by decide +kernel
theorem kX8_compareSize_80 : cdOf kX8_compareSize 80 = some (.ireturn, 1) := by decide +kernel
theorem kX8_compareSize_81 : cdOf kX8_compareSize 81 = some (.iinc 2 (-1), 3) := by decide +kernel
theorem kX8_compareSize_84 : cdOf kX8_compareSize 84 = some (.goto (-49), 3) := by decide +kernel
theorem kX8_compareSize_87 : cdOf kX8_compareSize 87 = some (.iconst 0, 1) := by decide +kernel
theorem kX8_compareSize_88 : cdOf kX8_compareSize 88 = some (.ireturn, 1) := by decide +kernel
set_option maxRecDepth 20000 in
theorem kX8_compareSize_ok : ∀ pc i len, cdOf kX8_compareSize pc = some (i, len) → decode cX8_compareSize pc = .ok (i, len) ∧ stOK 3 i = true ∧ jOK pc i = true ∧ eLen i len = true := cdOf_ok cX8_compareSize 3 kX8_compareSize (by decide +kernel)
def vtX8_compareSize : Nat → Option (Nat × eSp) := fun _ => none
def stX8_compareSize : Nat → Option (Nat × eSp) := fun _ => none
abbrev TX8_compareSize : eT := (fl_RX8, cl_RX8, dl_RX8, vtX8_compareSize, stX8_compareSize)
set_option maxRecDepth 20000 in
theorem caX8_compareSize : eCalls RX8 { frames := 0, cells := 0, slots := 0, locals := 0 } TX8_compareSize := by
  refine ⟨fun k n sp h => ?_, fun k n sp h => ?_⟩
  · cases h
  · cases h
set_option maxRecDepth 100000 in
set_option maxHeartbeats 4000000 in
theorem sX8_compareSize : eSafe TX8_compareSize (cdOf kX8_compareSize) 3 (some .int) SX8_compareSize := by
  intro K rt hK as M h
  obtain ⟨F, A, W, k, j, z, y, rfl, rfl, hk, hj, hz, hy, h⟩ := h
  refine ⟨by simp [eE], ?_⟩
  obtain ⟨n, a, b, c, d, e1, e2⟩ := hz
  obtain ⟨m, a', b', c', d', f1, f2⟩ := hy
  have hn := wq_n c d e1
  have hm := wq_n c' d' f1
  have lt_ : n < m → zAbs z < zAbs y := fun q => by
    have h1 := hm.2.2 (by omega)
    have h2 := cB_mono (show n ≤ m - 1 by omega)
    omega
  have gt_ : m < n → zAbs y < zAbs z := fun q => by
    have h1 := hn.2.2 (by omega)
    have h2 := cB_mono (show m ≤ n - 1 by omega)
    omega
  have loop : n = m → ∀ (i : Nat), i ≤ n → (∀ t : Nat, i ≤ t → t < n → W k t = W j t) → K 35 [some (eR (2, k)), some (eR (2, j)), some (eI ((i : Int) - 1))] [] (cC F A W) := by
    intro hnm i
    subst hnm
    induction i with
    | zero =>
      intro hi he
      refine x_iload_n hK kX8_compareSize_35 (q := 36) rfl rfl ?_
      refine x_if_lt hK kX8_compareSize_36 (q := 39) rfl (tg := 87) rfl (by omega) (fun c36 => ?_) (fun c36 => ?_)
      · refine x_iconst hK kX8_compareSize_87 (q := 88) rfl ?_
        refine x_ireturn hK kX8_compareSize_88 (by first | trivial | exact Or.inl rfl | exact Or.inr rfl) ?_
        have ee : zAbs z = zAbs y := by rw [← e1, ← f1]; exact vL_cong (fun t ht => (he t (by omega) ht))
        rw [ee] at h
        have e3 : zCmp (zAbs y) (zAbs y) = 0 := (zCmp_eq _ _).mpr rfl
        rw [e3] at h
        exact h
      · exfalso; omega
    | succ i ih =>
      intro hi he
      have hc := c i (by omega)
      have hc' := c' i (by omega)
      have hc2 : 0 ≤ W k i ∧ W k i < 2147483648 := hc
      have hc2' : 0 ≤ W j i ∧ W j i < 2147483648 := hc'
      have ei : ((i + 1 : Nat) : Int) - 1 = i := by omega
      rw [ei]
      refine x_iload_n hK kX8_compareSize_35 (q := 36) rfl rfl ?_
      refine x_if_lt hK kX8_compareSize_36 (q := 39) rfl (tg := 87) rfl (by omega) (fun c36 => ?_) (fun c36 => ?_)
      · exfalso; omega
      · refine x_iload_n hK kX8_compareSize_39 (q := 40) rfl rfl ?_
        refine x_bipush hK kX8_compareSize_40 (q := 42) rfl (by decide) ?_
        refine x_icmp_ge hK kX8_compareSize_42 (q := 45) rfl (tg := 87) rfl (by refine ⟨?_, ?_⟩ <;> omega) (fun c42 => ?_) (fun c42 => ?_)
        · exfalso; omega
        · refine x_aload_n hK kX8_compareSize_45 (q := 46) rfl rfl ?_
          refine x_getfield hK kX8_compareSize_46 (q := 49) rfl (gX8_9 ?_)
          refine x_iload_n hK kX8_compareSize_49 (q := 50) rfl rfl ?_
          refine x_iaload hK kX8_compareSize_50 (q := 51) rfl (aC7_0 (by refine ⟨?_, ?_⟩ <;> omega) ?_)
          refine x_aload_n hK kX8_compareSize_51 (q := 52) rfl rfl ?_
          refine x_getfield hK kX8_compareSize_52 (q := 55) rfl (gX8_9 ?_)
          refine x_iload_n hK kX8_compareSize_55 (q := 56) rfl rfl ?_
          refine x_iaload hK kX8_compareSize_56 (q := 57) rfl (aC7_0 (by refine ⟨?_, ?_⟩ <;> omega) ?_)
          refine x_icmp_eq hK kX8_compareSize_57 (q := 60) rfl (tg := 81) rfl (by refine ⟨?_, ?_⟩ <;> omega) (fun c57 => ?_) (fun c57 => ?_)
          · have _q := c57
            have _q2 := c57
            refine x_iinc hK kX8_compareSize_81 (q := 84) rfl rfl ?_
            simp only [lS, lS2, clr_0, clr_I, clr_L, clr_R]
            refine x_goto hK kX8_compareSize_84 (tg := 35) rfl ?_
            refine x_to (ih (by omega) (fun t t0 t1 => ?_)) rfl rfl rfl
            rcases Nat.lt_or_ge i t with q | q
            · exact he t (by omega) t1
            · rw [show t = i by omega]; exact c57
          · refine x_aload_n hK kX8_compareSize_60 (q := 61) rfl rfl ?_
            refine x_getfield hK kX8_compareSize_61 (q := 64) rfl (gX8_9 ?_)
            refine x_iload_n hK kX8_compareSize_64 (q := 65) rfl rfl ?_
            refine x_iaload hK kX8_compareSize_65 (q := 66) rfl (aC7_0 (by refine ⟨?_, ?_⟩ <;> omega) ?_)
            refine x_aload_n hK kX8_compareSize_66 (q := 67) rfl rfl ?_
            refine x_getfield hK kX8_compareSize_67 (q := 70) rfl (gX8_9 ?_)
            refine x_iload_n hK kX8_compareSize_70 (q := 71) rfl rfl ?_
            refine x_iaload hK kX8_compareSize_71 (q := 72) rfl (aC7_0 (by refine ⟨?_, ?_⟩ <;> omega) ?_)
            refine x_icmp_ge hK kX8_compareSize_72 (q := 75) rfl (tg := 79) rfl (by refine ⟨?_, ?_⟩ <;> omega) (fun c72 => ?_) (fun c72 => ?_)
            · have l := vL_cmp c' c (show i < n by omega) (fun t t0 t1 => (he t (by omega) t1).symm) (show W j i < W k i by omega)
              refine x_iconst hK kX8_compareSize_79 (q := 80) rfl ?_
              refine x_ireturn hK kX8_compareSize_80 (by first | trivial | exact Or.inl rfl | exact Or.inr rfl) ?_
              rw [e1, f1] at l
              unfold zCmp at h
              first | (rw [if_pos (by omega)] at h; exact h) | (rw [if_neg (by omega), if_neg (by omega)] at h; exact h)
            · have l := vL_cmp c c' (show i < n by omega) (fun t t0 t1 => he t (by omega) t1) (show W k i < W j i by omega)
              refine x_iconst hK kX8_compareSize_75 (q := 76) rfl ?_
              refine x_goto hK kX8_compareSize_76 (tg := 80) rfl ?_
              refine x_ireturn hK kX8_compareSize_80 (by first | trivial | exact Or.inl rfl | exact Or.inr rfl) ?_
              rw [e1, f1] at l
              unfold zCmp at h
              first | (rw [if_pos (by omega)] at h; exact h) | (rw [if_neg (by omega), if_neg (by omega)] at h; exact h)
  simp only [eLoc, eE, List.length_cons, List.length_nil, List.replicate, List.cons_append, List.nil_append, Nat.reduceAdd, Nat.reduceSub]
  refine x_aload_n hK kX8_compareSize_0 (q := 1) rfl rfl ?_
  refine x_getfield hK kX8_compareSize_1 (q := 4) rfl (gX8_13 ?_)
  refine x_aload_n hK kX8_compareSize_4 (q := 5) rfl rfl ?_
  refine x_getfield hK kX8_compareSize_5 (q := 8) rfl (gX8_13 ?_)
  refine x_icmp_eq hK kX8_compareSize_8 (q := 11) rfl (tg := 28) rfl (by refine ⟨⟨by omega, by omega⟩, ⟨by omega, by omega⟩⟩) (fun c8 => ?_) (fun c8 => ?_)
  · refine x_aload_n hK kX8_compareSize_28 (q := 29) rfl rfl ?_
    refine x_getfield hK kX8_compareSize_29 (q := 32) rfl (gX8_13 ?_)
    refine x_iconst hK kX8_compareSize_32 (q := 33) rfl ?_
    refine x_isub hK kX8_compareSize_33 (q := 34) rfl ?_
    refine x_istore_n hK kX8_compareSize_34 (q := 35) (jn := 2) rfl rfl ?_
    simp only [lS, lS2, clr_0, clr_I, clr_L, clr_R]
    exact x_to (loop (by omega) n (Nat.le_refl _) (fun t t0 t1 => by omega)) (by rw [b]) rfl rfl
  · refine x_aload_n hK kX8_compareSize_11 (q := 12) rfl rfl ?_
    refine x_getfield hK kX8_compareSize_12 (q := 15) rfl (gX8_13 ?_)
    refine x_aload_n hK kX8_compareSize_15 (q := 16) rfl rfl ?_
    refine x_getfield hK kX8_compareSize_16 (q := 19) rfl (gX8_13 ?_)
    refine x_icmp_ge hK kX8_compareSize_19 (q := 22) rfl (tg := 26) rfl (by refine ⟨⟨by omega, by omega⟩, ⟨by omega, by omega⟩⟩) (fun c19 => ?_) (fun c19 => ?_)
    · have l := gt_ (by omega)
      refine x_iconst hK kX8_compareSize_26 (q := 27) rfl ?_
      refine x_ireturn hK kX8_compareSize_27 (by first | trivial | exact Or.inl rfl | exact Or.inr rfl) ?_
      unfold zCmp at h
      first | (rw [if_pos (by omega)] at h; exact h) | (rw [if_neg (by omega), if_neg (by omega)] at h; exact h)
    · have l := lt_ (by omega)
      refine x_iconst hK kX8_compareSize_22 (q := 23) rfl ?_
      refine x_goto hK kX8_compareSize_23 (tg := 27) rfl ?_
      refine x_ireturn hK kX8_compareSize_27 (by first | trivial | exact Or.inl rfl | exact Or.inr rfl) ?_
      unfold zCmp at h
      first | (rw [if_pos (by omega)] at h; exact h) | (rw [if_neg (by omega), if_neg (by omega)] at h; exact h)
set_option maxRecDepth 20000 in
theorem mX8_compareSize : eMet yX8_compareSize cX8_compareSize 3 (some .int) 0 0 SX8_compareSize := eMet_of (by decide +kernel) sX8_compareSize kX8_compareSize_ok caX8_compareSize tb_RX8
theorem wX8_compareSize : eWV yX8_compareSize cX8_compareSize 3 (some .int) 2 7 SX8_compareSize := ⟨(gW_at 476 (by decide +kernel) rfl), (gW_at 82 (by decide +kernel) rfl), (gW_at 474 (by decide +kernel) rfl), ⟨_, rfl, (gW_at 475 (by decide +kernel) rfl)⟩, by decide +kernel, SX8_compareSize_r⟩
-- trim
def wt (f : Int → Int) (z : Int) : Prop := ∃ n : Nat, n ≤ 80 ∧ f 80 = n ∧ lR f n ∧ vL f n = zAbs z ∧ (z ≠ 0 → f 81 = zSg z)
def SX8_trim : eSp := fun as M rt => ∃ (F : Nat → Int) (A W : Nat → Int → Int) (k : Nat) (z : Int), as = [eR (2, k)] ∧ M = cC F A W ∧ (k < 332) ∧ (wt (W k) z) ∧ (∀ f, wq f z → rt none (cC F A (uA W k f)))
theorem SX8_trim_i {F : Nat → Int} {A W : Nat → Int → Int} {k : Nat} {z : Int} {rt : Option eV → eM → Prop} (hk : k < 332) (hz : wt (W k) z) (h : ∀ f, wq f z → rt none (cC F A (uA W k f))) : SX8_trim [eR (2, k)] (cC F A W) rt := ⟨F, A, W, k, z, rfl, rfl, hk, hz, h⟩
theorem SX8_trim_r : ∀ as M rt, SX8_trim as M rt → ∃ a r fs, as = eR a :: r ∧ M a = some (.inl (7, fs)) := by
  rintro as M rt ⟨F, A, W, k, z, rfl, rfl, hk, -⟩
  exact ⟨_, _, _, rfl, cC_2 hk⟩
def kX8_trim : List (Nat × Jvm.ClassFile.Instr × Nat) := [(0, .aload_n 0, 1), (1, .getfield 13, 3), (4, .ifCond .le 39, 3), (7, .aload_n 0, 1), (8, .getfield 13, 3), (11, .bipush 80, 2), (13, .if_icmp .gt 30, 3), (16, .aload_n 0, 1), (17, .getfield 9, 3), (20, .aload_n 0, 1), (21, .getfield 13, 3), (24, .iconst 1, 1), (25, .isub, 1), (26, .iaload, 1), (27, .ifCond .ne 16, 3), (30, .aload_n 0, 1), (31, .dup, 1), (32, .getfield 13, 3), (35, .iconst 1, 1), (36, .isub, 1), (37, .putfield 13, 3), (40, .goto (-40), 3), (43, .aload_n 0, 1), (44, .getfield 13, 3), (47, .ifCond .ne 8, 3), (50, .aload_n 0, 1), (51, .iconst 0, 1), (52, .putfield 17, 3), (55, .return_, 1)]
theorem kX8_trim_0 : cdOf kX8_trim 0 = some (.aload_n 0, 1) := by decide +kernel
theorem kX8_trim_1 : cdOf kX8_trim 1 = some (.getfield 13, 3) := by decide +kernel
theorem kX8_trim_4 : cdOf kX8_trim 4 = some (.ifCond .le 39, 3) := by decide +kernel
theorem kX8_trim_7 : cdOf kX8_trim 7 = some (.aload_n 0, 1) := by decide +kernel
theorem kX8_trim_8 : cdOf kX8_trim 8 = some (.getfield 13, 3) := by decide +kernel
theorem kX8_trim_11 : cdOf kX8_trim 11 = some (.bipush 80, 2) := by decide +kernel
theorem kX8_trim_13 : cdOf kX8_trim 13 = some (.if_icmp .gt 30, 3) := by decide +kernel
theorem kX8_trim_16 : cdOf kX8_trim 16 = some (.aload_n 0, 1) := by decide +kernel
theorem kX8_trim_17 : cdOf kX8_trim 17 = some (.getfield 9, 3) := by decide +kernel
theorem kX8_trim_20 : cdOf kX8_trim 20 = some (.aload_n 0, 1) := by decide +kernel
theorem kX8_trim_21 : cdOf kX8_trim 21 = some (.getfield 13, 3) := by decide +kernel
theorem kX8_trim_24 : cdOf kX8_trim 24 = some (.iconst 1, 1) := by decide +kernel
theorem kX8_trim_25 : cdOf kX8_trim 25 = some (.isub, 1) := by decide +kernel
theorem kX8_trim_26 : cdOf kX8_trim 26 = some (.iaload, 1) := by decide +kernel
theorem kX8_trim_27 : cdOf kX8_trim 27 = some (.ifCond .ne 16, 3) := by decide +kernel
theorem kX8_trim_30 : cdOf kX8_trim 30 = some (.aload_n 0, 1) := by decide +kernel
theorem kX8_trim_31 : cdOf kX8_trim 31 = some (.dup, 1) := by decide +kernel
theorem kX8_trim_32 : cdOf kX8_trim 32 = some (.getfield 13, 3) := by decide +kernel
theorem kX8_trim_35 : cdOf kX8_trim 35 = some (.iconst 1, 1) := by decide +kernel
theorem kX8_trim_36 : cdOf kX8_trim 36 = some (.isub, 1) := by decide +kernel
theorem kX8_trim_37 : cdOf kX8_trim 37 = some (.putfield 13, 3) := by decide +kernel
theorem kX8_trim_40 : cdOf kX8_trim 40 = some (.goto (-40), 3) := by decide +kernel
theorem kX8_trim_43 : cdOf kX8_trim 43 = some (.aload_n 0, 1) := by decide +kernel
theorem kX8_trim_44 : cdOf kX8_trim 44 = some (.getfield 13, 3) := by decide +kernel
theorem kX8_trim_47 : cdOf kX8_trim 47 = some (.ifCond .ne 8, 3) := by decide +kernel
theorem kX8_trim_50 : cdOf kX8_trim 50 = some (.aload_n 0, 1) := by decide +kernel
theorem kX8_trim_51 : cdOf kX8_trim 51 = some (.iconst 0, 1) := by decide +kernel
theorem kX8_trim_52 : cdOf kX8_trim 52 = some (.putfield 17, 3) := by decide +kernel
theorem kX8_trim_55 : cdOf kX8_trim 55 = some (.return_, 1) := by decide +kernel
set_option maxRecDepth 20000 in
theorem kX8_trim_ok : ∀ pc i len, cdOf kX8_trim pc = some (i, len) → decode cX8_trim pc = .ok (i, len) ∧ stOK 1 i = true ∧ jOK pc i = true ∧ eLen i len = true := cdOf_ok cX8_trim 1 kX8_trim (by decide +kernel)
def vtX8_trim : Nat → Option (Nat × eSp) := fun _ => none
def stX8_trim : Nat → Option (Nat × eSp) := fun _ => none
abbrev TX8_trim : eT := (fl_RX8, cl_RX8, dl_RX8, vtX8_trim, stX8_trim)
set_option maxRecDepth 20000 in
theorem caX8_trim : eCalls RX8 { frames := 0, cells := 0, slots := 0, locals := 0 } TX8_trim := by
  refine ⟨fun k n sp h => ?_, fun k n sp h => ?_⟩
  · cases h
  · cases h
set_option maxRecDepth 100000 in
set_option maxHeartbeats 4000000 in
theorem sX8_trim : eSafe TX8_trim (cdOf kX8_trim) 1 none SX8_trim := by
  intro K rt hK as M h
  obtain ⟨F, A, W, k, z, rfl, rfl, hk, hz, h⟩ := h
  refine ⟨by simp [eE], ?_⟩
  obtain ⟨n, a, b, c, d, e⟩ := hz
  have loop : ∀ (n : Nat) (f : Int → Int), n ≤ 80 → f 80 = n → lR f n → vL f n = zAbs z → (z ≠ 0 → f 81 = zSg z) → K 0 [some (eR (2, k))] [] (cC F A (uA W k f)) := by
    intro n
    induction n with
    | zero =>
      intro f a b c d e
      have z0 : z = 0 := by
        have : zAbs z = 0 := d.symm
        rcases zSg_c z with g | g | g <;> omega
      refine x_aload_n hK kX8_trim_0 (q := 1) rfl rfl ?_
      refine x_getfield hK kX8_trim_1 (q := 4) rfl (gX8_13 ?_)
      rw [uA_g, b]
      refine x_if_le hK kX8_trim_4 (q := 7) rfl (tg := 43) rfl (by omega) (fun c4 => ?_) (fun c4 => ?_)
      · refine x_aload_n hK kX8_trim_43 (q := 44) rfl rfl ?_
        refine x_getfield hK kX8_trim_44 (q := 47) rfl (gX8_13 ?_)
        rw [uA_g, b]
        refine x_if_ne hK kX8_trim_47 (q := 50) rfl (tg := 55) rfl (by omega) (fun c47 => ?_) (fun c47 => ?_)
        · exact absurd rfl c47
        · refine x_aload_n hK kX8_trim_50 (q := 51) rfl rfl ?_
          refine x_iconst hK kX8_trim_51 (q := 52) rfl ?_
          refine x_putfield hK kX8_trim_52 (q := 55) rfl (pX8_17 ?_)
          rw [uA_g, uA_u]
          refine x_return_ hK kX8_trim_55 (by first | trivial | exact Or.inl rfl | exact Or.inr rfl) ?_
          refine h _ ⟨0, by decide, by rw [uI_n _ _ (by decide)]; exact b, fun i hi => absurd hi (by omega), fun q => absurd q (by omega), d, ?_⟩
          rw [uI_s, z0]
          rfl
      · exfalso; omega
    | succ n ih =>
      intro f a b c d e
      have hc : 0 ≤ f n ∧ f n < 2147483648 := c n (by omega)
      have e1 : ((n + 1 : Nat) : Int) - 1 = n := by omega
      have fin : (f n = 0 ∨ f n ≠ 0) := Decidable.em _
      refine x_aload_n hK kX8_trim_0 (q := 1) rfl rfl ?_
      refine x_getfield hK kX8_trim_1 (q := 4) rfl (gX8_13 ?_)
      rw [uA_g, b]
      refine x_if_le hK kX8_trim_4 (q := 7) rfl (tg := 43) rfl (by omega) (fun c4 => ?_) (fun c4 => ?_)
      · exfalso; omega
      · refine x_aload_n hK kX8_trim_7 (q := 8) rfl rfl ?_
        refine x_getfield hK kX8_trim_8 (q := 11) rfl (gX8_13 ?_)
        refine x_bipush hK kX8_trim_11 (q := 13) rfl (by decide) ?_
        rw [uA_g, b]
        refine x_icmp_gt hK kX8_trim_13 (q := 16) rfl (tg := 43) rfl (by refine ⟨?_, ?_⟩ <;> omega) (fun c13 => ?_) (fun c13 => ?_)
        · exfalso; omega
        · refine x_aload_n hK kX8_trim_16 (q := 17) rfl rfl ?_
          refine x_getfield hK kX8_trim_17 (q := 20) rfl (gX8_9 ?_)
          refine x_aload_n hK kX8_trim_20 (q := 21) rfl rfl ?_
          refine x_getfield hK kX8_trim_21 (q := 24) rfl (gX8_13 ?_)
          rw [uA_g, b]
          refine x_iconst hK kX8_trim_24 (q := 25) rfl ?_
          refine x_isub hK kX8_trim_25 (q := 26) rfl ?_
          rw [e1]
          refine x_iaload hK kX8_trim_26 (q := 27) rfl (aC7_0 (by refine ⟨?_, ?_⟩ <;> omega) ?_)
          rw [uA_g]
          refine x_if_ne hK kX8_trim_27 (q := 30) rfl (tg := 43) rfl (by omega) (fun c27 => ?_) (fun c27 => ?_)
          · refine x_aload_n hK kX8_trim_43 (q := 44) rfl rfl ?_
            refine x_getfield hK kX8_trim_44 (q := 47) rfl (gX8_13 ?_)
            rw [uA_g, b]
            refine x_if_ne hK kX8_trim_47 (q := 50) rfl (tg := 55) rfl (by omega) (fun c47 => ?_) (fun c47 => ?_)
            · refine x_return_ hK kX8_trim_55 (by first | trivial | exact Or.inl rfl | exact Or.inr rfl) ?_
              refine h f ⟨n + 1, a, b, c, fun _ => by rw [e1]; exact c27, d, e (fun q => ?_)⟩
              have g := vL_ge c c27
              have g2 := cB_pos n
              rw [d, q] at g
              have : zAbs 0 = 0 := rfl
              omega
            · exfalso; omega
          · refine x_aload_n hK kX8_trim_30 (q := 31) rfl rfl ?_
            refine x_dupR hK kX8_trim_31 (q := 32) rfl ?_
            refine x_getfield hK kX8_trim_32 (q := 35) rfl (gX8_13 ?_)
            rw [uA_g, b]
            refine x_iconst hK kX8_trim_35 (q := 36) rfl ?_
            refine x_isub hK kX8_trim_36 (q := 37) rfl ?_
            rw [e1]
            refine x_putfield hK kX8_trim_37 (q := 40) rfl (pX8_13 ?_)
            refine x_goto hK kX8_trim_40 (tg := 0) rfl ?_
            rw [uA_g, uA_u]
            refine ih _ (by omega) (uI_s _ _ _) (fun i hi => by rw [uI_n _ _ (by omega)]; exact c i (by omega)) ?_ (fun q => by rw [uI_n _ _ (by decide)]; exact e q)
            rw [vL_cong (f := f) (fun i hi => uI_n _ _ (by omega)), ← d, vL, Decidable.not_not.mp c27]
            omega
  simp only [eLoc, eE, List.length_cons, List.length_nil, List.replicate, List.cons_append, List.nil_append, Nat.reduceAdd, Nat.reduceSub]
  exact x_to (loop n (W k) a b c d e) rfl rfl (by rw [uA_s])
set_option maxRecDepth 20000 in
theorem mX8_trim : eMet yX8_trim cX8_trim 1 none 0 0 SX8_trim := eMet_of (by decide +kernel) sX8_trim kX8_trim_ok caX8_trim tb_RX8
theorem wX8_trim : eWV yX8_trim cX8_trim 1 none 1 7 SX8_trim := ⟨(gW_at 484 (by decide +kernel) rfl), (gW_at 82 (by decide +kernel) rfl), (gW_at 482 (by decide +kernel) rfl), ⟨_, rfl, (gW_at 483 (by decide +kernel) rfl)⟩, by decide +kernel, SX8_trim_r⟩
