/-! Wholes: compareSize, trim, widen, setGap, add. -/
theorem vL_cmp {f g : Int → Int} {n i : Nat} (hf : lR f n) (hg : lR g n) (hi : i < n) (he : ∀ k : Nat, i < k → k < n → f k = g k) (hl : f i < g i) : vL f n < vL g n := by
  obtain ⟨d, rfl⟩ : ∃ d, n = (i + 1) + d := ⟨n - (i + 1), by omega⟩
  have s1 := vL_split (f := f) (i + 1) d
  have s2 := vL_split (f := g) (i + 1) d
  rw [vL_cong (f := fun j : Int => g ((i + 1 : Nat) + j)) (g := fun j : Int => f ((i + 1 : Nat) + j)) (fun k hk => by
    have := he (i + 1 + k) (by omega) (by omega)
    rw [show ((i + 1 + k : Nat) : Int) = ((i + 1 : Nat) : Int) + k by omega] at this
    exact this)] at s1
  have h1 := vL_lt (hf.sub (show i ≤ i + 1 + d by omega))
  have h2 := vL_nn (hg.sub (show i ≤ i + 1 + d by omega))
  have h3 := Int.mul_le_mul_of_nonneg_right (show f i + 1 ≤ g i by omega) (Int.le_of_lt (cB_pos i))
  rw [Int.add_mul, Int.one_mul] at h3
  have q1 : vL f (i + 1) = vL f i + f i * cB ^ i := rfl
  have q2 : vL g (i + 1) = vL g i + g i * cB ^ i := rfl
  rw [s1, s2, q1, q2]
  omega
theorem vL_eq {f g : Int → Int} {n : Nat} (he : ∀ k : Nat, k < n → f k = g k) : vL f n = vL g n := vL_cong he
def SX8_compareSize : eSp := fun as M rt => ∃ (F : Nat → Int) (A W : Nat → Int → Int) (k j : Nat) (z y : Int), as = [eR (2, k), eR (2, j)] ∧ M = cC F A W ∧ (k < 332) ∧ (j < 332) ∧ (wq (lw k) (W k) z) ∧ (wq (lw j) (W j) y) ∧ (rt (some (eI (zCmp (zAbs z) (zAbs y)))) (cC F A W))
theorem SX8_compareSize_i {F : Nat → Int} {A W : Nat → Int → Int} {k j : Nat} {z y : Int} {rt : Option eV → eM → Prop} (hk : k < 332) (hj : j < 332) (hz : wq (lw k) (W k) z) (hy : wq (lw j) (W j) y) (h : rt (some (eI (zCmp (zAbs z) (zAbs y)))) (cC F A W)) : SX8_compareSize [eR (2, k), eR (2, j)] (cC F A W) rt := ⟨F, A, W, k, j, z, y, rfl, rfl, hk, hj, hz, hy, h⟩
theorem SX8_compareSize_r : ∀ as M rt, SX8_compareSize as M rt → ∃ a r fs, as = eR a :: r ∧ M a = some (.inl (7, fs)) := by
  rintro as M rt ⟨F, A, W, k, j, z, y, rfl, rfl, hk, -⟩
  exact ⟨_, _, _, rfl, cC_2 hk⟩
def kX8_compareSize : List (Nat × Jvm.ClassFile.Instr × Nat) := [(0, .aload_n 0, 1), (1, .getfield 9, 3), (4, .aload_n 1, 1), (5, .getfield 9, 3), (8, .if_icmp .eq 20, 3), (11, .aload_n 0, 1), (12, .getfield 9, 3), (15, .aload_n 1, 1), (16, .getfield 9, 3), (19, .if_icmp .ge 7, 3), (22, .iconst (-1), 1), (23, .goto 4, 3), (26, .iconst 1, 1), (27, .ireturn, 1), (28, .aload_n 0, 1), (29, .getfield 9, 3), (32, .iconst 1, 1), (33, .isub, 1), (34, .istore_n 2, 1), (35, .iload_n 2, 1), (36, .ifCond .lt 63, 3), (39, .iload_n 2, 1), (40, .aload_n 0, 1), (41, .getfield 22, 3), (44, .arraylength, 1), (45, .if_icmp .ge 54, 3), (48, .iload_n 2, 1), (49, .aload_n 1, 1), (50, .getfield 22, 3), (53, .arraylength, 1), (54, .if_icmp .ge 45, 3), (57, .aload_n 0, 1), (58, .getfield 22, 3), (61, .iload_n 2, 1), (62, .iaload, 1), (63, .aload_n 1, 1), (64, .getfield 22, 3), (67, .iload_n 2, 1), (68, .iaload, 1), (69, .if_icmp .eq 24, 3), (72, .aload_n 0, 1), (73, .getfield 22, 3), (76, .iload_n 2, 1), (77, .iaload, 1), (78, .aload_n 1, 1), (79, .getfield 22, 3), (82, .iload_n 2, 1), (83, .iaload, 1), (84, .if_icmp .ge 7, 3), (87, .iconst (-1), 1), (88, .goto 4, 3), (91, .iconst 1, 1), (92, .ireturn, 1), (93, .iinc 2 (-1), 3), (96, .goto (-61), 3), (99, .iconst 0, 1), (100, .ireturn, 1)]
theorem kX8_compareSize_0 : cdOf kX8_compareSize 0 = some (.aload_n 0, 1) := by decide +kernel
theorem kX8_compareSize_1 : cdOf kX8_compareSize 1 = some (.getfield 9, 3) := by decide +kernel
theorem kX8_compareSize_4 : cdOf kX8_compareSize 4 = some (.aload_n 1, 1) := by decide +kernel
theorem kX8_compareSize_5 : cdOf kX8_compareSize 5 = some (.getfield 9, 3) := by decide +kernel
theorem kX8_compareSize_8 : cdOf kX8_compareSize 8 = some (.if_icmp .eq 20, 3) := by decide +kernel
theorem kX8_compareSize_11 : cdOf kX8_compareSize 11 = some (.aload_n 0, 1) := by decide +kernel
theorem kX8_compareSize_12 : cdOf kX8_compareSize 12 = some (.getfield 9, 3) := by decide +kernel
theorem kX8_compareSize_15 : cdOf kX8_compareSize 15 = some (.aload_n 1, 1) := by decide +kernel
theorem kX8_compareSize_16 : cdOf kX8_compareSize 16 = some (.getfield 9, 3) := by decide +kernel
theorem kX8_compareSize_19 : cdOf kX8_compareSize 19 = some (.if_icmp .ge 7, 3) := by decide +kernel
theorem kX8_compareSize_22 : cdOf kX8_compareSize 22 = some (.iconst (-1), 1) := by decide +kernel
theorem kX8_compareSize_23 : cdOf kX8_compareSize 23 = some (.goto 4, 3) := by decide +kernel
theorem kX8_compareSize_26 : cdOf kX8_compareSize 26 = some (.iconst 1, 1) := by decide +kernel
theorem kX8_compareSize_27 : cdOf kX8_compareSize 27 = some (.ireturn, 1) := by decide +kernel
theorem kX8_compareSize_28 : cdOf kX8_compareSize 28 = some (.aload_n 0, 1) := by decide +kernel
theorem kX8_compareSize_29 : cdOf kX8_compareSize 29 = some (.getfield 9, 3) := by decide +kernel
theorem kX8_compareSize_32 : cdOf kX8_compareSize 32 = some (.iconst 1, 1) := by decide +kernel
theorem kX8_compareSize_33 : cdOf kX8_compareSize 33 = some (.isub, 1) := by decide +kernel
theorem kX8_compareSize_34 : cdOf kX8_compareSize 34 = some (.istore_n 2, 1) := by decide +kernel
theorem kX8_compareSize_35 : cdOf kX8_compareSize 35 = some (.iload_n 2, 1) := by decide +kernel
theorem kX8_compareSize_36 : cdOf kX8_compareSize 36 = some (.ifCond .lt 63, 3) := by decide +kernel
theorem kX8_compareSize_39 : cdOf kX8_compareSize 39 = some (.iload_n 2, 1) := by decide +kernel
theorem kX8_compareSize_40 : cdOf kX8_compareSize 40 = some (.aload_n 0, 1) := by decide +kernel
theorem kX8_compareSize_41 : cdOf kX8_compareSize 41 = some (.getfield 22, 3) := by decide +kernel
theorem kX8_compareSize_44 : cdOf kX8_compareSize 44 = some (.arraylength, 1) := by decide +kernel
theorem kX8_compareSize_45 : cdOf kX8_compareSize 45 = some (.if_icmp .ge 54, 3) := by decide +kernel
theorem kX8_compareSize_48 : cdOf kX8_compareSize 48 = some (.iload_n 2, 1) := by decide +kernel
theorem kX8_compareSize_49 : cdOf kX8_compareSize 49 = some (.aload_n 1, 1) := by decide +kernel
theorem kX8_compareSize_50 : cdOf kX8_compareSize 50 = some (.getfield 22, 3) := by decide +kernel
theorem kX8_compareSize_53 : cdOf kX8_compareSize 53 = some (.arraylength, 1) := by decide +kernel
theorem kX8_compareSize_54 : cdOf kX8_compareSize 54 = some (.if_icmp .ge 45, 3) := by decide +kernel
theorem kX8_compareSize_57 : cdOf kX8_compareSize 57 = some (.aload_n 0, 1) := by decide +kernel
theorem kX8_compareSize_58 : cdOf kX8_compareSize 58 = some (.getfield 22, 3) := by decide +kernel
theorem kX8_compareSize_61 : cdOf kX8_compareSize 61 = some (.iload_n 2, 1) := by decide +kernel
theorem kX8_compareSize_62 : cdOf kX8_compareSize 62 = some (.iaload, 1) := by decide +kernel
theorem kX8_compareSize_63 : cdOf kX8_compareSize 63 = some (.aload_n 1, 1) := by decide +kernel
theorem kX8_compareSize_64 : cdOf kX8_compareSize 64 = some (.getfield 22, 3) := by decide +kernel
theorem kX8_compareSize_67 : cdOf kX8_compareSize 67 = some (.iload_n 2, 1) := by decide +kernel
theorem kX8_compareSize_68 : cdOf kX8_compareSize 68 = some (.iaload, 1) := by decide +kernel
theorem kX8_compareSize_69 : cdOf kX8_compareSize 69 = some (.if_icmp .eq 24, 3) := by decide +kernel
theorem kX8_compareSize_72 : cdOf kX8_compareSize 72 = some (.aload_n 0, 1) := by decide +kernel
theorem kX8_compareSize_73 : cdOf kX8_compareSize 73 = some (.getfield 22, 3) := by decide +kernel
theorem kX8_compareSize_76 : cdOf kX8_compareSize 76 = some (.iload_n 2, 1) := by decide +kernel
theorem kX8_compareSize_77 : cdOf kX8_compareSize 77 = some (.iaload, 1) := by decide +kernel
theorem kX8_compareSize_78 : cdOf kX8_compareSize 78 = some (.aload_n 1, 1) := by decide +kernel
theorem kX8_compareSize_79 : cdOf kX8_compareSize 79 = some (.getfield 22, 3) := by decide +kernel
theorem kX8_compareSize_82 : cdOf kX8_compareSize 82 = some (.iload_n 2, 1) := by decide +kernel
theorem kX8_compareSize_83 : cdOf kX8_compareSize 83 = some (.iaload, 1) := by decide +kernel
theorem kX8_compareSize_84 : cdOf kX8_compareSize 84 = some (.if_icmp .ge 7, 3) := by decide +kernel
theorem kX8_compareSize_87 : cdOf kX8_compareSize 87 = some (.iconst (-1), 1) := by decide +kernel
theorem kX8_compareSize_88 : cdOf kX8_compareSize 88 = some (.goto 4, 3) := by decide +kernel
theorem kX8_compareSize_91 : cdOf kX8_compareSize 91 = some (.iconst 1, 1) := by decide +kernel
theorem kX8_compareSize_92 : cdOf kX8_compareSize 92 = some (.ireturn, 1) := by decide +kernel
theorem kX8_compareSize_93 : cdOf kX8_compareSize 93 = some (.iinc 2 (-1), 3) := by decide +kernel
theorem kX8_compareSize_96 : cdOf kX8_compareSize 96 = some (.goto (-61), 3) := by decide +kernel
theorem kX8_compareSize_99 : cdOf kX8_compareSize 99 = some (.iconst 0, 1) := by decide +kernel
theorem kX8_compareSize_100 : cdOf kX8_compareSize 100 = some (.ireturn, 1) := by decide +kernel
set_option maxRecDepth 20000 in
theorem kX8_compareSize_ok : ∀ pc i len, cdOf kX8_compareSize pc = some (i, len) → decode cX8_compareSize pc = .ok (i, len) ∧ stOK 3 i = true ∧ jOK pc i = true ∧ eLen i len = true := cdOf_ok cX8_compareSize 3 kX8_compareSize (by decide +kernel)
def vtX8_compareSize : Nat → Option (Nat × eSp) := fun _ => none
def stX8_compareSize : Nat → Option (Nat × eSp) := fun _ => none
abbrev TX8_compareSize : eT := (fl_RX8, cl_RX8, dl_RX8, vtX8_compareSize, stX8_compareSize)
set_option maxRecDepth 20000 in
theorem caX8_compareSize : eCalls RX8 { frames := 0, cells := 0, slots := 0, locals := 0 } TX8_compareSize := by
  refine ⟨fun k n sp h => ?_, fun k n sp h => ?_⟩
  · cases h
  · cases h
set_option maxRecDepth 100000 in
set_option maxHeartbeats 4000000 in
theorem sX8_compareSize : eSafe TX8_compareSize (cdOf kX8_compareSize) 3 (some .int) SX8_compareSize := by
  intro K rt hK as M h
  obtain ⟨F, A, W, k, j, z, y, rfl, rfl, hk, hj, hz, hy, h⟩ := h
  refine ⟨by simp [eE], ?_⟩
  obtain ⟨n, a, b, c, d, e1, e2⟩ := hz
  obtain ⟨m, a', b', c', d', f1, f2⟩ := hy
  have hn := wq_n c d e1
  have hm := wq_n c' d' f1
  have lk := lw_b k
  have lj := lw_b j
  have lt_ : n < m → zAbs z < zAbs y := fun q => by
    have h1 := hm.2.2 (by omega)
    have h2 := cB_mono (show n ≤ m - 1 by omega)
    omega
  have gt_ : m < n → zAbs y < zAbs z := fun q => by
    have h1 := hn.2.2 (by omega)
    have h2 := cB_mono (show m ≤ n - 1 by omega)
    omega
  have loop : n = m → ∀ (i : Nat), i ≤ n → (∀ t : Nat, i ≤ t → t < n → W k t = W j t) → K 35 [some (eR (2, k)), some (eR (2, j)), some (eI ((i : Int) - 1))] [] (cC F A W) := by
    intro hnm i
    subst hnm
    induction i with
    | zero =>
      intro hi he
      refine x_iload_n hK kX8_compareSize_35 (q := 36) rfl rfl ?_
      refine x_if_lt hK kX8_compareSize_36 (q := 39) rfl (tg := 99) rfl (by omega) (fun c36 => ?_) (fun c36 => ?_)
      · refine x_iconst hK kX8_compareSize_99 (q := 100) rfl ?_
        refine x_ireturn hK kX8_compareSize_100 (by first | trivial | exact Or.inl rfl | exact Or.inr rfl) ?_
        have ee : zAbs z = zAbs y := by rw [← e1, ← f1]; exact vL_cong (fun t ht => (he t (by omega) ht))
        rw [ee] at h
        have e3 : zCmp (zAbs y) (zAbs y) = 0 := (zCmp_eq _ _).mpr rfl
        rw [e3] at h
        exact h
      · exfalso; omega
    | succ i ih =>
      intro hi he
      have hc := c i (by omega)
      have hc' := c' i (by omega)
      have hc2 : 0 ≤ W k i ∧ W k i < 2147483648 := hc
      have hc2' : 0 ≤ W j i ∧ W j i < 2147483648 := hc'
      have ei : ((i + 1 : Nat) : Int) - 1 = i := by omega
      rw [ei]
      refine x_iload_n hK kX8_compareSize_35 (q := 36) rfl rfl ?_
      refine x_if_lt hK kX8_compareSize_36 (q := 39) rfl (tg := 99) rfl (by omega) (fun c36 => ?_) (fun c36 => ?_)
      · exfalso; omega
      · refine x_iload_n hK kX8_compareSize_39 (q := 40) rfl rfl ?_
        refine x_aload_n hK kX8_compareSize_40 (q := 41) rfl rfl ?_
        refine x_getfield hK kX8_compareSize_41 (q := 44) rfl (gX8_22 ?_)
        refine x_arraylength hK kX8_compareSize_44 (q := 45) rfl (nC7_0 ?_)
        refine x_icmp_ge hK kX8_compareSize_45 (q := 48) rfl (tg := 99) rfl (by refine ⟨?_, ?_⟩ <;> omega) (fun c45 => ?_) (fun c45 => ?_)
        · exfalso; omega
        · refine x_iload_n hK kX8_compareSize_48 (q := 49) rfl rfl ?_
          refine x_aload_n hK kX8_compareSize_49 (q := 50) rfl rfl ?_
          refine x_getfield hK kX8_compareSize_50 (q := 53) rfl (gX8_22 ?_)
          refine x_arraylength hK kX8_compareSize_53 (q := 54) rfl (nC7_0 ?_)
          refine x_icmp_ge hK kX8_compareSize_54 (q := 57) rfl (tg := 99) rfl (by refine ⟨?_, ?_⟩ <;> omega) (fun c54 => ?_) (fun c54 => ?_)
          · exfalso; omega
          · refine x_aload_n hK kX8_compareSize_57 (q := 58) rfl rfl ?_
            refine x_getfield hK kX8_compareSize_58 (q := 61) rfl (gX8_22 ?_)
            refine x_iload_n hK kX8_compareSize_61 (q := 62) rfl rfl ?_
            refine x_iaload hK kX8_compareSize_62 (q := 63) rfl (aC7_0 (by refine ⟨?_, ?_⟩ <;> omega) ?_)
            refine x_aload_n hK kX8_compareSize_63 (q := 64) rfl rfl ?_
            refine x_getfield hK kX8_compareSize_64 (q := 67) rfl (gX8_22 ?_)
            refine x_iload_n hK kX8_compareSize_67 (q := 68) rfl rfl ?_
            refine x_iaload hK kX8_compareSize_68 (q := 69) rfl (aC7_0 (by refine ⟨?_, ?_⟩ <;> omega) ?_)
            refine x_icmp_eq hK kX8_compareSize_69 (q := 72) rfl (tg := 93) rfl (by refine ⟨?_, ?_⟩ <;> omega) (fun c69 => ?_) (fun c69 => ?_)
            · have _q := c69
              have _q2 := c69
              refine x_iinc hK kX8_compareSize_93 (q := 96) rfl rfl ?_
              simp only [lS, lS2, clr_0, clr_I, clr_L, clr_R]
              refine x_goto hK kX8_compareSize_96 (tg := 35) rfl ?_
              refine x_to (ih (by omega) (fun t t0 t1 => ?_)) rfl rfl rfl
              rcases Nat.lt_or_ge i t with q | q
              · exact he t (by omega) t1
              · rw [show t = i by omega]; exact c69
            · refine x_aload_n hK kX8_compareSize_72 (q := 73) rfl rfl ?_
              refine x_getfield hK kX8_compareSize_73 (q := 76) rfl (gX8_22 ?_)
              refine x_iload_n hK kX8_compareSize_76 (q := 77) rfl rfl ?_
              refine x_iaload hK kX8_compareSize_77 (q := 78) rfl (aC7_0 (by refine ⟨?_, ?_⟩ <;> omega) ?_)
              refine x_aload_n hK kX8_compareSize_78 (q := 79) rfl rfl ?_
              refine x_getfield hK kX8_compareSize_79 (q := 82) rfl (gX8_22 ?_)
              refine x_iload_n hK kX8_compareSize_82 (q := 83) rfl rfl ?_
              refine x_iaload hK kX8_compareSize_83 (q := 84) rfl (aC7_0 (by refine ⟨?_, ?_⟩ <;> omega) ?_)
              refine x_icmp_ge hK kX8_compareSize_84 (q := 87) rfl (tg := 91) rfl (by refine ⟨?_, ?_⟩ <;> omega) (fun c84 => ?_) (fun c84 => ?_)
              · have l := vL_cmp c' c (show i < n by omega) (fun t t0 t1 => (he t (by omega) t1).symm) (show W j i < W k i by omega)
                refine x_iconst hK kX8_compareSize_91 (q := 92) rfl ?_
                refine x_ireturn hK kX8_compareSize_92 (by first | trivial | exact Or.inl rfl | exact Or.inr rfl) ?_
                rw [e1, f1] at l
                unfold zCmp at h
                first | (rw [if_pos (by omega)] at h; exact h) | (rw [if_neg (by omega), if_neg (by omega)] at h; exact h)
              · have l := vL_cmp c c' (show i < n by omega) (fun t t0 t1 => he t (by omega) t1) (show W k i < W j i by omega)
                refine x_iconst hK kX8_compareSize_87 (q := 88) rfl ?_
                refine x_goto hK kX8_compareSize_88 (tg := 92) rfl ?_
                refine x_ireturn hK kX8_compareSize_92 (by first | trivial | exact Or.inl rfl | exact Or.inr rfl) ?_
                rw [e1, f1] at l
                unfold zCmp at h
                first | (rw [if_pos (by omega)] at h; exact h) | (rw [if_neg (by omega), if_neg (by omega)] at h; exact h)
  simp only [eLoc, eE, List.length_cons, List.length_nil, List.replicate, List.cons_append, List.nil_append, Nat.reduceAdd, Nat.reduceSub]
  refine x_aload_n hK kX8_compareSize_0 (q := 1) rfl rfl ?_
  refine x_getfield hK kX8_compareSize_1 (q := 4) rfl (gX8_9 ?_)
  refine x_aload_n hK kX8_compareSize_4 (q := 5) rfl rfl ?_
  refine x_getfield hK kX8_compareSize_5 (q := 8) rfl (gX8_9 ?_)
  refine x_icmp_eq hK kX8_compareSize_8 (q := 11) rfl (tg := 28) rfl (by refine ⟨⟨by omega, by omega⟩, ⟨by omega, by omega⟩⟩) (fun c8 => ?_) (fun c8 => ?_)
  · refine x_aload_n hK kX8_compareSize_28 (q := 29) rfl rfl ?_
    refine x_getfield hK kX8_compareSize_29 (q := 32) rfl (gX8_9 ?_)
    refine x_iconst hK kX8_compareSize_32 (q := 33) rfl ?_
    refine x_isub hK kX8_compareSize_33 (q := 34) rfl ?_
    refine x_istore_n hK kX8_compareSize_34 (q := 35) (jn := 2) rfl rfl ?_
    simp only [lS, lS2, clr_0, clr_I, clr_L, clr_R]
    exact x_to (loop (by omega) n (Nat.le_refl _) (fun t t0 t1 => by omega)) (by rw [b]) rfl rfl
  · refine x_aload_n hK kX8_compareSize_11 (q := 12) rfl rfl ?_
    refine x_getfield hK kX8_compareSize_12 (q := 15) rfl (gX8_9 ?_)
    refine x_aload_n hK kX8_compareSize_15 (q := 16) rfl rfl ?_
    refine x_getfield hK kX8_compareSize_16 (q := 19) rfl (gX8_9 ?_)
    refine x_icmp_ge hK kX8_compareSize_19 (q := 22) rfl (tg := 26) rfl (by refine ⟨⟨by omega, by omega⟩, ⟨by omega, by omega⟩⟩) (fun c19 => ?_) (fun c19 => ?_)
    · have l := gt_ (by omega)
      refine x_iconst hK kX8_compareSize_26 (q := 27) rfl ?_
      refine x_ireturn hK kX8_compareSize_27 (by first | trivial | exact Or.inl rfl | exact Or.inr rfl) ?_
      unfold zCmp at h
      first | (rw [if_pos (by omega)] at h; exact h) | (rw [if_neg (by omega), if_neg (by omega)] at h; exact h)
    · have l := lt_ (by omega)
      refine x_iconst hK kX8_compareSize_22 (q := 23) rfl ?_
      refine x_goto hK kX8_compareSize_23 (tg := 27) rfl ?_
      refine x_ireturn hK kX8_compareSize_27 (by first | trivial | exact Or.inl rfl | exact Or.inr rfl) ?_
      unfold zCmp at h
      first | (rw [if_pos (by omega)] at h; exact h) | (rw [if_neg (by omega), if_neg (by omega)] at h; exact h)
set_option maxRecDepth 20000 in
theorem mX8_compareSize : eMet yX8_compareSize cX8_compareSize 3 (some .int) 0 0 SX8_compareSize := eMet_of (by decide +kernel) sX8_compareSize kX8_compareSize_ok caX8_compareSize tb_RX8
theorem wX8_compareSize : eWV yX8_compareSize cX8_compareSize 3 (some .int) 2 7 SX8_compareSize := ⟨(gW_at 473 (by decide +kernel) rfl), (gW_at 81 (by decide +kernel) rfl), (gW_at 471 (by decide +kernel) rfl), ⟨_, rfl, (gW_at 472 (by decide +kernel) rfl)⟩, by decide +kernel, SX8_compareSize_r⟩
-- trim
def wt (L : Nat) (f : Int → Int) (z : Int) : Prop := ∃ n : Nat, n ≤ L ∧ f 80 = n ∧ lR f n ∧ vL f n = zAbs z ∧ (z ≠ 0 → f 81 = zSg z)
def SX8_trim : eSp := fun as M rt => ∃ (F : Nat → Int) (A W : Nat → Int → Int) (k : Nat) (z : Int), as = [eR (2, k)] ∧ M = cC F A W ∧ (k < 332) ∧ (wt (lw k) (W k) z) ∧ (∀ f, wq (lw k) f z → rt none (cC F A (uA W k f)))
theorem SX8_trim_i {F : Nat → Int} {A W : Nat → Int → Int} {k : Nat} {z : Int} {rt : Option eV → eM → Prop} (hk : k < 332) (hz : wt (lw k) (W k) z) (h : ∀ f, wq (lw k) f z → rt none (cC F A (uA W k f))) : SX8_trim [eR (2, k)] (cC F A W) rt := ⟨F, A, W, k, z, rfl, rfl, hk, hz, h⟩
theorem SX8_trim_r : ∀ as M rt, SX8_trim as M rt → ∃ a r fs, as = eR a :: r ∧ M a = some (.inl (7, fs)) := by
  rintro as M rt ⟨F, A, W, k, z, rfl, rfl, hk, -⟩
  exact ⟨_, _, _, rfl, cC_2 hk⟩
def kX8_trim : List (Nat × Jvm.ClassFile.Instr × Nat) := [(0, .aload_n 0, 1), (1, .getfield 9, 3), (4, .ifCond .le 42, 3), (7, .aload_n 0, 1), (8, .getfield 9, 3), (11, .aload_n 0, 1), (12, .getfield 22, 3), (15, .arraylength, 1), (16, .if_icmp .gt 30, 3), (19, .aload_n 0, 1), (20, .getfield 22, 3), (23, .aload_n 0, 1), (24, .getfield 9, 3), (27, .iconst 1, 1), (28, .isub, 1), (29, .iaload, 1), (30, .ifCond .ne 16, 3), (33, .aload_n 0, 1), (34, .dup, 1), (35, .getfield 9, 3), (38, .iconst 1, 1), (39, .isub, 1), (40, .putfield 9, 3), (43, .goto (-43), 3), (46, .aload_n 0, 1), (47, .getfield 9, 3), (50, .ifCond .ne 8, 3), (53, .aload_n 0, 1), (54, .iconst 0, 1), (55, .putfield 13, 3), (58, .return_, 1)]
theorem kX8_trim_0 : cdOf kX8_trim 0 = some (.aload_n 0, 1) := by decide +kernel
theorem kX8_trim_1 : cdOf kX8_trim 1 = some (.getfield 9, 3) := by decide +kernel
theorem kX8_trim_4 : cdOf kX8_trim 4 = some (.ifCond .le 42, 3) := by decide +kernel
theorem kX8_trim_7 : cdOf kX8_trim 7 = some (.aload_n 0, 1) := by decide +kernel
theorem kX8_trim_8 : cdOf kX8_trim 8 = some (.getfield 9, 3) := by decide +kernel
theorem kX8_trim_11 : cdOf kX8_trim 11 = some (.aload_n 0, 1) := by decide +kernel
theorem kX8_trim_12 : cdOf kX8_trim 12 = some (.getfield 22, 3) := by decide +kernel
theorem kX8_trim_15 : cdOf kX8_trim 15 = some (.arraylength, 1) := by decide +kernel
theorem kX8_trim_16 : cdOf kX8_trim 16 = some (.if_icmp .gt 30, 3) := by decide +kernel
theorem kX8_trim_19 : cdOf kX8_trim 19 = some (.aload_n 0, 1) := by decide +kernel
theorem kX8_trim_20 : cdOf kX8_trim 20 = some (.getfield 22, 3) := by decide +kernel
theorem kX8_trim_23 : cdOf kX8_trim 23 = some (.aload_n 0, 1) := by decide +kernel
theorem kX8_trim_24 : cdOf kX8_trim 24 = some (.getfield 9, 3) := by decide +kernel
theorem kX8_trim_27 : cdOf kX8_trim 27 = some (.iconst 1, 1) := by decide +kernel
theorem kX8_trim_28 : cdOf kX8_trim 28 = some (.isub, 1) := by decide +kernel
theorem kX8_trim_29 : cdOf kX8_trim 29 = some (.iaload, 1) := by decide +kernel
theorem kX8_trim_30 : cdOf kX8_trim 30 = some (.ifCond .ne 16, 3) := by decide +kernel
theorem kX8_trim_33 : cdOf kX8_trim 33 = some (.aload_n 0, 1) := by decide +kernel
theorem kX8_trim_34 : cdOf kX8_trim 34 = some (.dup, 1) := by decide +kernel
theorem kX8_trim_35 : cdOf kX8_trim 35 = some (.getfield 9, 3) := by decide +kernel
theorem kX8_trim_38 : cdOf kX8_trim 38 = some (.iconst 1, 1) := by decide +kernel
theorem kX8_trim_39 : cdOf kX8_trim 39 = some (.isub, 1) := by decide +kernel
theorem kX8_trim_40 : cdOf kX8_trim 40 = some (.putfield 9, 3) := by decide +kernel
theorem kX8_trim_43 : cdOf kX8_trim 43 = some (.goto (-43), 3) := by decide +kernel
theorem kX8_trim_46 : cdOf kX8_trim 46 = some (.aload_n 0, 1) := by decide +kernel
theorem kX8_trim_47 : cdOf kX8_trim 47 = some (.getfield 9, 3) := by decide +kernel
theorem kX8_trim_50 : cdOf kX8_trim 50 = some (.ifCond .ne 8, 3) := by decide +kernel
theorem kX8_trim_53 : cdOf kX8_trim 53 = some (.aload_n 0, 1) := by decide +kernel
theorem kX8_trim_54 : cdOf kX8_trim 54 = some (.iconst 0, 1) := by decide +kernel
theorem kX8_trim_55 : cdOf kX8_trim 55 = some (.putfield 13, 3) := by decide +kernel
theorem kX8_trim_58 : cdOf kX8_trim 58 = some (.return_, 1) := by decide +kernel
set_option maxRecDepth 20000 in
theorem kX8_trim_ok : ∀ pc i len, cdOf kX8_trim pc = some (i, len) → decode cX8_trim pc = .ok (i, len) ∧ stOK 1 i = true ∧ jOK pc i = true ∧ eLen i len = true := cdOf_ok cX8_trim 1 kX8_trim (by decide +kernel)
def vtX8_trim : Nat → Option (Nat × eSp) := fun _ => none
def stX8_trim : Nat → Option (Nat × eSp) := fun _ => none
abbrev TX8_trim : eT := (fl_RX8, cl_RX8, dl_RX8, vtX8_trim, stX8_trim)
set_option maxRecDepth 20000 in
theorem caX8_trim : eCalls RX8 { frames := 0, cells := 0, slots := 0, locals := 0 } TX8_trim := by
  refine ⟨fun k n sp h => ?_, fun k n sp h => ?_⟩
  · cases h
  · cases h
set_option maxRecDepth 100000 in
set_option maxHeartbeats 4000000 in
theorem sX8_trim : eSafe TX8_trim (cdOf kX8_trim) 1 none SX8_trim := by
  intro K rt hK as M h
  obtain ⟨F, A, W, k, z, rfl, rfl, hk, hz, h⟩ := h
  refine ⟨by simp [eE], ?_⟩
  obtain ⟨n, a, b, c, d, e⟩ := hz
  have lk := lw_b k
  have loop : ∀ (n : Nat) (f : Int → Int), n ≤ lw k → f 80 = n → lR f n → vL f n = zAbs z → (z ≠ 0 → f 81 = zSg z) → K 0 [some (eR (2, k))] [] (cC F A (uA W k f)) := by
    intro n
    induction n with
    | zero =>
      intro f a b c d e
      have z0 : z = 0 := by
        have : zAbs z = 0 := d.symm
        rcases zSg_c z with g | g | g <;> omega
      refine x_aload_n hK kX8_trim_0 (q := 1) rfl rfl ?_
      refine x_getfield hK kX8_trim_1 (q := 4) rfl (gX8_9 ?_)
      rw [uA_g, b]
      refine x_if_le hK kX8_trim_4 (q := 7) rfl (tg := 46) rfl (by omega) (fun c4 => ?_) (fun c4 => ?_)
      · refine x_aload_n hK kX8_trim_46 (q := 47) rfl rfl ?_
        refine x_getfield hK kX8_trim_47 (q := 50) rfl (gX8_9 ?_)
        rw [uA_g, b]
        refine x_if_ne hK kX8_trim_50 (q := 53) rfl (tg := 58) rfl (by omega) (fun c50 => ?_) (fun c50 => ?_)
        · exact absurd rfl c50
        · refine x_aload_n hK kX8_trim_53 (q := 54) rfl rfl ?_
          refine x_iconst hK kX8_trim_54 (q := 55) rfl ?_
          refine x_putfield hK kX8_trim_55 (q := 58) rfl (pX8_13 ?_)
          rw [uA_g, uA_u]
          refine x_return_ hK kX8_trim_58 (by first | trivial | exact Or.inl rfl | exact Or.inr rfl) ?_
          refine h _ ⟨0, by omega, by rw [uI_n _ _ (by decide)]; exact b, fun i hi => absurd hi (by omega), fun q => absurd q (by omega), d, ?_⟩
          rw [uI_s, z0]
          rfl
      · exfalso; omega
    | succ n ih =>
      intro f a b c d e
      have hc : 0 ≤ f n ∧ f n < 2147483648 := c n (by omega)
      have e1 : ((n + 1 : Nat) : Int) - 1 = n := by omega
      have fin : (f n = 0 ∨ f n ≠ 0) := Decidable.em _
      refine x_aload_n hK kX8_trim_0 (q := 1) rfl rfl ?_
      refine x_getfield hK kX8_trim_1 (q := 4) rfl (gX8_9 ?_)
      rw [uA_g, b]
      refine x_if_le hK kX8_trim_4 (q := 7) rfl (tg := 46) rfl (by omega) (fun c4 => ?_) (fun c4 => ?_)
      · exfalso; omega
      · refine x_aload_n hK kX8_trim_7 (q := 8) rfl rfl ?_
        refine x_getfield hK kX8_trim_8 (q := 11) rfl (gX8_9 ?_)
        refine x_aload_n hK kX8_trim_11 (q := 12) rfl rfl ?_
        refine x_getfield hK kX8_trim_12 (q := 15) rfl (gX8_22 ?_)
        refine x_arraylength hK kX8_trim_15 (q := 16) rfl (nC7_0 ?_)
        rw [uA_g, b]
        refine x_icmp_gt hK kX8_trim_16 (q := 19) rfl (tg := 46) rfl (by refine ⟨?_, ?_⟩ <;> omega) (fun c16 => ?_) (fun c16 => ?_)
        · exfalso; omega
        · refine x_aload_n hK kX8_trim_19 (q := 20) rfl rfl ?_
          refine x_getfield hK kX8_trim_20 (q := 23) rfl (gX8_22 ?_)
          refine x_aload_n hK kX8_trim_23 (q := 24) rfl rfl ?_
          refine x_getfield hK kX8_trim_24 (q := 27) rfl (gX8_9 ?_)
          rw [uA_g, b]
          refine x_iconst hK kX8_trim_27 (q := 28) rfl ?_
          refine x_isub hK kX8_trim_28 (q := 29) rfl ?_
          rw [e1]
          refine x_iaload hK kX8_trim_29 (q := 30) rfl (aC7_0 (by refine ⟨?_, ?_⟩ <;> omega) ?_)
          rw [uA_g]
          refine x_if_ne hK kX8_trim_30 (q := 33) rfl (tg := 46) rfl (by omega) (fun c30 => ?_) (fun c30 => ?_)
          · refine x_aload_n hK kX8_trim_46 (q := 47) rfl rfl ?_
            refine x_getfield hK kX8_trim_47 (q := 50) rfl (gX8_9 ?_)
            rw [uA_g, b]
            refine x_if_ne hK kX8_trim_50 (q := 53) rfl (tg := 58) rfl (by omega) (fun c50 => ?_) (fun c50 => ?_)
            · refine x_return_ hK kX8_trim_58 (by first | trivial | exact Or.inl rfl | exact Or.inr rfl) ?_
              refine h f ⟨n + 1, a, b, c, fun _ => by rw [e1]; exact c30, d, e (fun q => ?_)⟩
              have g := vL_ge c c30
              have g2 := cB_pos n
              rw [d, q] at g
              have : zAbs 0 = 0 := rfl
              omega
            · exfalso; omega
          · refine x_aload_n hK kX8_trim_33 (q := 34) rfl rfl ?_
            refine x_dupR hK kX8_trim_34 (q := 35) rfl ?_
            refine x_getfield hK kX8_trim_35 (q := 38) rfl (gX8_9 ?_)
            rw [uA_g, b]
            refine x_iconst hK kX8_trim_38 (q := 39) rfl ?_
            refine x_isub hK kX8_trim_39 (q := 40) rfl ?_
            rw [e1]
            refine x_putfield hK kX8_trim_40 (q := 43) rfl (pX8_9 ?_)
            refine x_goto hK kX8_trim_43 (tg := 0) rfl ?_
            rw [uA_g, uA_u]
            refine ih _ (by omega) (uI_s _ _ _) (fun i hi => by rw [uI_n _ _ (by omega)]; exact c i (by omega)) ?_ (fun q => by rw [uI_n _ _ (by decide)]; exact e q)
            rw [vL_cong (f := f) (fun i hi => uI_n _ _ (by omega)), ← d, vL, Decidable.not_not.mp c30]
            omega
  simp only [eLoc, eE, List.length_cons, List.length_nil, List.replicate, List.cons_append, List.nil_append, Nat.reduceAdd, Nat.reduceSub]
  exact x_to (loop n (W k) a b c d e) rfl rfl (by rw [uA_s])
set_option maxRecDepth 20000 in
theorem mX8_trim : eMet yX8_trim cX8_trim 1 none 0 0 SX8_trim := eMet_of (by decide +kernel) sX8_trim kX8_trim_ok caX8_trim tb_RX8
theorem wX8_trim : eWV yX8_trim cX8_trim 1 none 1 7 SX8_trim := ⟨(gW_at 481 (by decide +kernel) rfl), (gW_at 81 (by decide +kernel) rfl), (gW_at 479 (by decide +kernel) rfl), ⟨_, rfl, (gW_at 480 (by decide +kernel) rfl)⟩, by decide +kernel, SX8_trim_r⟩
