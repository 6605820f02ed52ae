/-! Wholes: widen, setGap, add. -/
/-- limbs, and 0 above -/
def gx (f : Int → Int) (n : Nat) : Int → Int := fun i : Int => if i < (n : Int) then f i else 0
theorem gx_v {f : Int → Int} {n m : Nat} (h : n ≤ m) : vL (gx f n) m = vL f n := vL_x h
theorem gx_r {f : Int → Int} {n : Nat} (h : lR f n) (i : Nat) : 0 ≤ gx f n i ∧ gx f n i < 2147483648 := by
  unfold gx
  split
  · exact h i (by omega)
  · decide
theorem gx_a {f : Int → Int} {n : Nat} {i : Int} (h : i < n) : gx f n i = f i := if_pos h
theorem gx_b {f : Int → Int} {n : Nat} {i : Int} (h : ¬ i < n) : gx f n i = 0 := if_neg h
theorem m31 (a : Int) : zAndL a 2147483647 = a % 2147483648 := zAndL_m a 2147483647 31 (by decide) (by decide)
theorem s31 {a : Int} (h : w64 a) : zShrL a 31 = a / 2147483648 := zShrL_n a h 31 (by decide)
theorem vL_up {f : Int → Int} {n : Nat} (x : Int) : vL (uI f n x) (n + 1) = vL f n + x * cB ^ n := by
  rw [vL, uI_s, vL_cong (f := f) (fun k hk => uI_n _ _ (by omega))]
theorem lR_up {f : Int → Int} {n : Nat} {x : Int} (h : lR f n) (hx : 0 ≤ x ∧ x < 2147483648) : lR (uI f n x) (n + 1) := fun k hk => by
  rcases Nat.lt_or_ge k n with q | q
  · rw [uI_n _ _ (by omega)]; exact h k q
  · rw [show k = n by omega, uI_s]; exact hx
theorem vL_top {f : Int → Int} {n : Nat} (h : lR f (n + 1)) (hv : cB ^ n ≤ vL f (n + 1)) : f n ≠ 0 := fun q => by
  have h1 := vL_lt (h.sub (Nat.le_succ n))
  have e : vL f (n + 1) = vL f n + f n * cB ^ n := rfl
  rw [q] at e
  omega
theorem zSg_mul {s x : Int} (hs : s = 1 ∨ s = -1) (hx : 0 < x) : zSg (s * x) = s ∧ zAbs (s * x) = x := by
  rcases hs with rfl | rfl
  · rw [Int.one_mul]
    rcases zSg_c x with g | g | g <;> omega
  · rw [show -1 * x = -x by omega]
    rcases zSg_c (-x) with g | g | g <;> omega
-- widen
def SX8_widen : eSp := fun as M rt => ∃ (F : Nat → Int) (A W : Nat → Int → Int) (k j : Nat) (z y : Int), as = [eR (2, k), eR (2, j)] ∧ M = cC F A W ∧ (k < 332) ∧ (j < 332) ∧ (j ≠ k) ∧ (wq (W k) z) ∧ (wq (W j) y) ∧ (z ≠ 0) ∧ (zAbs z + zAbs y < cB ^ 80) ∧ (∀ f, wq f (zSg z * (zAbs z + zAbs y)) → rt none (cC F A (uA W k f)))
theorem SX8_widen_i {F : Nat → Int} {A W : Nat → Int → Int} {k j : Nat} {z y : Int} {rt : Option eV → eM → Prop} (hk : k < 332) (hj : j < 332) (hn : j ≠ k) (hz : wq (W k) z) (hy : wq (W j) y) (h0 : z ≠ 0) (hb : zAbs z + zAbs y < cB ^ 80) (h : ∀ f, wq f (zSg z * (zAbs z + zAbs y)) → rt none (cC F A (uA W k f))) : SX8_widen [eR (2, k), eR (2, j)] (cC F A W) rt := ⟨F, A, W, k, j, z, y, rfl, rfl, hk, hj, hn, hz, hy, h0, hb, h⟩
theorem SX8_widen_r : ∀ as M rt, SX8_widen as M rt → ∃ a r fs, as = eR a :: r ∧ M a = some (.inl (7, fs)) := by
  rintro as M rt ⟨F, A, W, k, j, z, y, rfl, rfl, hk, -⟩
  exact ⟨_, _, _, rfl, cC_2 hk⟩
def kX8_widen : List (Nat × Jvm.ClassFile.Instr × Nat) := [(0, .aload_n 0, 1), (1, .getfield 13, 3), (4, .aload_n 1, 1), (5, .getfield 13, 3), (8, .if_icmp .ge 10, 3), (11, .aload_n 1, 1), (12, .getfield 13, 3), (15, .goto 7, 3), (18, .aload_n 0, 1), (19, .getfield 13, 3), (22, .istore_n 2, 1), (23, .lconst 0, 1), (24, .lstore_n 3, 1), (25, .iconst 0, 1), (26, .istore 5, 2), (28, .iload 5, 2), (30, .iload_n 2, 1), (31, .if_icmp .ge 91, 3), (34, .iload 5, 2), (36, .bipush 80, 2), (38, .if_icmp .ge 84, 3), (41, .iload 5, 2), (43, .aload_n 0, 1), (44, .getfield 13, 3), (47, .if_icmp .ge 14, 3), (50, .aload_n 0, 1), (51, .getfield 9, 3), (54, .iload 5, 2), (56, .iaload, 1), (57, .i2l, 1), (58, .goto 4, 3), (61, .lconst 0, 1), (62, .lstore 6, 2), (64, .iload 5, 2), (66, .aload_n 1, 1), (67, .getfield 13, 3), (70, .if_icmp .ge 14, 3), (73, .aload_n 1, 1), (74, .getfield 9, 3), (77, .iload 5, 2), (79, .iaload, 1), (80, .i2l, 1), (81, .goto 4, 3), (84, .lconst 0, 1), (85, .lstore 8, 2), (87, .lload 6, 2), (89, .lload 8, 2), (91, .ladd, 1), (92, .lload_n 3, 1), (93, .ladd, 1), (94, .lstore 10, 2), (96, .aload_n 0, 1), (97, .getfield 9, 3), (100, .iload 5, 2), (102, .lload 10, 2), (104, .ldc2_w 37, 3), (107, .land, 1), (108, .l2i, 1), (109, .iastore, 1), (110, .lload 10, 2), (112, .bipush 31, 2), (114, .lshr, 1), (115, .lstore_n 3, 1), (116, .iinc 5 1, 3), (119, .goto (-91), 3), (122, .lload_n 3, 1), (123, .lconst 0, 1), (124, .lcmp, 1), (125, .ifCond .eq 20, 3), (128, .iload_n 2, 1), (129, .bipush 80, 2), (131, .if_icmp .ge 14, 3), (134, .aload_n 0, 1), (135, .getfield 9, 3), (138, .iload_n 2, 1), (139, .lload_n 3, 1), (140, .l2i, 1), (141, .iastore, 1), (142, .iinc 2 1, 3), (145, .aload_n 0, 1), (146, .iload_n 2, 1), (147, .putfield 13, 3), (150, .return_, 1)]
theorem kX8_widen_0 : cdOf kX8_widen 0 = some (.aload_n 0, 1) := by decide +kernel
theorem kX8_widen_1 : cdOf kX8_widen 1 = some (.getfield 13, 3) := by decide +kernel
theorem kX8_widen_4 : cdOf kX8_widen 4 = some (.aload_n 1, 1) := by decide +kernel
theorem kX8_widen_5 : cdOf kX8_widen 5 = some (.getfield 13, 3) := by decide +kernel
theorem kX8_widen_8 : cdOf kX8_widen 8 = some (.if_icmp .ge 10, 3) := by decide +kernel
theorem kX8_widen_11 : cdOf kX8_widen 11 = some (.aload_n 1, 1) := by decide +kernel
theorem kX8_widen_12 : cdOf kX8_widen 12 = some (.getfield 13, 3) := by decide +kernel
theorem kX8_widen_15 : cdOf kX8_widen 15 = some (.goto 7, 3) := by decide +kernel
theorem kX8_widen_18 : cdOf kX8_widen 18 = some (.aload_n 0, 1) := by decide +kernel
theorem kX8_widen_19 : cdOf kX8_widen 19 = some (.getfield 13, 3) := by decide +kernel
theorem kX8_widen_22 : cdOf kX8_widen 22 = some (.istore_n 2, 1) := by decide +kernel
theorem kX8_widen_23 : cdOf kX8_widen 23 = some (.lconst 0, 1) := by decide +kernel
theorem kX8_widen_24 : cdOf kX8_widen 24 = some (.lstore_n 3, 1) := by decide +kernel
theorem kX8_widen_25 : cdOf kX8_widen 25 = some (.iconst 0, 1) := by decide +kernel
theorem kX8_widen_26 : cdOf kX8_widen 26 = some (.istore 5, 2) := by decide +kernel
theorem kX8_widen_28 : cdOf kX8_widen 28 = some (.iload 5, 2) := by decide +kernel
theorem kX8_widen_30 : cdOf kX8_widen 30 = some (.iload_n 2, 1) := by decide +kernel
theorem kX8_widen_31 : cdOf kX8_widen 31 = some (.if_icmp .ge 91, 3) := by decide +kernel
theorem kX8_widen_34 : cdOf kX8_widen 34 = some (.iload 5, 2) := by decide +kernel
theorem kX8_widen_36 : cdOf kX8_widen 36 = some (.bipush 80, 2) := by decide +kernel
theorem kX8_widen_38 : cdOf kX8_widen 38 = some (.if_icmp .ge 84, 3) := by decide +kernel
theorem kX8_widen_41 : cdOf kX8_widen 41 = some (.iload 5, 2) := by decide +kernel
theorem kX8_widen_43 : cdOf kX8_widen 43 = some (.aload_n 0, 1) := by decide +kernel
theorem kX8_widen_44 : cdOf kX8_widen 44 = some (.getfield 13, 3) := by decide +kernel
theorem kX8_widen_47 : cdOf kX8_widen 47 = some (.if_icmp .ge 14, 3) := by decide +kernel
theorem kX8_widen_50 : cdOf kX8_widen 50 = some (.aload_n 0, 1) := by decide +kernel
theorem kX8_widen_51 : cdOf kX8_widen 51 = some (.getfield 9, 3) := by decide +kernel
theorem kX8_widen_54 : cdOf kX8_widen 54 = some (.iload 5, 2) := by decide +kernel
theorem kX8_widen_56 : cdOf kX8_widen 56 = some (.iaload, 1) := by decide +kernel
theorem kX8_widen_57 : cdOf kX8_widen 57 = some (.i2l, 1) := by decide +kernel
theorem kX8_widen_58 : cdOf kX8_widen 58 = some (.goto 4, 3) := by decide +kernel
theorem kX8_widen_61 : cdOf kX8_widen 61 = some (.lconst 0, 1) := by decide +kernel
theorem kX8_widen_62 : cdOf kX8_widen 62 = some (.lstore 6, 2) := by decide +kernel
theorem kX8_widen_64 : cdOf kX8_widen 64 = some (.iload 5, 2) := by decide +kernel
theorem kX8_widen_66 : cdOf kX8_widen 66 = some (.aload_n 1, 1) := by decide +kernel
theorem kX8_widen_67 : cdOf kX8_widen 67 = some (.getfield 13, 3) := by decide +kernel
theorem kX8_widen_70 : cdOf kX8_widen 70 = some (.if_icmp .ge 14, 3) := by decide +kernel
theorem kX8_widen_73 : cdOf kX8_widen 73 = some (.aload_n 1, 1) := by decide +kernel
theorem kX8_widen_74 : cdOf kX8_widen 74 = some (.getfield 9, 3) := by decide +kernel
theorem kX8_widen_77 : cdOf kX8_widen 77 = some (.iload 5, 2) := by decide +kernel
theorem kX8_widen_79 : cdOf kX8_widen 79 = some (.iaload, 1) := by decide +kernel
theorem kX8_widen_80 : cdOf kX8_widen 80 = some (.i2l, 1) := by decide +kernel
theorem kX8_widen_81 : cdOf kX8_widen 81 = some (.goto 4, 3) := by decide +kernel
theorem kX8_widen_84 : cdOf kX8_widen 84 = some (.lconst 0, 1) := by decide +kernel
theorem kX8_widen_85 : cdOf kX8_widen 85 = some (.lstore 8, 2) := by decide +kernel
theorem kX8_widen_87 : cdOf kX8_widen 87 = some (.lload 6, 2) := by decide +kernel
theorem kX8_widen_89 : cdOf kX8_widen 89 = some (.lload 8, 2) := by decide +kernel
theorem kX8_widen_91 : cdOf kX8_widen 91 = some (.ladd, 1) := by decide +kernel
theorem kX8_widen_92 : cdOf kX8_widen 92 = some (.lload_n 3, 1) := by decide +kernel
theorem kX8_widen_93 : cdOf kX8_widen 93 = some (.ladd, 1) := by decide +kernel
theorem kX8_widen_94 : cdOf kX8_widen 94 = some (.lstore 10, 2) := by decide +kernel
theorem kX8_widen_96 : cdOf kX8_widen 96 = some (.aload_n 0, 1) := by decide +kernel
theorem kX8_widen_97 : cdOf kX8_widen 97 = some (.getfield 9, 3) := by decide +kernel
theorem kX8_widen_100 : cdOf kX8_widen 100 = some (.iload 5, 2) := by decide +kernel
theorem kX8_widen_102 : cdOf kX8_widen 102 = some (.lload 10, 2) := by decide +kernel
theorem kX8_widen_104 : cdOf kX8_widen 104 = some (.ldc2_w 37, 3) := by decide +kernel
theorem kX8_widen_107 : cdOf kX8_widen 107 = some (.land, 1) := by decide +kernel
theorem kX8_widen_108 : cdOf kX8_widen 108 = some (.l2i, 1) := by decide +kernel
theorem kX8_widen_109 : cdOf kX8_widen 109 = some (.iastore, 1) := by decide +kernel
theorem kX8_widen_110 : cdOf kX8_widen 110 = some (.lload 10, 2) := by decide +kernel
theorem kX8_widen_112 : cdOf kX8_widen 112 = some (.bipush 31, 2) := by decide +kernel
theorem kX8_widen_114 : cdOf kX8_widen 114 = some (.lshr, 1) := by decide +kernel
theorem kX8_widen_115 : cdOf kX8_widen 115 = some (.lstore_n 3, 1) := by decide +kernel
theorem kX8_widen_116 : cdOf kX8_widen 116 = some (.iinc 5 1, 3) := by decide +kernel
theorem kX8_widen_119 : cdOf kX8_widen 119 = some (.goto (-91), 3) := by decide +kernel
theorem kX8_widen_122 : cdOf kX8_widen 122 = some (.lload_n 3, 1) := by decide +kernel
theorem kX8_widen_123 : cdOf kX8_widen 123 = some (.lconst 0, 1) := by decide +kernel
theorem kX8_widen_124 : cdOf kX8_widen 124 = some (.lcmp, 1) := by decide +kernel
theorem kX8_widen_125 : cdOf kX8_widen 125 = some (.ifCond .eq 20, 3) := by decide +kernel
theorem kX8_widen_128 : cdOf kX8_widen 128 = some (.iload_n 2, 1) := by decide +kernel
theorem kX8_widen_129 : cdOf kX8_widen 129 = some (.bipush 80, 2) := by decide +kernel
theorem kX8_widen_131 : cdOf kX8_widen 131 = some (.if_icmp .ge 14, 3) := by decide +kernel
theorem kX8_widen_134 : cdOf kX8_widen 134 = some (.aload_n 0, 1) := by decide +kernel
theorem kX8_widen_135 : cdOf kX8_widen 135 = some (.getfield 9, 3) := by decide +kernel
theorem kX8_widen_138 : cdOf kX8_widen 138 = some (.iload_n 2, 1) := by decide +kernel
theorem kX8_widen_139 : cdOf kX8_widen 139 = some (.lload_n 3, 1) := by decide +kernel
theorem kX8_widen_140 : cdOf kX8_widen 140 = some (.l2i, 1) := by decide +kernel
theorem kX8_widen_141 : cdOf kX8_widen 141 = some (.iastore, 1) := by decide +kernel
theorem kX8_widen_142 : cdOf kX8_widen 142 = some (.iinc 2 1, 3) := by decide +kernel
theorem kX8_widen_145 : cdOf kX8_widen 145 = some (.aload_n 0, 1) := by decide +kernel
theorem kX8_widen_146 : cdOf kX8_widen 146 = some (.iload_n 2, 1) := by decide +kernel
theorem kX8_widen_147 : cdOf kX8_widen 147 = some (.putfield 13, 3) := by decide +kernel
theorem kX8_widen_150 : cdOf kX8_widen 150 = some (.return_, 1) := by decide +kernel
set_option maxRecDepth 20000 in
theorem kX8_widen_ok : ∀ pc i len, cdOf kX8_widen pc = some (i, len) → decode cX8_widen pc = .ok (i, len) ∧ stOK 12 i = true ∧ jOK pc i = true ∧ eLen i len = true := cdOf_ok cX8_widen 12 kX8_widen (by decide +kernel)
def vtX8_widen : Nat → Option (Nat × eSp) := fun _ => none
def stX8_widen : Nat → Option (Nat × eSp) := fun _ => none
abbrev TX8_widen : eT := (fl_RX8, cl_RX8, dl_RX8, vtX8_widen, stX8_widen)
set_option maxRecDepth 20000 in
theorem caX8_widen : eCalls RX8 { frames := 0, cells := 0, slots := 0, locals := 0 } TX8_widen := by
  refine ⟨fun k n sp h => ?_, fun k n sp h => ?_⟩
  · cases h
  · cases h
set_option maxRecDepth 100000 in
set_option maxHeartbeats 4000000 in
theorem sX8_widen : eSafe TX8_widen (cdOf kX8_widen) 12 none SX8_widen := by
  intro K rt hK as M h
  obtain ⟨F, A, W, k, j, z, y, rfl, rfl, hk, hj, hn, hz, hy, h0, hb, h⟩ := h
  refine ⟨by simp [eE], ?_⟩
  obtain ⟨n, a, b, c, d, e1, e2⟩ := hz
  obtain ⟨m, a', b', c', d', f1, f2⟩ := hy
  have hn' := wq_n c d e1
  have hm := wq_n c' d' f1
  have at_ : ∀ f, uA W k f j = W j := fun f => uA_n _ _ hn
  have sg : zSg z = 1 ∨ zSg z = -1 := by rcases zSg_c z with g | g | g <;> omega
  have za : 0 < zAbs z := by rcases zSg_c z with g | g | g <;> omega
  have ya := zAbs_0 y
  obtain ⟨L, hL⟩ : ∃ L : Nat, max n m = L := ⟨_, rfl⟩
  have Ln : n ≤ L ∧ m ≤ L ∧ L ≤ 80 ∧ (L = n ∨ L = m) := by omega
  have n0 : 0 < n := by
    rcases Nat.eq_zero_or_pos n with q | q
    · exact absurd (hn'.1.mpr q) h0
    · exact q
  have big : cB ^ (L - 1) ≤ zAbs z + zAbs y := by
    rcases Ln.2.2.2 with q | q
    · rw [q]
      have := hn'.2.2 n0
      omega
    · rw [q]
      have := hm.2.2 (by omega)
      omega
  have sgm := zSg_mul sg (show 0 < zAbs z + zAbs y by omega)
  have gz := gx_v (f := W k) Ln.1
  have gy := gx_v (f := W j) Ln.2.1
  have loop : ∀ (d i : Nat) (f : Int → Int) (cr : Int) (u6 u7 u8 u9 u10 u11 : Option eV), i + d = L → (∀ t : Int, i ≤ t → f t = W k t) → lR f i → (cr = 0 ∨ cr = 1) → vL f i + cr * cB ^ i = vL (gx (W k) n) i + vL (gx (W j) m) i →
      K 28 [some (eR (2, k)), some (eR (2, j)), some (eI L), some (eL cr), none, some (eI i), u6, none, u8, none, u10, none] [] (cC F A (uA W k f)) := by
    intro d
    induction d with
    | zero =>
      intro i f cr u6 u7 u8 u9 u10 u11 hd he hr hc hv
      have : i = L := by omega
      subst this
      rw [gz, gy, e1, f1] at hv
      have f81 : f 81 = zSg z := by rw [he 81 (by omega)]; exact e2
      have fin0 : cr = 0 → rt none (cC F A (uA W k (uI f 80 i))) := fun cr0 => by
        subst cr0
        refine h _ ⟨i, Ln.2.2.1, uI_s _ _ _, lR_cong hr (fun t ht => uI_n _ _ (by omega)), fun q => ?_, ?_, ?_⟩
        · rw [uI_n _ _ (by omega)]
          obtain ⟨i', rfl⟩ : ∃ i', i = i' + 1 := ⟨i - 1, by omega⟩
          rw [show ((i' + 1 : Nat) : Int) - 1 = i' by omega]
          exact vL_top hr (by rw [show i' + 1 - 1 = i' by omega] at big; omega)
        · rw [vL_cong (f := f) (fun t ht => uI_n _ _ (by omega)), sgm.2]
          omega
        · rw [uI_n _ _ (by decide), f81, sgm.1]
      have i80 : cr = 1 → i < 80 := fun c1 => by
        subst c1
        have := vL_nn hr
        rcases Nat.lt_or_ge i 80 with q | q
        · exact q
        · have i80 : i = 80 := by omega
          subst i80
          omega
      have fin1 : cr = 1 → rt none (cC F A (uA W k (uI (uI f i cr) 80 (i + 1)))) := fun cr1 => by
        have i80 := i80 cr1
        subst cr1
        refine h _ ⟨i + 1, by omega, by rw [uI_s]; rfl, lR_cong (lR_up hr ⟨by decide, by decide⟩) (fun t ht => uI_n _ _ (by omega)), fun q => ?_, ?_, ?_⟩
        · rw [uI_n _ _ (by omega), show ((i + 1 : Nat) : Int) - 1 = i by omega, uI_s]
          decide
        · rw [vL_cong (f := uI f i 1) (fun t ht => uI_n _ _ (by omega)), vL_up, sgm.2]
          omega
        · rw [uI_n _ _ (by decide), uI_n _ _ (by omega), f81, sgm.1]
      refine x_iload hK kX8_widen_28 (q := 30) rfl rfl ?_
      refine x_iload_n hK kX8_widen_30 (q := 31) rfl rfl ?_
      refine x_icmp_ge hK kX8_widen_31 (q := 34) rfl (tg := 122) rfl (by refine ⟨?_, ?_⟩ <;> omega) (fun c31 => ?_) (fun c31 => ?_)
      · refine x_lload_n hK kX8_widen_122 (q := 123) rfl rfl ?_
        refine x_lconst0 hK kX8_widen_123 (q := 124) rfl ?_
        refine x_lcmp hK kX8_widen_124 (q := 125) rfl (by refine ⟨⟨by omega, by omega⟩, by decide⟩) ?_
        refine x_ifc_eq hK kX8_widen_125 (q := 128) rfl (tg := 145) rfl (fun c125 => ?_) (fun c125 => ?_)
        · refine x_aload_n hK kX8_widen_145 (q := 146) rfl rfl ?_
          refine x_iload_n hK kX8_widen_146 (q := 147) rfl rfl ?_
          refine x_putfield hK kX8_widen_147 (q := 150) rfl (pX8_13 ?_)
          rw [uA_g]
          first | rw [uA_u] | skip
          refine x_return_ hK kX8_widen_150 (by first | trivial | exact Or.inl rfl | exact Or.inr rfl) ?_
          first | exact fin0 (by omega) | exact fin1 (by omega)
        · refine x_iload_n hK kX8_widen_128 (q := 129) rfl rfl ?_
          refine x_bipush hK kX8_widen_129 (q := 131) rfl (by decide) ?_
          refine x_icmp_ge hK kX8_widen_131 (q := 134) rfl (tg := 145) rfl (by refine ⟨?_, ?_⟩ <;> omega) (fun c131 => ?_) (fun c131 => ?_)
          · exfalso; have := i80 (by omega); omega
          · refine x_aload_n hK kX8_widen_134 (q := 135) rfl rfl ?_
            refine x_getfield hK kX8_widen_135 (q := 138) rfl (gX8_9 ?_)
            refine x_iload_n hK kX8_widen_138 (q := 139) rfl rfl ?_
            refine x_lload_n hK kX8_widen_139 (q := 140) rfl rfl ?_
            refine x_l2i hK kX8_widen_140 (q := 141) rfl ?_
            refine x_iastore hK kX8_widen_141 (q := 142) rfl (yC7_0 (by refine ⟨?_, ?_⟩ <;> omega) ?_)
            rw [uA_g, uA_u]
            refine x_iinc hK kX8_widen_142 (q := 145) rfl rfl ?_
            refine x_aload_n hK kX8_widen_145 (q := 146) rfl rfl ?_
            refine x_iload_n hK kX8_widen_146 (q := 147) rfl rfl ?_
            refine x_putfield hK kX8_widen_147 (q := 150) rfl (pX8_13 ?_)
            simp only [lS, lS2, clr_0, clr_I, clr_L, clr_R]
            rw [uA_g]
            first | rw [uA_u] | skip
            refine x_return_ hK kX8_widen_150 (by first | trivial | exact Or.inl rfl | exact Or.inr rfl) ?_
            first | exact fin0 (by omega) | exact fin1 (by omega)
      · exfalso; omega
    | succ d ih =>
      intro i f cr u6 u7 u8 u9 u10 u11 hd he hr hc hv
      have r1 := gx_r c i
      have r2 := gx_r c' i
      have f80 : f 80 = n := by rw [he 80 (by omega)]; exact b
      have fi : f i = W k i := he i (by omega)
      have stp : ∀ (u6 u8 u10 : Option eV), K 28 [some (eR (2, k)), some (eR (2, j)), some (eI L), some (eL ((gx (W k) n i + gx (W j) m i + cr) / 2147483648)), none, some (eI ((i + 1 : Nat) : Int)), u6, none, u8, none, u10, none] [] (cC F A (uA W k (uI f i ((gx (W k) n i + gx (W j) m i + cr) % 2147483648)))) := fun u6 u8 u10 => by
        refine ih (i + 1) _ _ u6 none u8 none u10 none (by omega) (fun t ht => by rw [uI_n _ _ (by omega)]; exact he t (by omega)) (lR_up hr (by omega)) (by omega) ?_
        have q1 : vL (gx (W k) n) (i + 1) = vL (gx (W k) n) i + gx (W k) n i * cB ^ i := rfl
        have q2 : vL (gx (W j) m) (i + 1) = vL (gx (W j) m) i + gx (W j) m i * cB ^ i := rfl
        rw [vL_up, q1, q2, cB_succ]
        have q3 : gx (W k) n i + gx (W j) m i + cr = (gx (W k) n i + gx (W j) m i + cr) / 2147483648 * 2147483648 + (gx (W k) n i + gx (W j) m i + cr) % 2147483648 := by omega
        generalize gx (W k) n i = X at *
        generalize gx (W j) m i = Y at *
        generalize (X + Y + cr) / 2147483648 = Q at *
        generalize (X + Y + cr) % 2147483648 = R at *
        generalize cB ^ i = P at *
        show vL f i + R * P + Q * (P * 2147483648) = _
        have : cr = Q * 2147483648 + R - X - Y := by omega
        subst this
        grind
      refine x_iload hK kX8_widen_28 (q := 30) rfl rfl ?_
      refine x_iload_n hK kX8_widen_30 (q := 31) rfl rfl ?_
      refine x_icmp_ge hK kX8_widen_31 (q := 34) rfl (tg := 122) rfl (by refine ⟨?_, ?_⟩ <;> omega) (fun c31 => ?_) (fun c31 => ?_)
      · exfalso; omega
      · refine x_iload hK kX8_widen_34 (q := 36) rfl rfl ?_
        refine x_bipush hK kX8_widen_36 (q := 38) rfl (by decide) ?_
        refine x_icmp_ge hK kX8_widen_38 (q := 41) rfl (tg := 122) rfl (by refine ⟨?_, ?_⟩ <;> omega) (fun c38 => ?_) (fun c38 => ?_)
        · exfalso; omega
        · refine x_iload hK kX8_widen_41 (q := 43) rfl rfl ?_
          refine x_aload_n hK kX8_widen_43 (q := 44) rfl rfl ?_
          refine x_getfield hK kX8_widen_44 (q := 47) rfl (gX8_13 ?_)
          rw [uA_g, f80]
          refine x_icmp_ge hK kX8_widen_47 (q := 50) rfl (tg := 61) rfl (by refine ⟨?_, ?_⟩ <;> omega) (fun c47 => ?_) (fun c47 => ?_)
          · have z1 : gx (W k) n i = 0 := gx_b (by omega)
            refine x_lconst0 hK kX8_widen_61 (q := 62) rfl ?_
            first | skip | (rw [← z1])
            refine x_lstore hK kX8_widen_62 (q := 64) rfl ?_
            refine x_iload hK kX8_widen_64 (q := 66) rfl rfl ?_
            refine x_aload_n hK kX8_widen_66 (q := 67) rfl rfl ?_
            refine x_getfield hK kX8_widen_67 (q := 70) rfl (gX8_13 ?_)
            simp only [lS, lS2, clr_0, clr_I, clr_L, clr_R]
            rw [at_, b']
            refine x_icmp_ge hK kX8_widen_70 (q := 73) rfl (tg := 84) rfl (by refine ⟨?_, ?_⟩ <;> omega) (fun c70 => ?_) (fun c70 => ?_)
            · have z2 : gx (W j) m i = 0 := gx_b (by omega)
              refine x_lconst0 hK kX8_widen_84 (q := 85) rfl ?_
              refine x_lstore hK kX8_widen_85 (q := 87) rfl ?_
              refine x_lload hK kX8_widen_87 (q := 89) rfl rfl ?_
              refine x_lload hK kX8_widen_89 (q := 91) rfl rfl ?_
              refine x_ladd hK kX8_widen_91 (q := 92) rfl ?_
              refine x_lload_n hK kX8_widen_92 (q := 93) rfl rfl ?_
              refine x_ladd hK kX8_widen_93 (q := 94) rfl ?_
              refine x_lstore hK kX8_widen_94 (q := 96) rfl ?_
              refine x_aload_n hK kX8_widen_96 (q := 97) rfl rfl ?_
              refine x_getfield hK kX8_widen_97 (q := 100) rfl (gX8_9 ?_)
              refine x_iload hK kX8_widen_100 (q := 102) rfl rfl ?_
              refine x_lload hK kX8_widen_102 (q := 104) rfl rfl ?_
              refine x_ldc2_w hK kX8_widen_104 (q := 107) rfl lc2_RX8_37 ?_
              refine x_land hK kX8_widen_107 (q := 108) rfl ?_
              simp only [lS, lS2, clr_0, clr_I, clr_L, clr_R]
              rw [m31]
              refine x_l2i hK kX8_widen_108 (q := 109) rfl ?_
              refine x_iastore hK kX8_widen_109 (q := 110) rfl (yC7_0 (by refine ⟨?_, ?_⟩ <;> omega) ?_)
              refine x_lload hK kX8_widen_110 (q := 112) rfl rfl ?_
              refine x_bipush hK kX8_widen_112 (q := 114) rfl (by decide) ?_
              refine x_lshr hK kX8_widen_114 (q := 115) rfl ?_
              rw [s31 ⟨by omega, by omega⟩]
              refine x_lstore_n hK kX8_widen_115 (q := 116) (jn := 3) rfl rfl ?_
              simp only [lS, lS2, clr_0, clr_I, clr_L, clr_R]
              rw [uA_g, uA_u]
              refine x_iinc hK kX8_widen_116 (q := 119) rfl rfl ?_
              simp only [lS, lS2, clr_0, clr_I, clr_L, clr_R]
              refine x_goto hK kX8_widen_119 (tg := 28) rfl ?_
              first | exact x_to (stp _ _ _) rfl rfl rfl | (rw [z2] at stp; exact x_to (stp _ _ _) rfl rfl rfl) | (rw [z1] at stp; exact x_to (stp _ _ _) rfl rfl rfl) | (rw [z1, z2] at stp; exact x_to (stp _ _ _) rfl rfl rfl)
            · refine x_aload_n hK kX8_widen_73 (q := 74) rfl rfl ?_
              refine x_getfield hK kX8_widen_74 (q := 77) rfl (gX8_9 ?_)
              refine x_iload hK kX8_widen_77 (q := 79) rfl rfl ?_
              refine x_iaload hK kX8_widen_79 (q := 80) rfl (aC7_0 (by refine ⟨?_, ?_⟩ <;> omega) ?_)
              rw [at_, ← gx_a (f := W j) (n := m) (show (i : Int) < m by omega)]
              refine x_i2l hK kX8_widen_80 (q := 81) rfl (by omega) ?_
              refine x_goto hK kX8_widen_81 (tg := 85) rfl ?_
              refine x_lstore hK kX8_widen_85 (q := 87) rfl ?_
              refine x_lload hK kX8_widen_87 (q := 89) rfl rfl ?_
              refine x_lload hK kX8_widen_89 (q := 91) rfl rfl ?_
              refine x_ladd hK kX8_widen_91 (q := 92) rfl ?_
              refine x_lload_n hK kX8_widen_92 (q := 93) rfl rfl ?_
              refine x_ladd hK kX8_widen_93 (q := 94) rfl ?_
              refine x_lstore hK kX8_widen_94 (q := 96) rfl ?_
              refine x_aload_n hK kX8_widen_96 (q := 97) rfl rfl ?_
              refine x_getfield hK kX8_widen_97 (q := 100) rfl (gX8_9 ?_)
              refine x_iload hK kX8_widen_100 (q := 102) rfl rfl ?_
              refine x_lload hK kX8_widen_102 (q := 104) rfl rfl ?_
              refine x_ldc2_w hK kX8_widen_104 (q := 107) rfl lc2_RX8_37 ?_
              refine x_land hK kX8_widen_107 (q := 108) rfl ?_
              simp only [lS, lS2, clr_0, clr_I, clr_L, clr_R]
              rw [m31]
              refine x_l2i hK kX8_widen_108 (q := 109) rfl ?_
              refine x_iastore hK kX8_widen_109 (q := 110) rfl (yC7_0 (by refine ⟨?_, ?_⟩ <;> omega) ?_)
              refine x_lload hK kX8_widen_110 (q := 112) rfl rfl ?_
              refine x_bipush hK kX8_widen_112 (q := 114) rfl (by decide) ?_
              refine x_lshr hK kX8_widen_114 (q := 115) rfl ?_
              rw [s31 ⟨by omega, by omega⟩]
              refine x_lstore_n hK kX8_widen_115 (q := 116) (jn := 3) rfl rfl ?_
              simp only [lS, lS2, clr_0, clr_I, clr_L, clr_R]
              rw [uA_g, uA_u]
              refine x_iinc hK kX8_widen_116 (q := 119) rfl rfl ?_
              simp only [lS, lS2, clr_0, clr_I, clr_L, clr_R]
              refine x_goto hK kX8_widen_119 (tg := 28) rfl ?_
              first | exact x_to (stp _ _ _) rfl rfl rfl | (rw [z2] at stp; exact x_to (stp _ _ _) rfl rfl rfl) | (rw [z1] at stp; exact x_to (stp _ _ _) rfl rfl rfl) | (rw [z1, z2] at stp; exact x_to (stp _ _ _) rfl rfl rfl)
          · refine x_aload_n hK kX8_widen_50 (q := 51) rfl rfl ?_
            refine x_getfield hK kX8_widen_51 (q := 54) rfl (gX8_9 ?_)
            refine x_iload hK kX8_widen_54 (q := 56) rfl rfl ?_
            refine x_iaload hK kX8_widen_56 (q := 57) rfl (aC7_0 (by refine ⟨?_, ?_⟩ <;> omega) ?_)
            rw [uA_g, fi, ← gx_a (f := W k) (n := n) (show (i : Int) < n by omega)]
            refine x_i2l hK kX8_widen_57 (q := 58) rfl (by omega) ?_
            refine x_goto hK kX8_widen_58 (tg := 62) rfl ?_
            first | skip | (rw [← z1])
            refine x_lstore hK kX8_widen_62 (q := 64) rfl ?_
            refine x_iload hK kX8_widen_64 (q := 66) rfl rfl ?_
            refine x_aload_n hK kX8_widen_66 (q := 67) rfl rfl ?_
            refine x_getfield hK kX8_widen_67 (q := 70) rfl (gX8_13 ?_)
            simp only [lS, lS2, clr_0, clr_I, clr_L, clr_R]
            rw [at_, b']
            refine x_icmp_ge hK kX8_widen_70 (q := 73) rfl (tg := 84) rfl (by refine ⟨?_, ?_⟩ <;> omega) (fun c70 => ?_) (fun c70 => ?_)
            · have z2 : gx (W j) m i = 0 := gx_b (by omega)
              refine x_lconst0 hK kX8_widen_84 (q := 85) rfl ?_
              refine x_lstore hK kX8_widen_85 (q := 87) rfl ?_
              refine x_lload hK kX8_widen_87 (q := 89) rfl rfl ?_
              refine x_lload hK kX8_widen_89 (q := 91) rfl rfl ?_
              refine x_ladd hK kX8_widen_91 (q := 92) rfl ?_
              refine x_lload_n hK kX8_widen_92 (q := 93) rfl rfl ?_
              refine x_ladd hK kX8_widen_93 (q := 94) rfl ?_
              refine x_lstore hK kX8_widen_94 (q := 96) rfl ?_
              refine x_aload_n hK kX8_widen_96 (q := 97) rfl rfl ?_
              refine x_getfield hK kX8_widen_97 (q := 100) rfl (gX8_9 ?_)
              refine x_iload hK kX8_widen_100 (q := 102) rfl rfl ?_
              refine x_lload hK kX8_widen_102 (q := 104) rfl rfl ?_
              refine x_ldc2_w hK kX8_widen_104 (q := 107) rfl lc2_RX8_37 ?_
              refine x_land hK kX8_widen_107 (q := 108) rfl ?_
              simp only [lS, lS2, clr_0, clr_I, clr_L, clr_R]
              rw [m31]
              refine x_l2i hK kX8_widen_108 (q := 109) rfl ?_
              refine x_iastore hK kX8_widen_109 (q := 110) rfl (yC7_0 (by refine ⟨?_, ?_⟩ <;> omega) ?_)
              refine x_lload hK kX8_widen_110 (q := 112) rfl rfl ?_
              refine x_bipush hK kX8_widen_112 (q := 114) rfl (by decide) ?_
              refine x_lshr hK kX8_widen_114 (q := 115) rfl ?_
              rw [s31 ⟨by omega, by omega⟩]
              refine x_lstore_n hK kX8_widen_115 (q := 116) (jn := 3) rfl rfl ?_
              simp only [lS, lS2, clr_0, clr_I, clr_L, clr_R]
              rw [uA_g, uA_u]
              refine x_iinc hK kX8_widen_116 (q := 119) rfl rfl ?_
              simp only [lS, lS2, clr_0, clr_I, clr_L, clr_R]
              refine x_goto hK kX8_widen_119 (tg := 28) rfl ?_
              first | exact x_to (stp _ _ _) rfl rfl rfl | (rw [z2] at stp; exact x_to (stp _ _ _) rfl rfl rfl) | (rw [z1] at stp; exact x_to (stp _ _ _) rfl rfl rfl) | (rw [z1, z2] at stp; exact x_to (stp _ _ _) rfl rfl rfl)
            · refine x_aload_n hK kX8_widen_73 (q := 74) rfl rfl ?_
              refine x_getfield hK kX8_widen_74 (q := 77) rfl (gX8_9 ?_)
              refine x_iload hK kX8_widen_77 (q := 79) rfl rfl ?_
              refine x_iaload hK kX8_widen_79 (q := 80) rfl (aC7_0 (by refine ⟨?_, ?_⟩ <;> omega) ?_)
              rw [at_, ← gx_a (f := W j) (n := m) (show (i : Int) < m by omega)]
              refine x_i2l hK kX8_widen_80 (q := 81) rfl (by omega) ?_
              refine x_goto hK kX8_widen_81 (tg := 85) rfl ?_
              refine x_lstore hK kX8_widen_85 (q := 87) rfl ?_
              refine x_lload hK kX8_widen_87 (q := 89) rfl rfl ?_
              refine x_lload hK kX8_widen_89 (q := 91) rfl rfl ?_
              refine x_ladd hK kX8_widen_91 (q := 92) rfl ?_
              refine x_lload_n hK kX8_widen_92 (q := 93) rfl rfl ?_
              refine x_ladd hK kX8_widen_93 (q := 94) rfl ?_
              refine x_lstore hK kX8_widen_94 (q := 96) rfl ?_
              refine x_aload_n hK kX8_widen_96 (q := 97) rfl rfl ?_
              refine x_getfield hK kX8_widen_97 (q := 100) rfl (gX8_9 ?_)
              refine x_iload hK kX8_widen_100 (q := 102) rfl rfl ?_
              refine x_lload hK kX8_widen_102 (q := 104) rfl rfl ?_
              refine x_ldc2_w hK kX8_widen_104 (q := 107) rfl lc2_RX8_37 ?_
              refine x_land hK kX8_widen_107 (q := 108) rfl ?_
              simp only [lS, lS2, clr_0, clr_I, clr_L, clr_R]
              rw [m31]
              refine x_l2i hK kX8_widen_108 (q := 109) rfl ?_
              refine x_iastore hK kX8_widen_109 (q := 110) rfl (yC7_0 (by refine ⟨?_, ?_⟩ <;> omega) ?_)
              refine x_lload hK kX8_widen_110 (q := 112) rfl rfl ?_
              refine x_bipush hK kX8_widen_112 (q := 114) rfl (by decide) ?_
              refine x_lshr hK kX8_widen_114 (q := 115) rfl ?_
              rw [s31 ⟨by omega, by omega⟩]
              refine x_lstore_n hK kX8_widen_115 (q := 116) (jn := 3) rfl rfl ?_
              simp only [lS, lS2, clr_0, clr_I, clr_L, clr_R]
              rw [uA_g, uA_u]
              refine x_iinc hK kX8_widen_116 (q := 119) rfl rfl ?_
              simp only [lS, lS2, clr_0, clr_I, clr_L, clr_R]
              refine x_goto hK kX8_widen_119 (tg := 28) rfl ?_
              first | exact x_to (stp _ _ _) rfl rfl rfl | (rw [z2] at stp; exact x_to (stp _ _ _) rfl rfl rfl) | (rw [z1] at stp; exact x_to (stp _ _ _) rfl rfl rfl) | (rw [z1, z2] at stp; exact x_to (stp _ _ _) rfl rfl rfl)
  simp only [eLoc, eE, List.length_cons, List.length_nil, List.replicate, List.cons_append, List.nil_append, Nat.reduceAdd, Nat.reduceSub]
  refine x_aload_n hK kX8_widen_0 (q := 1) rfl rfl ?_
  refine x_getfield hK kX8_widen_1 (q := 4) rfl (gX8_13 ?_)
  refine x_aload_n hK kX8_widen_4 (q := 5) rfl rfl ?_
  refine x_getfield hK kX8_widen_5 (q := 8) rfl (gX8_13 ?_)
  refine x_icmp_ge hK kX8_widen_8 (q := 11) rfl (tg := 18) rfl (by refine ⟨⟨by omega, by omega⟩, ⟨by omega, by omega⟩⟩) (fun c8 => ?_) (fun c8 => ?_)
  · refine x_aload_n hK kX8_widen_18 (q := 19) rfl rfl ?_
    refine x_getfield hK kX8_widen_19 (q := 22) rfl (gX8_13 ?_)
    refine x_istore_n hK kX8_widen_22 (q := 23) (jn := 2) rfl rfl ?_
    refine x_lconst0 hK kX8_widen_23 (q := 24) rfl ?_
    refine x_lstore_n hK kX8_widen_24 (q := 25) (jn := 3) rfl rfl ?_
    refine x_iconst hK kX8_widen_25 (q := 26) rfl ?_
    refine x_istore hK kX8_widen_26 (q := 28) rfl ?_
    simp only [lS, lS2, clr_0, clr_I, clr_L, clr_R]
    refine x_to (loop L 0 (W k) 0 none none none none none none (by omega) (fun t ht => rfl) (fun i hi => absurd hi (by omega)) (Or.inl rfl) ?_) ?_ rfl (by rw [uA_s])
    · rfl
    · rw [show (L : Int) = max (n : Int) m by omega]
      first | rw [b', show max (n : Int) (m : Int) = m by omega] | rw [b, show max (n : Int) (m : Int) = n by omega]
      rfl
  · refine x_aload_n hK kX8_widen_11 (q := 12) rfl rfl ?_
    refine x_getfield hK kX8_widen_12 (q := 15) rfl (gX8_13 ?_)
    refine x_goto hK kX8_widen_15 (tg := 22) rfl ?_
    refine x_istore_n hK kX8_widen_22 (q := 23) (jn := 2) rfl rfl ?_
    refine x_lconst0 hK kX8_widen_23 (q := 24) rfl ?_
    refine x_lstore_n hK kX8_widen_24 (q := 25) (jn := 3) rfl rfl ?_
    refine x_iconst hK kX8_widen_25 (q := 26) rfl ?_
    refine x_istore hK kX8_widen_26 (q := 28) rfl ?_
    simp only [lS, lS2, clr_0, clr_I, clr_L, clr_R]
    refine x_to (loop L 0 (W k) 0 none none none none none none (by omega) (fun t ht => rfl) (fun i hi => absurd hi (by omega)) (Or.inl rfl) ?_) ?_ rfl (by rw [uA_s])
    · rfl
    · rw [show (L : Int) = max (n : Int) m by omega]
      first | rw [b', show max (n : Int) (m : Int) = m by omega] | rw [b, show max (n : Int) (m : Int) = n by omega]
      rfl
set_option maxRecDepth 20000 in
theorem mX8_widen : eMet yX8_widen cX8_widen 12 none 0 0 SX8_widen := eMet_of (by decide +kernel) sX8_widen kX8_widen_ok caX8_widen tb_RX8
theorem wX8_widen : eWV yX8_widen cX8_widen 12 none 2 7 SX8_widen := ⟨(gW_at 543 (by decide +kernel) rfl), (gW_at 82 (by decide +kernel) rfl), (gW_at 542 (by decide +kernel) rfl), ⟨_, rfl, (gW_at 13 (by decide +kernel) rfl)⟩, by decide +kernel, SX8_widen_r⟩
