/-! The algebra: build on the machine. -/
/-- the place of the leading number of a product -/
def ldC (st : Int → Int) (of j : Nat) : Nat := rb (prP (st j) of).toNat + (prP (st j) of).toNat
/-- the room that build asks -/
def bdQ (V : Nat → Int) (L st : Int → Int) (f : Nat → Int) (n : Nat) : Prop :=
  (∃ Δ : Int, (0 < Δ ∧ Δ ≤ 2 ^ 400) ∧ ∀ of : Nat, of < 2 → ∀ j : Nat, j < n → ldb L (prP (st j) of) = true → 0 < V (ldC st of j) ∧ V (ldC st of j) ∣ Δ) ∧
  (∀ of : Nat, of < 2 → ∀ j : Nat, j < n → ldb L (prP (st j) of) = true → ldC st of j < 120 ∧ V (ldC st of j) ∣ scl V L st n ∧ ∀ i : Nat, i < n → rb (prP (st j) of).toNat + (st i).toNat < 120 ∧ zAbs (V (rb (prP (st j) of).toNat + (st i).toNat)) ≤ 2 ^ 400) ∧
  zAbs (scl V L st n) ≤ 2 ^ 400 ∧
  (∃ m : Nat, xyB (bv2 V L st n) n m ∧ 2 * m + 12 ≤ 930) ∧
  (∃ a b : Nat, (∀ k j, k < n → j < n → zAbs (bv4 V L st f n (gb (3 + k) + (4 * j + j))) ≤ 2 ^ a) ∧ (∀ i j, i < n → j < n → zAbs (bv4 V L st f n (gb 2 + (4 * i + j))) ≤ 2 ^ b) ∧ a + 2 * b + 8 ≤ 930) ∧
  (∀ e, e < 3 → ∃ a b m : Nat, (∀ k, k < n → zAbs (bv6 V L st f n e (rb (11 + e) + k)) ≤ 2 ^ a) ∧ (∀ i k j, i < n → k < n → j < n → zAbs (bv6 V L st f n e (gb (3 + i) + (4 * k + j))) ≤ 2 ^ b) ∧ a + b + 2 ≤ 930 ∧ zAbs (bv6 V L st f n e 329) ≤ 2 ^ m ∧ 5 * m ≤ 930) ∧
  (∀ e, e < 3 → (∀ i, i < 16 → zAbs (bv6 V L st f n (e + 1) (gb (7 + e) + i)) ≤ 2 ^ 930) ∧ ∃ m : Nat, okS n m ∧ ∀ a b, a < 4 → b < 4 → zAbs (msS (bv6 V L st f n (e + 1)) (7 + e) a b) ≤ 2 ^ m)
theorem bv_o (V : Nat → Int) (L st : Int → Int) (n : Nat) {t : Nat} (h : t < 120) : bv0 V L st n t = V t ∧ bv1 V L st n t = V t := by
  have e0 : bv0 V L st n t = V t := by
    unfold bv0
    rw [vU_n _ _ (by omega), vU_n _ _ (by omega)]
  refine ⟨e0, ?_⟩
  unfold bv1 mvV
  have : gb 0 = 141 := rfl
  rw [vU_n _ _ (by omega), vG8_o _ _ (by omega), e0]
theorem bv_8 (V : Nat → Int) (L st : Int → Int) (n : Nat) : bv0 V L st n 328 = scl V L st n ∧ bv1 V L st n 328 = scl V L st n := by
  have e0 : bv0 V L st n 328 = scl V L st n := by
    unfold bv0
    rw [vU_n _ _ (by omega), vU_s]
  refine ⟨e0, ?_⟩
  unfold bv1 mvV
  have : gb 0 = 141 := rfl
  rw [vU_n _ _ (by omega), vG8_o _ _ (by omega), e0]
theorem bv_3 {V : Nat → Int} {L st : Int → Int} {n m : Nat} (n4 : n ≤ 4) (h : xyB (bv2 V L st n) n m) : xyB (bv3 V L st n) n m := by
  have o : ∀ t, (t < gb 3 ∨ gb 7 ≤ t) → bv3 V L st n t = bv2 V L st n t := fun t ht => msF_o ht n n4
  have e3 : gb 3 = 192 := rfl
  have e7 : gb 7 = 260 := rfl
  refine ⟨fun g hg i j hi hj => ?_, ?_, ?_, h.2.2.2⟩
  · rw [o _ (by unfold gb; omega)]
    exact h.1 g hg i j hi hj
  · rw [o _ (by omega)]
    exact h.2.1
  · rw [o _ (by omega)]
    exact h.2.2.1
theorem uF_67 (F : Nat → Int) (a b x y : Int) : uF (uF (uF (uF F 6 a) 7 b) 6 x) 7 y = uF (uF F 6 x) 7 y := by
  funext j
  unfold uF
  by_cases e7 : j = 7
  · simp [e7]
  · by_cases e6 : j = 6
    · simp [e7, e6]
    · simp [e7, e6]
theorem uF_00 (F : Nat → Int) : uF (uF F 6 (F 6)) 7 (F 7) = F := by
  funext j
  unfold uF
  by_cases e7 : j = 7
  · simp [e7]
  · by_cases e6 : j = 6
    · simp [e7, e6]
    · simp [e7, e6]
theorem uA_56 (A : Nat → Int → Int) (a b c x y z : Int → Int) : uA (uA (uA (uA (uA (uA A 7 a) 5 b) 6 c) 7 x) 5 y) 6 z = uA (uA (uA A 7 x) 5 y) 6 z := by
  funext j
  unfold uA
  by_cases e7 : j = 7
  · simp [e7]
  · by_cases e6 : j = 6
    · simp [e7, e6]
    · by_cases e5 : j = 5
      · simp [e5]
      · simp [e7, e6, e5]
theorem uA_00 (A : Nat → Int → Int) : uA (uA (uA A 7 (A 7)) 5 (A 5)) 6 (A 6) = A := by
  funext j
  unfold uA
  by_cases e7 : j = 7
  · simp [e7]
  · by_cases e6 : j = 6
    · simp [e7, e6]
    · by_cases e5 : j = 5
      · simp [e5]
      · simp [e7, e6, e5]
def SX0_build : eSp := fun as M rt => ∃ (F : Nat → Int) (A W : Nat → Int → Int) (V : Nat → Int) (st : Int → Int) (p n : Nat), as = [eR (1, 4), eR (1, 3), eR (1, p)] ∧ M = cC F A W ∧ (aR W V) ∧ (p < 2) ∧ (∀ i : Int, 0 ≤ i → i < 10 → A 2 i = 0 ∨ A 2 i = 1) ∧ (chG (A 2) (A 4) 6 = (st, (n : Int))) ∧ (n ≤ 4) ∧ (∀ j : Nat, j < n → 0 ≤ st j ∧ st j < 6) ∧ (∀ i : Int, 24 ≤ i → i < 30 → -5 ≤ A p i ∧ A p i ≤ 5) ∧ (bdQ V (A 2) st (fun c => A p (24 + (c : Int))) n) ∧ (∀ (br ba : Nat → Int) (V' : Nat → Int) (W' : Nat → Int → Int) (z6 z7 : Int) (O f5 f6 : Int → Int), (∀ e, e < 3 → mzT n (bv6 V (A 2) st (fun c => A p (24 + (c : Int))) n (e + 1)) (7 + e) (br e) (ba e) ∧ f5 e = br e ∧ f6 e = ba e) → aR W' V' → kpE (bv6 V (A 2) st (fun c => A p (24 + (c : Int))) n 3) V' → rt none (cC (uF (uF (uF F 5 n) 6 z6) 7 z7) (uA (uA (uA (uA A 4 st) 7 O) 5 f5) 6 f6) W'))
theorem SX0_build_i {F : Nat → Int} {A W : Nat → Int → Int} {V : Nat → Int} {st : Int → Int} {p n : Nat} {rt : Option eV → eM → Prop} (hV : aR W V) (hp : p < 2) (hL : ∀ i : Int, 0 ≤ i → i < 10 → A 2 i = 0 ∨ A 2 i = 1) (hc : chG (A 2) (A 4) 6 = (st, (n : Int))) (n4 : n ≤ 4) (hst : ∀ j : Nat, j < n → 0 ≤ st j ∧ st j < 6) (hA : ∀ i : Int, 24 ≤ i → i < 30 → -5 ≤ A p i ∧ A p i ≤ 5) (hB : bdQ V (A 2) st (fun c => A p (24 + (c : Int))) n) (h : ∀ (br ba : Nat → Int) (V' : Nat → Int) (W' : Nat → Int → Int) (z6 z7 : Int) (O f5 f6 : Int → Int), (∀ e, e < 3 → mzT n (bv6 V (A 2) st (fun c => A p (24 + (c : Int))) n (e + 1)) (7 + e) (br e) (ba e) ∧ f5 e = br e ∧ f6 e = ba e) → aR W' V' → kpE (bv6 V (A 2) st (fun c => A p (24 + (c : Int))) n 3) V' → rt none (cC (uF (uF (uF F 5 n) 6 z6) 7 z7) (uA (uA (uA (uA A 4 st) 7 O) 5 f5) 6 f6) W')) : SX0_build [eR (1, 4), eR (1, 3), eR (1, p)] (cC F A W) rt := ⟨F, A, W, V, st, p, n, rfl, rfl, hV, hp, hL, hc, n4, hst, hA, hB, h⟩
theorem SX0_build_r : ∀ as M rt, SX0_build as M rt → ∃ a r fs, as = eR a :: r ∧ M a = some (.inl (0, fs)) := by
  rintro as M rt ⟨F, A, W, V, st, p, n, rfl, rfl, -⟩
  exact ⟨_, _, _, rfl, rfl⟩
def kX0_build : List (Nat × Jvm.ClassFile.Instr × Nat) := [(0, .aload_n 0, 1), (1, .aload_n 1, 1), (2, .invokevirtual 77, 3), (5, .aload_n 0, 1), (6, .aload_n 1, 1), (7, .invokevirtual 81, 3), (10, .aload_n 0, 1), (11, .aload_n 1, 1), (12, .iconst 0, 1), (13, .invokevirtual 84, 3), (16, .aload_n 0, 1), (17, .aload_n 1, 1), (18, .iconst 1, 1), (19, .invokevirtual 84, 3), (22, .aload_n 0, 1), (23, .invokevirtual 88, 3), (26, .aload_n 0, 1), (27, .aload_n 2, 1), (28, .invokevirtual 91, 3), (31, .aload_n 0, 1), (32, .invokevirtual 95, 3), (35, .iconst 0, 1), (36, .istore_n 3, 1), (37, .iload_n 3, 1), (38, .iconst 3, 1), (39, .if_icmp .ge 57, 3), (42, .aload_n 0, 1), (43, .iload_n 3, 1), (44, .invokevirtual 98, 3), (47, .aload_n 0, 1), (48, .getfield 72, 3), (51, .aload_n 0, 1), (52, .getfield 28, 3), (55, .iload_n 3, 1), (56, .aaload, 1), (57, .aload_n 0, 1), (58, .getfield 17, 3), (61, .invokevirtual 101, 3), (64, .aload_n 0, 1), (65, .getfield 57, 3), (68, .iload_n 3, 1), (69, .aload_n 0, 1), (70, .getfield 72, 3), (73, .getfield 105, 3), (76, .iastore, 1), (77, .aload_n 0, 1), (78, .getfield 60, 3), (81, .iload_n 3, 1), (82, .aload_n 0, 1), (83, .getfield 72, 3), (86, .getfield 108, 3), (89, .iastore, 1), (90, .iinc 3 1, 3), (93, .goto (-56), 3), (96, .return_, 1)]
theorem kX0_build_0 : cdOf kX0_build 0 = some (.aload_n 0, 1) := by decide +kernel
theorem kX0_build_1 : cdOf kX0_build 1 = some (.aload_n 1, 1) := by decide +kernel
theorem kX0_build_2 : cdOf kX0_build 2 = some (.invokevirtual 77, 3) := by decide +kernel
theorem kX0_build_5 : cdOf kX0_build 5 = some (.aload_n 0, 1) := by decide +kernel
theorem kX0_build_6 : cdOf kX0_build 6 = some (.aload_n 1, 1) := by decide +kernel
theorem kX0_build_7 : cdOf kX0_build 7 = some (.invokevirtual 81, 3) := by decide +kernel
theorem kX0_build_10 : cdOf kX0_build 10 = some (.aload_n 0, 1) := by decide +kernel
theorem kX0_build_11 : cdOf kX0_build 11 = some (.aload_n 1, 1) := by decide +kernel
theorem kX0_build_12 : cdOf kX0_build 12 = some (.iconst 0, 1) := by decide +kernel
theorem kX0_build_13 : cdOf kX0_build 13 = some (.invokevirtual 84, 3) := by decide +kernel
theorem kX0_build_16 : cdOf kX0_build 16 = some (.aload_n 0, 1) := by decide +kernel
theorem kX0_build_17 : cdOf kX0_build 17 = some (.aload_n 1, 1) := by decide +kernel
theorem kX0_build_18 : cdOf kX0_build 18 = some (.iconst 1, 1) := by decide +kernel
theorem kX0_build_19 : cdOf kX0_build 19 = some (.invokevirtual 84, 3) := by decide +kernel
theorem kX0_build_22 : cdOf kX0_build 22 = some (.aload_n 0, 1) := by decide +kernel
theorem kX0_build_23 : cdOf kX0_build 23 = some (.invokevirtual 88, 3) := by decide +kernel
theorem kX0_build_26 : cdOf kX0_build 26 = some (.aload_n 0, 1) := by decide +kernel
theorem kX0_build_27 : cdOf kX0_build 27 = some (.aload_n 2, 1) := by decide +kernel
theorem kX0_build_28 : cdOf kX0_build 28 = some (.invokevirtual 91, 3) := by decide +kernel
theorem kX0_build_31 : cdOf kX0_build 31 = some (.aload_n 0, 1) := by decide +kernel
theorem kX0_build_32 : cdOf kX0_build 32 = some (.invokevirtual 95, 3) := by decide +kernel
theorem kX0_build_35 : cdOf kX0_build 35 = some (.iconst 0, 1) := by decide +kernel
theorem kX0_build_36 : cdOf kX0_build 36 = some (.istore_n 3, 1) := by decide +kernel
theorem kX0_build_37 : cdOf kX0_build 37 = some (.iload_n 3, 1) := by decide +kernel
theorem kX0_build_38 : cdOf kX0_build 38 = some (.iconst 3, 1) := by decide +kernel
theorem kX0_build_39 : cdOf kX0_build 39 = some (.if_icmp .ge 57, 3) := by decide +kernel
theorem kX0_build_42 : cdOf kX0_build 42 = some (.aload_n 0, 1) := by decide +kernel
theorem kX0_build_43 : cdOf kX0_build 43 = some (.iload_n 3, 1) := by decide +kernel
theorem kX0_build_44 : cdOf kX0_build 44 = some (.invokevirtual 98, 3) := by decide +kernel
theorem kX0_build_47 : cdOf kX0_build 47 = some (.aload_n 0, 1) := by decide +kernel
theorem kX0_build_48 : cdOf kX0_build 48 = some (.getfield 72, 3) := by decide +kernel
theorem kX0_build_51 : cdOf kX0_build 51 = some (.aload_n 0, 1) := by decide +kernel
theorem kX0_build_52 : cdOf kX0_build 52 = some (.getfield 28, 3) := by decide +kernel
theorem kX0_build_55 : cdOf kX0_build 55 = some (.iload_n 3, 1) := by decide +kernel
theorem kX0_build_56 : cdOf kX0_build 56 = some (.aaload, 1) := by decide +kernel
theorem kX0_build_57 : cdOf kX0_build 57 = some (.aload_n 0, 1) := by decide +kernel
theorem kX0_build_58 : cdOf kX0_build 58 = some (.getfield 17, 3) := by decide +kernel
theorem kX0_build_61 : cdOf kX0_build 61 = some (.invokevirtual 101, 3) := by decide +kernel
theorem kX0_build_64 : cdOf kX0_build 64 = some (.aload_n 0, 1) := by decide +kernel
theorem kX0_build_65 : cdOf kX0_build 65 = some (.getfield 57, 3) := by decide +kernel
theorem kX0_build_68 : cdOf kX0_build 68 = some (.iload_n 3, 1) := by decide +kernel
theorem kX0_build_69 : cdOf kX0_build 69 = some (.aload_n 0, 1) := by decide +kernel
theorem kX0_build_70 : cdOf kX0_build 70 = some (.getfield 72, 3) := by decide +kernel
theorem kX0_build_73 : cdOf kX0_build 73 = some (.getfield 105, 3) := by decide +kernel
theorem kX0_build_76 : cdOf kX0_build 76 = some (.iastore, 1) := by decide +kernel
theorem kX0_build_77 : cdOf kX0_build 77 = some (.aload_n 0, 1) := by decide +kernel
theorem kX0_build_78 : cdOf kX0_build 78 = some (.getfield 60, 3) := by decide +kernel
theorem kX0_build_81 : cdOf kX0_build 81 = some (.iload_n 3, 1) := by decide +kernel
theorem kX0_build_82 : cdOf kX0_build 82 = some (.aload_n 0, 1) := by decide +kernel
theorem kX0_build_83 : cdOf kX0_build 83 = some (.getfield 72, 3) := by decide +kernel
theorem kX0_build_86 : cdOf kX0_build 86 = some (.getfield 108, 3) := by decide +kernel
theorem kX0_build_89 : cdOf kX0_build 89 = some (.iastore, 1) := by decide +kernel
theorem kX0_build_90 : cdOf kX0_build 90 = some (.iinc 3 1, 3) := by decide +kernel
theorem kX0_build_93 : cdOf kX0_build 93 = some (.goto (-56), 3) := by decide +kernel
theorem kX0_build_96 : cdOf kX0_build 96 = some (.return_, 1) := by decide +kernel
set_option maxRecDepth 20000 in
theorem kX0_build_ok : ∀ pc i len, cdOf kX0_build pc = some (i, len) → decode cX0_build pc = .ok (i, len) ∧ stOK 4 i = true ∧ jOK pc i = true ∧ eLen i len = true := cdOf_ok cX0_build 4 kX0_build (by decide +kernel)
def vtX0_build : Nat → Option (Nat × eSp) := fun k => match k with
  | 77 => some (2, SX0_choose)
  | 81 => some (2, SX0_findScale)
  | 84 => some (3, SX0_multiplyByVariable)
  | 88 => some (1, SX0_multiplyByStandard)
  | 91 => some (2, SX0_multiplyByQuery)
  | 95 => some (1, SX0_weigh)
  | 98 => some (2, SX0_fillTrace)
  | 101 => some (3, SX4_measure)
  | _ => none
theorem vtX0_build_77 : vtX0_build 77 = some (2, SX0_choose) := rfl
theorem vtX0_build_81 : vtX0_build 81 = some (2, SX0_findScale) := rfl
theorem vtX0_build_84 : vtX0_build 84 = some (3, SX0_multiplyByVariable) := rfl
theorem vtX0_build_88 : vtX0_build 88 = some (1, SX0_multiplyByStandard) := rfl
theorem vtX0_build_91 : vtX0_build 91 = some (2, SX0_multiplyByQuery) := rfl
theorem vtX0_build_95 : vtX0_build 95 = some (1, SX0_weigh) := rfl
theorem vtX0_build_98 : vtX0_build 98 = some (2, SX0_fillTrace) := rfl
theorem vtX0_build_101 : vtX0_build 101 = some (3, SX4_measure) := rfl
def stX0_build : Nat → Option (Nat × eSp) := fun _ => none
abbrev TX0_build : eT := (fl_RX0, cl_RX0, dl_RX0, vtX0_build, stX0_build)
set_option maxRecDepth 20000 in
theorem caX0_build : eCalls RX0 { frames := 6, cells := 0, slots := 0, locals := 153 } TX0_build := by
  refine ⟨fun k n sp h => ?_, fun k n sp h => ?_⟩
  · dsimp only [TX0_build] at h
    unfold vtX0_build at h
    split at h
    · cases h; exact eV_mk mX0_choose wX0_choose (by decide +kernel) (Or.inl (gW_at 596 (by decide +kernel) rfl))
    · cases h; exact eV_mk mX0_findScale wX0_findScale (by decide +kernel) (Or.inl (gW_at 601 (by decide +kernel) rfl))
    · cases h; exact eV_mk mX0_multiplyByVariable wX0_multiplyByVariable (by decide +kernel) (Or.inl (gW_at 629 (by decide +kernel) rfl))
    · cases h; exact eV_mk mX0_multiplyByStandard wX0_multiplyByStandard (by decide +kernel) (Or.inl (gW_at 647 (by decide +kernel) rfl))
    · cases h; exact eV_mk mX0_multiplyByQuery wX0_multiplyByQuery (by decide +kernel) (Or.inl (gW_at 669 (by decide +kernel) rfl))
    · cases h; exact eV_mk mX0_weigh wX0_weigh (by decide +kernel) (Or.inl (gW_at 674 (by decide +kernel) rfl))
    · cases h; exact eV_mk mX0_fillTrace wX0_fillTrace (by decide +kernel) (Or.inl (gW_at 679 (by decide +kernel) rfl))
    · cases h; exact eV_mk mX4_measure wX4_measure (by decide +kernel) (Or.inl (gW_at 684 (by decide +kernel) rfl))
    · cases h
  · cases h
set_option maxRecDepth 100000 in
set_option maxHeartbeats 4000000 in
theorem sX0_build : eSafe TX0_build (cdOf kX0_build) 4 none SX0_build := by
  intro K rt hK as M h
  obtain ⟨F, A, W, V, st, p, n, rfl, rfl, hV, hp, hL, hc, n4, hst, hA, hB, h⟩ := h
  refine ⟨by simp [eE], ?_⟩
  obtain ⟨⟨Δ, hΔ, hd⟩, hm1, hs, ⟨m, hx, hx2⟩, ⟨a, b, wa, wb, wab⟩, ft, ms⟩ := hB
  have c1 : (chG (A 2) (A 4) 6).1 = st := by rw [hc]
  have c2 : (chG (A 2) (A 4) 6).2 = n := by rw [hc]
  have a4 : uA A 4 st 4 = st := uA_g _ _ _
  have a2 : uA A 4 st 2 = A 2 := uA_n _ _ (by decide)
  have ap : uA A 4 st p = A p := uA_n _ _ (by omega)
  have f5 : uF F 5 n 5 = n := uF_g _ _ _
  have p1 : p = 0 ∨ p = 1 := by omega
  have dm : ∀ X : Nat → Int, (∀ t, t < 120 → X t = V t) → X 328 = scl V (A 2) st n → ∀ of : Nat, of < 2 → ∀ j : Nat, j < n → ldb (A 2) (prP (st j) of) = true → 0 < X (rb (prP (st j) of).toNat + (prP (st j) of).toNat) ∧ X (rb (prP (st j) of).toNat + (prP (st j) of).toNat) ∣ X 328 ∧ ∀ i : Nat, i < n → zAbs (X (rb (prP (st j) of).toNat + (st i).toNat)) ≤ 2 ^ 400 := fun X hX h8 of ho j hj hl => by
    obtain ⟨q1, q2, q3⟩ := hm1 of ho j hj hl
    have q4 := (hd of ho j hj hl).1
    unfold ldC at q1 q2 q4
    refine ⟨by rw [hX _ q1]; exact q4, by rw [hX _ q1, h8]; exact q2, fun i hi => ?_⟩
    rw [hX _ (q3 i hi).1]
    exact (q3 i hi).2
  have loop : ∀ (d e : Nat) (V1 : Nat → Int) (W1 : Nat → Int → Int) (br ba : Nat → Int) (z6 z7 : Int) (O g5 g6 : Int → Int), e + d = 3 → (∀ e', e' < e → mzT n (bv6 V (A 2) st (fun c => A p (24 + (c : Int))) n (e' + 1)) (7 + e') (br e') (ba e') ∧ g5 e' = br e' ∧ g6 e' = ba e') → aR W1 V1 → kpE (bv6 V (A 2) st (fun c => A p (24 + (c : Int))) n e) V1 → K 37 [some (eR (1, 4)), some (eR (1, 3)), some (eR (1, p)), some (eI e)] [] (cC (uF (uF (uF F 5 n) 6 z6) 7 z7) (uA (uA (uA (uA A 4 st) 7 O) 5 g5) 6 g6) W1) := by
    intro d
    induction d with
    | zero =>
      intro e V1 W1 br ba z6 z7 O g5 g6 he hz h1 hk
      have : e = 3 := by omega
      subst this
      refine x_iload_n hK kX0_build_37 (q := 38) rfl rfl ?_
      refine x_iconst hK kX0_build_38 (q := 39) rfl ?_
      refine x_icmp_ge hK kX0_build_39 (q := 42) rfl (tg := 96) rfl (by refine ⟨?_, ?_⟩ <;> omega) (fun c39 => ?_) (fun c39 => ?_)
      · refine x_return_ hK kX0_build_96 (by first | trivial | exact Or.inl rfl | exact Or.inr rfl) ?_
        exact h br ba V1 W1 z6 z7 O g5 g6 hz h1 hk
      · exfalso; omega
    | succ d ih =>
      intro e V1 W1 br ba z6 z7 O g5 g6 he hz h1 hk
      have e3 : e < 3 := by omega
      obtain ⟨a, b, m, fa, fb, fab, fm, fm5⟩ := ft e e3
      obtain ⟨mb, m2, mo, mS⟩ := ms e e3
      have F5 : uF (uF (uF F 5 n) 6 z6) 7 z7 5 = n := by rw [uF_n _ _ (by decide), uF_n _ _ (by decide), uF_g]
      have r1 : rb (11 + e) = 121 + 4 * e := by
        have he' : e = 0 ∨ e = 1 ∨ e = 2 := by omega
        rcases he' with rfl | rfl | rfl <;> rfl
      have kk := ft_k hk n4 e3
      have g7 : gb (7 + e) = 141 + 17 * (7 + e) := rfl
      have k17 : ∀ i, i < 17 → ftX V1 e n (gb (7 + e) + i) = bv6 V (A 2) st (fun c => A p (24 + (c : Int))) n (e + 1) (gb (7 + e) + i) := fun i hi => kk _ (by unfold kp; omega)
      have ecG : cG (fun i => ftX V1 e n (gb (7 + e) + i)) 16 = cG (fun i => bv6 V (A 2) st (fun c => A p (24 + (c : Int))) n (e + 1) (gb (7 + e) + i)) 16 := cG_c 16 (fun i hi => k17 i (by omega))
      refine x_iload_n hK kX0_build_37 (q := 38) rfl rfl ?_
      refine x_iconst hK kX0_build_38 (q := 39) rfl ?_
      refine x_icmp_ge hK kX0_build_39 (q := 42) rfl (tg := 96) rfl (by refine ⟨?_, ?_⟩ <;> omega) (fun c39 => ?_) (fun c39 => ?_)
      · exfalso; omega
      · refine x_aload_n hK kX0_build_42 (q := 43) rfl rfl ?_
        refine x_iload_n hK kX0_build_43 (q := 44) rfl rfl ?_
        refine x_cv2 hK kX0_build_44 (q := 47) rfl (vtX0_build_98) (Nat.le_of_ble_eq_true rfl) ?_
        refine SX0_fillTrace_i (a := a) (b := b) (m := m) h1 F5 n4 e3 (fun k hk' => by rw [hk _ (by unfold kp; omega)]; exact fa k hk') (fun i k j hi hk' hj => by rw [hk _ (by unfold kp gb; omega)]; exact fb i k j hi hk' hj) fab (by rw [hk _ (by unfold kp; omega)]; exact fm) fm5 (fun W2 h2 => ?_)
        refine x_aload_n hK kX0_build_47 (q := 48) rfl rfl ?_
        refine x_getfield hK kX0_build_48 (q := 51) rfl (gX0_72 ?_)
        refine x_aload_n hK kX0_build_51 (q := 52) rfl rfl ?_
        refine x_getfield hK kX0_build_52 (q := 55) rfl (gX0_28 ?_)
        refine x_iload_n hK kX0_build_55 (q := 56) rfl rfl ?_
        refine x_aaload hK kX0_build_56 (q := 57) rfl (aC0_6 (by omega) ?_)
        refine x_aload_n hK kX0_build_57 (q := 58) rfl rfl ?_
        refine x_getfield hK kX0_build_58 (q := 61) rfl (gX0_17 ?_)
        rw [F5]
        refine x_cv3 hK kX0_build_61 (q := 64) rfl (vtX0_build_101) (Nat.le_of_ble_eq_true rfl) ?_
        refine SX4_measure_i (g := 7 + e) (n := n) (m := m2) h2 (by omega) n4 (fun i hi => by rw [k17 i (by omega)]; exact mb i hi) (fun a b ha hb' => ?_) mo (fun x y W3 O' S' p' c' hz2 h3 => ?_)
        · have := mS a b ha hb'
          unfold msS at this ⊢
          rw [ecG, k17 (4 * a + b) (by omega)]
          exact this
        refine x_aload_n hK kX0_build_64 (q := 65) rfl rfl ?_
        refine x_getfield hK kX0_build_65 (q := 68) rfl (gX0_57 ?_)
        refine x_iload_n hK kX0_build_68 (q := 69) rfl rfl ?_
        refine x_aload_n hK kX0_build_69 (q := 70) rfl rfl ?_
        refine x_getfield hK kX0_build_70 (q := 73) rfl (gX0_72 ?_)
        refine x_getfield hK kX0_build_73 (q := 76) rfl (gX0_105 ?_)
        refine x_iastore hK kX0_build_76 (q := 77) rfl (yC0_12 (by refine ⟨?_, ?_⟩ <;> omega) ?_)
        refine x_aload_n hK kX0_build_77 (q := 78) rfl rfl ?_
        refine x_getfield hK kX0_build_78 (q := 81) rfl (gX0_60 ?_)
        refine x_iload_n hK kX0_build_81 (q := 82) rfl rfl ?_
        refine x_aload_n hK kX0_build_82 (q := 83) rfl rfl ?_
        refine x_getfield hK kX0_build_83 (q := 86) rfl (gX0_72 ?_)
        refine x_getfield hK kX0_build_86 (q := 89) rfl (gX0_108 ?_)
        refine x_iastore hK kX0_build_89 (q := 90) rfl (yC0_13 (by refine ⟨?_, ?_⟩ <;> omega) ?_)
        refine x_iinc hK kX0_build_90 (q := 93) rfl rfl ?_
        simp only [lS, lS2, clr_0, clr_I, clr_L, clr_R]
        refine x_goto hK kX0_build_93 (tg := 37) rfl ?_
        rw [show (e : Int) + 1 = ((e + 1 : Nat) : Int) by omega]
        have k3 : kpE (bv6 V (A 2) st (fun c => A p (24 + (c : Int))) n (e + 1)) (inV (vU (ftX V1 e n) 327 (ftX V1 e n (gb (7 + e) + 16))) S' p' c') := fun t ht => by
          have ht' := ht
          unfold kp at ht'
          unfold inV
          rw [if_neg (by omega), if_neg (by omega), if_neg (by omega), vU_n _ _ (by omega)]
          exact kk t ht
        refine x_to (ih (e + 1) _ W3 (fun i => if i = e then x else br i) (fun i => if i = e then y else ba i) x y O' (uI g5 e x) (uI g6 e y) (by omega) (fun e' he' => ?_) h3 k3) rfl rfl ?_
        · rcases Decidable.em (e' = e) with q | q
          · rw [q, if_pos rfl, if_pos rfl, uI_s, uI_s]
            exact ⟨⟨_, ftX V1 e n, k17, hz2⟩, rfl, rfl⟩
          · rw [if_neg q, if_neg q, uI_n _ _ (by omega), uI_n _ _ (by omega)]
            exact hz e' (by omega)
        · have v6 : uF (uF (uF (uF (uF F 5 n) 6 z6) 7 z7) 6 x) 7 y 6 = x := by rw [uF_n _ _ (by decide), uF_g]
          have v7 : uF (uF (uF (uF (uF F 5 n) 6 z6) 7 z7) 6 x) 7 y 7 = y := uF_g _ _ _
          have w5 : uA (uA (uA (uA (uA A 4 st) 7 O) 5 g5) 6 g6) 7 O' 5 = g5 := by rw [uA_n _ _ (by decide), uA_n _ _ (by decide), uA_g]
          have w6 : ∀ z, uA (uA (uA (uA (uA (uA A 4 st) 7 O) 5 g5) 6 g6) 7 O') 5 z 6 = g6 := fun z => by rw [uA_n _ _ (by decide), uA_n _ _ (by decide), uA_g]
          rw [v6, v7, w5, w6, uF_67, uA_56]
  simp only [eLoc, eE, List.length_cons, List.length_nil, List.replicate, List.cons_append, List.nil_append, Nat.reduceAdd, Nat.reduceSub]
  refine x_aload_n hK kX0_build_0 (q := 1) rfl rfl ?_
  refine x_aload_n hK kX0_build_1 (q := 2) rfl rfl ?_
  refine x_cv2 hK kX0_build_2 (q := 5) rfl (vtX0_build_77) (Nat.le_of_ble_eq_true rfl) ?_
  refine SX0_choose_i hL ?_
  rw [c1, c2]
  refine x_aload_n hK kX0_build_5 (q := 6) rfl rfl ?_
  refine x_aload_n hK kX0_build_6 (q := 7) rfl rfl ?_
  refine x_cv2 hK kX0_build_7 (q := 10) rfl (vtX0_build_81) (Nat.le_of_ble_eq_true rfl) ?_
  refine SX0_findScale_i (Δ := Δ) hV (by rw [a2]; exact hL) f5 n4 (by rw [a4]; exact hst) hΔ (by rw [a2, a4]; exact hd) (fun W1 h1 => ?_)
  rw [a2, a4] at h1
  have h1 : aR W1 (bv0 V (A 2) st n) := h1
  refine x_aload_n hK kX0_build_10 (q := 11) rfl rfl ?_
  refine x_aload_n hK kX0_build_11 (q := 12) rfl rfl ?_
  refine x_iconst hK kX0_build_12 (q := 13) rfl ?_
  refine x_cv3 hK kX0_build_13 (q := 16) rfl (vtX0_build_84) (Nat.le_of_ble_eq_true rfl) ?_
  refine SX0_multiplyByVariable_i (of := 0) h1 (by rw [a2]; exact hL) f5 n4 (by decide) (by rw [a4]; exact hst) (by rw [a2, a4]; exact dm (bv0 V (A 2) st n) (fun t ht => (bv_o V (A 2) st n ht).1) (bv_8 V (A 2) st n).1 0 (by decide)) (by rw [(bv_8 V (A 2) st n).1]; exact hs) (fun W2 h2 => ?_)
  rw [a2, a4] at h2
  have h2 : aR W2 (bv1 V (A 2) st n) := h2
  refine x_aload_n hK kX0_build_16 (q := 17) rfl rfl ?_
  refine x_aload_n hK kX0_build_17 (q := 18) rfl rfl ?_
  refine x_iconst hK kX0_build_18 (q := 19) rfl ?_
  refine x_cv3 hK kX0_build_19 (q := 22) rfl (vtX0_build_84) (Nat.le_of_ble_eq_true rfl) ?_
  refine SX0_multiplyByVariable_i (of := 1) h2 (by rw [a2]; exact hL) f5 n4 (by decide) (by rw [a4]; exact hst) (by rw [a2, a4]; exact dm (bv1 V (A 2) st n) (fun t ht => (bv_o V (A 2) st n ht).2) (bv_8 V (A 2) st n).2 1 (by decide)) (by rw [(bv_8 V (A 2) st n).2]; exact hs) (fun W3 h3 => ?_)
  rw [a2, a4] at h3
  have h3 : aR W3 (bv2 V (A 2) st n) := h3
  have h3 : aR W3 (wu2 (bv2 V (A 2) st n) (fun i => bv2 V (A 2) st n (rb 14 + i)) (fun i => bv2 V (A 2) st n (rb 15 + i))) := aR_c h3 (fun t _ _ => by
    have e14 : rb 14 = 133 := rfl
    have e15 : rb 15 = 137 := rfl
    unfold wu2 vG8
    split
    · dsimp only
      rw [show rb 15 + (t - rb 15) = t by omega]
    · split
      · dsimp only
        rw [show rb 14 + (t - rb 14) = t by omega]
      · rfl)
  refine x_aload_n hK kX0_build_22 (q := 23) rfl rfl ?_
  refine x_cv1 hK kX0_build_23 (q := 26) rfl (vtX0_build_88) (Nat.le_of_ble_eq_true rfl) ?_
  refine SX0_multiplyByStandard_i (m := m) h3 f5 n4 (by rw [a4]; exact hst) hx (fun w4 u4 W4 h4 => ?_)
  rw [a4] at h4
  refine x_aload_n hK kX0_build_26 (q := 27) rfl rfl ?_
  refine x_aload_n hK kX0_build_27 (q := 28) rfl rfl ?_
  refine x_cv2 hK kX0_build_28 (q := 31) rfl (vtX0_build_91) (Nat.le_of_ble_eq_true rfl) ?_
  refine SX0_multiplyByQuery_i (p := p) (V := bv3 V (A 2) st n) hp h4 f5 n4 (bv_3 n4 hx) hx2 (by rw [ap]; exact hA) (fun w5 u5 W5 h5 => ?_)
  rw [ap] at h5
  have h5 : aR W5 (wu2 (bv4 V (A 2) st (fun c => A p (24 + (c : Int))) n) w5 u5) := h5
  have k5 : kpE (bv4 V (A 2) st (fun c => A p (24 + (c : Int))) n) (wu2 (bv4 V (A 2) st (fun c => A p (24 + (c : Int))) n) w5 u5) := fun t ht => wu2_kp _ _ _ ht
  refine x_aload_n hK kX0_build_31 (q := 32) rfl rfl ?_
  refine x_cv1 hK kX0_build_32 (q := 35) rfl (vtX0_build_95) (Nat.le_of_ble_eq_true rfl) ?_
  refine SX0_weigh_i (a := a) (b := b) h5 f5 n4 (fun k j hk hj => by rw [k5 _ (by unfold kp gb; omega)]; exact wa k j hk hj) (fun i j hi hj => by rw [k5 _ (by unfold kp gb; omega)]; exact wb i j hi hj) wab (fun W6 h6 => ?_)
  refine x_iconst hK kX0_build_35 (q := 36) rfl ?_
  refine x_istore_n hK kX0_build_36 (q := 37) (jn := 3) rfl rfl ?_
  simp only [lS, lS2, clr_0, clr_I, clr_L, clr_R]
  refine x_to (loop 3 0 _ W6 (fun _ => 0) (fun _ => 0) (uF F 5 n 6) (uF F 5 n 7) (uA A 4 st 7) (uA A 4 st 5) (uA A 4 st 6) rfl (fun e' he => by omega) h6 (wg_k k5 n4)) rfl rfl (by rw [uF_00, uA_00])
set_option maxRecDepth 20000 in
theorem mX0_build : eMet yX0_build cX0_build 4 none 6 153 SX0_build := eMet_of (by decide +kernel) sX0_build kX0_build_ok caX0_build tb_RX0
theorem wX0_build : eWV yX0_build cX0_build 4 none 3 0 SX0_build := ⟨(gW_at 595 (by decide +kernel) rfl), (gW_at 86 (by decide +kernel) rfl), (gW_at 593 (by decide +kernel) rfl), ⟨_, rfl, (gW_at 594 (by decide +kernel) rfl)⟩, by decide +kernel, SX0_build_r⟩
