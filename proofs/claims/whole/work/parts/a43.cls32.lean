/-! Inertia: splitOff. -/
/-- what is left of the form -/
def spE (S : Nat → Nat → Int) (k a b : Nat) : Int := S k k * S a b - S a k * S k b
def spM (S : Nat → Nat → Int) (k a b : Nat) : Int := if a ≤ b then spE S k a b else spE S k b a
def spF (S : Nat → Nat → Int) (O : Int → Int) (k : Nat) : Nat → Nat → Int := fun a b => if a < 4 ∧ b < 4 ∧ O a = 1 ∧ O b = 1 then spM S k a b else S a b
theorem opI_1 {O : Int → Int} {k : Nat} (h : opI O k ≠ 0) : O k = 1 := by
  unfold opI at h
  by_cases g : (0 : Int) ≤ k ∧ (k : Int) < 4 ∧ O k = 1
  · exact g.2.2
  · rw [if_neg g] at h; exact absurd rfl h
theorem opI_0 {O : Int → Int} {k : Nat} (hk : k < 4) (h : opI O k = 0) : ¬ O k = 1 := fun q => by
  unfold opI at h
  rw [if_pos ⟨by omega, by omega, q⟩] at h
  omega
def SX4_splitOff : eSp := fun as M rt => ∃ (F : Nat → Int) (A W : Nat → Int → Int) (B : Nat → Int) (S : Nat → Nat → Int) (p c : Int) (k m : Nat), as = [eR (1, 5), eI k] ∧ M = cC F A W ∧ (aR W (inV B S p c)) ∧ (k < 4) ∧ (∀ i : Int, 0 ≤ i → i < 4 → A 7 i = 0 ∨ A 7 i = 1) ∧ (A 7 k = 1) ∧ (∀ a : Nat, a < 4 → a ≠ k → A 7 a = 1 → m + m + 2 ≤ 1922) ∧ (∀ a b : Nat, a < 4 → b < 4 → A 7 a = 1 → A 7 b = 1 → zAbs (S a b) ≤ 2 ^ m) ∧ (∀ (c : Int) (W' : Nat → Int → Int), aR W' (inV B (spF S (uI (A 7) k 0) k) (S k k) c) → rt none (cC F (uA A 7 (uI (A 7) k 0)) W'))
theorem SX4_splitOff_i {F : Nat → Int} {A W : Nat → Int → Int} {B : Nat → Int} {S : Nat → Nat → Int} {p c : Int} {k m : Nat} {rt : Option eV → eM → Prop} (hV : aR W (inV B S p c)) (hk : k < 4) (hO : ∀ i : Int, 0 ≤ i → i < 4 → A 7 i = 0 ∨ A 7 i = 1) (hkO : A 7 k = 1) (hm : ∀ a : Nat, a < 4 → a ≠ k → A 7 a = 1 → m + m + 2 ≤ 1922) (hb : ∀ a b : Nat, a < 4 → b < 4 → A 7 a = 1 → A 7 b = 1 → zAbs (S a b) ≤ 2 ^ m) (h : ∀ (c : Int) (W' : Nat → Int → Int), aR W' (inV B (spF S (uI (A 7) k 0) k) (S k k) c) → rt none (cC F (uA A 7 (uI (A 7) k 0)) W')) : SX4_splitOff [eR (1, 5), eI k] (cC F A W) rt := ⟨F, A, W, B, S, p, c, k, m, rfl, rfl, hV, hk, hO, hkO, hm, hb, h⟩
theorem SX4_splitOff_r : ∀ as M rt, SX4_splitOff as M rt → ∃ a r fs, as = eR a :: r ∧ M a = some (.inl (4, fs)) := by
  rintro as M rt ⟨F, A, W, B, S, p, c, k, m, rfl, rfl, -⟩
  exact ⟨_, _, _, rfl, rfl⟩
def kX4_splitOff : List (Nat × Jvm.ClassFile.Instr × Nat) := [(0, .aload_n 0, 1), (1, .iload_n 1, 1), (2, .invokevirtual 73, 3), (5, .ifCond .ne 4, 3), (8, .return_, 1), (9, .aload_n 0, 1), (10, .getfield 22, 3), (13, .iload_n 1, 1), (14, .iconst 0, 1), (15, .bastore, 1), (16, .aload_n 0, 1), (17, .getfield 27, 3), (20, .aload_n 0, 1), (21, .getfield 16, 3), (24, .iload_n 1, 1), (25, .iload_n 1, 1), (26, .invokevirtual 63, 3), (29, .invokevirtual 89, 3), (32, .iconst 0, 1), (33, .istore_n 2, 1), (34, .iload_n 2, 1), (35, .iconst 4, 1), (36, .if_icmp .ge 133, 3), (39, .iload_n 2, 1), (40, .istore_n 3, 1), (41, .iload_n 3, 1), (42, .iconst 4, 1), (43, .if_icmp .ge 120, 3), (46, .aload_n 0, 1), (47, .iload_n 2, 1), (48, .invokevirtual 73, 3), (51, .ifCond .eq 106, 3), (54, .aload_n 0, 1), (55, .iload_n 3, 1), (56, .invokevirtual 73, 3), (59, .ifCond .eq 98, 3), (62, .aload_n 0, 1), (63, .getfield 31, 3), (66, .lconst 0, 1), (67, .invokevirtual 93, 3), (70, .aload_n 0, 1), (71, .getfield 41, 3), (74, .aload_n 0, 1), (75, .getfield 31, 3), (78, .aload_n 0, 1), (79, .getfield 27, 3), (82, .aload_n 0, 1), (83, .getfield 16, 3), (86, .iload_n 2, 1), (87, .iload_n 3, 1), (88, .invokevirtual 63, 3), (91, .iconst 1, 1), (92, .invokevirtual 97, 3), (95, .aload_n 0, 1), (96, .getfield 41, 3), (99, .aload_n 0, 1), (100, .getfield 31, 3), (103, .aload_n 0, 1), (104, .getfield 16, 3), (107, .iload_n 2, 1), (108, .iload_n 1, 1), (109, .invokevirtual 63, 3), (112, .aload_n 0, 1), (113, .getfield 16, 3), (116, .iload_n 1, 1), (117, .iload_n 3, 1), (118, .invokevirtual 63, 3), (121, .iconst (-1), 1), (122, .invokevirtual 97, 3), (125, .aload_n 0, 1), (126, .getfield 16, 3), (129, .iload_n 2, 1), (130, .iload_n 3, 1), (131, .invokevirtual 63, 3), (134, .aload_n 0, 1), (135, .getfield 31, 3), (138, .invokevirtual 89, 3), (141, .aload_n 0, 1), (142, .getfield 16, 3), (145, .iload_n 3, 1), (146, .iload_n 2, 1), (147, .invokevirtual 63, 3), (150, .aload_n 0, 1), (151, .getfield 31, 3), (154, .invokevirtual 89, 3), (157, .iinc 3 1, 3), (160, .goto (-119), 3), (163, .iinc 2 1, 3), (166, .goto (-132), 3), (169, .return_, 1)]
theorem kX4_splitOff_0 : cdOf kX4_splitOff 0 = some (.aload_n 0, 1) := by decide +kernel
theorem kX4_splitOff_1 : cdOf kX4_splitOff 1 = some (.iload_n 1, 1) := by decide +kernel
theorem kX4_splitOff_2 : cdOf kX4_splitOff 2 = some (.invokevirtual 73, 3) := by decide +kernel
theorem kX4_splitOff_5 : cdOf kX4_splitOff 5 = some (.ifCond .ne 4, 3) := by decide +kernel
theorem kX4_splitOff_8 : cdOf kX4_splitOff 8 = some (.return_, 1) := by decide +kernel
theorem kX4_splitOff_9 : cdOf kX4_splitOff 9 = some (.aload_n 0, 1) := by decide +kernel
theorem kX4_splitOff_10 : cdOf kX4_splitOff 10 = some (.getfield 22, 3) := by decide +kernel
theorem kX4_splitOff_13 : cdOf kX4_splitOff 13 = some (.iload_n 1, 1) := by decide +kernel
theorem kX4_splitOff_14 : cdOf kX4_splitOff 14 = some (.iconst 0, 1) := by decide +kernel
theorem kX4_splitOff_15 : cdOf kX4_splitOff 15 = some (.bastore, 1) := by decide +kernel
theorem kX4_splitOff_16 : cdOf kX4_splitOff 16 = some (.aload_n 0, 1) := by decide +kernel
theorem kX4_splitOff_17 : cdOf kX4_splitOff 17 = some (.getfield 27, 3) := by decide +kernel
theorem kX4_splitOff_20 : cdOf kX4_splitOff 20 = some (.aload_n 0, 1) := by decide +kernel
theorem kX4_splitOff_21 : cdOf kX4_splitOff 21 = some (.getfield 16, 3) := by decide +kernel
theorem kX4_splitOff_24 : cdOf kX4_splitOff 24 = some (.iload_n 1, 1) := by decide +kernel
theorem kX4_splitOff_25 : cdOf kX4_splitOff 25 = some (.iload_n 1, 1) := by decide +kernel
theorem kX4_splitOff_26 : cdOf kX4_splitOff 26 = some (.invokevirtual 63, 3) := by decide +kernel
theorem kX4_splitOff_29 : cdOf kX4_splitOff 29 = some (.invokevirtual 89, 3) := by decide +kernel
theorem kX4_splitOff_32 : cdOf kX4_splitOff 32 = some (.iconst 0, 1) := by decide +kernel
theorem kX4_splitOff_33 : cdOf kX4_splitOff 33 = some (.istore_n 2, 1) := by decide +kernel
theorem kX4_splitOff_34 : cdOf kX4_splitOff 34 = some (.iload_n 2, 1) := by decide +kernel
theorem kX4_splitOff_35 : cdOf kX4_splitOff 35 = some (.iconst 4, 1) := by decide +kernel
theorem kX4_splitOff_36 : cdOf kX4_splitOff 36 = some (.if_icmp .ge 133, 3) := by decide +kernel
theorem kX4_splitOff_39 : cdOf kX4_splitOff 39 = some (.iload_n 2, 1) := by decide +kernel
theorem kX4_splitOff_40 : cdOf kX4_splitOff 40 = some (.istore_n 3, 1) := by decide +kernel
theorem kX4_splitOff_41 : cdOf kX4_splitOff 41 = some (.iload_n 3, 1) := by decide +kernel
theorem kX4_splitOff_42 : cdOf kX4_splitOff 42 = some (.iconst 4, 1) := by decide +kernel
theorem kX4_splitOff_43 : cdOf kX4_splitOff 43 = some (.if_icmp .ge 120, 3) := by decide +kernel
theorem kX4_splitOff_46 : cdOf kX4_splitOff 46 = some (.aload_n 0, 1) := by decide +kernel
theorem kX4_splitOff_47 : cdOf kX4_splitOff 47 = some (.iload_n 2, 1) := by decide +kernel
theorem kX4_splitOff_48 : cdOf kX4_splitOff 48 = some (.invokevirtual 73, 3) := by decide +kernel
theorem kX4_splitOff_51 : cdOf kX4_splitOff 51 = some (.ifCond .eq 106, 3) := by decide +kernel
theorem kX4_splitOff_54 : cdOf kX4_splitOff 54 = some (.aload_n 0, 1) := by decide +kernel
theorem kX4_splitOff_55 : cdOf kX4_splitOff 55 = some (.iload_n 3, 1) := by decide +kernel
theorem kX4_splitOff_56 : cdOf kX4_splitOff 56 = some (.invokevirtual 73, 3) := by decide +kernel
theorem kX4_splitOff_59 : cdOf kX4_splitOff 59 = some (.ifCond .eq 98, 3) := by decide +kernel
theorem kX4_splitOff_62 : cdOf kX4_splitOff 62 = some (.aload_n 0, 1) := by decide +kernel
theorem kX4_splitOff_63 : cdOf kX4_splitOff 63 = some (.getfield 31, 3) := by decide +kernel
theorem kX4_splitOff_66 : cdOf kX4_splitOff 66 = some (.lconst 0, 1) := by decide +kernel
theorem kX4_splitOff_67 : cdOf kX4_splitOff 67 = some (.invokevirtual 93, 3) := by decide +kernel
theorem kX4_splitOff_70 : cdOf kX4_splitOff 70 = some (.aload_n 0, 1) := by decide +kernel
theorem kX4_splitOff_71 : cdOf kX4_splitOff 71 = some (.getfield 41, 3) := by decide +kernel
theorem kX4_splitOff_74 : cdOf kX4_splitOff 74 = some (.aload_n 0, 1) := by decide +kernel
theorem kX4_splitOff_75 : cdOf kX4_splitOff 75 = some (.getfield 31, 3) := by decide +kernel
theorem kX4_splitOff_78 : cdOf kX4_splitOff 78 = some (.aload_n 0, 1) := by decide +kernel
theorem kX4_splitOff_79 : cdOf kX4_splitOff 79 = some (.getfield 27, 3) := by decide +kernel
theorem kX4_splitOff_82 : cdOf kX4_splitOff 82 = some (.aload_n 0, 1) := by decide +kernel
theorem kX4_splitOff_83 : cdOf kX4_splitOff 83 = some (.getfield 16, 3) := by decide +kernel
theorem kX4_splitOff_86 : cdOf kX4_splitOff 86 = some (.iload_n 2, 1) := by decide +kernel
theorem kX4_splitOff_87 : cdOf kX4_splitOff 87 = some (.iload_n 3, 1) := by decide +kernel
theorem kX4_splitOff_88 : cdOf kX4_splitOff 88 = some (.invokevirtual 63, 3) := by decide +kernel
theorem kX4_splitOff_91 : cdOf kX4_splitOff 91 = some (.iconst 1, 1) := by decide +kernel
theorem kX4_splitOff_92 : cdOf kX4_splitOff 92 = some (.invokevirtual 97, 3) := by decide +kernel
theorem kX4_splitOff_95 : cdOf kX4_splitOff 95 = some (.aload_n 0, 1) := by decide +kernel
theorem kX4_splitOff_96 : cdOf kX4_splitOff 96 = some (.getfield 41, 3) := by decide +kernel
theorem kX4_splitOff_99 : cdOf kX4_splitOff 99 = some (.aload_n 0, 1) := by decide +kernel
theorem kX4_splitOff_100 : cdOf kX4_splitOff 100 = some (.getfield 31, 3) := by decide +kernel
theorem kX4_splitOff_103 : cdOf kX4_splitOff 103 = some (.aload_n 0, 1) := by decide +kernel
theorem kX4_splitOff_104 : cdOf kX4_splitOff 104 = some (.getfield 16, 3) := by decide +kernel
theorem kX4_splitOff_107 : cdOf kX4_splitOff 107 = some (.iload_n 2, 1) := by decide +kernel
theorem kX4_splitOff_108 : cdOf kX4_splitOff 108 = some (.iload_n 1, 1) := by decide +kernel
theorem kX4_splitOff_109 : cdOf kX4_splitOff 109 = some (.invokevirtual 63, 3) := by decide +kernel
theorem kX4_splitOff_112 : cdOf kX4_splitOff 112 = some (.aload_n 0, 1) := by decide +kernel
theorem kX4_splitOff_113 : cdOf kX4_splitOff 113 = some (.getfield 16, 3) := by decide +kernel
theorem kX4_splitOff_116 : cdOf kX4_splitOff 116 = some (.iload_n 1, 1) := by decide +kernel
theorem kX4_splitOff_117 : cdOf kX4_splitOff 117 = some (.iload_n 3, 1) := by decide +kernel
theorem kX4_splitOff_118 : cdOf kX4_splitOff 118 = some (.invokevirtual 63, 3) := by decide +kernel
theorem kX4_splitOff_121 : cdOf kX4_splitOff 121 = some (.iconst (-1), 1) := by decide +kernel
theorem kX4_splitOff_122 : cdOf kX4_splitOff 122 = some (.invokevirtual 97, 3) := by decide +kernel
theorem kX4_splitOff_125 : cdOf kX4_splitOff 125 = some (.aload_n 0, 1) := by decide +kernel
theorem kX4_splitOff_126 : cdOf kX4_splitOff 126 = some (.getfield 16, 3) := by decide +kernel
theorem kX4_splitOff_129 : cdOf kX4_splitOff 129 = some (.iload_n 2, 1) := by decide +kernel
theorem kX4_splitOff_130 : cdOf kX4_splitOff 130 = some (.iload_n 3, 1) := by decide +kernel
theorem kX4_splitOff_131 : cdOf kX4_splitOff 131 = some (.invokevirtual 63, 3) := by decide +kernel
theorem kX4_splitOff_134 : cdOf kX4_splitOff 134 = some (.aload_n 0, 1) := by decide +kernel
theorem kX4_splitOff_135 : cdOf kX4_splitOff 135 = some (.getfield 31, 3) := by decide +kernel
theorem kX4_splitOff_138 : cdOf kX4_splitOff 138 = some (.invokevirtual 89, 3) := by decide +kernel
theorem kX4_splitOff_141 : cdOf kX4_splitOff 141 = some (.aload_n 0, 1) := by decide +kernel
theorem kX4_splitOff_142 : cdOf kX4_splitOff 142 = some (.getfield 16, 3) := by decide +kernel
theorem kX4_splitOff_145 : cdOf kX4_splitOff 145 = some (.iload_n 3, 1) := by decide +kernel
theorem kX4_splitOff_146 : cdOf kX4_splitOff 146 = some (.iload_n 2, 1) := by decide +kernel
theorem kX4_splitOff_147 : cdOf kX4_splitOff 147 = some (.invokevirtual 63, 3) := by decide +kernel
theorem kX4_splitOff_150 : cdOf kX4_splitOff 150 = some (.aload_n 0, 1) := by decide +kernel
theorem kX4_splitOff_151 : cdOf kX4_splitOff 151 = some (.getfield 31, 3) := by decide +kernel
theorem kX4_splitOff_154 : cdOf kX4_splitOff 154 = some (.invokevirtual 89, 3) := by decide +kernel
theorem kX4_splitOff_157 : cdOf kX4_splitOff 157 = some (.iinc 3 1, 3) := by decide +kernel
theorem kX4_splitOff_160 : cdOf kX4_splitOff 160 = some (.goto (-119), 3) := by decide +kernel
theorem kX4_splitOff_163 : cdOf kX4_splitOff 163 = some (.iinc 2 1, 3) := by decide +kernel
theorem kX4_splitOff_166 : cdOf kX4_splitOff 166 = some (.goto (-132), 3) := by decide +kernel
theorem kX4_splitOff_169 : cdOf kX4_splitOff 169 = some (.return_, 1) := by decide +kernel
set_option maxRecDepth 20000 in
theorem kX4_splitOff_ok : ∀ pc i len, cdOf kX4_splitOff pc = some (i, len) → decode cX4_splitOff pc = .ok (i, len) ∧ stOK 4 i = true ∧ jOK pc i = true ∧ eLen i len = true := cdOf_ok cX4_splitOff 4 kX4_splitOff (by decide +kernel)
def vtX4_splitOff : Nat → Option (Nat × eSp) := fun k => match k with
  | 73 => some (2, SX4_isOpen)
  | 63 => some (3, SX2_read)
  | 89 => some (2, SX8_copy)
  | 93 => some (2, SX8_set)
  | 97 => some (5, SX1_addProduct)
  | _ => none
theorem vtX4_splitOff_73 : vtX4_splitOff 73 = some (2, SX4_isOpen) := rfl
theorem vtX4_splitOff_63 : vtX4_splitOff 63 = some (3, SX2_read) := rfl
theorem vtX4_splitOff_89 : vtX4_splitOff 89 = some (2, SX8_copy) := rfl
theorem vtX4_splitOff_93 : vtX4_splitOff 93 = some (2, SX8_set) := rfl
theorem vtX4_splitOff_97 : vtX4_splitOff 97 = some (5, SX1_addProduct) := rfl
def stX4_splitOff : Nat → Option (Nat × eSp) := fun _ => none
abbrev TX4_splitOff : eT := (fl_RX4, cl_RX4, dl_RX4, vtX4_splitOff, stX4_splitOff)
set_option maxRecDepth 20000 in
theorem caX4_splitOff : eCalls RX4 { frames := 3, cells := 0, slots := 0, locals := 79 } TX4_splitOff := by
  refine ⟨fun k n sp h => ?_, fun k n sp h => ?_⟩
  · dsimp only [TX4_splitOff] at h
    unfold vtX4_splitOff at h
    split at h
    · cases h; exact eV_mk mX4_isOpen wX4_isOpen (by decide +kernel) (Or.inl (gW_at 698 (by decide +kernel) rfl))
    · cases h; exact eV_mk mX2_read wX2_read (by decide +kernel) (Or.inl (gW_at 702 (by decide +kernel) rfl))
    · cases h; exact eV_mk mX8_copy wX8_copy (by decide +kernel) (Or.inl (gW_at 713 (by decide +kernel) rfl))
    · cases h; exact eV_mk mX8_set wX8_set (by decide +kernel) (Or.inl (gW_at 714 (by decide +kernel) rfl))
    · cases h; exact eV_mk mX1_addProduct wX1_addProduct (by decide +kernel) (Or.inl (gW_at 715 (by decide +kernel) rfl))
    · cases h
  · cases h
set_option maxRecDepth 100000 in
set_option maxHeartbeats 4000000 in
theorem sX4_splitOff : eSafe TX4_splitOff (cdOf kX4_splitOff) 4 none SX4_splitOff := by
  intro K rt hK as M h
  obtain ⟨F, A, W, B, S, p, c, k, m, rfl, rfl, hV, hk, hO, hkO, hm, hb, h⟩ := h
  refine ⟨by simp [eE], ?_⟩
  obtain ⟨O, hOe⟩ : ∃ O, uI (A 7) k 0 = O := ⟨_, rfl⟩
  rw [hOe] at h
  have O01 : ∀ i : Int, 0 ≤ i → i < 4 → O i = 0 ∨ O i = 1 := fun i i0 i1 => by
    rw [← hOe]
    rcases Decidable.em (i = k) with q | q
    · rw [q, uI_s]; exact Or.inl rfl
    · rw [uI_n _ _ q]; exact hO i i0 i1
  have Ok : O k = 0 := by rw [← hOe, uI_s]
  have On : ∀ a : Nat, O a = 1 → a ≠ k ∧ A 7 a = 1 := fun a ha => by
    rw [← hOe] at ha
    rcases Decidable.em ((a : Int) = k) with q | q
    · rw [q, uI_s] at ha; omega
    · rw [uI_n _ _ q] at ha; exact ⟨by omega, ha⟩
  have a7 : uA A 7 O 7 = O := uA_g _ _ _
  have O01' : ∀ i : Int, 0 ≤ i → i < 4 → uA A 7 O 7 i = 0 ∨ uA A 7 O 7 i = 1 := by rw [a7]; exact O01
  obtain ⟨P, hP⟩ : ∃ P : Nat → Nat → Nat → Nat → Int, P = fun (i j a b : Nat) => if a < 4 ∧ b < 4 ∧ O a = 1 ∧ O b = 1 ∧ (min a b < i ∨ (min a b = i ∧ max a b < j)) then spM S k a b else S a b := ⟨_, rfl⟩
  have Pk1 : ∀ i j a, P i j a k = S a k := fun i j a => by rw [hP]; dsimp only; rw [if_neg (fun q => by have := q.2.2.2.1; omega)]
  have Pk2 : ∀ i j a, P i j k a = S k a := fun i j a => by rw [hP]; dsimp only; rw [if_neg (fun q => by have := q.2.2.1; omega)]
  have Pij : ∀ i j, i ≤ j → P i j i j = S i j := fun i j ij => by rw [hP]; dsimp only; rw [if_neg (fun q => by omega)]
  have mid : ∀ (i : Nat), i < 4 → (∀ (W1 : Nat → Int → Int) (u3 : Option eV) (c : Int), aR W1 (inV B (P (i + 1) (i + 1)) (S k k) c) → K 34 [some (eR (1, 5)), some (eI k), some (eI ((i + 1 : Nat) : Int)), u3] [] (cC F (uA A 7 O) W1)) → ∀ (d j : Nat) (W1 : Nat → Int → Int) (c : Int), j + d = 4 → i ≤ j → aR W1 (inV B (P i j) (S k k) c) → K 41 [some (eR (1, 5)), some (eI k), some (eI i), some (eI j)] [] (cC F (uA A 7 O) W1) := by
    intro i hi cont d
    induction d with
    | zero =>
      intro j W1 c hj hij h1
      have : j = 4 := by omega
      subst this
      refine x_iload_n hK kX4_splitOff_41 (q := 42) rfl rfl ?_
      refine x_iconst hK kX4_splitOff_42 (q := 43) rfl ?_
      refine x_icmp_ge hK kX4_splitOff_43 (q := 46) rfl (tg := 163) rfl (by refine ⟨?_, ?_⟩ <;> omega) (fun c43 => ?_) (fun c43 => ?_)
      · refine x_iinc hK kX4_splitOff_163 (q := 166) rfl rfl ?_
        simp only [lS, lS2, clr_0, clr_I, clr_L, clr_R]
        refine x_goto hK kX4_splitOff_166 (tg := 34) rfl ?_
        rw [show (i : Int) + 1 = ((i + 1 : Nat) : Int) by omega]
        refine cont W1 _ c (in_S h1 (fun a b ha hb' => ?_))
        rw [hP]
        dsimp only
        by_cases g : O a = 1 ∧ O b = 1 ∧ min a b ≤ i
        · rw [if_pos ⟨ha, hb', g.1, g.2.1, by omega⟩, if_pos ⟨ha, hb', g.1, g.2.1, by omega⟩]
        · rw [if_neg (fun q => g ⟨q.2.2.1, q.2.2.2.1, by omega⟩), if_neg (fun q => g ⟨q.2.2.1, q.2.2.2.1, by omega⟩)]
      · exfalso; omega
    | succ d ih =>
      intro j W1 c hj hij h1
      have j4 : j < 4 := by omega
      have skip : ¬ (O i = 1 ∧ O j = 1) → K 41 [some (eR (1, 5)), some (eI k), some (eI i), some (eI ((j : Int) + 1))] [] (cC F (uA A 7 O) W1) := fun q => by
        rw [show (j : Int) + 1 = ((j + 1 : Nat) : Int) by omega]
        refine ih (j + 1) W1 c (by omega) (by omega) (in_S h1 (fun a b ha hb' => ?_))
        rw [hP]
        dsimp only
        by_cases g : O a = 1 ∧ O b = 1 ∧ (min a b < i ∨ (min a b = i ∧ max a b < j))
        · rw [if_pos ⟨ha, hb', g.1, g.2.1, by omega⟩, if_pos ⟨ha, hb', g.1, g.2.1, g.2.2⟩]
        · rw [if_neg (fun r => ?_), if_neg (fun r => g ⟨r.2.2.1, r.2.2.2.1, r.2.2.2.2⟩)]
          rcases Decidable.em (min a b = i ∧ max a b = j) with s | s
          · rcases Nat.le_total a b with ab | ab
            · exact q ⟨by rw [show i = a by omega]; exact r.2.2.1, by rw [show j = b by omega]; exact r.2.2.2.1⟩
            · exact q ⟨by rw [show i = b by omega]; exact r.2.2.2.1, by rw [show j = a by omega]; exact r.2.2.1⟩
          · exact g ⟨r.2.2.1, r.2.2.2.1, by omega⟩
      have stp : O i = 1 → O j = 1 → ∀ a b : Nat, a < 4 → b < 4 → P i (j + 1) a b = uMt (uMt (P i j) i j (spE S k i j)) j i (spE S k i j) a b := fun oi oj a b ha hb' => by
        rw [hP]
        unfold uMt
        dsimp only
        by_cases g1 : a = j ∧ b = i
        · rw [if_pos g1, g1.1, g1.2, if_pos ⟨j4, hi, oj, oi, by omega⟩]
          unfold spM
          rcases Decidable.em (j ≤ i) with q | q
          · rw [if_pos q, show i = j by omega]
          · rw [if_neg q]
        · rw [if_neg g1]
          by_cases g2 : a = i ∧ b = j
          · rw [if_pos g2, g2.1, g2.2, if_pos ⟨hi, j4, oi, oj, by omega⟩]
            exact if_pos hij
          · rw [if_neg g2]
            by_cases g : O a = 1 ∧ O b = 1 ∧ (min a b < i ∨ (min a b = i ∧ max a b < j))
            · rw [if_pos ⟨ha, hb', g.1, g.2.1, by omega⟩, if_pos ⟨ha, hb', g⟩]
            · rw [if_neg (fun r => g ⟨r.2.2.1, r.2.2.2.1, by omega⟩), if_neg (fun r => g r.2.2)]
      have work : O i = 1 → O j = 1 → K 62 [some (eR (1, 5)), some (eI k), some (eI i), some (eI j)] [] (cC F (uA A 7 O) W1) := fun oi oj => by
        have ni := On i oi
        have nj := On j oj
        have z1 := hb k k hk hk hkO hkO
        have z2 := hb i j hi j4 ni.2 nj.2
        have z3 := hb i k hi hk ni.2 hkO
        have z4 := hb k j hk j4 hkO nj.2
        have q1 := two_le z1 z2
        have q2 := two_le z3 z4
        have hm := hm i hi ni.1 ni.2
        have bm := p2_m (show m + m ≤ 1922 by omega)
        refine x_aload_n hK kX4_splitOff_62 (q := 63) rfl rfl ?_
        refine x_getfield hK kX4_splitOff_63 (q := 66) rfl (gX4_31 ?_)
        refine x_lconst0 hK kX4_splitOff_66 (q := 67) rfl ?_
        refine x_cv2 hK kX4_splitOff_67 (q := 70) rfl (vtX4_splitOff_93) (Nat.le_of_ble_eq_true rfl) ?_
        refine set_a (k := 331) h1 (by omega) (by omega) (by decide) (fun W2 h2 => ?_)
        have h2 := in_c h2
        refine x_aload_n hK kX4_splitOff_70 (q := 71) rfl rfl ?_
        refine x_getfield hK kX4_splitOff_71 (q := 74) rfl (gX4_41 ?_)
        refine x_aload_n hK kX4_splitOff_74 (q := 75) rfl rfl ?_
        refine x_getfield hK kX4_splitOff_75 (q := 78) rfl (gX4_31 ?_)
        refine x_aload_n hK kX4_splitOff_78 (q := 79) rfl rfl ?_
        refine x_getfield hK kX4_splitOff_79 (q := 82) rfl (gX4_27 ?_)
        refine x_aload_n hK kX4_splitOff_82 (q := 83) rfl rfl ?_
        refine x_getfield hK kX4_splitOff_83 (q := 86) rfl (gX4_16 ?_)
        refine x_iload_n hK kX4_splitOff_86 (q := 87) rfl rfl ?_
        refine x_iload_n hK kX4_splitOff_87 (q := 88) rfl rfl ?_
        refine x_cv3 hK kX4_splitOff_88 (q := 91) rfl (vtX4_splitOff_63) (Nat.le_of_ble_eq_true rfl) ?_
        refine SX2_read_i (g := 10) (i := i) (j := j) (by decide) hi j4 ?_
        refine x_iconst hK kX4_splitOff_91 (q := 92) rfl ?_
        refine x_cv5 hK kX4_splitOff_92 (q := 95) rfl (vtX4_splitOff_97) (Nat.le_of_ble_eq_true rfl) ?_
        refine addP_w (k := 331) (a := 330) (b := gb 10 + (4 * i + j)) (m := m) (n := m) h2 (by omega) (by omega) (by omega) (by omega) (by rw [gb_10]; omega) (by rw [gb_10]; omega) (Or.inl rfl) (by rw [inV_p]; exact z1) (by rw [inV_s _ _ _ _ hi j4, Pij _ _ hij]; exact z2) (by omega) (by rw [inV_c]; show (0 : Int) ≤ _; exact Int.le_of_lt (p2_pos _)) (fun W3 h3 => ?_)
        rw [inV_c, inV_p, inV_s _ _ _ _ hi j4, Pij _ _ hij, Int.one_mul, Int.zero_add] at h3
        have h3 := in_c h3
        refine x_aload_n hK kX4_splitOff_95 (q := 96) rfl rfl ?_
        refine x_getfield hK kX4_splitOff_96 (q := 99) rfl (gX4_41 ?_)
        refine x_aload_n hK kX4_splitOff_99 (q := 100) rfl rfl ?_
        refine x_getfield hK kX4_splitOff_100 (q := 103) rfl (gX4_31 ?_)
        refine x_aload_n hK kX4_splitOff_103 (q := 104) rfl rfl ?_
        refine x_getfield hK kX4_splitOff_104 (q := 107) rfl (gX4_16 ?_)
        refine x_iload_n hK kX4_splitOff_107 (q := 108) rfl rfl ?_
        refine x_iload_n hK kX4_splitOff_108 (q := 109) rfl rfl ?_
        refine x_cv3 hK kX4_splitOff_109 (q := 112) rfl (vtX4_splitOff_63) (Nat.le_of_ble_eq_true rfl) ?_
        refine SX2_read_i (g := 10) (i := i) (j := k) (by decide) hi hk ?_
        refine x_aload_n hK kX4_splitOff_112 (q := 113) rfl rfl ?_
        refine x_getfield hK kX4_splitOff_113 (q := 116) rfl (gX4_16 ?_)
        refine x_iload_n hK kX4_splitOff_116 (q := 117) rfl rfl ?_
        refine x_iload_n hK kX4_splitOff_117 (q := 118) rfl rfl ?_
        refine x_cv3 hK kX4_splitOff_118 (q := 121) rfl (vtX4_splitOff_63) (Nat.le_of_ble_eq_true rfl) ?_
        refine SX2_read_i (g := 10) (i := k) (j := j) (by decide) hk j4 ?_
        refine x_iconst hK kX4_splitOff_121 (q := 122) rfl ?_
        refine x_cv5 hK kX4_splitOff_122 (q := 125) rfl (vtX4_splitOff_97) (Nat.le_of_ble_eq_true rfl) ?_
        refine addP_w (k := 331) (a := gb 10 + (4 * i + k)) (b := gb 10 + (4 * k + j)) (m := m) (n := m) h3 (by omega) (by omega) (by rw [gb_10]; omega) (by rw [gb_10]; omega) (by rw [gb_10]; omega) (by rw [gb_10]; omega) (Or.inr rfl) (by rw [inV_s _ _ _ _ hi hk, Pk1]; exact z3) (by rw [inV_s _ _ _ _ hk j4, Pk2]; exact z4) (by omega) (by rw [inV_c]; exact Int.le_trans q1 bm) (fun W4 h4 => ?_)
        rw [inV_c, inV_s _ _ _ _ hi hk, inV_s _ _ _ _ hk j4, Pk1, Pk2] at h4
        have h4 := in_c h4
        refine x_aload_n hK kX4_splitOff_125 (q := 126) rfl rfl ?_
        refine x_getfield hK kX4_splitOff_126 (q := 129) rfl (gX4_16 ?_)
        refine x_iload_n hK kX4_splitOff_129 (q := 130) rfl rfl ?_
        refine x_iload_n hK kX4_splitOff_130 (q := 131) rfl rfl ?_
        refine x_cv3 hK kX4_splitOff_131 (q := 134) rfl (vtX4_splitOff_63) (Nat.le_of_ble_eq_true rfl) ?_
        refine SX2_read_i (g := 10) (i := i) (j := j) (by decide) hi j4 ?_
        refine x_aload_n hK kX4_splitOff_134 (q := 135) rfl rfl ?_
        refine x_getfield hK kX4_splitOff_135 (q := 138) rfl (gX4_31 ?_)
        refine x_cv2 hK kX4_splitOff_138 (q := 141) rfl (vtX4_splitOff_89) (Nat.le_of_ble_eq_true rfl) ?_
        refine copy_a (k := gb 10 + (4 * i + j)) (j := 331) h4 (by rw [gb_10]; omega) (by rw [gb_10]; omega) (by omega) (by omega) (by rw [gb_10]; omega) (fun W5 h5 => ?_)
        rw [inV_c] at h5
        have h5 := in_s hi j4 h5
        refine x_aload_n hK kX4_splitOff_141 (q := 142) rfl rfl ?_
        refine x_getfield hK kX4_splitOff_142 (q := 145) rfl (gX4_16 ?_)
        refine x_iload_n hK kX4_splitOff_145 (q := 146) rfl rfl ?_
        refine x_iload_n hK kX4_splitOff_146 (q := 147) rfl rfl ?_
        refine x_cv3 hK kX4_splitOff_147 (q := 150) rfl (vtX4_splitOff_63) (Nat.le_of_ble_eq_true rfl) ?_
        refine SX2_read_i (g := 10) (i := j) (j := i) (by decide) j4 hi ?_
        refine x_aload_n hK kX4_splitOff_150 (q := 151) rfl rfl ?_
        refine x_getfield hK kX4_splitOff_151 (q := 154) rfl (gX4_31 ?_)
        refine x_cv2 hK kX4_splitOff_154 (q := 157) rfl (vtX4_splitOff_89) (Nat.le_of_ble_eq_true rfl) ?_
        refine copy_a (k := gb 10 + (4 * j + i)) (j := 331) h5 (by rw [gb_10]; omega) (by rw [gb_10]; omega) (by omega) (by omega) (by rw [gb_10]; omega) (fun W6 h6 => ?_)
        rw [inV_c] at h6
        have h6 := in_s j4 hi h6
        refine x_iinc hK kX4_splitOff_157 (q := 160) rfl rfl ?_
        simp only [lS, lS2, clr_0, clr_I, clr_L, clr_R]
        refine x_goto hK kX4_splitOff_160 (tg := 41) rfl ?_
        rw [show (j : Int) + 1 = ((j + 1 : Nat) : Int) by omega]
        refine ih (j + 1) W6 _ (by omega) (by omega) (in_S h6 (fun a b ha hb' => ?_))
        have eE : S k k * S i j + -1 * (S i k * S k j) = spE S k i j := by unfold spE; omega
        rw [eE]
        exact stp oi oj a b ha hb'
      refine x_iload_n hK kX4_splitOff_41 (q := 42) rfl rfl ?_
      refine x_iconst hK kX4_splitOff_42 (q := 43) rfl ?_
      refine x_icmp_ge hK kX4_splitOff_43 (q := 46) rfl (tg := 163) rfl (by refine ⟨?_, ?_⟩ <;> omega) (fun c43 => ?_) (fun c43 => ?_)
      · exfalso; omega
      · refine x_aload_n hK kX4_splitOff_46 (q := 47) rfl rfl ?_
        refine x_iload_n hK kX4_splitOff_47 (q := 48) rfl rfl ?_
        refine x_cv2 hK kX4_splitOff_48 (q := 51) rfl (vtX4_splitOff_73) (Nat.le_of_ble_eq_true rfl) ?_
        refine SX4_isOpen_i ⟨by omega, by omega⟩ O01' ?_
        rw [a7]
        refine x_if_eq hK kX4_splitOff_51 (q := 54) rfl (tg := 157) rfl (by unfold opI; split <;> decide) (fun c51 => ?_) (fun c51 => ?_)
        · have := opI_0 hi (by omega)
          have sk := skip (fun q => this q.1)
          refine x_iinc hK kX4_splitOff_157 (q := 160) rfl rfl ?_
          simp only [lS, lS2, clr_0, clr_I, clr_L, clr_R]
          refine x_goto hK kX4_splitOff_160 (tg := 41) rfl ?_
          exact sk
        · refine x_aload_n hK kX4_splitOff_54 (q := 55) rfl rfl ?_
          refine x_iload_n hK kX4_splitOff_55 (q := 56) rfl rfl ?_
          refine x_cv2 hK kX4_splitOff_56 (q := 59) rfl (vtX4_splitOff_73) (Nat.le_of_ble_eq_true rfl) ?_
          refine SX4_isOpen_i ⟨by omega, by omega⟩ O01' ?_
          rw [a7]
          refine x_if_eq hK kX4_splitOff_59 (q := 62) rfl (tg := 157) rfl (by unfold opI; split <;> decide) (fun c59 => ?_) (fun c59 => ?_)
          · have := opI_0 j4 (by omega)
            have sk := skip (fun q => this q.2)
            refine x_iinc hK kX4_splitOff_157 (q := 160) rfl rfl ?_
            simp only [lS, lS2, clr_0, clr_I, clr_L, clr_R]
            refine x_goto hK kX4_splitOff_160 (tg := 41) rfl ?_
            exact sk
          · exact work (opI_1 (by omega)) (opI_1 (by omega))
  have out : ∀ (d i : Nat) (W1 : Nat → Int → Int) (u3 : Option eV) (c : Int), i + d = 4 → aR W1 (inV B (P i i) (S k k) c) → K 34 [some (eR (1, 5)), some (eI k), some (eI i), u3] [] (cC F (uA A 7 O) W1) := by
    intro d
    induction d with
    | zero =>
      intro i W1 u3 c hi h1
      have : i = 4 := by omega
      subst this
      refine x_iload_n hK kX4_splitOff_34 (q := 35) rfl rfl ?_
      refine x_iconst hK kX4_splitOff_35 (q := 36) rfl ?_
      refine x_icmp_ge hK kX4_splitOff_36 (q := 39) rfl (tg := 169) rfl (by refine ⟨?_, ?_⟩ <;> omega) (fun c36 => ?_) (fun c36 => ?_)
      · refine x_return_ hK kX4_splitOff_169 (by first | trivial | exact Or.inl rfl | exact Or.inr rfl) ?_
        refine h c W1 (in_S h1 (fun a b ha hb' => ?_))
        rw [hP]
        unfold spF
        dsimp only
        by_cases g : O a = 1 ∧ O b = 1
        · rw [if_pos ⟨ha, hb', g.1, g.2⟩, if_pos ⟨ha, hb', g.1, g.2, by omega⟩]
        · rw [if_neg (fun r => g r.2.2), if_neg (fun r => g ⟨r.2.2.1, r.2.2.2.1⟩)]
      · exfalso; omega
    | succ d ih =>
      intro i W1 u3 c hi h1
      refine x_iload_n hK kX4_splitOff_34 (q := 35) rfl rfl ?_
      refine x_iconst hK kX4_splitOff_35 (q := 36) rfl ?_
      refine x_icmp_ge hK kX4_splitOff_36 (q := 39) rfl (tg := 169) rfl (by refine ⟨?_, ?_⟩ <;> omega) (fun c36 => ?_) (fun c36 => ?_)
      · exfalso; omega
      · refine x_iload_n hK kX4_splitOff_39 (q := 40) rfl rfl ?_
        refine x_istore_n hK kX4_splitOff_40 (q := 41) (jn := 3) rfl rfl ?_
        simp only [lS, lS2, clr_0, clr_I, clr_L, clr_R]
        exact mid i (by omega) (fun W2 u3 c h2 => ih (i + 1) W2 u3 c (by omega) h2) (4 - i) i W1 c (by omega) (Nat.le_refl _) h1
  have P0 : ∀ a b, P 0 0 a b = S a b := fun a b => by
    rw [hP]
    dsimp only
    rw [if_neg (fun q => by omega)]
  have o1 : opI (A 7) k = 1 := by
    unfold opI
    rw [if_pos ⟨by omega, by omega, hkO⟩]
  simp only [eLoc, eE, List.length_cons, List.length_nil, List.replicate, List.cons_append, List.nil_append, Nat.reduceAdd, Nat.reduceSub]
  refine x_aload_n hK kX4_splitOff_0 (q := 1) rfl rfl ?_
  refine x_iload_n hK kX4_splitOff_1 (q := 2) rfl rfl ?_
  refine x_cv2 hK kX4_splitOff_2 (q := 5) rfl (vtX4_splitOff_73) (Nat.le_of_ble_eq_true rfl) ?_
  refine SX4_isOpen_i ⟨by omega, by omega⟩ hO ?_
  rw [o1]
  refine x_if_ne hK kX4_splitOff_5 (q := 8) rfl (tg := 9) rfl (by omega) (fun c5 => ?_) (fun c5 => ?_)
  · refine x_aload_n hK kX4_splitOff_9 (q := 10) rfl rfl ?_
    refine x_getfield hK kX4_splitOff_10 (q := 13) rfl (gX4_22 ?_)
    refine x_iload_n hK kX4_splitOff_13 (q := 14) rfl rfl ?_
    refine x_iconst hK kX4_splitOff_14 (q := 15) rfl ?_
    refine x_bastore hK kX4_splitOff_15 (q := 16) rfl (by omega) (yC4_2 (by refine ⟨?_, ?_⟩ <;> omega) ?_)
    refine x_aload_n hK kX4_splitOff_16 (q := 17) rfl rfl ?_
    refine x_getfield hK kX4_splitOff_17 (q := 20) rfl (gX4_27 ?_)
    refine x_aload_n hK kX4_splitOff_20 (q := 21) rfl rfl ?_
    refine x_getfield hK kX4_splitOff_21 (q := 24) rfl (gX4_16 ?_)
    refine x_iload_n hK kX4_splitOff_24 (q := 25) rfl rfl ?_
    refine x_iload_n hK kX4_splitOff_25 (q := 26) rfl rfl ?_
    refine x_cv3 hK kX4_splitOff_26 (q := 29) rfl (vtX4_splitOff_63) (Nat.le_of_ble_eq_true rfl) ?_
    refine SX2_read_i (g := 10) (i := k) (j := k) (by decide) hk hk ?_
    refine x_cv2 hK kX4_splitOff_29 (q := 32) rfl (vtX4_splitOff_89) (Nat.le_of_ble_eq_true rfl) ?_
    refine copy_a (k := 330) (j := gb 10 + (4 * k + k)) hV (by omega) (by omega) (by rw [gb_10]; omega) (by rw [gb_10]; omega) (by rw [gb_10]; omega) (fun W2 h2 => ?_)
    rw [inV_s _ _ _ _ hk hk] at h2
    have h2 := in_p h2
    refine x_iconst hK kX4_splitOff_32 (q := 33) rfl ?_
    refine x_istore_n hK kX4_splitOff_33 (q := 34) (jn := 2) rfl rfl ?_
    simp only [lS, lS2, clr_0, clr_I, clr_L, clr_R]
    rw [hOe]
    exact out 4 0 W2 _ c rfl (in_S h2 (fun a b _ _ => P0 a b))
  · exfalso; omega
set_option maxRecDepth 20000 in
theorem mX4_splitOff : eMet yX4_splitOff cX4_splitOff 4 none 3 79 SX4_splitOff := eMet_of (by decide +kernel) sX4_splitOff kX4_splitOff_ok caX4_splitOff tb_RX4
theorem wX4_splitOff : eWV yX4_splitOff cX4_splitOff 4 none 2 4 SX4_splitOff := ⟨(gW_at 712 (by decide +kernel) rfl), (gW_at 87 (by decide +kernel) rfl), (gW_at 711 (by decide +kernel) rfl), ⟨_, rfl, (gW_at 30 (by decide +kernel) rfl)⟩, by decide +kernel, SX4_splitOff_r⟩
