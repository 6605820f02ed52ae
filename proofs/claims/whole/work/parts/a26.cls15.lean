/-! The desk: eliminate. -/
def SX1_eliminate : eSp := fun as M rt => ∃ (F : Nat → Int) (A W : Nat → Int → Int) (ar br : eA) (ba bb n p : Nat) (V U : Nat → Int) (a b : Nat), as = [eR (1, 2), eR ar, eR br, eI p] ∧ M = cC F A W ∧ (wa ar ba n) ∧ (wa br bb n) ∧ (ba + n ≤ bb ∨ bb + n ≤ ba) ∧ (p < n) ∧ (∀ i, i < n → wq (lw (ba + i)) (W (ba + i)) (V i)) ∧ (∀ i, i < n → wq (lw (bb + i)) (W (bb + i)) (U i)) ∧ (0 < U p) ∧ (∀ i, i < n → zAbs (V i) < cB ^ a) ∧ (∀ i, i < n → zAbs (U i) < cB ^ b) ∧ (a + b ≤ 62) ∧ (∀ i, i < n → zAbs (V i * (U p / (Int.gcd (U p) (V p) : Int)) - U i * (V p / (Int.gcd (U p) (V p) : Int))) < cB ^ lw (ba + i)) ∧ (∀ t, t < 10 → dv W t) ∧ (∀ W' : Nat → Int → Int, (∀ t, 10 ≤ t → (t < ba ∨ ba + n ≤ t) → W' t = W t) → (∀ i, i < n → wq (lw (ba + i)) (W' (ba + i)) (V i * (U p / (Int.gcd (U p) (V p) : Int)) - U i * (V p / (Int.gcd (U p) (V p) : Int)))) → (∀ t, t < 10 → dv W' t) → rt none (cC F A W'))
theorem SX1_eliminate_i {F : Nat → Int} {A W : Nat → Int → Int} {ar br : eA} {ba bb n p : Nat} {V U : Nat → Int} {a b : Nat} {rt : Option eV → eM → Prop} (hwa : wa ar ba n) (hwb : wa br bb n) (dis : ba + n ≤ bb ∨ bb + n ≤ ba) (hp : p < n) (hV : ∀ i, i < n → wq (lw (ba + i)) (W (ba + i)) (V i)) (hU : ∀ i, i < n → wq (lw (bb + i)) (W (bb + i)) (U i)) (u0 : 0 < U p) (hba : ∀ i, i < n → zAbs (V i) < cB ^ a) (hbb : ∀ i, i < n → zAbs (U i) < cB ^ b) (hab : a + b ≤ 62) (hr0 : ∀ i, i < n → zAbs (V i * (U p / (Int.gcd (U p) (V p) : Int)) - U i * (V p / (Int.gcd (U p) (V p) : Int))) < cB ^ lw (ba + i)) (ds : ∀ t, t < 10 → dv W t) (h : ∀ W' : Nat → Int → Int, (∀ t, 10 ≤ t → (t < ba ∨ ba + n ≤ t) → W' t = W t) → (∀ i, i < n → wq (lw (ba + i)) (W' (ba + i)) (V i * (U p / (Int.gcd (U p) (V p) : Int)) - U i * (V p / (Int.gcd (U p) (V p) : Int)))) → (∀ t, t < 10 → dv W' t) → rt none (cC F A W')) : SX1_eliminate [eR (1, 2), eR ar, eR br, eI p] (cC F A W) rt := ⟨F, A, W, ar, br, ba, bb, n, p, V, U, a, b, rfl, rfl, hwa, hwb, dis, hp, hV, hU, u0, hba, hbb, hab, hr0, ds, h⟩
theorem SX1_eliminate_r : ∀ as M rt, SX1_eliminate as M rt → ∃ a r fs, as = eR a :: r ∧ M a = some (.inl (1, fs)) := by
  rintro as M rt ⟨F, A, W, ar, br, ba, bb, n, p, V, U, a, b, rfl, rfl, -⟩
  exact ⟨_, _, _, rfl, rfl⟩
def kX1_eliminate : List (Nat × Jvm.ClassFile.Instr × Nat) := [(0, .iload_n 3, 1), (1, .ifCond .lt 16, 3), (4, .iload_n 3, 1), (5, .aload_n 1, 1), (6, .arraylength, 1), (7, .if_icmp .ge 10, 3), (10, .aload_n 1, 1), (11, .arraylength, 1), (12, .aload_n 2, 1), (13, .arraylength, 1), (14, .if_icmp .eq 4, 3), (17, .return_, 1), (18, .aload_n 0, 1), (19, .getfield 35, 3), (22, .aload_n 2, 1), (23, .iload_n 3, 1), (24, .aaload, 1), (25, .invokevirtual 89, 3), (28, .aload_n 0, 1), (29, .getfield 38, 3), (32, .aload_n 1, 1), (33, .iload_n 3, 1), (34, .aaload, 1), (35, .invokevirtual 89, 3), (38, .aload_n 0, 1), (39, .getfield 32, 3), (42, .aload_n 0, 1), (43, .aload_n 0, 1), (44, .getfield 35, 3), (47, .aload_n 0, 1), (48, .getfield 38, 3), (51, .invokevirtual 136, 3), (54, .invokevirtual 89, 3), (57, .aload_n 0, 1), (58, .aload_n 0, 1), (59, .getfield 35, 3), (62, .aload_n 0, 1), (63, .getfield 32, 3), (66, .invokevirtual 140, 3), (69, .aload_n 0, 1), (70, .aload_n 0, 1), (71, .getfield 38, 3), (74, .aload_n 0, 1), (75, .getfield 32, 3), (78, .invokevirtual 140, 3), (81, .iconst 0, 1), (82, .istore 4, 2), (84, .iload 4, 2), (86, .aload_n 1, 1), (87, .arraylength, 1), (88, .if_icmp .ge 62, 3), (91, .aload_n 0, 1), (92, .getfield 44, 3), (95, .lconst 0, 1), (96, .invokevirtual 59, 3), (99, .aload_n 0, 1), (100, .aload_n 0, 1), (101, .getfield 44, 3), (104, .aload_n 1, 1), (105, .iload 4, 2), (107, .aaload, 1), (108, .aload_n 0, 1), (109, .getfield 35, 3), (112, .iconst 1, 1), (113, .invokevirtual 143, 3), (116, .aload_n 0, 1), (117, .aload_n 0, 1), (118, .getfield 44, 3), (121, .aload_n 2, 1), (122, .iload 4, 2), (124, .aaload, 1), (125, .aload_n 0, 1), (126, .getfield 38, 3), (129, .iconst (-1), 1), (130, .invokevirtual 143, 3), (133, .aload_n 1, 1), (134, .iload 4, 2), (136, .aaload, 1), (137, .aload_n 0, 1), (138, .getfield 44, 3), (141, .invokevirtual 89, 3), (144, .iinc 4 1, 3), (147, .goto (-63), 3), (150, .return_, 1)]
theorem kX1_eliminate_0 : cdOf kX1_eliminate 0 = some (.iload_n 3, 1) := by decide +kernel
theorem kX1_eliminate_1 : cdOf kX1_eliminate 1 = some (.ifCond .lt 16, 3) := by decide +kernel
theorem kX1_eliminate_4 : cdOf kX1_eliminate 4 = some (.iload_n 3, 1) := by decide +kernel
theorem kX1_eliminate_5 : cdOf kX1_eliminate 5 = some (.aload_n 1, 1) := by decide +kernel
theorem kX1_eliminate_6 : cdOf kX1_eliminate 6 = some (.arraylength, 1) := by decide +kernel
theorem kX1_eliminate_7 : cdOf kX1_eliminate 7 = some (.if_icmp .ge 10, 3) := by decide +kernel
theorem kX1_eliminate_10 : cdOf kX1_eliminate 10 = some (.aload_n 1, 1) := by decide +kernel
theorem kX1_eliminate_11 : cdOf kX1_eliminate 11 = some (.arraylength, 1) := by decide +kernel
theorem kX1_eliminate_12 : cdOf kX1_eliminate 12 = some (.aload_n 2, 1) := by decide +kernel
theorem kX1_eliminate_13 : cdOf kX1_eliminate 13 = some (.arraylength, 1) := by decide +kernel
theorem kX1_eliminate_14 : cdOf kX1_eliminate 14 = some (.if_icmp .eq 4, 3) := by decide +kernel
theorem kX1_eliminate_17 : cdOf kX1_eliminate 17 = some (.return_, 1) := by decide +kernel
theorem kX1_eliminate_18 : cdOf kX1_eliminate 18 = some (.aload_n 0, 1) := by decide +kernel
theorem kX1_eliminate_19 : cdOf kX1_eliminate 19 = some (.getfield 35, 3) := by decide +kernel
theorem kX1_eliminate_22 : cdOf kX1_eliminate 22 = some (.aload_n 2, 1) := by decide +kernel
theorem kX1_eliminate_23 : cdOf kX1_eliminate 23 = some (.iload_n 3, 1) := by decide +kernel
theorem kX1_eliminate_24 : cdOf kX1_eliminate 24 = some (.aaload, 1) := by decide +kernel
theorem kX1_eliminate_25 : cdOf kX1_eliminate 25 = some (.invokevirtual 89, 3) := by decide +kernel
theorem kX1_eliminate_28 : cdOf kX1_eliminate 28 = some (.aload_n 0, 1) := by decide +kernel
theorem kX1_eliminate_29 : cdOf kX1_eliminate 29 = some (.getfield 38, 3) := by decide +kernel
theorem kX1_eliminate_32 : cdOf kX1_eliminate 32 = some (.aload_n 1, 1) := by decide +kernel
theorem kX1_eliminate_33 : cdOf kX1_eliminate 33 = some (.iload_n 3, 1) := by decide +kernel
theorem kX1_eliminate_34 : cdOf kX1_eliminate 34 = some (.aaload, 1) := by decide +kernel
theorem kX1_eliminate_35 : cdOf kX1_eliminate 35 = some (.invokevirtual 89, 3) := by decide +kernel
theorem kX1_eliminate_38 : cdOf kX1_eliminate 38 = some (.aload_n 0, 1) := by decide +kernel
theorem kX1_eliminate_39 : cdOf kX1_eliminate 39 = some (.getfield 32, 3) := by decide +kernel
theorem kX1_eliminate_42 : cdOf kX1_eliminate 42 = some (.aload_n 0, 1) := by decide +kernel
theorem kX1_eliminate_43 : cdOf kX1_eliminate 43 = some (.aload_n 0, 1) := by decide +kernel
theorem kX1_eliminate_44 : cdOf kX1_eliminate 44 = some (.getfield 35, 3) := by decide +kernel
theorem kX1_eliminate_47 : cdOf kX1_eliminate 47 = some (.aload_n 0, 1) := by decide +kernel
theorem kX1_eliminate_48 : cdOf kX1_eliminate 48 = some (.getfield 38, 3) := by decide +kernel
theorem kX1_eliminate_51 : cdOf kX1_eliminate 51 = some (.invokevirtual 136, 3) := by decide +kernel
theorem kX1_eliminate_54 : cdOf kX1_eliminate 54 = some (.invokevirtual 89, 3) := by decide +kernel
theorem kX1_eliminate_57 : cdOf kX1_eliminate 57 = some (.aload_n 0, 1) := by decide +kernel
theorem kX1_eliminate_58 : cdOf kX1_eliminate 58 = some (.aload_n 0, 1) := by decide +kernel
theorem kX1_eliminate_59 : cdOf kX1_eliminate 59 = some (.getfield 35, 3) := by decide +kernel
theorem kX1_eliminate_62 : cdOf kX1_eliminate 62 = some (.aload_n 0, 1) := by decide +kernel
theorem kX1_eliminate_63 : cdOf kX1_eliminate 63 = some (.getfield 32, 3) := by decide +kernel
theorem kX1_eliminate_66 : cdOf kX1_eliminate 66 = some (.invokevirtual 140, 3) := by decide +kernel
theorem kX1_eliminate_69 : cdOf kX1_eliminate 69 = some (.aload_n 0, 1) := by decide +kernel
theorem kX1_eliminate_70 : cdOf kX1_eliminate 70 = some (.aload_n 0, 1) := by decide +kernel
theorem kX1_eliminate_71 : cdOf kX1_eliminate 71 = some (.getfield 38, 3) := by decide +kernel
theorem kX1_eliminate_74 : cdOf kX1_eliminate 74 = some (.aload_n 0, 1) := by decide +kernel
theorem kX1_eliminate_75 : cdOf kX1_eliminate 75 = some (.getfield 32, 3) := by decide +kernel
theorem kX1_eliminate_78 : cdOf kX1_eliminate 78 = some (.invokevirtual 140, 3) := by decide +kernel
theorem kX1_eliminate_81 : cdOf kX1_eliminate 81 = some (.iconst 0, 1) := by decide +kernel
theorem kX1_eliminate_82 : cdOf kX1_eliminate 82 = some (.istore 4, 2) := by decide +kernel
theorem kX1_eliminate_84 : cdOf kX1_eliminate 84 = some (.iload 4, 2) := by decide +kernel
theorem kX1_eliminate_86 : cdOf kX1_eliminate 86 = some (.aload_n 1, 1) := by decide +kernel
theorem kX1_eliminate_87 : cdOf kX1_eliminate 87 = some (.arraylength, 1) := by decide +kernel
theorem kX1_eliminate_88 : cdOf kX1_eliminate 88 = some (.if_icmp .ge 62, 3) := by decide +kernel
theorem kX1_eliminate_91 : cdOf kX1_eliminate 91 = some (.aload_n 0, 1) := by decide +kernel
theorem kX1_eliminate_92 : cdOf kX1_eliminate 92 = some (.getfield 44, 3) := by decide +kernel
theorem kX1_eliminate_95 : cdOf kX1_eliminate 95 = some (.lconst 0, 1) := by decide +kernel
theorem kX1_eliminate_96 : cdOf kX1_eliminate 96 = some (.invokevirtual 59, 3) := by decide +kernel
theorem kX1_eliminate_99 : cdOf kX1_eliminate 99 = some (.aload_n 0, 1) := by decide +kernel
theorem kX1_eliminate_100 : cdOf kX1_eliminate 100 = some (.aload_n 0, 1) := by decide +kernel
theorem kX1_eliminate_101 : cdOf kX1_eliminate 101 = some (.getfield 44, 3) := by decide +kernel
theorem kX1_eliminate_104 : cdOf kX1_eliminate 104 = some (.aload_n 1, 1) := by decide +kernel
theorem kX1_eliminate_105 : cdOf kX1_eliminate 105 = some (.iload 4, 2) := by decide +kernel
theorem kX1_eliminate_107 : cdOf kX1_eliminate 107 = some (.aaload, 1) := by decide +kernel
theorem kX1_eliminate_108 : cdOf kX1_eliminate 108 = some (.aload_n 0, 1) := by decide +kernel
theorem kX1_eliminate_109 : cdOf kX1_eliminate 109 = some (.getfield 35, 3) := by decide +kernel
theorem kX1_eliminate_112 : cdOf kX1_eliminate 112 = some (.iconst 1, 1) := by decide +kernel
theorem kX1_eliminate_113 : cdOf kX1_eliminate 113 = some (.invokevirtual 143, 3) := by decide +kernel
theorem kX1_eliminate_116 : cdOf kX1_eliminate 116 = some (.aload_n 0, 1) := by decide +kernel
theorem kX1_eliminate_117 : cdOf kX1_eliminate 117 = some (.aload_n 0, 1) := by decide +kernel
theorem kX1_eliminate_118 : cdOf kX1_eliminate 118 = some (.getfield 44, 3) := by decide +kernel
theorem kX1_eliminate_121 : cdOf kX1_eliminate 121 = some (.aload_n 2, 1) := by decide +kernel
theorem kX1_eliminate_122 : cdOf kX1_eliminate 122 = some (.iload 4, 2) := by decide +kernel
theorem kX1_eliminate_124 : cdOf kX1_eliminate 124 = some (.aaload, 1) := by decide +kernel
theorem kX1_eliminate_125 : cdOf kX1_eliminate 125 = some (.aload_n 0, 1) := by decide +kernel
theorem kX1_eliminate_126 : cdOf kX1_eliminate 126 = some (.getfield 38, 3) := by decide +kernel
theorem kX1_eliminate_129 : cdOf kX1_eliminate 129 = some (.iconst (-1), 1) := by decide +kernel
theorem kX1_eliminate_130 : cdOf kX1_eliminate 130 = some (.invokevirtual 143, 3) := by decide +kernel
theorem kX1_eliminate_133 : cdOf kX1_eliminate 133 = some (.aload_n 1, 1) := by decide +kernel
theorem kX1_eliminate_134 : cdOf kX1_eliminate 134 = some (.iload 4, 2) := by decide +kernel
theorem kX1_eliminate_136 : cdOf kX1_eliminate 136 = some (.aaload, 1) := by decide +kernel
theorem kX1_eliminate_137 : cdOf kX1_eliminate 137 = some (.aload_n 0, 1) := by decide +kernel
theorem kX1_eliminate_138 : cdOf kX1_eliminate 138 = some (.getfield 44, 3) := by decide +kernel
theorem kX1_eliminate_141 : cdOf kX1_eliminate 141 = some (.invokevirtual 89, 3) := by decide +kernel
theorem kX1_eliminate_144 : cdOf kX1_eliminate 144 = some (.iinc 4 1, 3) := by decide +kernel
theorem kX1_eliminate_147 : cdOf kX1_eliminate 147 = some (.goto (-63), 3) := by decide +kernel
theorem kX1_eliminate_150 : cdOf kX1_eliminate 150 = some (.return_, 1) := by decide +kernel
set_option maxRecDepth 20000 in
theorem kX1_eliminate_ok : ∀ pc i len, cdOf kX1_eliminate pc = some (i, len) → decode cX1_eliminate pc = .ok (i, len) ∧ stOK 5 i = true ∧ jOK pc i = true ∧ eLen i len = true := cdOf_ok cX1_eliminate 5 kX1_eliminate (by decide +kernel)
def vtX1_eliminate : Nat → Option (Nat × eSp) := fun k => match k with
  | 89 => some (2, SX8_copy)
  | 136 => some (3, SX1_divisor)
  | 140 => some (3, SX1_share)
  | 59 => some (2, SX8_set)
  | 143 => some (5, SX1_addProduct)
  | _ => none
theorem vtX1_eliminate_89 : vtX1_eliminate 89 = some (2, SX8_copy) := rfl
theorem vtX1_eliminate_136 : vtX1_eliminate 136 = some (3, SX1_divisor) := rfl
theorem vtX1_eliminate_140 : vtX1_eliminate 140 = some (3, SX1_share) := rfl
theorem vtX1_eliminate_59 : vtX1_eliminate 59 = some (2, SX8_set) := rfl
theorem vtX1_eliminate_143 : vtX1_eliminate 143 = some (5, SX1_addProduct) := rfl
def stX1_eliminate : Nat → Option (Nat × eSp) := fun _ => none
abbrev TX1_eliminate : eT := (fl_RX1, cl_RX1, dl_RX1, vtX1_eliminate, stX1_eliminate)
set_option maxRecDepth 20000 in
theorem caX1_eliminate : eCalls RX1 { frames := 3, cells := 0, slots := 0, locals := 90 } TX1_eliminate := by
  refine ⟨fun k n sp h => ?_, fun k n sp h => ?_⟩
  · dsimp only [TX1_eliminate] at h
    unfold vtX1_eliminate at h
    split at h
    · cases h; exact eV_mk mX8_copy wX8_copy (by decide +kernel) (Or.inl (gW_at 443 (by decide +kernel) rfl))
    · cases h; exact eV_mk mX1_divisor wX1_divisor (by decide +kernel) (Or.inl (gW_at 447 (by decide +kernel) rfl))
    · cases h; exact eV_mk mX1_share wX1_share (by decide +kernel) (Or.inl (gW_at 510 (by decide +kernel) rfl))
    · cases h; exact eV_mk mX8_set wX8_set (by decide +kernel) (Or.inl (gW_at 465 (by decide +kernel) rfl))
    · cases h; exact eV_mk mX1_addProduct wX1_addProduct (by decide +kernel) (Or.inl (gW_at 522 (by decide +kernel) rfl))
    · cases h
  · cases h
set_option maxRecDepth 100000 in
set_option maxHeartbeats 4000000 in
theorem sX1_eliminate : eSafe TX1_eliminate (cdOf kX1_eliminate) 5 none SX1_eliminate := by
  intro K rt hK as M h
  obtain ⟨F, A, W, ar, br, ba, bb, n, p, V, U, a, b, rfl, rfl, hwa, hwb, dis, hp, hV, hU, u0, hba, hbb, hab, hr0, ds, h⟩ := h
  refine ⟨by simp [eE], ?_⟩
  have wra := wa_r hwa
  have wrb := wa_r hwb
  have c780 := cB_pos 62
  have a78 := cB_mono (show a ≤ 62 by omega)
  have b78 := cB_mono (show b ≤ 62 by omega)
  have gp := gcd_p (y := V p) u0
  obtain ⟨X, hX⟩ : ∃ X, U p / (Int.gcd (U p) (V p) : Int) = X := ⟨_, rfl⟩
  obtain ⟨Y, hY⟩ : ∃ Y, V p / (Int.gcd (U p) (V p) : Int) = Y := ⟨_, rfl⟩
  have bX : zAbs X < cB ^ b := by
    have h1 := zAbs_dv (U p) (m := (Int.gcd (U p) (V p) : Int)) (by omega)
    have h2 := hbb p hp
    rw [hX] at h1
    omega
  have bY : zAbs Y < cB ^ a := by
    have h1 := zAbs_dv (V p) (m := (Int.gcd (U p) (V p) : Int)) (by omega)
    have h2 := hba p hp
    rw [hY] at h1
    omega
  rw [hX, hY] at h hr0
  have pb : ∀ x y : Int, zAbs x < cB ^ a → zAbs y < cB ^ b → zAbs (x * y) < cB ^ 62 := fun x y hx hy => by
    rw [zAbs_x]
    have h1 := Int.mul_le_mul (show zAbs x ≤ cB ^ a - 1 by omega) (show zAbs y ≤ cB ^ b by omega) (zAbs_0 y) (by have := zAbs_0 x; omega)
    have h2 : (cB ^ a - 1) * cB ^ b = cB ^ (a + b) - cB ^ b := by rw [Int.sub_mul, Int.one_mul, ← Int.pow_add]
    have h3 := cB_mono hab
    have h4 := cB_pos b
    omega
  have l9 : lw 9 = 64 := lw_d (by decide)
  have c80 : 2 * cB ^ 62 < cB ^ 64 := by
    have e1 : cB ^ 64 = cB ^ 62 * 2147483648 * 2147483648 := by rw [show (64 : Nat) = 62 + 1 + 1 by decide, cB_succ, cB_succ]
    omega
  have loop : ∀ (d i : Nat) (W1 : Nat → Int → Int), i + d = n → wq (lw 6) (W1 6) X → wq (lw 7) (W1 7) Y → (∀ t, 10 ≤ t → (t < ba ∨ ba + i ≤ t) → W1 t = W t) → (∀ k, k < i → wq (lw (ba + k)) (W1 (ba + k)) (V k * X - U k * Y)) → (∀ t, t < 10 → dv W1 t) →
      K 84 [some (eR (1, 2)), some (eR ar), some (eR br), some (eI p), some (eI i)] [] (cC F A W1) := by
    intro d
    induction d with
    | zero =>
      intro i W1 hi h6 h7 hf hv hd
      have : i = n := by omega
      subst this
      refine x_iload hK kX1_eliminate_84 (q := 86) rfl rfl ?_
      refine x_aload_n hK kX1_eliminate_86 (q := 87) rfl rfl ?_
      refine x_arraylength hK kX1_eliminate_87 (q := 88) rfl (wa_n hwa ?_)
      refine x_icmp_ge hK kX1_eliminate_88 (q := 91) rfl (tg := 150) rfl (by refine ⟨?_, ?_⟩ <;> omega) (fun c88 => ?_) (fun c88 => ?_)
      · refine x_return_ hK kX1_eliminate_150 (by first | trivial | exact Or.inl rfl | exact Or.inr rfl) ?_
        exact h W1 hf hv hd
      · exfalso; omega
    | succ d ih =>
      intro i W1 hi h6 h7 hf hv hd
      have b1 := pb (V i) X (hba i (by omega)) bX
      have b2 := pb Y (U i) bY (hbb i (by omega))
      have eVX : zAbs 0 = 0 := rfl
      refine x_iload hK kX1_eliminate_84 (q := 86) rfl rfl ?_
      refine x_aload_n hK kX1_eliminate_86 (q := 87) rfl rfl ?_
      refine x_arraylength hK kX1_eliminate_87 (q := 88) rfl (wa_n hwa ?_)
      refine x_icmp_ge hK kX1_eliminate_88 (q := 91) rfl (tg := 150) rfl (by refine ⟨?_, ?_⟩ <;> omega) (fun c88 => ?_) (fun c88 => ?_)
      · exfalso; omega
      · refine x_aload_n hK kX1_eliminate_91 (q := 92) rfl rfl ?_
        refine x_getfield hK kX1_eliminate_92 (q := 95) rfl (gX1_44 ?_)
        refine x_lconst0 hK kX1_eliminate_95 (q := 96) rfl ?_
        refine x_cv2 hK kX1_eliminate_96 (q := 99) rfl (vtX1_eliminate_59) (Nat.le_of_ble_eq_true rfl) ?_
        refine SX8_set_i (by decide) (by decide) (fun f hf9 => ?_)
        refine x_aload_n hK kX1_eliminate_99 (q := 100) rfl rfl ?_
        refine x_aload_n hK kX1_eliminate_100 (q := 101) rfl rfl ?_
        refine x_getfield hK kX1_eliminate_101 (q := 104) rfl (gX1_44 ?_)
        refine x_aload_n hK kX1_eliminate_104 (q := 105) rfl rfl ?_
        refine x_iload hK kX1_eliminate_105 (q := 107) rfl rfl ?_
        refine x_aaload hK kX1_eliminate_107 (q := 108) rfl (wa_a hwa (by omega) ?_)
        refine x_aload_n hK kX1_eliminate_108 (q := 109) rfl rfl ?_
        refine x_getfield hK kX1_eliminate_109 (q := 112) rfl (gX1_35 ?_)
        refine x_iconst hK kX1_eliminate_112 (q := 113) rfl ?_
        refine x_cv5 hK kX1_eliminate_113 (q := 116) rfl (vtX1_eliminate_143) (Nat.le_of_ble_eq_true rfl) ?_
        refine SX1_addProduct_i (k := 9) (a := ba + i) (b := 6) (s := 0) (x := V i) (y := X) (p := a) (q := b) (by decide) (by omega) (by decide) (by decide) (by omega) (by decide) (Or.inl rfl) (by rw [uA_g]; exact hf9) (by rw [uA_n _ _ (by omega), hf _ (by omega) (by omega)]; exact hV i (by omega)) (by rw [uA_n _ _ (by decide)]; exact h6) (hba i (by omega)) bX (by omega) (by rw [l9]; omega) (dv_n (hd 8 (by decide)) (uA_n _ _ (by decide))) (fun W2 f2 g2 e2 => ?_)
        rw [Int.one_mul, Int.zero_add] at g2
        refine x_aload_n hK kX1_eliminate_116 (q := 117) rfl rfl ?_
        refine x_aload_n hK kX1_eliminate_117 (q := 118) rfl rfl ?_
        refine x_getfield hK kX1_eliminate_118 (q := 121) rfl (gX1_44 ?_)
        refine x_aload_n hK kX1_eliminate_121 (q := 122) rfl rfl ?_
        refine x_iload hK kX1_eliminate_122 (q := 124) rfl rfl ?_
        refine x_aaload hK kX1_eliminate_124 (q := 125) rfl (wa_a hwb (by omega) ?_)
        refine x_aload_n hK kX1_eliminate_125 (q := 126) rfl rfl ?_
        refine x_getfield hK kX1_eliminate_126 (q := 129) rfl (gX1_38 ?_)
        refine x_iconst hK kX1_eliminate_129 (q := 130) rfl ?_
        refine x_cv5 hK kX1_eliminate_130 (q := 133) rfl (vtX1_eliminate_143) (Nat.le_of_ble_eq_true rfl) ?_
        refine SX1_addProduct_i (k := 9) (a := bb + i) (b := 7) (s := V i * X) (x := U i) (y := Y) (p := b) (q := a) (by decide) (by omega) (by decide) (by decide) (by omega) (by decide) (Or.inr rfl) g2 (by rw [f2 _ (by omega) (by omega), uA_n _ _ (by omega), hf _ (by omega) (by omega)]; exact hU i (by omega)) (by rw [f2 7 (by decide) (by decide), uA_n _ _ (by decide)]; exact h7) (hbb i (by omega)) bY (by omega) (by rw [l9, Int.mul_comm (U i) Y]; omega) e2 (fun W3 f3 g3 e3 => ?_)
        have e4 : V i * X + -1 * (U i * Y) = V i * X - U i * Y := by omega
        rw [e4] at g3
        refine x_aload_n hK kX1_eliminate_133 (q := 134) rfl rfl ?_
        refine x_iload hK kX1_eliminate_134 (q := 136) rfl rfl ?_
        refine x_aaload hK kX1_eliminate_136 (q := 137) rfl (wa_a hwa (by omega) ?_)
        refine x_aload_n hK kX1_eliminate_137 (q := 138) rfl rfl ?_
        refine x_getfield hK kX1_eliminate_138 (q := 141) rfl (gX1_44 ?_)
        refine x_cv2 hK kX1_eliminate_141 (q := 144) rfl (vtX1_eliminate_89) (Nat.le_of_ble_eq_true rfl) ?_
        refine SX8_copy_i (k := ba + i) (z := V i * X - U i * Y) (by omega) (by decide) (by omega) g3 (hr0 i (by omega)) (fun g hg => ?_)
        refine x_iinc hK kX1_eliminate_144 (q := 147) rfl rfl ?_
        simp only [lS, lS2, clr_0, clr_I, clr_L, clr_R]
        refine x_goto hK kX1_eliminate_147 (tg := 84) rfl ?_
        rw [show (i : Int) + 1 = ((i + 1 : Nat) : Int) by omega]
        have fr : ∀ t, t ≠ 8 → t ≠ 9 → t ≠ ba + i → uA W3 (ba + i) g t = W1 t := fun t t8 t9 tk => by rw [uA_n _ _ tk, f3 t t8 t9, f2 t t8 t9, uA_n _ _ t9]
        refine ih (i + 1) (uA W3 (ba + i) g) (by omega) (by rw [fr 6 (by decide) (by decide) (by omega)]; exact h6) (by rw [fr 7 (by decide) (by decide) (by omega)]; exact h7) (fun t t0 t1 => by rw [fr t (by omega) (by omega) (by omega)]; exact hf t t0 (by omega)) (fun k hk => ?_) (fun t ht => ?_)
        · rcases Nat.lt_or_ge k i with q | q
          · rw [fr _ (by omega) (by omega) (by omega)]; exact hv k q
          · rw [show k = i by omega, uA_g]; exact hg
        · by_cases q8 : t = 8
          · rw [q8]; exact dv_n e3 (uA_n _ _ (by omega))
          · by_cases q9 : t = 9
            · rw [q9]; exact ⟨_, by rw [uA_n _ _ (by omega)]; exact g3⟩
            · exact dv_n (hd t ht) (fr t q8 q9 (by omega))
  simp only [eLoc, eE, List.length_cons, List.length_nil, List.replicate, List.cons_append, List.nil_append, Nat.reduceAdd, Nat.reduceSub]
  refine x_iload_n hK kX1_eliminate_0 (q := 1) rfl rfl ?_
  refine x_if_lt hK kX1_eliminate_1 (q := 4) rfl (tg := 17) rfl (by omega) (fun c1 => ?_) (fun c1 => ?_)
  · exfalso; omega
  · refine x_iload_n hK kX1_eliminate_4 (q := 5) rfl rfl ?_
    refine x_aload_n hK kX1_eliminate_5 (q := 6) rfl rfl ?_
    refine x_arraylength hK kX1_eliminate_6 (q := 7) rfl (wa_n hwa ?_)
    refine x_icmp_ge hK kX1_eliminate_7 (q := 10) rfl (tg := 17) rfl (by refine ⟨?_, ?_⟩ <;> omega) (fun c7 => ?_) (fun c7 => ?_)
    · exfalso; omega
    · refine x_aload_n hK kX1_eliminate_10 (q := 11) rfl rfl ?_
      refine x_arraylength hK kX1_eliminate_11 (q := 12) rfl (wa_n hwa ?_)
      refine x_aload_n hK kX1_eliminate_12 (q := 13) rfl rfl ?_
      refine x_arraylength hK kX1_eliminate_13 (q := 14) rfl (wa_n hwb ?_)
      refine x_icmp_eq hK kX1_eliminate_14 (q := 17) rfl (tg := 18) rfl (by refine ⟨?_, ?_⟩ <;> omega) (fun c14 => ?_) (fun c14 => ?_)
      · refine x_aload_n hK kX1_eliminate_18 (q := 19) rfl rfl ?_
        refine x_getfield hK kX1_eliminate_19 (q := 22) rfl (gX1_35 ?_)
        refine x_aload_n hK kX1_eliminate_22 (q := 23) rfl rfl ?_
        refine x_iload_n hK kX1_eliminate_23 (q := 24) rfl rfl ?_
        refine x_aaload hK kX1_eliminate_24 (q := 25) rfl (wa_a hwb (by omega) ?_)
        refine x_cv2 hK kX1_eliminate_25 (q := 28) rfl (vtX1_eliminate_89) (Nat.le_of_ble_eq_true rfl) ?_
        refine SX8_copy_i (j := bb + p) (z := U p) (by decide) (by omega) (by omega) (hU p hp) (to_d (by decide) (hU p hp)) (fun f0 hf0 => ?_)
        refine x_aload_n hK kX1_eliminate_28 (q := 29) rfl rfl ?_
        refine x_getfield hK kX1_eliminate_29 (q := 32) rfl (gX1_38 ?_)
        refine x_aload_n hK kX1_eliminate_32 (q := 33) rfl rfl ?_
        refine x_iload_n hK kX1_eliminate_33 (q := 34) rfl rfl ?_
        refine x_aaload hK kX1_eliminate_34 (q := 35) rfl (wa_a hwa (by omega) ?_)
        refine x_cv2 hK kX1_eliminate_35 (q := 38) rfl (vtX1_eliminate_89) (Nat.le_of_ble_eq_true rfl) ?_
        refine SX8_copy_i (j := ba + p) (z := V p) (by decide) (by omega) (by omega) (by rw [uA_n _ _ (by omega)]; exact hV p hp) (to_d (by decide) (hV p hp)) (fun f1 hf1 => ?_)
        refine x_aload_n hK kX1_eliminate_38 (q := 39) rfl rfl ?_
        refine x_getfield hK kX1_eliminate_39 (q := 42) rfl (gX1_32 ?_)
        refine x_aload_n hK kX1_eliminate_42 (q := 43) rfl rfl ?_
        refine x_aload_n hK kX1_eliminate_43 (q := 44) rfl rfl ?_
        refine x_getfield hK kX1_eliminate_44 (q := 47) rfl (gX1_35 ?_)
        refine x_aload_n hK kX1_eliminate_47 (q := 48) rfl rfl ?_
        refine x_getfield hK kX1_eliminate_48 (q := 51) rfl (gX1_38 ?_)
        refine x_cv3 hK kX1_eliminate_51 (q := 54) rfl (vtX1_eliminate_136) (Nat.le_of_ble_eq_true rfl) ?_
        refine SX1_divisor_i (x := U p) (y := V p) (by decide) (by decide) (by decide) (by decide) (by rw [uA_n _ _ (by decide), uA_g]; exact hf0) (by rw [uA_g]; exact hf1) (by have := hbb p hp; omega) (by have := hba p hp; omega) (dv_n (ds 2 (by decide)) (by rw [uA_n _ _ (by decide), uA_n _ _ (by decide)])) (dv_n (ds 3 (by decide)) (by rw [uA_n _ _ (by decide), uA_n _ _ (by decide)])) (fun W1 r hr f1' d1 q1 => ?_)
        have w6 : wq (lw 6) (W1 6) (U p) := by rw [f1' 6 (by decide), uA_n _ _ (by decide), uA_g]; exact hf0
        have w7 : wq (lw 7) (W1 7) (V p) := by rw [f1' 7 (by decide), uA_g]; exact hf1
        have fr1 : ∀ t, 4 ≤ t → t ≠ 6 → t ≠ 7 → W1 t = W t := fun t t4 a6 a7 => by rw [f1' t t4, uA_n _ _ a7, uA_n _ _ a6]
        refine x_cv2 hK kX1_eliminate_54 (q := 57) rfl (vtX1_eliminate_89) (Nat.le_of_ble_eq_true rfl) ?_
        refine SX8_copy_i (z := (Int.gcd (U p) (V p) : Int)) (by decide) (by omega) (by omega) q1 (to_d (by decide) q1) (fun f2 hf2 => ?_)
        refine x_aload_n hK kX1_eliminate_57 (q := 58) rfl rfl ?_
        refine x_aload_n hK kX1_eliminate_58 (q := 59) rfl rfl ?_
        refine x_getfield hK kX1_eliminate_59 (q := 62) rfl (gX1_35 ?_)
        refine x_aload_n hK kX1_eliminate_62 (q := 63) rfl rfl ?_
        refine x_getfield hK kX1_eliminate_63 (q := 66) rfl (gX1_32 ?_)
        refine x_cv3 hK kX1_eliminate_66 (q := 69) rfl (vtX1_eliminate_140) (Nat.le_of_ble_eq_true rfl) ?_
        refine SX1_share_i (x := U p) (d := (Int.gcd (U p) (V p) : Int)) (by decide) (by decide) (by decide) (by decide) (by decide) (by decide) (by decide) (by rw [uA_n _ _ (by decide)]; exact w6) (by rw [uA_g]; exact hf2) gp.1 gp.2.1 (by have := hbb p hp; omega) (dv_n (d1 2 (by decide)) (uA_n _ _ (by decide))) (dv_n (ds 4 (by decide)) (by rw [uA_n _ _ (by decide)]; exact fr1 4 (by decide) (by decide) (by decide))) (fun W2 f3 q2 e2 e4 => ?_)
        have w5 : wq (lw 5) (W2 5) (Int.gcd (U p) (V p) : Int) := by rw [f3 5 (by decide) (by decide) (by decide), uA_g]; exact hf2
        rw [hX] at q2
        refine x_aload_n hK kX1_eliminate_69 (q := 70) rfl rfl ?_
        refine x_aload_n hK kX1_eliminate_70 (q := 71) rfl rfl ?_
        refine x_getfield hK kX1_eliminate_71 (q := 74) rfl (gX1_38 ?_)
        refine x_aload_n hK kX1_eliminate_74 (q := 75) rfl rfl ?_
        refine x_getfield hK kX1_eliminate_75 (q := 78) rfl (gX1_32 ?_)
        refine x_cv3 hK kX1_eliminate_78 (q := 81) rfl (vtX1_eliminate_140) (Nat.le_of_ble_eq_true rfl) ?_
        refine SX1_share_i (x := V p) (d := (Int.gcd (U p) (V p) : Int)) (by decide) (by decide) (by decide) (by decide) (by decide) (by decide) (by decide) (by rw [f3 7 (by decide) (by decide) (by decide), uA_n _ _ (by decide)]; exact w7) w5 gp.1 gp.2.2 (by have := hba p hp; omega) e2 e4 (fun W3 f4 q3 e2' e4' => ?_)
        rw [hY] at q3
        have fr3 : ∀ t, 10 ≤ t → W3 t = W t := fun t ht => by rw [f4 t (by omega) (by omega) (by omega), f3 t (by omega) (by omega) (by omega), uA_n _ _ (by omega), fr1 t (by omega) (by omega) (by omega)]
        refine x_iconst hK kX1_eliminate_81 (q := 82) rfl ?_
        refine x_istore hK kX1_eliminate_82 (q := 84) rfl ?_
        simp only [lS, lS2, clr_0, clr_I, clr_L, clr_R]
        refine loop n 0 W3 (by omega) (by rw [f4 6 (by decide) (by decide) (by decide)]; exact q2) q3 (fun t t0 _ => fr3 t t0) (fun k hk => absurd hk (by omega)) (fun t ht => ?_)
        have ht' : t = 2 ∨ t = 4 ∨ t = 5 ∨ t = 6 ∨ t = 7 ∨ (t ≠ 2 ∧ t ≠ 4 ∧ t ≠ 5 ∧ t ≠ 6 ∧ t ≠ 7) := by omega
        rcases ht' with e | e | e | e | e | ⟨a2, a4, a5, a6, a7⟩
        · rw [e]; exact e2'
        · rw [e]; exact e4'
        · rw [e]; exact ⟨_, by rw [f4 5 (by decide) (by decide) (by decide)]; exact w5⟩
        · rw [e]; exact ⟨_, by rw [f4 6 (by decide) (by decide) (by decide)]; exact q2⟩
        · rw [e]; exact ⟨_, q3⟩
        · have e : W3 t = W1 t := by rw [f4 t a2 a4 a7, f3 t a2 a4 a6, uA_n _ _ a5]
          rcases Nat.lt_or_ge t 4 with g | g
          · exact dv_n (d1 t g) e
          · exact dv_n (ds t ht) (by rw [e]; exact fr1 t g a6 a7)
      · exfalso; omega
set_option maxRecDepth 20000 in
theorem mX1_eliminate : eMet yX1_eliminate cX1_eliminate 5 none 3 90 SX1_eliminate := eMet_of (by decide +kernel) sX1_eliminate kX1_eliminate_ok caX1_eliminate tb_RX1
theorem wX1_eliminate : eWV yX1_eliminate cX1_eliminate 5 none 4 1 SX1_eliminate := ⟨(gW_at 442 (by decide +kernel) rfl), (gW_at 80 (by decide +kernel) rfl), (gW_at 440 (by decide +kernel) rfl), ⟨_, rfl, (gW_at 441 (by decide +kernel) rfl)⟩, by decide +kernel, SX1_eliminate_r⟩
