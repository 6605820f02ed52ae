/-! Inertia: measure on the machine. -/
/-- the form that measure works on -/
def msS (V : Nat → Int) (g : Nat) (a b : Nat) : Int := V (gb g + (4 * a + b)) / (cG (fun i => V (gb g + i)) 16 : Int)
/-- the open lines -/
def mzO (n k : Nat) (f : Int → Int) : Int → Int := fun j => if 0 ≤ j ∧ j < k then (if j < n then 1 else 0) else f j
theorem cG_c {f g : Nat → Int} : ∀ (n : Nat), (∀ i, i < n → f i = g i) → cG f n = cG g n
  | 0, _ => rfl
  | n + 1, h => by
    have e := cG_c n (fun i hi => h i (by omega))
    unfold cG
    rw [e, h n (by omega)]
theorem mzO_s (n k : Nat) (f : Int → Int) : uI (mzO n k f) k (if (k : Int) < n then 1 else 0) = mzO n (k + 1) f := by
  funext j
  unfold uI mzO
  by_cases e : j = (k : Int)
  · rw [if_pos e, if_pos (show 0 ≤ j ∧ j < ((k + 1 : Nat) : Int) by omega), e]
  · rw [if_neg e]
    by_cases e2 : 0 ≤ j ∧ j < (k : Int)
    · rw [if_pos e2, if_pos (show 0 ≤ j ∧ j < ((k + 1 : Nat) : Int) by omega)]
    · rw [if_neg e2, if_neg (show ¬ (0 ≤ j ∧ j < ((k + 1 : Nat) : Int)) by omega)]
theorem mzO_0 (n : Nat) (f : Int → Int) : mzO n 0 f = f := by
  funext j
  unfold mzO
  rw [if_neg (show ¬ (0 ≤ j ∧ j < ((0 : Nat) : Int)) by omega)]
theorem ms_V (V : Nat → Int) {g : Nat} (hg : g < 10) (t : Nat) : inV (vU V 327 (V (gb g + 16))) (msS V g) (V 330) (V 331) t = vG8 (vG8 V (gb 10) 17 fun i => V (gb g + i)) (gb 10) 16 (fun i => vG8 V (gb 10) 17 (fun i => V (gb g + i)) (gb 10 + i) / (cG (fun i => vG8 V (gb 10) 17 (fun i => V (gb g + i)) (gb 10 + i)) 16 : Int)) t := by
  have e10 := gb_10
  have ec : cG (fun i => vG8 V (gb 10) 17 (fun i => V (gb g + i)) (gb 10 + i)) 16 = cG (fun i => V (gb g + i)) 16 := cG_c 16 (fun i hi => by
    rw [vG8_i _ _ (by omega)])
  rw [ec]
  by_cases c : 311 ≤ t ∧ t < 327
  · obtain ⟨i, rfl⟩ : ∃ i, t = gb 10 + i := ⟨t - gb 10, by omega⟩
    rw [vG8_i _ _ (by omega)]
    rw [vG8_i _ _ (by omega)]
    unfold inV msS
    rw [if_pos c, show 4 * ((gb 10 + i - 311) / 4) + (gb 10 + i - 311) % 4 = i by omega]
  · rw [vG8_o _ _ (by omega)]
    unfold inV
    rw [if_neg c]
    by_cases c2 : t = 327
    · rw [if_neg (by omega), if_neg (by omega), c2, vU_s, show 327 = gb 10 + 16 by omega, vG8_i _ _ (by omega)]
    · rw [vG8_o _ _ (by omega), vU_n _ _ c2]
      by_cases c3 : t = 330
      · rw [if_pos c3, c3]
      · rw [if_neg c3]
        by_cases c4 : t = 331
        · rw [if_pos c4, c4]
        · rw [if_neg c4]
def SX4_measure : eSp := fun as M rt => ∃ (F : Nat → Int) (A W : Nat → Int → Int) (V : Nat → Int) (g n m : Nat), as = [eR (1, 5), eR (9, g), eI n] ∧ M = cC F A W ∧ (aR W V) ∧ (g < 10) ∧ (n ≤ 4) ∧ (∀ i, i < 16 → zAbs (V (gb g + i)) ≤ 2 ^ 930) ∧ (∀ a b, a < 4 → b < 4 → zAbs (msS V g a b) ≤ 2 ^ m) ∧ (okS n m) ∧ (∀ (br ba : Int) (W' : Nat → Int → Int) (O' : Int → Int) (S' : Nat → Nat → Int) (p c : Int), mzR 4 (mzO n 4 (A 7)) (msS V g) 1 0 0 br ba → aR W' (inV (vU V 327 (V (gb g + 16))) S' p c) → rt none (cC (uF (uF F 6 br) 7 ba) (uA A 7 O') W'))
theorem SX4_measure_i {F : Nat → Int} {A W : Nat → Int → Int} {V : Nat → Int} {g n m : Nat} {rt : Option eV → eM → Prop} (hV : aR W V) (hg : g < 10) (n4 : n ≤ 4) (hb : ∀ i, i < 16 → zAbs (V (gb g + i)) ≤ 2 ^ 930) (hS : ∀ a b, a < 4 → b < 4 → zAbs (msS V g a b) ≤ 2 ^ m) (hm : okS n m) (h : ∀ (br ba : Int) (W' : Nat → Int → Int) (O' : Int → Int) (S' : Nat → Nat → Int) (p c : Int), mzR 4 (mzO n 4 (A 7)) (msS V g) 1 0 0 br ba → aR W' (inV (vU V 327 (V (gb g + 16))) S' p c) → rt none (cC (uF (uF F 6 br) 7 ba) (uA A 7 O') W')) : SX4_measure [eR (1, 5), eR (9, g), eI n] (cC F A W) rt := ⟨F, A, W, V, g, n, m, rfl, rfl, hV, hg, n4, hb, hS, hm, h⟩
theorem SX4_measure_r : ∀ as M rt, SX4_measure as M rt → ∃ a r fs, as = eR a :: r ∧ M a = some (.inl (4, fs)) := by
  rintro as M rt ⟨F, A, W, V, g, n, m, rfl, rfl, -⟩
  exact ⟨_, _, _, rfl, rfl⟩
def kX4_measure : List (Nat × Jvm.ClassFile.Instr × Nat) := [(0, .aload_n 0, 1), (1, .getfield 16, 3), (4, .aload_n 1, 1), (5, .invokevirtual 45, 3), (8, .aload_n 0, 1), (9, .getfield 41, 3), (12, .aload_n 0, 1), (13, .getfield 16, 3), (16, .getfield 49, 3), (19, .invokevirtual 53, 3), (22, .aload_n 0, 1), (23, .iconst 0, 1), (24, .putfield 34, 3), (27, .aload_n 0, 1), (28, .iconst 0, 1), (29, .putfield 38, 3), (32, .iconst 0, 1), (33, .istore_n 3, 1), (34, .iload_n 3, 1), (35, .iconst 4, 1), (36, .if_icmp .ge 25, 3), (39, .aload_n 0, 1), (40, .getfield 22, 3), (43, .iload_n 3, 1), (44, .iload_n 3, 1), (45, .iload_n 2, 1), (46, .if_icmp .ge 7, 3), (49, .iconst 1, 1), (50, .goto 4, 3), (53, .iconst 0, 1), (54, .bastore, 1), (55, .iinc 3 1, 3), (58, .goto (-24), 3), (61, .iconst 1, 1), (62, .istore_n 3, 1), (63, .iconst 0, 1), (64, .istore 4, 2), (66, .iload 4, 2), (68, .iconst 4, 1), (69, .if_icmp .ge 65, 3), (72, .aload_n 0, 1), (73, .invokevirtual 59, 3), (76, .istore 5, 2), (78, .iload 5, 2), (80, .iconst (-1), 1), (81, .if_icmp .ne 4, 3), (84, .return_, 1), (85, .iload_n 3, 1), (86, .aload_n 0, 1), (87, .getfield 16, 3), (90, .iload 5, 2), (92, .iload 5, 2), (94, .invokevirtual 63, 3), (97, .getfield 67, 3), (100, .imul, 1), (101, .istore_n 3, 1), (102, .aload_n 0, 1), (103, .dup, 1), (104, .getfield 34, 3), (107, .iconst 1, 1), (108, .iadd, 1), (109, .putfield 34, 3), (112, .aload_n 0, 1), (113, .dup, 1), (114, .getfield 38, 3), (117, .iload_n 3, 1), (118, .iadd, 1), (119, .putfield 38, 3), (122, .aload_n 0, 1), (123, .iload 5, 2), (125, .invokevirtual 70, 3), (128, .iinc 4 1, 3), (131, .goto (-65), 3), (134, .return_, 1)]
theorem kX4_measure_0 : cdOf kX4_measure 0 = some (.aload_n 0, 1) := by decide +kernel
theorem kX4_measure_1 : cdOf kX4_measure 1 = some (.getfield 16, 3) := by decide +kernel
theorem kX4_measure_4 : cdOf kX4_measure 4 = some (.aload_n 1, 1) := by decide +kernel
theorem kX4_measure_5 : cdOf kX4_measure 5 = some (.invokevirtual 45, 3) := by decide +kernel
theorem kX4_measure_8 : cdOf kX4_measure 8 = some (.aload_n 0, 1) := by decide +kernel
theorem kX4_measure_9 : cdOf kX4_measure 9 = some (.getfield 41, 3) := by decide +kernel
theorem kX4_measure_12 : cdOf kX4_measure 12 = some (.aload_n 0, 1) := by decide +kernel
theorem kX4_measure_13 : cdOf kX4_measure 13 = some (.getfield 16, 3) := by decide +kernel
theorem kX4_measure_16 : cdOf kX4_measure 16 = some (.getfield 49, 3) := by decide +kernel
theorem kX4_measure_19 : cdOf kX4_measure 19 = some (.invokevirtual 53, 3) := by decide +kernel
theorem kX4_measure_22 : cdOf kX4_measure 22 = some (.aload_n 0, 1) := by decide +kernel
theorem kX4_measure_23 : cdOf kX4_measure 23 = some (.iconst 0, 1) := by decide +kernel
theorem kX4_measure_24 : cdOf kX4_measure 24 = some (.putfield 34, 3) := by decide +kernel
theorem kX4_measure_27 : cdOf kX4_measure 27 = some (.aload_n 0, 1) := by decide +kernel
theorem kX4_measure_28 : cdOf kX4_measure 28 = some (.iconst 0, 1) := by decide +kernel
theorem kX4_measure_29 : cdOf kX4_measure 29 = some (.putfield 38, 3) := by decide +kernel
theorem kX4_measure_32 : cdOf kX4_measure 32 = some (.iconst 0, 1) := by decide +kernel
theorem kX4_measure_33 : cdOf kX4_measure 33 = some (.istore_n 3, 1) := by decide +kernel
theorem kX4_measure_34 : cdOf kX4_measure 34 = some (.iload_n 3, 1) := by decide +kernel
theorem kX4_measure_35 : cdOf kX4_measure 35 = some (.iconst 4, 1) := by decide +kernel
theorem kX4_measure_36 : cdOf kX4_measure 36 = some (.if_icmp .ge 25, 3) := by decide +kernel
theorem kX4_measure_39 : cdOf kX4_measure 39 = some (.aload_n 0, 1) := by decide +kernel
theorem kX4_measure_40 : cdOf kX4_measure 40 = some (.getfield 22, 3) := by decide +kernel
theorem kX4_measure_43 : cdOf kX4_measure 43 = some (.iload_n 3, 1) := by decide +kernel
theorem kX4_measure_44 : cdOf kX4_measure 44 = some (.iload_n 3, 1) := by decide +kernel
theorem kX4_measure_45 : cdOf kX4_measure 45 = some (.iload_n 2, 1) := by decide +kernel
theorem kX4_measure_46 : cdOf kX4_measure 46 = some (.if_icmp .ge 7, 3) := by decide +kernel
theorem kX4_measure_49 : cdOf kX4_measure 49 = some (.iconst 1, 1) := by decide +kernel
theorem kX4_measure_50 : cdOf kX4_measure 50 = some (.goto 4, 3) := by decide +kernel
theorem kX4_measure_53 : cdOf kX4_measure 53 = some (.iconst 0, 1) := by decide +kernel
theorem kX4_measure_54 : cdOf kX4_measure 54 = some (.bastore, 1) := by decide +kernel
theorem kX4_measure_55 : cdOf kX4_measure 55 = some (.iinc 3 1, 3) := by decide +kernel
theorem kX4_measure_58 : cdOf kX4_measure 58 = some (.goto (-24), 3) := by decide +kernel
theorem kX4_measure_61 : cdOf kX4_measure 61 = some (.iconst 1, 1) := by decide +kernel
theorem kX4_measure_62 : cdOf kX4_measure 62 = some (.istore_n 3, 1) := by decide +kernel
theorem kX4_measure_63 : cdOf kX4_measure 63 = some (.iconst 0, 1) := by decide +kernel
theorem kX4_measure_64 : cdOf kX4_measure 64 = some (.istore 4, 2) := by decide +kernel
theorem kX4_measure_66 : cdOf kX4_measure 66 = some (.iload 4, 2) := by decide +kernel
theorem kX4_measure_68 : cdOf kX4_measure 68 = some (.iconst 4, 1) := by decide +kernel
theorem kX4_measure_69 : cdOf kX4_measure 69 = some (.if_icmp .ge 65, 3) := by decide +kernel
theorem kX4_measure_72 : cdOf kX4_measure 72 = some (.aload_n 0, 1) := by decide +kernel
theorem kX4_measure_73 : cdOf kX4_measure 73 = some (.invokevirtual 59, 3) := by decide +kernel
theorem kX4_measure_76 : cdOf kX4_measure 76 = some (.istore 5, 2) := by decide +kernel
theorem kX4_measure_78 : cdOf kX4_measure 78 = some (.iload 5, 2) := by decide +kernel
theorem kX4_measure_80 : cdOf kX4_measure 80 = some (.iconst (-1), 1) := by decide +kernel
theorem kX4_measure_81 : cdOf kX4_measure 81 = some (.if_icmp .ne 4, 3) := by decide +kernel
theorem kX4_measure_84 : cdOf kX4_measure 84 = some (.return_, 1) := by decide +kernel
theorem kX4_measure_85 : cdOf kX4_measure 85 = some (.iload_n 3, 1) := by decide +kernel
theorem kX4_measure_86 : cdOf kX4_measure 86 = some (.aload_n 0, 1) := by decide +kernel
theorem kX4_measure_87 : cdOf kX4_measure 87 = some (.getfield 16, 3) := by decide +kernel
theorem kX4_measure_90 : cdOf kX4_measure 90 = some (.iload 5, 2) := by decide +kernel
theorem kX4_measure_92 : cdOf kX4_measure 92 = some (.iload 5, 2) := by decide +kernel
theorem kX4_measure_94 : cdOf kX4_measure 94 = some (.invokevirtual 63, 3) := by decide +kernel
theorem kX4_measure_97 : cdOf kX4_measure 97 = some (.getfield 67, 3) := by decide +kernel
theorem kX4_measure_100 : cdOf kX4_measure 100 = some (.imul, 1) := by decide +kernel
theorem kX4_measure_101 : cdOf kX4_measure 101 = some (.istore_n 3, 1) := by decide +kernel
theorem kX4_measure_102 : cdOf kX4_measure 102 = some (.aload_n 0, 1) := by decide +kernel
theorem kX4_measure_103 : cdOf kX4_measure 103 = some (.dup, 1) := by decide +kernel
theorem kX4_measure_104 : cdOf kX4_measure 104 = some (.getfield 34, 3) := by decide +kernel
theorem kX4_measure_107 : cdOf kX4_measure 107 = some (.iconst 1, 1) := by decide +kernel
theorem kX4_measure_108 : cdOf kX4_measure 108 = some (.iadd, 1) := by decide +kernel
theorem kX4_measure_109 : cdOf kX4_measure 109 = some (.putfield 34, 3) := by decide +kernel
theorem kX4_measure_112 : cdOf kX4_measure 112 = some (.aload_n 0, 1) := by decide +kernel
theorem kX4_measure_113 : cdOf kX4_measure 113 = some (.dup, 1) := by decide +kernel
theorem kX4_measure_114 : cdOf kX4_measure 114 = some (.getfield 38, 3) := by decide +kernel
theorem kX4_measure_117 : cdOf kX4_measure 117 = some (.iload_n 3, 1) := by decide +kernel
theorem kX4_measure_118 : cdOf kX4_measure 118 = some (.iadd, 1) := by decide +kernel
theorem kX4_measure_119 : cdOf kX4_measure 119 = some (.putfield 38, 3) := by decide +kernel
theorem kX4_measure_122 : cdOf kX4_measure 122 = some (.aload_n 0, 1) := by decide +kernel
theorem kX4_measure_123 : cdOf kX4_measure 123 = some (.iload 5, 2) := by decide +kernel
theorem kX4_measure_125 : cdOf kX4_measure 125 = some (.invokevirtual 70, 3) := by decide +kernel
theorem kX4_measure_128 : cdOf kX4_measure 128 = some (.iinc 4 1, 3) := by decide +kernel
theorem kX4_measure_131 : cdOf kX4_measure 131 = some (.goto (-65), 3) := by decide +kernel
theorem kX4_measure_134 : cdOf kX4_measure 134 = some (.return_, 1) := by decide +kernel
set_option maxRecDepth 20000 in
theorem kX4_measure_ok : ∀ pc i len, cdOf kX4_measure pc = some (i, len) → decode cX4_measure pc = .ok (i, len) ∧ stOK 6 i = true ∧ jOK pc i = true ∧ eLen i len = true := cdOf_ok cX4_measure 6 kX4_measure (by decide +kernel)
def vtX4_measure : Nat → Option (Nat × eSp) := fun k => match k with
  | 45 => some (2, SX2_take)
  | 53 => some (2, SX1_simplify)
  | 59 => some (1, SX4_findSquare)
  | 63 => some (3, SX2_read)
  | 70 => some (2, SX4_splitOff)
  | _ => none
theorem vtX4_measure_45 : vtX4_measure 45 = some (2, SX2_take) := rfl
theorem vtX4_measure_53 : vtX4_measure 53 = some (2, SX1_simplify) := rfl
theorem vtX4_measure_59 : vtX4_measure 59 = some (1, SX4_findSquare) := rfl
theorem vtX4_measure_63 : vtX4_measure 63 = some (3, SX2_read) := rfl
theorem vtX4_measure_70 : vtX4_measure 70 = some (2, SX4_splitOff) := rfl
def stX4_measure : Nat → Option (Nat × eSp) := fun _ => none
abbrev TX4_measure : eT := (fl_RX4, cl_RX4, dl_RX4, vtX4_measure, stX4_measure)
set_option maxRecDepth 20000 in
theorem caX4_measure : eCalls RX4 { frames := 4, cells := 0, slots := 0, locals := 112 } TX4_measure := by
  refine ⟨fun k n sp h => ?_, fun k n sp h => ?_⟩
  · dsimp only [TX4_measure] at h
    unfold vtX4_measure at h
    split at h
    · cases h; exact eV_mk mX2_take wX2_take (by decide +kernel) (Or.inl (gW_at 688 (by decide +kernel) rfl))
    · cases h; exact eV_mk mX1_simplify wX1_simplify (by decide +kernel) (Or.inl (gW_at 693 (by decide +kernel) rfl))
    · cases h; exact eV_mk mX4_findSquare wX4_findSquare (by decide +kernel) (Or.inl (gW_at 694 (by decide +kernel) rfl))
    · cases h; exact eV_mk mX2_read wX2_read (by decide +kernel) (Or.inl (gW_at 702 (by decide +kernel) rfl))
    · cases h; exact eV_mk mX4_splitOff wX4_splitOff (by decide +kernel) (Or.inl (gW_at 709 (by decide +kernel) rfl))
    · cases h
  · cases h
set_option maxRecDepth 100000 in
set_option maxHeartbeats 4000000 in
theorem sX4_measure : eSafe TX4_measure (cdOf kX4_measure) 6 none SX4_measure := by
  intro K rt hK as M h
  obtain ⟨F, A, W, V, g, n, m, rfl, rfl, hV, hg, n4, hb, hS, hm, h⟩ := h
  refine ⟨by simp [eE], ?_⟩
  obtain ⟨B, hB⟩ : ∃ B, vU V 327 (V (gb g + 16)) = B := ⟨_, rfl⟩
  rw [hB] at h
  have loop : ∀ (d s : Nat) (W1 : Nat → Int → Int) (O : Int → Int) (S : Nat → Nat → Int) (p c t br ba : Int) (q m : Nat) (u5 : Option eV), s + d = 4 → (∀ br' ba', mzR d O S t br ba br' ba' → mzR 4 (mzO n 4 (A 7)) (msS V g) 1 0 0 br' ba') → aR W1 (inV B S p c) → (∀ i : Int, 0 ≤ i → i < 4 → O i = 0 ∨ O i = 1) → cnO O = q → okS q m → (∀ a b, a < 4 → b < 4 → zAbs (S a b) ≤ 2 ^ m) → (-1 ≤ t ∧ t ≤ 1) → (0 ≤ br ∧ br ≤ s) → (-(s : Int) ≤ ba ∧ ba ≤ s) → K 66 [some (eR (1, 5)), some (eR (9, g)), some (eI n), some (eI t), some (eI s), u5] [] (cC (uF (uF F 6 br) 7 ba) (uA A 7 O) W1) := by
    intro d
    induction d with
    | zero =>
      intro s W1 O S p c t br ba q m u5 hs hz h1 hO hq hok hb1 ht hbr hba
      have : s = 4 := by omega
      subst this
      refine x_iload hK kX4_measure_66 (q := 68) rfl rfl ?_
      refine x_iconst hK kX4_measure_68 (q := 69) rfl ?_
      refine x_icmp_ge hK kX4_measure_69 (q := 72) rfl (tg := 134) rfl (by refine ⟨?_, ?_⟩ <;> omega) (fun c69 => ?_) (fun c69 => ?_)
      · refine x_return_ hK kX4_measure_134 (by first | trivial | exact Or.inl rfl | exact Or.inr rfl) ?_
        exact h br ba W1 O S p c (hz br ba ⟨rfl, rfl⟩) h1
      · exfalso; omega
    | succ d ih =>
      intro s W1 O S p c t br ba q m u5 hs hz h1 hO hq hok hb1 ht hbr hba
      have b23 := p2_m (okS_le hok)
      refine x_iload hK kX4_measure_66 (q := 68) rfl rfl ?_
      refine x_iconst hK kX4_measure_68 (q := 69) rfl ?_
      refine x_icmp_ge hK kX4_measure_69 (q := 72) rfl (tg := 134) rfl (by refine ⟨?_, ?_⟩ <;> omega) (fun c69 => ?_) (fun c69 => ?_)
      · exfalso; omega
      · refine x_aload_n hK kX4_measure_72 (q := 73) rfl rfl ?_
        refine x_cv1 hK kX4_measure_73 (q := 76) rfl (vtX4_measure_59) (Nat.le_of_ble_eq_true rfl) ?_
        refine SX4_findSquare_i h1 (by rw [uA_g]; exact hO) (fun a b ha hb' => Int.le_trans (hb1 a b ha hb') b23) (fun r S2 W2 hf h2 => ?_)
        rw [uA_g] at hf
        have wr : w32 r := by
          rcases Decidable.em (r = -1) with e | e
          · rw [e]; decide
          · obtain ⟨k, e2, k4, _⟩ := fs_k hf e
            exact ⟨by omega, by omega⟩
        refine x_istore hK kX4_measure_76 (q := 78) rfl ?_
        refine x_iload hK kX4_measure_78 (q := 80) rfl rfl ?_
        refine x_iconst hK kX4_measure_80 (q := 81) rfl ?_
        simp only [lS, lS2, clr_0, clr_I, clr_L, clr_R]
        refine x_icmp_ne hK kX4_measure_81 (q := 84) rfl (tg := 85) rfl (by exact ⟨wr, by decide⟩) (fun c81 => ?_) (fun c81 => ?_)
        · obtain ⟨k, e2, k4, Ok⟩ := fs_k hf c81
          subst e2
          obtain ⟨cn1, cn2, cn3⟩ := cn_k hO k4 Ok
          have fb := fs_b hf hb1
          have g10 := gb_10
          have sg := wq_s (h2.1 (gb 10 + (4 * k + k)) (by omega) (by omega))
          rw [inV_s _ _ _ _ k4 k4] at sg
          have sz := zSg_c (S2 k k)
          have st : -1 ≤ t * zSg (S2 k k) ∧ t * zSg (S2 k k) ≤ 1 := by
            have h3 : t = -1 ∨ t = 0 ∨ t = 1 := by omega
            have h4 : zSg (S2 k k) = -1 ∨ zSg (S2 k k) = 0 ∨ zSg (S2 k k) = 1 := by omega
            rcases h3 with e | e | e <;> rcases h4 with e4 | e4 | e4 <;> (rw [e, e4]; decide)
          refine x_iload_n hK kX4_measure_85 (q := 86) rfl rfl ?_
          refine x_aload_n hK kX4_measure_86 (q := 87) rfl rfl ?_
          refine x_getfield hK kX4_measure_87 (q := 90) rfl (gX4_16 ?_)
          refine x_iload hK kX4_measure_90 (q := 92) rfl rfl ?_
          refine x_iload hK kX4_measure_92 (q := 94) rfl rfl ?_
          refine x_cv3 hK kX4_measure_94 (q := 97) rfl (vtX4_measure_63) (Nat.le_of_ble_eq_true rfl) ?_
          refine SX2_read_i (g := 10) (i := k) (j := k) (by decide) k4 k4 ?_
          refine x_getfield hK kX4_measure_97 (q := 100) rfl (gX4_67 ?_)
          rw [sg]
          refine x_imul hK kX4_measure_100 (q := 101) rfl ?_
          refine x_istore_n hK kX4_measure_101 (q := 102) (jn := 3) rfl rfl ?_
          refine x_aload_n hK kX4_measure_102 (q := 103) rfl rfl ?_
          refine x_dupR hK kX4_measure_103 (q := 104) rfl ?_
          refine x_getfield hK kX4_measure_104 (q := 107) rfl (gX4_34 ?_)
          refine x_iconst hK kX4_measure_107 (q := 108) rfl ?_
          refine x_iadd hK kX4_measure_108 (q := 109) rfl ?_
          refine x_putfield hK kX4_measure_109 (q := 112) rfl (pX4_34 ?_)
          refine x_aload_n hK kX4_measure_112 (q := 113) rfl rfl ?_
          refine x_dupR hK kX4_measure_113 (q := 114) rfl ?_
          refine x_getfield hK kX4_measure_114 (q := 117) rfl (gX4_38 ?_)
          refine x_iload_n hK kX4_measure_117 (q := 118) rfl rfl ?_
          refine x_iadd hK kX4_measure_118 (q := 119) rfl ?_
          refine x_putfield hK kX4_measure_119 (q := 122) rfl (pX4_38 ?_)
          refine x_aload_n hK kX4_measure_122 (q := 123) rfl rfl ?_
          refine x_iload hK kX4_measure_123 (q := 125) rfl rfl ?_
          simp only [lS, lS2, clr_0, clr_I, clr_L, clr_R]
          refine x_cv2 hK kX4_measure_125 (q := 128) rfl (vtX4_measure_70) (Nat.le_of_ble_eq_true rfl) ?_
          refine SX4_splitOff_i (k := k) (m := m + 2) h2 k4 (by rw [uA_g]; exact hO) (by rw [uA_g]; exact Ok) (fun a ha ak oa => ?_) (fun a b ha hb' _ _ => fb a b ha hb') (fun c3 W3 h3 => ?_)
          · rw [uA_g] at oa
            have := cn3 a ha ak oa
            match q, hok with
            | 0, _ => omega
            | 1, _ => omega
            | q + 2, hok => have := hok.1; omega
          rw [uA_g] at h3
          refine x_iinc hK kX4_measure_128 (q := 131) rfl rfl ?_
          simp only [lS, lS2, clr_0, clr_I, clr_L, clr_R]
          refine x_goto hK kX4_measure_131 (tg := 66) rfl ?_
          rw [show (s : Int) + 1 = ((s + 1 : Nat) : Int) by omega]
          have v6 : uF (uF F 6 br) 7 ba 6 = br := by rw [uF_n _ _ (by decide), uF_g]
          have v7 : ∀ x, uF (uF (uF F 6 br) 7 ba) 6 x 7 = ba := fun x => by rw [uF_n _ _ (by decide), uF_g]
          have eF : ∀ x y, uF (uF (uF (uF F 6 br) 7 ba) 6 x) 7 y = uF (uF F 6 x) 7 y := fun x y => by
            funext j
            unfold uF
            by_cases e7 : j = 7
            · rw [if_pos e7, if_pos e7]
            · by_cases e6 : j = 6
              · simp [e7, e6]
              · simp [e7, e6]
          rw [v6, v7, eF, uA_u, uA_g]
          have ex : ∃ q' m' : Nat, cnO (uI O k 0) = q' ∧ okS q' m' ∧ ∀ a b, a < 4 → b < 4 → zAbs (spF S2 (uI O k 0) k a b) ≤ 2 ^ m' := by
            match q, hq, hok with
            | 0, hq, _ => omega
            | 1, hq, hok =>
              refine ⟨0, m + 2, by omega, hok, fun a b ha hb' => ?_⟩
              rw [sp_0 (fun a ha oa => ?_)]
              · exact fb a b ha hb'
              · rcases Decidable.em (a = k) with e | e
                · rw [e, uI_s] at oa; omega
                · rw [uI_n _ _ (by omega)] at oa
                  have := cn3 a ha e oa
                  omega
            | q + 2, hq, hok => exact ⟨q + 1, 2 * m + 5, by omega, hok.2, sp_b k4 fb⟩
          obtain ⟨q', m', hq', hok', hb'⟩ := ex
          have hzn := fun br' ba' q => hz br' ba' ⟨k, S2, hf, Or.inr ⟨k, rfl, k4, q⟩⟩
          refine ih (s + 1) W3 (uI O k 0) _ _ c3 _ _ _ q' m' _ (by omega) hzn h3 (fun i i0 i1 => ?_) hq' hok' hb' st ⟨by omega, by omega⟩ ⟨by omega, by omega⟩
          rcases Decidable.em (i = k) with e | e
          · rw [e, uI_s]; exact Or.inl rfl
          · rw [uI_n _ _ e]; exact hO i i0 i1
        · refine x_return_ hK kX4_measure_84 (by first | trivial | exact Or.inl rfl | exact Or.inr rfl) ?_
          exact h br ba W2 O S2 p c (hz br ba ⟨r, S2, hf, Or.inl ⟨Decidable.of_not_not c81, rfl, rfl⟩⟩) h2
  have fill : ∀ (W1 : Nat → Int → Int) (p c : Int), aR W1 (inV B (msS V g) p c) → ∀ (d k : Nat) (u4 u5 : Option eV), k + d = 4 → K 34 [some (eR (1, 5)), some (eR (9, g)), some (eI n), some (eI k), u4, u5] [] (cC (uF (uF F 6 0) 7 0) (uA A 7 (mzO n k (A 7))) W1) := by
    intro W1 p c h1 d
    induction d with
    | zero =>
      intro k u4 u5 hk
      have : k = 4 := by omega
      subst this
      refine x_iload_n hK kX4_measure_34 (q := 35) rfl rfl ?_
      refine x_iconst hK kX4_measure_35 (q := 36) rfl ?_
      refine x_icmp_ge hK kX4_measure_36 (q := 39) rfl (tg := 61) rfl (by refine ⟨?_, ?_⟩ <;> omega) (fun c36 => ?_) (fun c36 => ?_)
      · refine x_iconst hK kX4_measure_61 (q := 62) rfl ?_
        refine x_istore_n hK kX4_measure_62 (q := 63) (jn := 3) rfl rfl ?_
        refine x_iconst hK kX4_measure_63 (q := 64) rfl ?_
        refine x_istore hK kX4_measure_64 (q := 66) rfl ?_
        simp only [lS, lS2, clr_0, clr_I, clr_L, clr_R]
        refine loop 4 0 W1 (mzO n 4 (A 7)) (msS V g) p c 1 0 0 n m _ rfl (fun _ _ q => q) h1 (fun i i0 i1 => ?_) ?_ hm hS ⟨by decide, by decide⟩ ⟨by decide, by decide⟩ ⟨by decide, by decide⟩
        · unfold mzO
          rw [if_pos ⟨i0, by omega⟩]
          split
          · exact Or.inr rfl
          · exact Or.inl rfl
        · unfold cnO mzO
          have n5 : n = 0 ∨ n = 1 ∨ n = 2 ∨ n = 3 ∨ n = 4 := by omega
          rcases n5 with rfl | rfl | rfl | rfl | rfl <;> rfl
      · exfalso; omega
    | succ d ih =>
      intro k u4 u5 hk
      have nx := mzO_s n k (A 7)
      refine x_iload_n hK kX4_measure_34 (q := 35) rfl rfl ?_
      refine x_iconst hK kX4_measure_35 (q := 36) rfl ?_
      refine x_icmp_ge hK kX4_measure_36 (q := 39) rfl (tg := 61) rfl (by refine ⟨?_, ?_⟩ <;> omega) (fun c36 => ?_) (fun c36 => ?_)
      · exfalso; omega
      · refine x_aload_n hK kX4_measure_39 (q := 40) rfl rfl ?_
        refine x_getfield hK kX4_measure_40 (q := 43) rfl (gX4_22 ?_)
        refine x_iload_n hK kX4_measure_43 (q := 44) rfl rfl ?_
        refine x_iload_n hK kX4_measure_44 (q := 45) rfl rfl ?_
        refine x_iload_n hK kX4_measure_45 (q := 46) rfl rfl ?_
        refine x_icmp_ge hK kX4_measure_46 (q := 49) rfl (tg := 53) rfl (by refine ⟨?_, ?_⟩ <;> omega) (fun c46 => ?_) (fun c46 => ?_)
        · rw [if_neg (by omega)] at nx
          refine x_iconst hK kX4_measure_53 (q := 54) rfl ?_
          refine x_bastore hK kX4_measure_54 (q := 55) rfl (by omega) (yC4_2 (by refine ⟨?_, ?_⟩ <;> omega) ?_)
          refine x_iinc hK kX4_measure_55 (q := 58) rfl rfl ?_
          simp only [lS, lS2, clr_0, clr_I, clr_L, clr_R]
          refine x_goto hK kX4_measure_58 (tg := 34) rfl ?_
          rw [show (k : Int) + 1 = ((k + 1 : Nat) : Int) by omega, uA_g, uA_u, nx]
          exact ih (k + 1) _ _ (by omega)
        · rw [if_pos (by omega)] at nx
          refine x_iconst hK kX4_measure_49 (q := 50) rfl ?_
          refine x_goto hK kX4_measure_50 (tg := 54) rfl ?_
          refine x_bastore hK kX4_measure_54 (q := 55) rfl (by omega) (yC4_2 (by refine ⟨?_, ?_⟩ <;> omega) ?_)
          refine x_iinc hK kX4_measure_55 (q := 58) rfl rfl ?_
          simp only [lS, lS2, clr_0, clr_I, clr_L, clr_R]
          refine x_goto hK kX4_measure_58 (tg := 34) rfl ?_
          rw [show (k : Int) + 1 = ((k + 1 : Nat) : Int) by omega, uA_g, uA_u, nx]
          exact ih (k + 1) _ _ (by omega)
  have e10 := gb_10
  have gg : gb g = 141 + 17 * g := rfl
  simp only [eLoc, eE, List.length_cons, List.length_nil, List.replicate, List.cons_append, List.nil_append, Nat.reduceAdd, Nat.reduceSub]
  refine x_aload_n hK kX4_measure_0 (q := 1) rfl rfl ?_
  refine x_getfield hK kX4_measure_1 (q := 4) rfl (gX4_16 ?_)
  refine x_aload_n hK kX4_measure_4 (q := 5) rfl rfl ?_
  refine x_cv2 hK kX4_measure_5 (q := 8) rfl (vtX4_measure_45) (Nat.le_of_ble_eq_true rfl) ?_
  refine gtake_a (g := 10) (s := g) hV (by decide) (by omega) (by omega) (fun W1 h1 => ?_)
  refine x_aload_n hK kX4_measure_8 (q := 9) rfl rfl ?_
  refine x_getfield hK kX4_measure_9 (q := 12) rfl (gX4_41 ?_)
  refine x_aload_n hK kX4_measure_12 (q := 13) rfl rfl ?_
  refine x_getfield hK kX4_measure_13 (q := 16) rfl (gX4_16 ?_)
  refine x_getfield hK kX4_measure_16 (q := 19) rfl (gX4_49 ?_)
  refine x_cv2 hK kX4_measure_19 (q := 22) rfl (vtX4_measure_53) (Nat.le_of_ble_eq_true rfl) ?_
  refine simp_a (base := gb 10) (n := 16) h1 (wa_2 (by decide)) (fun i hi => by rw [vG8_i _ _ (by omega)]; exact Int.le_trans (hb i hi) (p2_m (by decide))) (fun W2 h2 => ?_)
  have h3 : aR W2 (inV B (msS V g) (V 330) (V 331)) := aR_c h2 (fun t t0 t1 => by rw [← hB]; exact ms_V V hg t)
  refine x_aload_n hK kX4_measure_22 (q := 23) rfl rfl ?_
  refine x_iconst hK kX4_measure_23 (q := 24) rfl ?_
  refine x_putfield hK kX4_measure_24 (q := 27) rfl (pX4_34 ?_)
  refine x_aload_n hK kX4_measure_27 (q := 28) rfl rfl ?_
  refine x_iconst hK kX4_measure_28 (q := 29) rfl ?_
  refine x_putfield hK kX4_measure_29 (q := 32) rfl (pX4_38 ?_)
  refine x_iconst hK kX4_measure_32 (q := 33) rfl ?_
  refine x_istore_n hK kX4_measure_33 (q := 34) (jn := 3) rfl rfl ?_
  simp only [lS, lS2, clr_0, clr_I, clr_L, clr_R]
  refine x_to (fill W2 _ _ h3 4 0 _ _ rfl) rfl rfl (by rw [mzO_0, uA_s])
set_option maxRecDepth 20000 in
theorem mX4_measure : eMet yX4_measure cX4_measure 6 none 4 112 SX4_measure := eMet_of (by decide +kernel) sX4_measure kX4_measure_ok caX4_measure tb_RX4
theorem wX4_measure : eWV yX4_measure cX4_measure 6 none 3 4 SX4_measure := ⟨(gW_at 687 (by decide +kernel) rfl), (gW_at 87 (by decide +kernel) rfl), (gW_at 685 (by decide +kernel) rfl), ⟨_, rfl, (gW_at 686 (by decide +kernel) rfl)⟩, by decide +kernel, SX4_measure_r⟩
