/-! The algebra: times, carry. -/
theorem rb_14 : rb 14 = 133 ∧ rl 14 = 4 ∧ rb 15 = 137 ∧ rl 15 = 4 := by decide
theorem dS_le {f : Nat → Int} {m : Nat} : ∀ {n : Nat}, n ≤ 4 → (∀ k, k < n → zAbs (f k) ≤ 2 ^ m) → zAbs (dS f n) ≤ 2 ^ (m + 2) := fun {n} hn h => by
  have h1 := dS_b (f := f) (W := 2 ^ m) (n := n) h
  have p := p2_pos m
  have e : (2 : Int) ^ (m + 2) = 2 ^ m * 4 := by rw [Int.pow_add]; rfl
  have h2 : (n : Int) * 2 ^ m ≤ 4 * 2 ^ m := Int.mul_le_mul_of_nonneg_right (by omega) (by omega)
  omega
def tmF (V : Nat → Int) (g n : Nat) (v : Nat → Int) : Nat → Int := fun i => if i < n then dS (fun j => V (gb g + (4 * i + j)) * v j) n else 0
def SX0_times : eSp := fun as M rt => ∃ (F : Nat → Int) (A W : Nat → Int → Int) (V : Nat → Int) (n g m k : Nat), as = [eR (1, 4), eR (9, g)] ∧ M = cC F A W ∧ (aR W V) ∧ (F 5 = n) ∧ (n ≤ 4) ∧ (g < 11) ∧ (∀ i j, i < n → j < n → zAbs (V (gb g + (4 * i + j))) ≤ 2 ^ m) ∧ (∀ j, j < n → zAbs (V (rb 14 + j)) ≤ 2 ^ k) ∧ (m + k + 2 ≤ 930) ∧ (∀ W', aR W' (vG8 V (rb 15) 4 (tmF V g n (fun j => V (rb 14 + j)))) → rt none (cC F A W'))
theorem SX0_times_i {F : Nat → Int} {A W : Nat → Int → Int} {V : Nat → Int} {n g m k : Nat} {rt : Option eV → eM → Prop} (hV : aR W V) (hn : F 5 = n) (n4 : n ≤ 4) (hg : g < 11) (hm : ∀ i j, i < n → j < n → zAbs (V (gb g + (4 * i + j))) ≤ 2 ^ m) (hk : ∀ j, j < n → zAbs (V (rb 14 + j)) ≤ 2 ^ k) (hmk : m + k + 2 ≤ 930) (h : ∀ W', aR W' (vG8 V (rb 15) 4 (tmF V g n (fun j => V (rb 14 + j)))) → rt none (cC F A W')) : SX0_times [eR (1, 4), eR (9, g)] (cC F A W) rt := ⟨F, A, W, V, n, g, m, k, rfl, rfl, hV, hn, n4, hg, hm, hk, hmk, h⟩
theorem SX0_times_r : ∀ as M rt, SX0_times as M rt → ∃ a r fs, as = eR a :: r ∧ M a = some (.inl (0, fs)) := by
  rintro as M rt ⟨F, A, W, V, n, g, m, k, rfl, rfl, -⟩
  exact ⟨_, _, _, rfl, rfl⟩
def kX0_times : List (Nat × Jvm.ClassFile.Instr × Nat) := [(0, .aload_n 0, 1), (1, .getfield 44, 3), (4, .invokevirtual 176, 3), (7, .iconst 0, 1), (8, .istore_n 2, 1), (9, .iload_n 2, 1), (10, .aload_n 0, 1), (11, .getfield 17, 3), (14, .if_icmp .ge 67, 3), (17, .iload_n 2, 1), (18, .iconst 4, 1), (19, .if_icmp .ge 62, 3), (22, .iconst 0, 1), (23, .istore_n 3, 1), (24, .iload_n 3, 1), (25, .aload_n 0, 1), (26, .getfield 17, 3), (29, .if_icmp .ge 46, 3), (32, .iload_n 3, 1), (33, .iconst 4, 1), (34, .if_icmp .ge 41, 3), (37, .aload_n 0, 1), (38, .getfield 63, 3), (41, .aload_n 0, 1), (42, .getfield 44, 3), (45, .getfield 177, 3), (48, .iload_n 2, 1), (49, .aaload, 1), (50, .aload_n 1, 1), (51, .iload_n 2, 1), (52, .iload_n 3, 1), (53, .invokevirtual 160, 3), (56, .aload_n 0, 1), (57, .getfield 40, 3), (60, .getfield 177, 3), (63, .iload_n 3, 1), (64, .aaload, 1), (65, .iconst 1, 1), (66, .invokevirtual 189, 3), (69, .iinc 3 1, 3), (72, .goto (-48), 3), (75, .iinc 2 1, 3), (78, .goto (-69), 3), (81, .return_, 1)]
theorem kX0_times_0 : cdOf kX0_times 0 = some (.aload_n 0, 1) := by decide +kernel
theorem kX0_times_1 : cdOf kX0_times 1 = some (.getfield 44, 3) := by decide +kernel
theorem kX0_times_4 : cdOf kX0_times 4 = some (.invokevirtual 176, 3) := by decide +kernel
theorem kX0_times_7 : cdOf kX0_times 7 = some (.iconst 0, 1) := by decide +kernel
theorem kX0_times_8 : cdOf kX0_times 8 = some (.istore_n 2, 1) := by decide +kernel
theorem kX0_times_9 : cdOf kX0_times 9 = some (.iload_n 2, 1) := by decide +kernel
theorem kX0_times_10 : cdOf kX0_times 10 = some (.aload_n 0, 1) := by decide +kernel
theorem kX0_times_11 : cdOf kX0_times 11 = some (.getfield 17, 3) := by decide +kernel
theorem kX0_times_14 : cdOf kX0_times 14 = some (.if_icmp .ge 67, 3) := by decide +kernel
theorem kX0_times_17 : cdOf kX0_times 17 = some (.iload_n 2, 1) := by decide +kernel
theorem kX0_times_18 : cdOf kX0_times 18 = some (.iconst 4, 1) := by decide +kernel
theorem kX0_times_19 : cdOf kX0_times 19 = some (.if_icmp .ge 62, 3) := by decide +kernel
theorem kX0_times_22 : cdOf kX0_times 22 = some (.iconst 0, 1) := by decide +kernel
theorem kX0_times_23 : cdOf kX0_times 23 = some (.istore_n 3, 1) := by decide +kernel
theorem kX0_times_24 : cdOf kX0_times 24 = some (.iload_n 3, 1) := by decide +kernel
theorem kX0_times_25 : cdOf kX0_times 25 = some (.aload_n 0, 1) := by decide +kernel
theorem kX0_times_26 : cdOf kX0_times 26 = some (.getfield 17, 3) := by decide +kernel
theorem kX0_times_29 : cdOf kX0_times 29 = some (.if_icmp .ge 46, 3) := by decide +kernel
theorem kX0_times_32 : cdOf kX0_times 32 = some (.iload_n 3, 1) := by decide +kernel
theorem kX0_times_33 : cdOf kX0_times 33 = some (.iconst 4, 1) := by decide +kernel
theorem kX0_times_34 : cdOf kX0_times 34 = some (.if_icmp .ge 41, 3) := by decide +kernel
theorem kX0_times_37 : cdOf kX0_times 37 = some (.aload_n 0, 1) := by decide +kernel
theorem kX0_times_38 : cdOf kX0_times 38 = some (.getfield 63, 3) := by decide +kernel
theorem kX0_times_41 : cdOf kX0_times 41 = some (.aload_n 0, 1) := by decide +kernel
theorem kX0_times_42 : cdOf kX0_times 42 = some (.getfield 44, 3) := by decide +kernel
theorem kX0_times_45 : cdOf kX0_times 45 = some (.getfield 177, 3) := by decide +kernel
theorem kX0_times_48 : cdOf kX0_times 48 = some (.iload_n 2, 1) := by decide +kernel
theorem kX0_times_49 : cdOf kX0_times 49 = some (.aaload, 1) := by decide +kernel
theorem kX0_times_50 : cdOf kX0_times 50 = some (.aload_n 1, 1) := by decide +kernel
theorem kX0_times_51 : cdOf kX0_times 51 = some (.iload_n 2, 1) := by decide +kernel
theorem kX0_times_52 : cdOf kX0_times 52 = some (.iload_n 3, 1) := by decide +kernel
theorem kX0_times_53 : cdOf kX0_times 53 = some (.invokevirtual 160, 3) := by decide +kernel
theorem kX0_times_56 : cdOf kX0_times 56 = some (.aload_n 0, 1) := by decide +kernel
theorem kX0_times_57 : cdOf kX0_times 57 = some (.getfield 40, 3) := by decide +kernel
theorem kX0_times_60 : cdOf kX0_times 60 = some (.getfield 177, 3) := by decide +kernel
theorem kX0_times_63 : cdOf kX0_times 63 = some (.iload_n 3, 1) := by decide +kernel
theorem kX0_times_64 : cdOf kX0_times 64 = some (.aaload, 1) := by decide +kernel
theorem kX0_times_65 : cdOf kX0_times 65 = some (.iconst 1, 1) := by decide +kernel
theorem kX0_times_66 : cdOf kX0_times 66 = some (.invokevirtual 189, 3) := by decide +kernel
theorem kX0_times_69 : cdOf kX0_times 69 = some (.iinc 3 1, 3) := by decide +kernel
theorem kX0_times_72 : cdOf kX0_times 72 = some (.goto (-48), 3) := by decide +kernel
theorem kX0_times_75 : cdOf kX0_times 75 = some (.iinc 2 1, 3) := by decide +kernel
theorem kX0_times_78 : cdOf kX0_times 78 = some (.goto (-69), 3) := by decide +kernel
theorem kX0_times_81 : cdOf kX0_times 81 = some (.return_, 1) := by decide +kernel
set_option maxRecDepth 20000 in
theorem kX0_times_ok : ∀ pc i len, cdOf kX0_times pc = some (i, len) → decode cX0_times pc = .ok (i, len) ∧ stOK 4 i = true ∧ jOK pc i = true ∧ eLen i len = true := cdOf_ok cX0_times 4 kX0_times (by decide +kernel)
def vtX0_times : Nat → Option (Nat × eSp) := fun k => match k with
  | 176 => some (1, SX7_wipe)
  | 160 => some (3, SX2_read)
  | 189 => some (5, SX1_addProduct)
  | _ => none
theorem vtX0_times_176 : vtX0_times 176 = some (1, SX7_wipe) := rfl
theorem vtX0_times_160 : vtX0_times 160 = some (3, SX2_read) := rfl
theorem vtX0_times_189 : vtX0_times 189 = some (5, SX1_addProduct) := rfl
def stX0_times : Nat → Option (Nat × eSp) := fun _ => none
abbrev TX0_times : eT := (fl_RX0, cl_RX0, dl_RX0, vtX0_times, stX0_times)
set_option maxRecDepth 20000 in
theorem caX0_times : eCalls RX0 { frames := 3, cells := 0, slots := 0, locals := 79 } TX0_times := by
  refine ⟨fun k n sp h => ?_, fun k n sp h => ?_⟩
  · dsimp only [TX0_times] at h
    unfold vtX0_times at h
    split at h
    · cases h; exact eV_mk mX7_wipe wX7_wipe (by decide +kernel) (Or.inl (gW_at 662 (by decide +kernel) rfl))
    · cases h; exact eV_mk mX2_read wX2_read (by decide +kernel) (Or.inl (gW_at 638 (by decide +kernel) rfl))
    · cases h; exact eV_mk mX1_addProduct wX1_addProduct (by decide +kernel) (Or.inl (gW_at 668 (by decide +kernel) rfl))
    · cases h
  · cases h
set_option maxRecDepth 100000 in
set_option maxHeartbeats 4000000 in
theorem sX0_times : eSafe TX0_times (cdOf kX0_times) 4 none SX0_times := by
  intro K rt hK as M h
  obtain ⟨F, A, W, V, n, g, m, k, rfl, rfl, hV, hn, n4, hg, hm, hk, hmk, h⟩ := h
  refine ⟨by simp [eE], ?_⟩
  obtain ⟨e14, l14, e15, l15⟩ := rb_14
  have gbo : 141 ≤ gb g ∧ gb g + 17 ≤ 332 := by unfold gb; omega
  have tb : ∀ i j, i < n → j < n → zAbs (V (gb g + (4 * i + j)) * V (rb 14 + j)) ≤ 2 ^ (m + k) := fun i j hi hj => two_le (hm i j hi hj) (hk j hj)
  obtain ⟨P, hP⟩ : ∃ P : Nat → Nat → Nat → Int, P = fun i j c => if c < i then dS (fun j => V (gb g + (4 * c + j)) * V (rb 14 + j)) n else if c = i then dS (fun j => V (gb g + (4 * c + j)) * V (rb 14 + j)) j else 0 := ⟨_, rfl⟩
  have inner : ∀ (i : Nat), i < n → (∀ (W1 : Nat → Int → Int) (u3 : Option eV), aR W1 (vG8 V (rb 15) 4 (P (i + 1) 0)) → K 9 [some (eR (1, 4)), some (eR (9, g)), some (eI ((i + 1 : Nat) : Int)), u3] [] (cC F A W1)) → ∀ (d j : Nat) (W1 : Nat → Int → Int), j + d = n → aR W1 (vG8 V (rb 15) 4 (P i j)) → K 24 [some (eR (1, 4)), some (eR (9, g)), some (eI i), some (eI j)] [] (cC F A W1) := by
    intro i hi cont d
    induction d with
    | zero =>
      intro j W1 hj ha
      have : j = n := by omega
      subst this
      refine x_iload_n hK kX0_times_24 (q := 25) rfl rfl ?_
      refine x_aload_n hK kX0_times_25 (q := 26) rfl rfl ?_
      refine x_getfield hK kX0_times_26 (q := 29) rfl (gX0_17 ?_)
      rw [hn]
      refine x_icmp_ge hK kX0_times_29 (q := 32) rfl (tg := 75) rfl (by refine ⟨?_, ?_⟩ <;> omega) (fun c29 => ?_) (fun c29 => ?_)
      · refine x_iinc hK kX0_times_75 (q := 78) rfl rfl ?_
        simp only [lS, lS2, clr_0, clr_I, clr_L, clr_R]
        refine x_goto hK kX0_times_78 (tg := 9) rfl ?_
        rw [show (i : Int) + 1 = ((i + 1 : Nat) : Int) by omega]
        refine cont W1 _ (aR_c ha (fun t _ _ => ?_))
        unfold vG8
        split
        · rw [hP]
          dsimp only
          by_cases g1 : t - rb 15 < i
          · rw [if_pos (by omega), if_pos g1]
          · by_cases g2 : t - rb 15 = i
            · rw [if_pos (by omega), if_neg g1, if_pos g2]
            · rw [if_neg (by omega), if_neg g1, if_neg g2]
              split <;> rfl
        · rfl
      · exfalso; omega
    | succ d ih =>
      intro j W1 hj ha
      obtain ⟨Vc, hVc⟩ : ∃ Vc, vG8 V (rb 15) 4 (P i j) = Vc := ⟨_, rfl⟩
      rw [hVc] at ha
      have lo : ∀ t, (t < 137 ∨ 141 ≤ t) → Vc t = V t := fun t ht => by rw [← hVc, vG8_o _ _ (by omega)]
      have ci : Vc (rb 15 + i) = dS (fun j => V (gb g + (4 * i + j)) * V (rb 14 + j)) j := by
        rw [← hVc, vG8_i _ _ (by omega), hP]
        dsimp only
        rw [if_neg (by omega), if_pos rfl]
      have b1 := dS_le (f := fun j => V (gb g + (4 * i + j)) * V (rb 14 + j)) (m := m + k) (n := j) (by omega) (fun x hx => tb i x hi (by omega))
      have b2 := p2_m hmk
      refine x_iload_n hK kX0_times_24 (q := 25) rfl rfl ?_
      refine x_aload_n hK kX0_times_25 (q := 26) rfl rfl ?_
      refine x_getfield hK kX0_times_26 (q := 29) rfl (gX0_17 ?_)
      rw [hn]
      refine x_icmp_ge hK kX0_times_29 (q := 32) rfl (tg := 75) rfl (by refine ⟨?_, ?_⟩ <;> omega) (fun c29 => ?_) (fun c29 => ?_)
      · exfalso; omega
      · refine x_iload_n hK kX0_times_32 (q := 33) rfl rfl ?_
        refine x_iconst hK kX0_times_33 (q := 34) rfl ?_
        refine x_icmp_ge hK kX0_times_34 (q := 37) rfl (tg := 75) rfl (by refine ⟨?_, ?_⟩ <;> omega) (fun c34 => ?_) (fun c34 => ?_)
        · exfalso; omega
        · refine x_aload_n hK kX0_times_37 (q := 38) rfl rfl ?_
          refine x_getfield hK kX0_times_38 (q := 41) rfl (gX0_63 ?_)
          refine x_aload_n hK kX0_times_41 (q := 42) rfl rfl ?_
          refine x_getfield hK kX0_times_42 (q := 45) rfl (gX0_44 ?_)
          refine x_getfield hK kX0_times_45 (q := 48) rfl (gX0_177 ?_)
          refine x_iload_n hK kX0_times_48 (q := 49) rfl rfl ?_
          refine x_aaload hK kX0_times_49 (q := 50) rfl (wa_a wa_6 (by rw [l15]; omega) ?_)
          refine x_aload_n hK kX0_times_50 (q := 51) rfl rfl ?_
          refine x_iload_n hK kX0_times_51 (q := 52) rfl rfl ?_
          refine x_iload_n hK kX0_times_52 (q := 53) rfl rfl ?_
          refine x_cv3 hK kX0_times_53 (q := 56) rfl (vtX0_times_160) (Nat.le_of_ble_eq_true rfl) ?_
          refine SX2_read_i (g := g) (i := i) (j := j) hg (by omega) (by omega) ?_
          refine x_aload_n hK kX0_times_56 (q := 57) rfl rfl ?_
          refine x_getfield hK kX0_times_57 (q := 60) rfl (gX0_40 ?_)
          refine x_getfield hK kX0_times_60 (q := 63) rfl (gX0_177 ?_)
          refine x_iload_n hK kX0_times_63 (q := 64) rfl rfl ?_
          refine x_aaload hK kX0_times_64 (q := 65) rfl (wa_a wa_6 (by rw [l14]; omega) ?_)
          refine x_iconst hK kX0_times_65 (q := 66) rfl ?_
          refine x_cv5 hK kX0_times_66 (q := 69) rfl (vtX0_times_189) (Nat.le_of_ble_eq_true rfl) ?_
          refine addP_a (k := rb 15 + i) (a := gb g + (4 * i + j)) (b := rb 14 + j) (m := m) (n := k) ha (by omega) (by omega) (by omega) (by omega) (by omega) (by omega) (Or.inl rfl) (by rw [lo _ (by omega)]; exact hm i j hi (by omega)) (by rw [lo _ (by omega)]; exact hk j (by omega)) (by omega) (by rw [ci]; omega) (fun W2 h2 => ?_)
          rw [ci, lo _ (by omega), lo _ (by omega), Int.one_mul] at h2
          refine x_iinc hK kX0_times_69 (q := 72) rfl rfl ?_
          simp only [lS, lS2, clr_0, clr_I, clr_L, clr_R]
          refine x_goto hK kX0_times_72 (tg := 24) rfl ?_
          rw [show (j : Int) + 1 = ((j + 1 : Nat) : Int) by omega]
          refine ih (j + 1) W2 (by omega) (aR_c h2 (fun t _ _ => ?_))
          rw [← hVc]
          unfold vU vG8
          by_cases g1 : t = rb 15 + i
          · rw [if_pos g1, if_pos (by omega), hP]
            dsimp only
            rw [show t - rb 15 = i by omega, if_neg (by omega), if_pos rfl]
            rfl
          · rw [if_neg g1]
            split
            · rw [hP]
              dsimp only
              by_cases g2 : t - rb 15 < i
              · rw [if_pos g2, if_pos g2]
              · rw [if_neg g2, if_neg g2, if_neg (by omega), if_neg (by omega)]
            · rfl
  have outer : ∀ (d i : Nat) (W1 : Nat → Int → Int) (u3 : Option eV), i + d = n → aR W1 (vG8 V (rb 15) 4 (P i 0)) → K 9 [some (eR (1, 4)), some (eR (9, g)), some (eI i), u3] [] (cC F A W1) := by
    intro d
    induction d with
    | zero =>
      intro i W1 u3 hi ha
      have : i = n := by omega
      subst this
      have fin := h W1 (aR_c ha (fun t _ _ => by
        unfold vG8
        split
        · rw [hP]
          unfold tmF
          dsimp only
          by_cases g1 : t - rb 15 < i
          · rw [if_pos g1, if_pos g1]
          · rw [if_neg g1, if_neg g1]
            split <;> rfl
        · rfl))
      refine x_iload_n hK kX0_times_9 (q := 10) rfl rfl ?_
      refine x_aload_n hK kX0_times_10 (q := 11) rfl rfl ?_
      refine x_getfield hK kX0_times_11 (q := 14) rfl (gX0_17 ?_)
      rw [hn]
      refine x_icmp_ge hK kX0_times_14 (q := 17) rfl (tg := 81) rfl (by refine ⟨?_, ?_⟩ <;> omega) (fun c14 => ?_) (fun c14 => ?_)
      · refine x_return_ hK kX0_times_81 (by first | trivial | exact Or.inl rfl | exact Or.inr rfl) ?_
        exact fin
      · exfalso; omega
    | succ d ih =>
      intro i W1 u3 hi ha
      refine x_iload_n hK kX0_times_9 (q := 10) rfl rfl ?_
      refine x_aload_n hK kX0_times_10 (q := 11) rfl rfl ?_
      refine x_getfield hK kX0_times_11 (q := 14) rfl (gX0_17 ?_)
      rw [hn]
      refine x_icmp_ge hK kX0_times_14 (q := 17) rfl (tg := 81) rfl (by refine ⟨?_, ?_⟩ <;> omega) (fun c14 => ?_) (fun c14 => ?_)
      · exfalso; omega
      · refine x_iload_n hK kX0_times_17 (q := 18) rfl rfl ?_
        refine x_iconst hK kX0_times_18 (q := 19) rfl ?_
        refine x_icmp_ge hK kX0_times_19 (q := 22) rfl (tg := 81) rfl (by refine ⟨?_, ?_⟩ <;> omega) (fun c19 => ?_) (fun c19 => ?_)
        · exfalso; omega
        · refine x_iconst hK kX0_times_22 (q := 23) rfl ?_
          refine x_istore_n hK kX0_times_23 (q := 24) (jn := 3) rfl rfl ?_
          simp only [lS, lS2, clr_0, clr_I, clr_L, clr_R]
          exact inner i (by omega) (fun W2 u3 h2 => ih (i + 1) W2 u3 (by omega) h2) n 0 W1 (by omega) ha
  simp only [eLoc, eE, List.length_cons, List.length_nil, List.replicate, List.cons_append, List.nil_append, Nat.reduceAdd, Nat.reduceSub]
  refine x_aload_n hK kX0_times_0 (q := 1) rfl rfl ?_
  refine x_getfield hK kX0_times_1 (q := 4) rfl (gX0_44 ?_)
  refine x_cv1 hK kX0_times_4 (q := 7) rfl (vtX0_times_176) (Nat.le_of_ble_eq_true rfl) ?_
  refine rwipe_a (r := 15) hV (by decide) (fun W1 h1 => ?_)
  refine x_iconst hK kX0_times_7 (q := 8) rfl ?_
  refine x_istore_n hK kX0_times_8 (q := 9) (jn := 2) rfl rfl ?_
  simp only [lS, lS2, clr_0, clr_I, clr_L, clr_R]
  refine outer n 0 W1 _ (by omega) (aR_c h1 (fun t _ _ => ?_))
  unfold vG8
  rw [l15]
  split
  · rw [hP]
    dsimp only
    rw [if_neg (by omega)]
    split <;> rfl
  · rfl
set_option maxRecDepth 20000 in
theorem mX0_times : eMet yX0_times cX0_times 4 none 3 79 SX0_times := eMet_of (by decide +kernel) sX0_times kX0_times_ok caX0_times tb_RX0
theorem wX0_times : eWV yX0_times cX0_times 4 none 2 0 SX0_times := ⟨(gW_at 667 (by decide +kernel) rfl), (gW_at 86 (by decide +kernel) rfl), (gW_at 666 (by decide +kernel) rfl), ⟨_, rfl, (gW_at 23 (by decide +kernel) rfl)⟩, by decide +kernel, SX0_times_r⟩
-- carry
def cy0 (V : Nat → Int) (q j : Nat) : Nat → Int := fun i => if i = j then (if q = 0 then V 329 else if q < 3 then V 328 else 1) else 0
/-- which tables x^a y^b takes: the first, the second -/
def cyG (q : Nat) : Nat × Nat := match q with | 1 => (1, 1) | 2 => (0, 0) | 3 => (1, 1) | 4 => (0, 1) | 5 => (0, 0) | _ => (0, 0)
def cyF (V : Nat → Int) (n q j : Nat) : Nat → Int := if q = 0 then cy0 V q j else if q < 3 then tmF V (cyG q).1 n (cy0 V q j) else tmF V (cyG q).2 n (tmF V (cyG q).1 n (cy0 V q j))
theorem oDX : ∀ q : Fin 6, oD (q.val : Nat) = (if q.val = 0 then 0 else if q.val < 3 then 1 else 2 : Int) ∧ 0 ≤ oX (q.val : Nat) ∧ oX (q.val : Nat) ≤ 2 ∧ (0 < q.val → (0 < oX (q.val : Nat) ↔ (cyG q.val).1 = 0) ∧ (cyG q.val).1 < 2) ∧ (3 ≤ q.val → (1 < oX (q.val : Nat) ↔ (cyG q.val).2 = 0) ∧ (cyG q.val).2 < 2) := by decide +kernel
theorem take_v {F : Nat → Int} {A W : Nat → Int → Int} {V v w : Nat → Int} {rt : Option eV → eM → Prop} (h : aR W (vG8 (vG8 V (rb 14) 4 w) (rb 15) 4 v)) (q : ∀ W', aR W' (vG8 (vG8 V (rb 14) 4 v) (rb 15) 4 v) → rt none (cC F A W')) : SX7_take [eR (7, 14), eR (7, 15)] (cC F A W) rt := by
  obtain ⟨e14, l14, e15, l15⟩ := rb_14
  refine rtake_a (r := 14) (s := 15) h (by decide) (by decide) (by decide) (by rw [l14, l15]) (fun W2 h2 => q W2 (aR_c h2 (fun t _ _ => ?_)))
  rw [l14]
  by_cases a : rb 15 ≤ t ∧ t < rb 15 + 4
  · unfold vG8
    rw [if_pos a, if_neg (by omega), if_pos a]
  · by_cases b : rb 14 ≤ t ∧ t < rb 14 + 4
    · unfold vG8
      rw [if_neg a, if_pos b, if_pos b]
      dsimp only
      rw [if_pos (by omega), show rb 15 + (t - rb 14) - rb 15 = t - rb 14 by omega]
    · unfold vG8
      rw [if_neg a, if_neg b, if_neg b, if_neg a, if_neg b]
theorem times_v {F : Nat → Int} {A W : Nat → Int → Int} {V v u : Nat → Int} {rt : Option eV → eM → Prop} {n g m k : Nat} (h : aR W (vG8 (vG8 V (rb 14) 4 v) (rb 15) 4 u)) (hn : F 5 = n) (n4 : n ≤ 4) (hg : g < 2) (hm : ∀ i j, i < n → j < n → zAbs (V (gb g + (4 * i + j))) ≤ 2 ^ m) (hk : ∀ j, j < n → zAbs (v j) ≤ 2 ^ k) (hmk : m + k + 2 ≤ 930) (q : ∀ W', aR W' (vG8 (vG8 V (rb 14) 4 v) (rb 15) 4 (tmF V g n v)) → rt none (cC F A W')) : SX0_times [eR (1, 4), eR (9, g)] (cC F A W) rt := by
  obtain ⟨e14, l14, e15, l15⟩ := rb_14
  have gl : 141 ≤ gb g ∧ gb g + 17 ≤ 175 := by unfold gb; omega
  obtain ⟨V2, hV2⟩ : ∃ V2, vG8 (vG8 V (rb 14) 4 v) (rb 15) 4 u = V2 := ⟨_, rfl⟩
  rw [hV2] at h
  have o2 : ∀ t, (t < 133 ∨ 141 ≤ t) → V2 t = V t := fun t ht => by rw [← hV2, vG8_o _ _ (by omega), vG8_o _ _ (by omega)]
  have f2 : ∀ i, i < 4 → V2 (rb 14 + i) = v i := fun i hi => by rw [← hV2, vG8_o _ _ (by omega), vG8_i _ _ (by omega)]
  refine SX0_times_i (n := n) (g := g) (m := m) (k := k) h hn n4 (by omega) (fun i x hi hx => by rw [o2 _ (by omega)]; exact hm i x hi hx) (fun x hx => by rw [f2 x (by omega)]; exact hk x hx) hmk (fun W3 h3 => q W3 (aR_c h3 (fun t _ _ => ?_)))
  by_cases a : rb 15 ≤ t ∧ t < rb 15 + 4
  · rw [vG8_v V2 _ a, vG8_v (vG8 V (rb 14) 4 v) _ a]
    unfold tmF
    split
    · refine dS_c (fun x hx => ?_)
      show V _ * v x = V2 _ * V2 (rb 14 + x)
      rw [o2 _ (by omega), f2 x (by omega)]
    · rfl
  · rw [vG8_o V2 _ (by omega), ← hV2, vG8_o (vG8 V (rb 14) 4 v) _ (by omega), vG8_o (vG8 V (rb 14) 4 v) _ (by omega)]
def SX0_carry : eSp := fun as M rt => ∃ (F : Nat → Int) (A W : Nat → Int → Int) (V : Nat → Int) (n q j m : Nat), as = [eR (1, 4), eI q, eI j] ∧ M = cC F A W ∧ (aR W V) ∧ (F 5 = n) ∧ (n ≤ 4) ∧ (q < 6) ∧ (j < n) ∧ (∀ g, g < 2 → ∀ i j, i < n → j < n → zAbs (V (gb g + (4 * i + j))) ≤ 2 ^ m) ∧ (zAbs (V 328) ≤ 2 ^ m) ∧ (zAbs (V 329) ≤ 2 ^ (2 * m)) ∧ (2 * m + 6 ≤ 930) ∧ (∀ (w : Nat → Int) (W' : Nat → Int → Int), aR W' (vG8 (vG8 V (rb 14) 4 w) (rb 15) 4 (cyF V n q j)) → rt none (cC F A W'))
theorem SX0_carry_i {F : Nat → Int} {A W : Nat → Int → Int} {V : Nat → Int} {n q j m : Nat} {rt : Option eV → eM → Prop} (hV : aR W V) (hn : F 5 = n) (n4 : n ≤ 4) (hq : q < 6) (hj : j < n) (hm : ∀ g, g < 2 → ∀ i j, i < n → j < n → zAbs (V (gb g + (4 * i + j))) ≤ 2 ^ m) (hs : zAbs (V 328) ≤ 2 ^ m) (hs2 : zAbs (V 329) ≤ 2 ^ (2 * m)) (hm8 : 2 * m + 6 ≤ 930) (h : ∀ (w : Nat → Int) (W' : Nat → Int → Int), aR W' (vG8 (vG8 V (rb 14) 4 w) (rb 15) 4 (cyF V n q j)) → rt none (cC F A W')) : SX0_carry [eR (1, 4), eI q, eI j] (cC F A W) rt := ⟨F, A, W, V, n, q, j, m, rfl, rfl, hV, hn, n4, hq, hj, hm, hs, hs2, hm8, h⟩
theorem SX0_carry_r : ∀ as M rt, SX0_carry as M rt → ∃ a r fs, as = eR a :: r ∧ M a = some (.inl (0, fs)) := by
  rintro as M rt ⟨F, A, W, V, n, q, j, m, rfl, rfl, -⟩
  exact ⟨_, _, _, rfl, rfl⟩
def kX0_carry : List (Nat × Jvm.ClassFile.Instr × Nat) := [(0, .iload_n 1, 1), (1, .invokestatic 170, 3), (4, .istore_n 3, 1), (5, .iload_n 1, 1), (6, .invokestatic 173, 3), (9, .istore 4, 2), (11, .aload_n 0, 1), (12, .getfield 44, 3), (15, .invokevirtual 176, 3), (18, .iload_n 2, 1), (19, .ifCond .lt 8, 3), (22, .iload_n 2, 1), (23, .iconst 4, 1), (24, .if_icmp .lt 4, 3), (27, .return_, 1), (28, .iload_n 3, 1), (29, .ifCond .ne 22, 3), (32, .aload_n 0, 1), (33, .getfield 44, 3), (36, .getfield 177, 3), (39, .iload_n 2, 1), (40, .aaload, 1), (41, .aload_n 0, 1), (42, .getfield 54, 3), (45, .invokevirtual 156, 3), (48, .goto 40, 3), (51, .iload_n 3, 1), (52, .iconst 1, 1), (53, .if_icmp .ne 22, 3), (56, .aload_n 0, 1), (57, .getfield 44, 3), (60, .getfield 177, 3), (63, .iload_n 2, 1), (64, .aaload, 1), (65, .aload_n 0, 1), (66, .getfield 50, 3), (69, .invokevirtual 156, 3), (72, .goto 16, 3), (75, .aload_n 0, 1), (76, .getfield 44, 3), (79, .getfield 177, 3), (82, .iload_n 2, 1), (83, .aaload, 1), (84, .lconst 1, 1), (85, .invokevirtual 129, 3), (88, .iconst 0, 1), (89, .istore 5, 2), (91, .iload 5, 2), (93, .iload_n 3, 1), (94, .if_icmp .ge 47, 3), (97, .iload 5, 2), (99, .iconst 2, 1), (100, .if_icmp .ge 41, 3), (103, .aload_n 0, 1), (104, .getfield 40, 3), (107, .aload_n 0, 1), (108, .getfield 44, 3), (111, .invokevirtual 181, 3), (114, .aload_n 0, 1), (115, .aload_n 0, 1), (116, .getfield 21, 3), (119, .iload 5, 2), (121, .iload 4, 2), (123, .if_icmp .ge 7, 3), (126, .iconst 0, 1), (127, .goto 4, 3), (130, .iconst 1, 1), (131, .aaload, 1), (132, .invokevirtual 185, 3), (135, .iinc 5 1, 3), (138, .goto (-47), 3), (141, .return_, 1)]
theorem kX0_carry_0 : cdOf kX0_carry 0 = some (.iload_n 1, 1) := by decide +kernel
theorem kX0_carry_1 : cdOf kX0_carry 1 = some (.invokestatic 170, 3) := by decide +kernel
theorem kX0_carry_4 : cdOf kX0_carry 4 = some (.istore_n 3, 1) := by decide +kernel
theorem kX0_carry_5 : cdOf kX0_carry 5 = some (.iload_n 1, 1) := by decide +kernel
theorem kX0_carry_6 : cdOf kX0_carry 6 = some (.invokestatic 173, 3) := by decide +kernel
theorem kX0_carry_9 : cdOf kX0_carry 9 = some (.istore 4, 2) := by decide +kernel
theorem kX0_carry_11 : cdOf kX0_carry 11 = some (.aload_n 0, 1) := by decide +kernel
theorem kX0_carry_12 : cdOf kX0_carry 12 = some (.getfield 44, 3) := by decide +kernel
theorem kX0_carry_15 : cdOf kX0_carry 15 = some (.invokevirtual 176, 3) := by decide +kernel
theorem kX0_carry_18 : cdOf kX0_carry 18 = some (.iload_n 2, 1) := by decide +kernel
theorem kX0_carry_19 : cdOf kX0_carry 19 = some (.ifCond .lt 8, 3) := by decide +kernel
theorem kX0_carry_22 : cdOf kX0_carry 22 = some (.iload_n 2, 1) := by decide +kernel
theorem kX0_carry_23 : cdOf kX0_carry 23 = some (.iconst 4, 1) := by decide +kernel
theorem kX0_carry_24 : cdOf kX0_carry 24 = some (.if_icmp .lt 4, 3) := by decide +kernel
theorem kX0_carry_27 : cdOf kX0_carry 27 = some (.return_, 1) := by decide +kernel
theorem kX0_carry_28 : cdOf kX0_carry 28 = some (.iload_n 3, 1) := by decide +kernel
theorem kX0_carry_29 : cdOf kX0_carry 29 = some (.ifCond .ne 22, 3) := by decide +kernel
theorem kX0_carry_32 : cdOf kX0_carry 32 = some (.aload_n 0, 1) := by decide +kernel
theorem kX0_carry_33 : cdOf kX0_carry 33 = some (.getfield 44, 3) := by decide +kernel
theorem kX0_carry_36 : cdOf kX0_carry 36 = some (.getfield 177, 3) := by decide +kernel
theorem kX0_carry_39 : cdOf kX0_carry 39 = some (.iload_n 2, 1) := by decide +kernel
theorem kX0_carry_40 : cdOf kX0_carry 40 = some (.aaload, 1) := by decide +kernel
theorem kX0_carry_41 : cdOf kX0_carry 41 = some (.aload_n 0, 1) := by decide +kernel
theorem kX0_carry_42 : cdOf kX0_carry 42 = some (.getfield 54, 3) := by decide +kernel
theorem kX0_carry_45 : cdOf kX0_carry 45 = some (.invokevirtual 156, 3) := by decide +kernel
theorem kX0_carry_48 : cdOf kX0_carry 48 = some (.goto 40, 3) := by decide +kernel
theorem kX0_carry_51 : cdOf kX0_carry 51 = some (.iload_n 3, 1) := by decide +kernel
theorem kX0_carry_52 : cdOf kX0_carry 52 = some (.iconst 1, 1) := by decide +kernel
theorem kX0_carry_53 : cdOf kX0_carry 53 = some (.if_icmp .ne 22, 3) := by decide +kernel
theorem kX0_carry_56 : cdOf kX0_carry 56 = some (.aload_n 0, 1) := by decide +kernel
theorem kX0_carry_57 : cdOf kX0_carry 57 = some (.getfield 44, 3) := by decide +kernel
theorem kX0_carry_60 : cdOf kX0_carry 60 = some (.getfield 177, 3) := by decide +kernel
theorem kX0_carry_63 : cdOf kX0_carry 63 = some (.iload_n 2, 1) := by decide +kernel
theorem kX0_carry_64 : cdOf kX0_carry 64 = some (.aaload, 1) := by decide +kernel
theorem kX0_carry_65 : cdOf kX0_carry 65 = some (.aload_n 0, 1) := by decide +kernel
theorem kX0_carry_66 : cdOf kX0_carry 66 = some (.getfield 50, 3) := by decide +kernel
theorem kX0_carry_69 : cdOf kX0_carry 69 = some (.invokevirtual 156, 3) := by decide +kernel
theorem kX0_carry_72 : cdOf kX0_carry 72 = some (.goto 16, 3) := by decide +kernel
theorem kX0_carry_75 : cdOf kX0_carry 75 = some (.aload_n 0, 1) := by decide +kernel
theorem kX0_carry_76 : cdOf kX0_carry 76 = some (.getfield 44, 3) := by decide +kernel
theorem kX0_carry_79 : cdOf kX0_carry 79 = some (.getfield 177, 3) := by decide +kernel
theorem kX0_carry_82 : cdOf kX0_carry 82 = some (.iload_n 2, 1) := by decide +kernel
theorem kX0_carry_83 : cdOf kX0_carry 83 = some (.aaload, 1) := by decide +kernel
theorem kX0_carry_84 : cdOf kX0_carry 84 = some (.lconst 1, 1) := by decide +kernel
theorem kX0_carry_85 : cdOf kX0_carry 85 = some (.invokevirtual 129, 3) := by decide +kernel
theorem kX0_carry_88 : cdOf kX0_carry 88 = some (.iconst 0, 1) := by decide +kernel
theorem kX0_carry_89 : cdOf kX0_carry 89 = some (.istore 5, 2) := by decide +kernel
theorem kX0_carry_91 : cdOf kX0_carry 91 = some (.iload 5, 2) := by decide +kernel
theorem kX0_carry_93 : cdOf kX0_carry 93 = some (.iload_n 3, 1) := by decide +kernel
theorem kX0_carry_94 : cdOf kX0_carry 94 = some (.if_icmp .ge 47, 3) := by decide +kernel
theorem kX0_carry_97 : cdOf kX0_carry 97 = some (.iload 5, 2) := by decide +kernel
theorem kX0_carry_99 : cdOf kX0_carry 99 = some (.iconst 2, 1) := by decide +kernel
theorem kX0_carry_100 : cdOf kX0_carry 100 = some (.if_icmp .ge 41, 3) := by decide +kernel
theorem kX0_carry_103 : cdOf kX0_carry 103 = some (.aload_n 0, 1) := by decide +kernel
theorem kX0_carry_104 : cdOf kX0_carry 104 = some (.getfield 40, 3) := by decide +kernel
theorem kX0_carry_107 : cdOf kX0_carry 107 = some (.aload_n 0, 1) := by decide +kernel
theorem kX0_carry_108 : cdOf kX0_carry 108 = some (.getfield 44, 3) := by decide +kernel
theorem kX0_carry_111 : cdOf kX0_carry 111 = some (.invokevirtual 181, 3) := by decide +kernel
theorem kX0_carry_114 : cdOf kX0_carry 114 = some (.aload_n 0, 1) := by decide +kernel
theorem kX0_carry_115 : cdOf kX0_carry 115 = some (.aload_n 0, 1) := by decide +kernel
theorem kX0_carry_116 : cdOf kX0_carry 116 = some (.getfield 21, 3) := by decide +kernel
theorem kX0_carry_119 : cdOf kX0_carry 119 = some (.iload 5, 2) := by decide +kernel
theorem kX0_carry_121 : cdOf kX0_carry 121 = some (.iload 4, 2) := by decide +kernel
theorem kX0_carry_123 : cdOf kX0_carry 123 = some (.if_icmp .ge 7, 3) := by decide +kernel
theorem kX0_carry_126 : cdOf kX0_carry 126 = some (.iconst 0, 1) := by decide +kernel
theorem kX0_carry_127 : cdOf kX0_carry 127 = some (.goto 4, 3) := by decide +kernel
theorem kX0_carry_130 : cdOf kX0_carry 130 = some (.iconst 1, 1) := by decide +kernel
theorem kX0_carry_131 : cdOf kX0_carry 131 = some (.aaload, 1) := by decide +kernel
theorem kX0_carry_132 : cdOf kX0_carry 132 = some (.invokevirtual 185, 3) := by decide +kernel
theorem kX0_carry_135 : cdOf kX0_carry 135 = some (.iinc 5 1, 3) := by decide +kernel
theorem kX0_carry_138 : cdOf kX0_carry 138 = some (.goto (-47), 3) := by decide +kernel
theorem kX0_carry_141 : cdOf kX0_carry 141 = some (.return_, 1) := by decide +kernel
set_option maxRecDepth 20000 in
theorem kX0_carry_ok : ∀ pc i len, cdOf kX0_carry pc = some (i, len) → decode cX0_carry pc = .ok (i, len) ∧ stOK 6 i = true ∧ jOK pc i = true ∧ eLen i len = true := cdOf_ok cX0_carry 6 kX0_carry (by decide +kernel)
def vtX0_carry : Nat → Option (Nat × eSp) := fun k => match k with
  | 176 => some (1, SX7_wipe)
  | 156 => some (2, SX8_copy)
  | 129 => some (2, SX8_set)
  | 181 => some (2, SX7_take)
  | 185 => some (2, SX0_times)
  | _ => none
theorem vtX0_carry_176 : vtX0_carry 176 = some (1, SX7_wipe) := rfl
theorem vtX0_carry_156 : vtX0_carry 156 = some (2, SX8_copy) := rfl
theorem vtX0_carry_129 : vtX0_carry 129 = some (2, SX8_set) := rfl
theorem vtX0_carry_181 : vtX0_carry 181 = some (2, SX7_take) := rfl
theorem vtX0_carry_185 : vtX0_carry 185 = some (2, SX0_times) := rfl
def stX0_carry : Nat → Option (Nat × eSp) := fun k => match k with
  | 170 => some (1, SX5_degree)
  | 173 => some (1, SX5_powerOfX)
  | _ => none
theorem stX0_carry_170 : stX0_carry 170 = some (1, SX5_degree) := rfl
theorem stX0_carry_173 : stX0_carry 173 = some (1, SX5_powerOfX) := rfl
abbrev TX0_carry : eT := (fl_RX0, cl_RX0, dl_RX0, vtX0_carry, stX0_carry)
set_option maxRecDepth 20000 in
theorem caX0_carry : eCalls RX0 { frames := 4, cells := 0, slots := 0, locals := 102 } TX0_carry := by
  refine ⟨fun k n sp h => ?_, fun k n sp h => ?_⟩
  · dsimp only [TX0_carry] at h
    unfold vtX0_carry at h
    split at h
    · cases h; exact eV_mk mX7_wipe wX7_wipe (by decide +kernel) (Or.inl (gW_at 662 (by decide +kernel) rfl))
    · cases h; exact eV_mk mX8_copy wX8_copy (by decide +kernel) (Or.inl (gW_at 637 (by decide +kernel) rfl))
    · cases h; exact eV_mk mX8_set wX8_set (by decide +kernel) (Or.inl (gW_at 605 (by decide +kernel) rfl))
    · cases h; exact eV_mk mX7_take wX7_take (by decide +kernel) (Or.inl (gW_at 663 (by decide +kernel) rfl))
    · cases h; exact eV_mk mX0_times wX0_times (by decide +kernel) (Or.inl (gW_at 664 (by decide +kernel) rfl))
    · cases h
  · dsimp only [TX0_carry] at h
    unfold stX0_carry at h
    split at h
    · cases h; exact eS_mk mX5_degree wX5_degree (by decide +kernel) (Or.inl (gW_at 655 (by decide +kernel) rfl))
    · cases h; exact eS_mk mX5_powerOfX wX5_powerOfX (by decide +kernel) (Or.inl (gW_at 656 (by decide +kernel) rfl))
    · cases h
set_option maxRecDepth 100000 in
set_option maxHeartbeats 4000000 in
theorem sX0_carry : eSafe TX0_carry (cdOf kX0_carry) 6 none SX0_carry := by
  intro K rt hK as M h
  obtain ⟨F, A, W, V, n, q, j, m, rfl, rfl, hV, hn, n4, hq, hj, hm, hs, hs2, hm8, h⟩ := h
  refine ⟨by simp [eE], ?_⟩
  obtain ⟨e14, l14, e15, l15⟩ := rb_14
  obtain ⟨hD, x0, x2, g1, g2⟩ := oDX ⟨q, hq⟩
  have hD' : oD q = (if q = 0 then 0 else if q < 3 then 1 else 2 : Int) := hD
  have x0' : 0 ≤ oX q := x0
  have x2' : oX q ≤ 2 := x2
  have g1' : 0 < q → (0 < oX q ↔ (cyG q).1 = 0) ∧ (cyG q).1 < 2 := g1
  have g2' : 3 ≤ q → (1 < oX q ↔ (cyG q).2 = 0) ∧ (cyG q).2 < 2 := g2
  clear hD x0 x2 g1 g2
  obtain ⟨D, eD⟩ : ∃ D, oD q = D := ⟨_, rfl⟩
  obtain ⟨a, ea⟩ : ∃ a, oX q = a := ⟨_, rfl⟩
  rw [eD] at hD'
  rw [ea] at x0' x2' g1' g2'
  have Dr : (q = 0 ∧ D = 0) ∨ (0 < q ∧ q < 3 ∧ D = 1) ∨ (3 ≤ q ∧ D = 2) := by
    rw [hD']
    by_cases a1 : q = 0
    · rw [if_pos a1]; exact Or.inl ⟨a1, rfl⟩
    · by_cases a2 : q < 3
      · rw [if_neg a1, if_pos a2]; exact Or.inr (Or.inl ⟨by omega, a2, rfl⟩)
      · rw [if_neg a1, if_neg a2]; exact Or.inr (Or.inr ⟨by omega, rfl⟩)
  have p1 := p2_pos m
  have p2 := p2_pos (2 * m)
  have bigm := p2_m (show m ≤ 2 * m by omega)
  -- sizes
  have b0 : 0 < q → ∀ i, i < n → zAbs (cy0 V q j i) ≤ 2 ^ m := fun q0 i hi => by
    unfold cy0
    split
    · rw [if_neg (by omega)]
      split
      · exact hs
      · have : zAbs 1 = 1 := rfl
        omega
    · have : zAbs 0 = 0 := rfl
      omega
  have b1 : 3 ≤ q → ∀ i, i < n → zAbs (tmF V (cyG q).1 n (cy0 V q j) i) ≤ 2 ^ (m + 2) := fun q3 i hi => by
    have e1 : ∀ x, x < n → zAbs (V (gb (cyG q).1 + (4 * i + x)) * cy0 V q j x) ≤ 2 ^ m := fun x hx => by
      have h1 := hm _ (g1' (by omega)).2 i x hi hx
      have h2 : zAbs (cy0 V q j x) ≤ 2 ^ 0 := by
        unfold cy0
        split
        · rw [if_neg (by omega), if_neg (by omega)]; decide
        · decide
      have := two_le h1 h2
      exact this
    unfold tmF
    rw [if_pos hi]
    exact dS_le n4 e1
  have at131 : ∀ (g : Nat) (st : Int) (W1 : Nat → Int → Int) (v u : Nat → Int) (k : Nat), g < 2 → m + k + 2 ≤ 930 → (∀ i, i < n → zAbs (v i) ≤ 2 ^ k) → aR W1 (vG8 (vG8 V (rb 14) 4 v) (rb 15) 4 u) → (∀ W2, aR W2 (vG8 (vG8 V (rb 14) 4 v) (rb 15) 4 (tmF V g n v)) → K 91 [some (eR (1, 4)), some (eI q), some (eI j), some (eI D), some (eI a), some (eI (st + 1))] [] (cC F A W2)) → K 131 [some (eR (1, 4)), some (eI q), some (eI j), some (eI D), some (eI a), some (eI st)] [eI (g : Int), eR (1, 16), eR (1, 4)] (cC F A W1) := by
    intro g st W1 v u k hg hmk hv ha cont
    refine x_aaload hK kX0_carry_131 (q := 132) rfl (aC0_4 (by omega) ?_)
    refine x_cv2 hK kX0_carry_132 (q := 135) rfl (vtX0_carry_185) (Nat.le_of_ble_eq_true rfl) ?_
    refine times_v (m := m) (k := k) ha hn n4 hg (hm g hg) hv hmk (fun W2 h2 => ?_)
    refine x_iinc hK kX0_carry_135 (q := 138) rfl rfl ?_
    simp only [lS, lS2, clr_0, clr_I, clr_L, clr_R]
    refine x_goto hK kX0_carry_138 (tg := 91) rfl ?_
    exact cont W2 h2
  have fin : ∀ (st : Int) (W1 : Nat → Int → Int) (w : Nat → Int), (D ≤ st ∨ 2 ≤ st) → w32 st → aR W1 (vG8 (vG8 V (rb 14) 4 w) (rb 15) 4 (cyF V n q j)) → K 91 [some (eR (1, 4)), some (eI q), some (eI j), some (eI D), some (eI a), some (eI st)] [] (cC F A W1) := by
    intro st W1 w hst ws ha
    refine x_iload hK kX0_carry_91 (q := 93) rfl rfl ?_
    refine x_iload_n hK kX0_carry_93 (q := 94) rfl rfl ?_
    refine x_icmp_ge hK kX0_carry_94 (q := 97) rfl (tg := 141) rfl (by refine ⟨ws, ⟨by omega, by omega⟩⟩) (fun c94 => ?_) (fun c94 => ?_)
    · refine x_return_ hK kX0_carry_141 (by first | trivial | exact Or.inl rfl | exact Or.inr rfl) ?_
      exact h w W1 ha
    · refine x_iload hK kX0_carry_97 (q := 99) rfl rfl ?_
      refine x_iconst hK kX0_carry_99 (q := 100) rfl ?_
      refine x_icmp_ge hK kX0_carry_100 (q := 103) rfl (tg := 141) rfl (by refine ⟨ws, by decide⟩) (fun c100 => ?_) (fun c100 => ?_)
      · refine x_return_ hK kX0_carry_141 (by first | trivial | exact Or.inl rfl | exact Or.inr rfl) ?_
        exact h w W1 ha
      · exfalso; omega
  have k1 : ∀ (W1 : Nat → Int → Int) (w : Nat → Int), 0 < q → aR W1 (vG8 (vG8 V (rb 14) 4 w) (rb 15) 4 (tmF V (cyG q).1 n (cy0 V q j))) → K 91 [some (eR (1, 4)), some (eI q), some (eI j), some (eI D), some (eI a), some (eI 1)] [] (cC F A W1) := by
    intro W1 w q0 ha
    rcases Nat.lt_or_ge q 3 with q3 | q3
    · refine fin 1 W1 w (by omega) (by decide) ?_
      unfold cyF
      rw [if_neg (by omega), if_pos q3]
      exact ha
    · have cF : cyF V n q j = tmF V (cyG q).2 n (tmF V (cyG q).1 n (cy0 V q j)) := by unfold cyF; rw [if_neg (by omega), if_neg (by omega)]
      have gg := g2' q3
      have at2 : ∀ W2, aR W2 (vG8 (vG8 V (rb 14) 4 (tmF V (cyG q).1 n (cy0 V q j))) (rb 15) 4 (tmF V (cyG q).1 n (cy0 V q j))) → K 131 [some (eR (1, 4)), some (eI q), some (eI j), some (eI D), some (eI a), some (eI 1)] [eI (((cyG q).2 : Nat) : Int), eR (1, 16), eR (1, 4)] (cC F A W2) := fun W2 h2 => at131 (cyG q).2 1 W2 _ _ (m + 2) gg.2 (by omega) (b1 q3) h2 (fun W3 h3 => fin 2 W3 _ (by omega) (by decide) (by rw [cF]; exact h3))
      refine x_iload hK kX0_carry_91 (q := 93) rfl rfl ?_
      refine x_iload_n hK kX0_carry_93 (q := 94) rfl rfl ?_
      refine x_icmp_ge hK kX0_carry_94 (q := 97) rfl (tg := 141) rfl (by refine ⟨by decide, ⟨by omega, by omega⟩⟩) (fun c94 => ?_) (fun c94 => ?_)
      · exfalso; omega
      · refine x_iload hK kX0_carry_97 (q := 99) rfl rfl ?_
        refine x_iconst hK kX0_carry_99 (q := 100) rfl ?_
        refine x_icmp_ge hK kX0_carry_100 (q := 103) rfl (tg := 141) rfl (by refine ⟨?_, ?_⟩ <;> omega) (fun c100 => ?_) (fun c100 => ?_)
        · exfalso; omega
        · refine x_aload_n hK kX0_carry_103 (q := 104) rfl rfl ?_
          refine x_getfield hK kX0_carry_104 (q := 107) rfl (gX0_40 ?_)
          refine x_aload_n hK kX0_carry_107 (q := 108) rfl rfl ?_
          refine x_getfield hK kX0_carry_108 (q := 111) rfl (gX0_44 ?_)
          refine x_cv2 hK kX0_carry_111 (q := 114) rfl (vtX0_carry_181) (Nat.le_of_ble_eq_true rfl) ?_
          refine take_v ha (fun W2 h2 => ?_)
          have at2' := at2 W2 h2
          refine x_aload_n hK kX0_carry_114 (q := 115) rfl rfl ?_
          refine x_aload_n hK kX0_carry_115 (q := 116) rfl rfl ?_
          refine x_getfield hK kX0_carry_116 (q := 119) rfl (gX0_21 ?_)
          refine x_iload hK kX0_carry_119 (q := 121) rfl rfl ?_
          refine x_iload hK kX0_carry_121 (q := 123) rfl rfl ?_
          refine x_icmp_ge hK kX0_carry_123 (q := 126) rfl (tg := 130) rfl (by refine ⟨by decide, ⟨by omega, by omega⟩⟩) (fun c123 => ?_) (fun c123 => ?_)
          · rw [show (cyG q).2 = 1 by have := gg.1; omega] at at2'
            refine x_iconst hK kX0_carry_130 (q := 131) rfl ?_
            exact at2'
          · rw [gg.1.mp (by omega)] at at2'
            refine x_iconst hK kX0_carry_126 (q := 127) rfl ?_
            refine x_goto hK kX0_carry_127 (tg := 131) rfl ?_
            exact at2'
  have k0 : ∀ (W1 : Nat → Int → Int) (w : Nat → Int), aR W1 (vG8 (vG8 V (rb 14) 4 w) (rb 15) 4 (cy0 V q j)) → K 91 [some (eR (1, 4)), some (eI q), some (eI j), some (eI D), some (eI a), some (eI 0)] [] (cC F A W1) := by
    intro W1 w ha
    rcases Nat.eq_zero_or_pos q with q0 | q0
    · refine fin 0 W1 w (by omega) (by decide) ?_
      unfold cyF
      rw [if_pos q0]
      exact ha
    · have gg := g1' q0
      have at2 : ∀ W2, aR W2 (vG8 (vG8 V (rb 14) 4 (cy0 V q j)) (rb 15) 4 (cy0 V q j)) → K 131 [some (eR (1, 4)), some (eI q), some (eI j), some (eI D), some (eI a), some (eI 0)] [eI (((cyG q).1 : Nat) : Int), eR (1, 16), eR (1, 4)] (cC F A W2) := fun W2 h2 => at131 (cyG q).1 0 W2 _ _ m gg.2 (by omega) (b0 q0) h2 (fun W3 h3 => k1 W3 _ q0 h3)
      refine x_iload hK kX0_carry_91 (q := 93) rfl rfl ?_
      refine x_iload_n hK kX0_carry_93 (q := 94) rfl rfl ?_
      refine x_icmp_ge hK kX0_carry_94 (q := 97) rfl (tg := 141) rfl (by refine ⟨by decide, ⟨by omega, by omega⟩⟩) (fun c94 => ?_) (fun c94 => ?_)
      · exfalso; omega
      · refine x_iload hK kX0_carry_97 (q := 99) rfl rfl ?_
        refine x_iconst hK kX0_carry_99 (q := 100) rfl ?_
        refine x_icmp_ge hK kX0_carry_100 (q := 103) rfl (tg := 141) rfl (by refine ⟨?_, ?_⟩ <;> omega) (fun c100 => ?_) (fun c100 => ?_)
        · exfalso; omega
        · refine x_aload_n hK kX0_carry_103 (q := 104) rfl rfl ?_
          refine x_getfield hK kX0_carry_104 (q := 107) rfl (gX0_40 ?_)
          refine x_aload_n hK kX0_carry_107 (q := 108) rfl rfl ?_
          refine x_getfield hK kX0_carry_108 (q := 111) rfl (gX0_44 ?_)
          refine x_cv2 hK kX0_carry_111 (q := 114) rfl (vtX0_carry_181) (Nat.le_of_ble_eq_true rfl) ?_
          refine take_v ha (fun W2 h2 => ?_)
          have at2' := at2 W2 h2
          refine x_aload_n hK kX0_carry_114 (q := 115) rfl rfl ?_
          refine x_aload_n hK kX0_carry_115 (q := 116) rfl rfl ?_
          refine x_getfield hK kX0_carry_116 (q := 119) rfl (gX0_21 ?_)
          refine x_iload hK kX0_carry_119 (q := 121) rfl rfl ?_
          refine x_iload hK kX0_carry_121 (q := 123) rfl rfl ?_
          refine x_icmp_ge hK kX0_carry_123 (q := 126) rfl (tg := 130) rfl (by refine ⟨by decide, ⟨by omega, by omega⟩⟩) (fun c123 => ?_) (fun c123 => ?_)
          · rw [show (cyG q).1 = 1 by have := gg.1; omega] at at2'
            refine x_iconst hK kX0_carry_130 (q := 131) rfl ?_
            exact at2'
          · rw [gg.1.mp (by omega)] at at2'
            refine x_iconst hK kX0_carry_126 (q := 127) rfl ?_
            refine x_goto hK kX0_carry_127 (tg := 131) rfl ?_
            exact at2'
  -- the first vector
  have ini : ∀ (W1 W2 : Nat → Int → Int) (x : Int), x = (if q = 0 then V 329 else if q < 3 then V 328 else 1) → aR W2 (vU (vG8 V (rb 15) 4 (fun _ => 0)) (rb 15 + j) x) → K 91 [some (eR (1, 4)), some (eI q), some (eI j), some (eI D), some (eI a), some (eI 0)] [] (cC F A W2) := fun W1 W2 x hx h2 => k0 W2 (fun i => V (rb 14 + i)) (aR_c h2 (fun t _ _ => by
    unfold vU vG8 cy0
    by_cases c1 : rb 15 ≤ t ∧ t < rb 15 + 4
    · rw [if_pos c1, if_pos c1]
      by_cases c2 : t = rb 15 + j
      · rw [if_pos c2, if_pos (by omega), hx]
      · rw [if_neg c2, if_neg (by omega)]
    · rw [if_neg c1, if_neg c1, if_neg (show ¬ t = rb 15 + j by omega)]
      split
      · show V (rb 14 + (t - rb 14)) = V t
        rw [show rb 14 + (t - rb 14) = t by omega]
      · rfl))
  simp only [eLoc, eE, List.length_cons, List.length_nil, List.replicate, List.cons_append, List.nil_append, Nat.reduceAdd, Nat.reduceSub]
  refine x_iload_n hK kX0_carry_0 (q := 1) rfl rfl ?_
  refine x_cs1 hK kX0_carry_1 (q := 4) rfl (stX0_carry_170) (Nat.le_of_ble_eq_true rfl) ?_
  refine SX5_degree_i ⟨by omega, by omega⟩ ?_
  rw [eD]
  refine x_istore_n hK kX0_carry_4 (q := 5) (jn := 3) rfl rfl ?_
  refine x_iload_n hK kX0_carry_5 (q := 6) rfl rfl ?_
  simp only [lS, lS2, clr_0, clr_I, clr_L, clr_R]
  refine x_cs1 hK kX0_carry_6 (q := 9) rfl (stX0_carry_173) (Nat.le_of_ble_eq_true rfl) ?_
  refine SX5_powerOfX_i ⟨by omega, by omega⟩ ?_
  rw [ea]
  refine x_istore hK kX0_carry_9 (q := 11) rfl ?_
  refine x_aload_n hK kX0_carry_11 (q := 12) rfl rfl ?_
  refine x_getfield hK kX0_carry_12 (q := 15) rfl (gX0_44 ?_)
  simp only [lS, lS2, clr_0, clr_I, clr_L, clr_R]
  refine x_cv1 hK kX0_carry_15 (q := 18) rfl (vtX0_carry_176) (Nat.le_of_ble_eq_true rfl) ?_
  refine rwipe_a (r := 15) hV (by decide) (fun W1 h1 => ?_)
  rw [l15] at h1
  refine x_iload_n hK kX0_carry_18 (q := 19) rfl rfl ?_
  refine x_if_lt hK kX0_carry_19 (q := 22) rfl (tg := 27) rfl (by omega) (fun c19 => ?_) (fun c19 => ?_)
  · exfalso; omega
  · refine x_iload_n hK kX0_carry_22 (q := 23) rfl rfl ?_
    refine x_iconst hK kX0_carry_23 (q := 24) rfl ?_
    refine x_icmp_lt hK kX0_carry_24 (q := 27) rfl (tg := 28) rfl (by refine ⟨?_, ?_⟩ <;> omega) (fun c24 => ?_) (fun c24 => ?_)
    · refine x_iload_n hK kX0_carry_28 (q := 29) rfl rfl ?_
      refine x_if_ne hK kX0_carry_29 (q := 32) rfl (tg := 51) rfl (by exact ⟨by omega, by omega⟩) (fun c29 => ?_) (fun c29 => ?_)
      · refine x_iload_n hK kX0_carry_51 (q := 52) rfl rfl ?_
        refine x_iconst hK kX0_carry_52 (q := 53) rfl ?_
        refine x_icmp_ne hK kX0_carry_53 (q := 56) rfl (tg := 75) rfl (by exact ⟨⟨by omega, by omega⟩, by decide⟩) (fun c53 => ?_) (fun c53 => ?_)
        · refine x_aload_n hK kX0_carry_75 (q := 76) rfl rfl ?_
          refine x_getfield hK kX0_carry_76 (q := 79) rfl (gX0_44 ?_)
          refine x_getfield hK kX0_carry_79 (q := 82) rfl (gX0_177 ?_)
          refine x_iload_n hK kX0_carry_82 (q := 83) rfl rfl ?_
          refine x_aaload hK kX0_carry_83 (q := 84) rfl (wa_a wa_6 (by rw [l15]; omega) ?_)
          refine x_lconst1 hK kX0_carry_84 (q := 85) rfl ?_
          refine x_cv2 hK kX0_carry_85 (q := 88) rfl (vtX0_carry_129) (Nat.le_of_ble_eq_true rfl) ?_
          refine set_a h1 (by omega) (by omega) (by decide) (fun W2 h2 => ?_)
          have hfin := ini W1 W2 _ (by rw [if_neg (by omega), if_neg (by omega)]) h2
          refine x_iconst hK kX0_carry_88 (q := 89) rfl ?_
          refine x_istore hK kX0_carry_89 (q := 91) rfl ?_
          simp only [lS, lS2, clr_0, clr_I, clr_L, clr_R]
          exact hfin
        · refine x_aload_n hK kX0_carry_56 (q := 57) rfl rfl ?_
          refine x_getfield hK kX0_carry_57 (q := 60) rfl (gX0_44 ?_)
          refine x_getfield hK kX0_carry_60 (q := 63) rfl (gX0_177 ?_)
          refine x_iload_n hK kX0_carry_63 (q := 64) rfl rfl ?_
          refine x_aaload hK kX0_carry_64 (q := 65) rfl (wa_a wa_6 (by rw [l15]; omega) ?_)
          refine x_aload_n hK kX0_carry_65 (q := 66) rfl rfl ?_
          refine x_getfield hK kX0_carry_66 (q := 69) rfl (gX0_50 ?_)
          refine x_cv2 hK kX0_carry_69 (q := 72) rfl (vtX0_carry_156) (Nat.le_of_ble_eq_true rfl) ?_
          refine copy_a h1 (by omega) (by omega) (by decide) (by decide) (by omega) (fun W2 h2 => ?_)
          rw [vG8_o _ _ (by omega)] at h2
          have hfin := ini W1 W2 _ (by rw [if_neg (by omega), if_pos (by omega)]) h2
          refine x_goto hK kX0_carry_72 (tg := 88) rfl ?_
          refine x_iconst hK kX0_carry_88 (q := 89) rfl ?_
          refine x_istore hK kX0_carry_89 (q := 91) rfl ?_
          simp only [lS, lS2, clr_0, clr_I, clr_L, clr_R]
          exact hfin
      · refine x_aload_n hK kX0_carry_32 (q := 33) rfl rfl ?_
        refine x_getfield hK kX0_carry_33 (q := 36) rfl (gX0_44 ?_)
        refine x_getfield hK kX0_carry_36 (q := 39) rfl (gX0_177 ?_)
        refine x_iload_n hK kX0_carry_39 (q := 40) rfl rfl ?_
        refine x_aaload hK kX0_carry_40 (q := 41) rfl (wa_a wa_6 (by rw [l15]; omega) ?_)
        refine x_aload_n hK kX0_carry_41 (q := 42) rfl rfl ?_
        refine x_getfield hK kX0_carry_42 (q := 45) rfl (gX0_54 ?_)
        refine x_cv2 hK kX0_carry_45 (q := 48) rfl (vtX0_carry_156) (Nat.le_of_ble_eq_true rfl) ?_
        refine copy_a h1 (by omega) (by omega) (by decide) (by decide) (by omega) (fun W2 h2 => ?_)
        rw [vG8_o _ _ (by omega)] at h2
        have hfin := ini W1 W2 _ (by rw [if_pos (by omega)]) h2
        refine x_goto hK kX0_carry_48 (tg := 88) rfl ?_
        refine x_iconst hK kX0_carry_88 (q := 89) rfl ?_
        refine x_istore hK kX0_carry_89 (q := 91) rfl ?_
        simp only [lS, lS2, clr_0, clr_I, clr_L, clr_R]
        exact hfin
    · exfalso; omega
set_option maxRecDepth 20000 in
theorem mX0_carry : eMet yX0_carry cX0_carry 6 none 4 102 SX0_carry := eMet_of (by decide +kernel) sX0_carry kX0_carry_ok caX0_carry tb_RX0
theorem wX0_carry : eWV yX0_carry cX0_carry 6 none 3 0 SX0_carry := ⟨(gW_at 654 (by decide +kernel) rfl), (gW_at 86 (by decide +kernel) rfl), (gW_at 653 (by decide +kernel) rfl), ⟨_, rfl, (gW_at 22 (by decide +kernel) rfl)⟩, by decide +kernel, SX0_carry_r⟩
