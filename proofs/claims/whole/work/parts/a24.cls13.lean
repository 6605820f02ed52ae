/-! The desk: share, addProduct, multiply, spread, setShare, tell. -/
theorem dv_n {W W' : Nat → Int → Int} {t : Nat} (h : dv W t) (e : W' t = W t) : dv W' t := by
  obtain ⟨v, hv⟩ := h
  exact ⟨v, by rw [e]; exact hv⟩
theorem zAbs_dm {x d : Int} (hd : 0 < d) (h : d ∣ x) : 0 ≤ zAbs x / d ∧ (x < 0 → -(zAbs x / d) = x / d) ∧ (0 ≤ x → zAbs x / d = x / d) := by
  refine ⟨Int.ediv_nonneg (zAbs_0 x) (by omega), fun q => ?_, fun q => by rw [zAbs_nn q]⟩
  have e : zAbs x = -x := by unfold zAbs; rw [if_pos q]
  rw [e, Int.neg_ediv_of_dvd h]
  omega
def SX1_share : eSp := fun as M rt => ∃ (F : Nat → Int) (A W : Nat → Int → Int) (k b : Nat) (x d : Int), as = [eR (1, 2), eR (2, k), eR (2, b)] ∧ M = cC F A W ∧ (k < 332) ∧ (b < 332) ∧ (k ≠ 2) ∧ (b ≠ 2) ∧ (k ≠ 4) ∧ (b ≠ 4) ∧ (k ≠ b) ∧ (wq (lw k) (W k) x) ∧ (wq (lw b) (W b) d) ∧ (0 < d) ∧ (d ∣ x) ∧ (zAbs x < cB ^ 62) ∧ (dv W 2) ∧ (dv W 4) ∧ (∀ W' : Nat → Int → Int, (∀ t, t ≠ 2 → t ≠ 4 → t ≠ k → W' t = W t) → wq (lw k) (W' k) (x / d) → dv W' 2 → dv W' 4 → rt none (cC F A W'))
theorem SX1_share_i {F : Nat → Int} {A W : Nat → Int → Int} {k b : Nat} {x d : Int} {rt : Option eV → eM → Prop} (hk : k < 332) (hb : b < 332) (k2 : k ≠ 2) (b2 : b ≠ 2) (k4 : k ≠ 4) (b4 : b ≠ 4) (kb : k ≠ b) (hx : wq (lw k) (W k) x) (hd : wq (lw b) (W b) d) (d0 : 0 < d) (dx : d ∣ x) (x78 : zAbs x < cB ^ 62) (v2 : dv W 2) (v4 : dv W 4) (h : ∀ W' : Nat → Int → Int, (∀ t, t ≠ 2 → t ≠ 4 → t ≠ k → W' t = W t) → wq (lw k) (W' k) (x / d) → dv W' 2 → dv W' 4 → rt none (cC F A W')) : SX1_share [eR (1, 2), eR (2, k), eR (2, b)] (cC F A W) rt := ⟨F, A, W, k, b, x, d, rfl, rfl, hk, hb, k2, b2, k4, b4, kb, hx, hd, d0, dx, x78, v2, v4, h⟩
theorem SX1_share_r : ∀ as M rt, SX1_share as M rt → ∃ a r fs, as = eR a :: r ∧ M a = some (.inl (1, fs)) := by
  rintro as M rt ⟨F, A, W, k, b, x, d, rfl, rfl, -⟩
  exact ⟨_, _, _, rfl, rfl⟩
def kX1_share : List (Nat × Jvm.ClassFile.Instr × Nat) := [(0, .aload_n 1, 1), (1, .invokevirtual 47, 3), (4, .ifCond .ne 10, 3), (7, .aload_n 2, 1), (8, .invokevirtual 130, 3), (11, .ifCond .eq 4, 3), (14, .return_, 1), (15, .aload_n 1, 1), (16, .getfield 67, 3), (19, .istore_n 3, 1), (20, .aload_n 0, 1), (21, .getfield 29, 3), (24, .aload_n 1, 1), (25, .invokevirtual 89, 3), (28, .aload_n 0, 1), (29, .getfield 29, 3), (32, .invokevirtual 114, 3), (35, .aload_n 0, 1), (36, .aload_n 0, 1), (37, .getfield 29, 3), (40, .aload_n 2, 1), (41, .aload_n 1, 1), (42, .invokevirtual 126, 3), (45, .iload_n 3, 1), (46, .ifCond .ge 7, 3), (49, .aload_n 1, 1), (50, .invokevirtual 133, 3), (53, .return_, 1)]
theorem kX1_share_0 : cdOf kX1_share 0 = some (.aload_n 1, 1) := by decide +kernel
theorem kX1_share_1 : cdOf kX1_share 1 = some (.invokevirtual 47, 3) := by decide +kernel
theorem kX1_share_4 : cdOf kX1_share 4 = some (.ifCond .ne 10, 3) := by decide +kernel
theorem kX1_share_7 : cdOf kX1_share 7 = some (.aload_n 2, 1) := by decide +kernel
theorem kX1_share_8 : cdOf kX1_share 8 = some (.invokevirtual 130, 3) := by decide +kernel
theorem kX1_share_11 : cdOf kX1_share 11 = some (.ifCond .eq 4, 3) := by decide +kernel
theorem kX1_share_14 : cdOf kX1_share 14 = some (.return_, 1) := by decide +kernel
theorem kX1_share_15 : cdOf kX1_share 15 = some (.aload_n 1, 1) := by decide +kernel
theorem kX1_share_16 : cdOf kX1_share 16 = some (.getfield 67, 3) := by decide +kernel
theorem kX1_share_19 : cdOf kX1_share 19 = some (.istore_n 3, 1) := by decide +kernel
theorem kX1_share_20 : cdOf kX1_share 20 = some (.aload_n 0, 1) := by decide +kernel
theorem kX1_share_21 : cdOf kX1_share 21 = some (.getfield 29, 3) := by decide +kernel
theorem kX1_share_24 : cdOf kX1_share 24 = some (.aload_n 1, 1) := by decide +kernel
theorem kX1_share_25 : cdOf kX1_share 25 = some (.invokevirtual 89, 3) := by decide +kernel
theorem kX1_share_28 : cdOf kX1_share 28 = some (.aload_n 0, 1) := by decide +kernel
theorem kX1_share_29 : cdOf kX1_share 29 = some (.getfield 29, 3) := by decide +kernel
theorem kX1_share_32 : cdOf kX1_share 32 = some (.invokevirtual 114, 3) := by decide +kernel
theorem kX1_share_35 : cdOf kX1_share 35 = some (.aload_n 0, 1) := by decide +kernel
theorem kX1_share_36 : cdOf kX1_share 36 = some (.aload_n 0, 1) := by decide +kernel
theorem kX1_share_37 : cdOf kX1_share 37 = some (.getfield 29, 3) := by decide +kernel
theorem kX1_share_40 : cdOf kX1_share 40 = some (.aload_n 2, 1) := by decide +kernel
theorem kX1_share_41 : cdOf kX1_share 41 = some (.aload_n 1, 1) := by decide +kernel
theorem kX1_share_42 : cdOf kX1_share 42 = some (.invokevirtual 126, 3) := by decide +kernel
theorem kX1_share_45 : cdOf kX1_share 45 = some (.iload_n 3, 1) := by decide +kernel
theorem kX1_share_46 : cdOf kX1_share 46 = some (.ifCond .ge 7, 3) := by decide +kernel
theorem kX1_share_49 : cdOf kX1_share 49 = some (.aload_n 1, 1) := by decide +kernel
theorem kX1_share_50 : cdOf kX1_share 50 = some (.invokevirtual 133, 3) := by decide +kernel
theorem kX1_share_53 : cdOf kX1_share 53 = some (.return_, 1) := by decide +kernel
set_option maxRecDepth 20000 in
theorem kX1_share_ok : ∀ pc i len, cdOf kX1_share pc = some (i, len) → decode cX1_share pc = .ok (i, len) ∧ stOK 4 i = true ∧ jOK pc i = true ∧ eLen i len = true := cdOf_ok cX1_share 4 kX1_share (by decide +kernel)
def vtX1_share : Nat → Option (Nat × eSp) := fun k => match k with
  | 47 => some (1, SX8_isZero)
  | 130 => some (1, SX8_isOne)
  | 89 => some (2, SX8_copy)
  | 114 => some (1, SX8_unsign)
  | 126 => some (4, SX1_divide)
  | 133 => some (1, SX8_turn)
  | _ => none
theorem vtX1_share_47 : vtX1_share 47 = some (1, SX8_isZero) := rfl
theorem vtX1_share_130 : vtX1_share 130 = some (1, SX8_isOne) := rfl
theorem vtX1_share_89 : vtX1_share 89 = some (2, SX8_copy) := rfl
theorem vtX1_share_114 : vtX1_share 114 = some (1, SX8_unsign) := rfl
theorem vtX1_share_126 : vtX1_share 126 = some (4, SX1_divide) := rfl
theorem vtX1_share_133 : vtX1_share 133 = some (1, SX8_turn) := rfl
def stX1_share : Nat → Option (Nat × eSp) := fun _ => none
abbrev TX1_share : eT := (fl_RX1, cl_RX1, dl_RX1, vtX1_share, stX1_share)
set_option maxRecDepth 20000 in
theorem caX1_share : eCalls RX1 { frames := 2, cells := 0, slots := 0, locals := 64 } TX1_share := by
  refine ⟨fun k n sp h => ?_, fun k n sp h => ?_⟩
  · dsimp only [TX1_share] at h
    unfold vtX1_share at h
    split at h
    · cases h; exact eV_mk mX8_isZero wX8_isZero (by decide +kernel) (Or.inl (gW_at 456 (by decide +kernel) rfl))
    · cases h; exact eV_mk mX8_isOne wX8_isOne (by decide +kernel) (Or.inl (gW_at 514 (by decide +kernel) rfl))
    · cases h; exact eV_mk mX8_copy wX8_copy (by decide +kernel) (Or.inl (gW_at 443 (by decide +kernel) rfl))
    · cases h; exact eV_mk mX8_unsign wX8_unsign (by decide +kernel) (Or.inl (gW_at 451 (by decide +kernel) rfl))
    · cases h; exact eV_mk mX1_divide wX1_divide (by decide +kernel) (Or.inl (gW_at 466 (by decide +kernel) rfl))
    · cases h; exact eV_mk mX8_turn wX8_turn (by decide +kernel) (Or.inl (gW_at 518 (by decide +kernel) rfl))
    · cases h
  · cases h
set_option maxRecDepth 100000 in
set_option maxHeartbeats 4000000 in
theorem sX1_share : eSafe TX1_share (cdOf kX1_share) 4 none SX1_share := by
  intro K rt hK as M h
  obtain ⟨F, A, W, k, b, x, d, rfl, rfl, hk, hb, k2, b2, k4, b4, kb, hx, hd, d0, dx, x78, v2, v4, h⟩ := h
  refine ⟨by simp [eE], ?_⟩
  have dm := zAbs_dm d0 dx
  simp only [eLoc, eE, List.length_cons, List.length_nil, List.replicate, List.cons_append, List.nil_append, Nat.reduceAdd, Nat.reduceSub]
  refine x_aload_n hK kX1_share_0 (q := 1) rfl rfl ?_
  refine x_cv1 hK kX1_share_1 (q := 4) rfl (vtX1_share_47) (Nat.le_of_ble_eq_true rfl) ?_
  refine SX8_isZero_i hk hx ?_
  refine x_if_ne hK kX1_share_4 (q := 7) rfl (tg := 14) rfl (by exact zZ_w _) (fun c4 => ?_) (fun c4 => ?_)
  · have x0 : x = 0 := by
      rcases Decidable.em (x = 0) with g | g
      · exact g
      · exact absurd (zZ_0.mpr g) c4
    have hfin := h W (fun _ _ _ _ => rfl) (by rw [x0, Int.zero_ediv]; rw [← x0]; exact hx) v2 v4
    refine x_return_ hK kX1_share_14 (by first | trivial | exact Or.inl rfl | exact Or.inr rfl) ?_
    exact hfin
  · have x0 : x ≠ 0 := zZ_0.mp (Decidable.not_not.mp c4)
    refine x_aload_n hK kX1_share_7 (q := 8) rfl rfl ?_
    refine x_cv1 hK kX1_share_8 (q := 11) rfl (vtX1_share_130) (Nat.le_of_ble_eq_true rfl) ?_
    refine SX8_isOne_i hb hd ?_
    refine x_if_eq hK kX1_share_11 (q := 14) rfl (tg := 15) rfl (by exact zO_w _) (fun c11 => ?_) (fun c11 => ?_)
    · refine x_aload_n hK kX1_share_15 (q := 16) rfl rfl ?_
      refine x_getfield hK kX1_share_16 (q := 19) rfl (gX1_67 ?_)
      rw [wq_s hx]
      refine x_istore_n hK kX1_share_19 (q := 20) (jn := 3) rfl rfl ?_
      refine x_aload_n hK kX1_share_20 (q := 21) rfl rfl ?_
      refine x_getfield hK kX1_share_21 (q := 24) rfl (gX1_29 ?_)
      refine x_aload_n hK kX1_share_24 (q := 25) rfl rfl ?_
      simp only [lS, lS2, clr_0, clr_I, clr_L, clr_R]
      refine x_cv2 hK kX1_share_25 (q := 28) rfl (vtX1_share_89) (Nat.le_of_ble_eq_true rfl) ?_
      refine SX8_copy_i (by decide) hk k4 hx (lt_d (by decide) x78) (fun f0 hf0 => ?_)
      refine x_aload_n hK kX1_share_28 (q := 29) rfl rfl ?_
      refine x_getfield hK kX1_share_29 (q := 32) rfl (gX1_29 ?_)
      refine x_cv1 hK kX1_share_32 (q := 35) rfl (vtX1_share_114) (Nat.le_of_ble_eq_true rfl) ?_
      refine SX8_unsign_i (z := x) (by decide) (by rw [uA_g]; exact hf0) (fun f1 hf1 => ?_)
      rw [uA_u]
      refine x_aload_n hK kX1_share_35 (q := 36) rfl rfl ?_
      refine x_aload_n hK kX1_share_36 (q := 37) rfl rfl ?_
      refine x_getfield hK kX1_share_37 (q := 40) rfl (gX1_29 ?_)
      refine x_aload_n hK kX1_share_40 (q := 41) rfl rfl ?_
      refine x_aload_n hK kX1_share_41 (q := 42) rfl rfl ?_
      refine x_cv4 hK kX1_share_42 (q := 45) rfl (vtX1_share_126) (Nat.le_of_ble_eq_true rfl) ?_
      refine SX1_divide_i (j := 4) (b := b) (c := k) (z := zAbs x) (by decide) hb hk (by decide) b2 k2 k4 kb b4 (by rw [uA_g]; exact hf1) (by rw [uA_n _ _ b4]; exact hd) (zAbs_0 x) d0 x78 (lw_d (by decide)) (wq_lt hx) (by obtain ⟨v, hv⟩ := v2; exact ⟨v, by rw [uA_n _ _ (by decide)]; exact hv⟩) (fun W2 g1 g2 g3 g4 => ?_)
      refine x_iload_n hK kX1_share_45 (q := 46) rfl rfl ?_
      refine x_if_ge hK kX1_share_46 (q := 49) rfl (tg := 53) rfl (by exact zSg_w x) (fun c46 => ?_) (fun c46 => ?_)
      · have hfin := h W2 (fun t t2 t4 tk => by rw [g1 t t2 t4 tk, uA_n _ _ t4]) (by rw [← dm.2.2 (by rcases zSg_c x with g | g | g <;> omega)]; exact g2) g4 ⟨_, g3⟩
        refine x_return_ hK kX1_share_53 (by first | trivial | exact Or.inl rfl | exact Or.inr rfl) ?_
        exact hfin
      · refine x_aload_n hK kX1_share_49 (q := 50) rfl rfl ?_
        refine x_cv1 hK kX1_share_50 (q := 53) rfl (vtX1_share_133) (Nat.le_of_ble_eq_true rfl) ?_
        refine SX8_turn_i hk g2 (fun f2 hf2 => ?_)
        have hfin := h (uA W2 k f2) (fun t t2 t4 tk => by rw [uA_n _ _ tk, g1 t t2 t4 tk, uA_n _ _ t4]) (by rw [uA_g, ← dm.2.1 (by rcases zSg_c x with g | g | g <;> omega)]; exact hf2) (dv_n g4 (uA_n _ _ (fun q => k2 q.symm))) ⟨_, by rw [uA_n _ _ (fun q => k4 q.symm)]; exact g3⟩
        refine x_return_ hK kX1_share_53 (by first | trivial | exact Or.inl rfl | exact Or.inr rfl) ?_
        exact hfin
    · have d1 : d = 1 := by
        rcases Decidable.em (d = 1) with g | g
        · exact g
        · exact absurd (zO_0.mpr g) c11
      have hfin := h W (fun _ _ _ _ => rfl) (by rw [d1, Int.ediv_one]; exact hx) v2 v4
      refine x_return_ hK kX1_share_14 (by first | trivial | exact Or.inl rfl | exact Or.inr rfl) ?_
      exact hfin
set_option maxRecDepth 20000 in
theorem mX1_share : eMet yX1_share cX1_share 4 none 2 64 SX1_share := eMet_of (by decide +kernel) sX1_share kX1_share_ok caX1_share tb_RX1
theorem wX1_share : eWV yX1_share cX1_share 4 none 3 1 SX1_share := ⟨(gW_at 513 (by decide +kernel) rfl), (gW_at 80 (by decide +kernel) rfl), (gW_at 512 (by decide +kernel) rfl), ⟨_, rfl, (gW_at 12 (by decide +kernel) rfl)⟩, by decide +kernel, SX1_share_r⟩
-- addProduct
def SX1_addProduct : eSp := fun as M rt => ∃ (F : Nat → Int) (A W : Nat → Int → Int) (k a b : Nat) (s x y w : Int) (p q : Nat), as = [eR (1, 2), eR (2, k), eR (2, a), eR (2, b), eI w] ∧ M = cC F A W ∧ (k < 332) ∧ (a < 332) ∧ (b < 332) ∧ (k ≠ 8) ∧ (a ≠ 8) ∧ (b ≠ 8) ∧ (w = 1 ∨ w = -1) ∧ (wq (lw k) (W k) s) ∧ (wq (lw a) (W a) x) ∧ (wq (lw b) (W b) y) ∧ (zAbs x < cB ^ p) ∧ (zAbs y < cB ^ q) ∧ (p + q ≤ 64) ∧ (zAbs s + zAbs (x * y) < cB ^ lw k) ∧ (dv W 8) ∧ (∀ W' : Nat → Int → Int, (∀ t, t ≠ 8 → t ≠ k → W' t = W t) → wq (lw k) (W' k) (s + w * (x * y)) → dv W' 8 → rt none (cC F A W'))
theorem SX1_addProduct_i {F : Nat → Int} {A W : Nat → Int → Int} {k a b : Nat} {s x y w : Int} {p q : Nat} {rt : Option eV → eM → Prop} (hk : k < 332) (ha : a < 332) (hb : b < 332) (k8 : k ≠ 8) (a8 : a ≠ 8) (b8 : b ≠ 8) (hw : w = 1 ∨ w = -1) (hs : wq (lw k) (W k) s) (hx : wq (lw a) (W a) x) (hy : wq (lw b) (W b) y) (hp : zAbs x < cB ^ p) (hq : zAbs y < cB ^ q) (hpq : p + q ≤ 64) (hb8 : zAbs s + zAbs (x * y) < cB ^ lw k) (v8 : dv W 8) (h : ∀ W' : Nat → Int → Int, (∀ t, t ≠ 8 → t ≠ k → W' t = W t) → wq (lw k) (W' k) (s + w * (x * y)) → dv W' 8 → rt none (cC F A W')) : SX1_addProduct [eR (1, 2), eR (2, k), eR (2, a), eR (2, b), eI w] (cC F A W) rt := ⟨F, A, W, k, a, b, s, x, y, w, p, q, rfl, rfl, hk, ha, hb, k8, a8, b8, hw, hs, hx, hy, hp, hq, hpq, hb8, v8, h⟩
theorem SX1_addProduct_r : ∀ as M rt, SX1_addProduct as M rt → ∃ a r fs, as = eR a :: r ∧ M a = some (.inl (1, fs)) := by
  rintro as M rt ⟨F, A, W, k, a, b, s, x, y, w, p, q, rfl, rfl, -⟩
  exact ⟨_, _, _, rfl, rfl⟩
def kX1_addProduct : List (Nat × Jvm.ClassFile.Instr × Nat) := [(0, .aload_n 2, 1), (1, .invokevirtual 47, 3), (4, .ifCond .ne 29, 3), (7, .aload_n 3, 1), (8, .invokevirtual 47, 3), (11, .ifCond .ne 22, 3), (14, .aload_n 0, 1), (15, .getfield 41, 3), (18, .aload_n 2, 1), (19, .aload_n 3, 1), (20, .invokevirtual 51, 3), (23, .aload_n 1, 1), (24, .aload_n 0, 1), (25, .getfield 41, 3), (28, .iload 4, 2), (30, .invokevirtual 55, 3), (33, .return_, 1)]
theorem kX1_addProduct_0 : cdOf kX1_addProduct 0 = some (.aload_n 2, 1) := by decide +kernel
theorem kX1_addProduct_1 : cdOf kX1_addProduct 1 = some (.invokevirtual 47, 3) := by decide +kernel
theorem kX1_addProduct_4 : cdOf kX1_addProduct 4 = some (.ifCond .ne 29, 3) := by decide +kernel
theorem kX1_addProduct_7 : cdOf kX1_addProduct 7 = some (.aload_n 3, 1) := by decide +kernel
theorem kX1_addProduct_8 : cdOf kX1_addProduct 8 = some (.invokevirtual 47, 3) := by decide +kernel
theorem kX1_addProduct_11 : cdOf kX1_addProduct 11 = some (.ifCond .ne 22, 3) := by decide +kernel
theorem kX1_addProduct_14 : cdOf kX1_addProduct 14 = some (.aload_n 0, 1) := by decide +kernel
theorem kX1_addProduct_15 : cdOf kX1_addProduct 15 = some (.getfield 41, 3) := by decide +kernel
theorem kX1_addProduct_18 : cdOf kX1_addProduct 18 = some (.aload_n 2, 1) := by decide +kernel
theorem kX1_addProduct_19 : cdOf kX1_addProduct 19 = some (.aload_n 3, 1) := by decide +kernel
theorem kX1_addProduct_20 : cdOf kX1_addProduct 20 = some (.invokevirtual 51, 3) := by decide +kernel
theorem kX1_addProduct_23 : cdOf kX1_addProduct 23 = some (.aload_n 1, 1) := by decide +kernel
theorem kX1_addProduct_24 : cdOf kX1_addProduct 24 = some (.aload_n 0, 1) := by decide +kernel
theorem kX1_addProduct_25 : cdOf kX1_addProduct 25 = some (.getfield 41, 3) := by decide +kernel
theorem kX1_addProduct_28 : cdOf kX1_addProduct 28 = some (.iload 4, 2) := by decide +kernel
theorem kX1_addProduct_30 : cdOf kX1_addProduct 30 = some (.invokevirtual 55, 3) := by decide +kernel
theorem kX1_addProduct_33 : cdOf kX1_addProduct 33 = some (.return_, 1) := by decide +kernel
set_option maxRecDepth 20000 in
theorem kX1_addProduct_ok : ∀ pc i len, cdOf kX1_addProduct pc = some (i, len) → decode cX1_addProduct pc = .ok (i, len) ∧ stOK 5 i = true ∧ jOK pc i = true ∧ eLen i len = true := cdOf_ok cX1_addProduct 5 kX1_addProduct (by decide +kernel)
def vtX1_addProduct : Nat → Option (Nat × eSp) := fun k => match k with
  | 47 => some (1, SX8_isZero)
  | 51 => some (3, SX8_setProduct)
  | 55 => some (3, SX8_add)
  | _ => none
theorem vtX1_addProduct_47 : vtX1_addProduct 47 = some (1, SX8_isZero) := rfl
theorem vtX1_addProduct_51 : vtX1_addProduct 51 = some (3, SX8_setProduct) := rfl
theorem vtX1_addProduct_55 : vtX1_addProduct 55 = some (3, SX8_add) := rfl
def stX1_addProduct : Nat → Option (Nat × eSp) := fun _ => none
abbrev TX1_addProduct : eT := (fl_RX1, cl_RX1, dl_RX1, vtX1_addProduct, stX1_addProduct)
set_option maxRecDepth 20000 in
theorem caX1_addProduct : eCalls RX1 { frames := 2, cells := 0, slots := 0, locals := 55 } TX1_addProduct := by
  refine ⟨fun k n sp h => ?_, fun k n sp h => ?_⟩
  · dsimp only [TX1_addProduct] at h
    unfold vtX1_addProduct at h
    split at h
    · cases h; exact eV_mk mX8_isZero wX8_isZero (by decide +kernel) (Or.inl (gW_at 456 (by decide +kernel) rfl))
    · cases h; exact eV_mk mX8_setProduct wX8_setProduct (by decide +kernel) (Or.inl (gW_at 526 (by decide +kernel) rfl))
    · cases h; exact eV_mk mX8_add wX8_add (by decide +kernel) (Or.inl (gW_at 534 (by decide +kernel) rfl))
    · cases h
  · cases h
set_option maxRecDepth 100000 in
set_option maxHeartbeats 4000000 in
theorem sX1_addProduct : eSafe TX1_addProduct (cdOf kX1_addProduct) 5 none SX1_addProduct := by
  intro K rt hK as M h
  obtain ⟨F, A, W, k, a, b, s, x, y, w, p, q, rfl, rfl, hk, ha, hb, k8, a8, b8, hw, hs, hx, hy, hp, hq, hpq, hb8, v8, h⟩ := h
  refine ⟨by simp [eE], ?_⟩
  have zero : x * y = 0 → rt none (cC F A W) := fun e => h W (fun _ _ _ => rfl) (by rw [e, Int.mul_zero, Int.add_zero]; exact hs) v8
  simp only [eLoc, eE, List.length_cons, List.length_nil, List.replicate, List.cons_append, List.nil_append, Nat.reduceAdd, Nat.reduceSub]
  refine x_aload_n hK kX1_addProduct_0 (q := 1) rfl rfl ?_
  refine x_cv1 hK kX1_addProduct_1 (q := 4) rfl (vtX1_addProduct_47) (Nat.le_of_ble_eq_true rfl) ?_
  refine SX8_isZero_i ha hx ?_
  refine x_if_ne hK kX1_addProduct_4 (q := 7) rfl (tg := 33) rfl (by exact zZ_w _) (fun c4 => ?_) (fun c4 => ?_)
  · have x0 : x = 0 := by
      rcases Decidable.em (x = 0) with g | g
      · exact g
      · exact absurd (zZ_0.mpr g) c4
    have hfin := zero (by rw [x0, Int.zero_mul])
    refine x_return_ hK kX1_addProduct_33 (by first | trivial | exact Or.inl rfl | exact Or.inr rfl) ?_
    exact hfin
  · refine x_aload_n hK kX1_addProduct_7 (q := 8) rfl rfl ?_
    refine x_cv1 hK kX1_addProduct_8 (q := 11) rfl (vtX1_addProduct_47) (Nat.le_of_ble_eq_true rfl) ?_
    refine SX8_isZero_i hb hy ?_
    refine x_if_ne hK kX1_addProduct_11 (q := 14) rfl (tg := 33) rfl (by exact zZ_w _) (fun c11 => ?_) (fun c11 => ?_)
    · have y0 : y = 0 := by
        rcases Decidable.em (y = 0) with g | g
        · exact g
        · exact absurd (zZ_0.mpr g) c11
      have hfin := zero (by rw [y0, Int.mul_zero])
      refine x_return_ hK kX1_addProduct_33 (by first | trivial | exact Or.inl rfl | exact Or.inr rfl) ?_
      exact hfin
    · refine x_aload_n hK kX1_addProduct_14 (q := 15) rfl rfl ?_
      refine x_getfield hK kX1_addProduct_15 (q := 18) rfl (gX1_41 ?_)
      refine x_aload_n hK kX1_addProduct_18 (q := 19) rfl rfl ?_
      refine x_aload_n hK kX1_addProduct_19 (q := 20) rfl rfl ?_
      refine x_cv3 hK kX1_addProduct_20 (q := 23) rfl (vtX1_addProduct_51) (Nat.le_of_ble_eq_true rfl) ?_
      refine SX8_setProduct_i (p := p) (q := q) (by decide) ha hb a8 b8 hx hy hp hq (by rw [lw_d (show 8 < 10 by decide)]; exact hpq) (fun f hf => ?_)
      refine x_aload_n hK kX1_addProduct_23 (q := 24) rfl rfl ?_
      refine x_aload_n hK kX1_addProduct_24 (q := 25) rfl rfl ?_
      refine x_getfield hK kX1_addProduct_25 (q := 28) rfl (gX1_41 ?_)
      refine x_iload hK kX1_addProduct_28 (q := 30) rfl rfl ?_
      refine x_cv3 hK kX1_addProduct_30 (q := 33) rfl (vtX1_addProduct_55) (Nat.le_of_ble_eq_true rfl) ?_
      refine SX8_add_i (z := s) (y := x * y) hk (by decide) (fun g => k8 g.symm) hw (by rw [uA_n _ _ k8]; exact hs) (by rw [uA_g]; exact hf) hb8 (fun g hg => ?_)
      have hfin := h (uA (uA W 8 f) k g) (fun t t8 tk => by rw [uA_n _ _ tk, uA_n _ _ t8]) (by rw [uA_g]; exact hg) ⟨_, by rw [uA_n _ _ (fun g => k8 g.symm), uA_g]; exact hf⟩
      refine x_return_ hK kX1_addProduct_33 (by first | trivial | exact Or.inl rfl | exact Or.inr rfl) ?_
      exact hfin
set_option maxRecDepth 20000 in
theorem mX1_addProduct : eMet yX1_addProduct cX1_addProduct 5 none 2 55 SX1_addProduct := eMet_of (by decide +kernel) sX1_addProduct kX1_addProduct_ok caX1_addProduct tb_RX1
theorem wX1_addProduct : eWV yX1_addProduct cX1_addProduct 5 none 5 1 SX1_addProduct := ⟨(gW_at 525 (by decide +kernel) rfl), (gW_at 80 (by decide +kernel) rfl), (gW_at 523 (by decide +kernel) rfl), ⟨_, rfl, (gW_at 524 (by decide +kernel) rfl)⟩, by decide +kernel, SX1_addProduct_r⟩
-- multiply
def SX1_multiply : eSp := fun as M rt => ∃ (F : Nat → Int) (A W : Nat → Int → Int) (k b : Nat) (x y : Int) (p q : Nat), as = [eR (1, 2), eR (2, k), eR (2, b)] ∧ M = cC F A W ∧ (k < 332) ∧ (b < 332) ∧ (k ≠ 8) ∧ (b ≠ 8) ∧ (wq (lw k) (W k) x) ∧ (wq (lw b) (W b) y) ∧ (zAbs x < cB ^ p) ∧ (zAbs y < cB ^ q) ∧ (p + q ≤ 64) ∧ (zAbs (x * y) < cB ^ lw k) ∧ (∀ W' : Nat → Int → Int, (∀ t, t ≠ 8 → t ≠ k → W' t = W t) → wq (lw k) (W' k) (x * y) → dv W' 8 → rt none (cC F A W'))
theorem SX1_multiply_i {F : Nat → Int} {A W : Nat → Int → Int} {k b : Nat} {x y : Int} {p q : Nat} {rt : Option eV → eM → Prop} (hk : k < 332) (hb : b < 332) (k8 : k ≠ 8) (b8 : b ≠ 8) (hx : wq (lw k) (W k) x) (hy : wq (lw b) (W b) y) (hp : zAbs x < cB ^ p) (hq : zAbs y < cB ^ q) (hpq : p + q ≤ 64) (hxy : zAbs (x * y) < cB ^ lw k) (h : ∀ W' : Nat → Int → Int, (∀ t, t ≠ 8 → t ≠ k → W' t = W t) → wq (lw k) (W' k) (x * y) → dv W' 8 → rt none (cC F A W')) : SX1_multiply [eR (1, 2), eR (2, k), eR (2, b)] (cC F A W) rt := ⟨F, A, W, k, b, x, y, p, q, rfl, rfl, hk, hb, k8, b8, hx, hy, hp, hq, hpq, hxy, h⟩
theorem SX1_multiply_r : ∀ as M rt, SX1_multiply as M rt → ∃ a r fs, as = eR a :: r ∧ M a = some (.inl (1, fs)) := by
  rintro as M rt ⟨F, A, W, k, b, x, y, p, q, rfl, rfl, -⟩
  exact ⟨_, _, _, rfl, rfl⟩
def kX1_multiply : List (Nat × Jvm.ClassFile.Instr × Nat) := [(0, .aload_n 0, 1), (1, .getfield 41, 3), (4, .aload_n 1, 1), (5, .aload_n 2, 1), (6, .invokevirtual 51, 3), (9, .aload_n 1, 1), (10, .aload_n 0, 1), (11, .getfield 41, 3), (14, .invokevirtual 89, 3), (17, .return_, 1)]
theorem kX1_multiply_0 : cdOf kX1_multiply 0 = some (.aload_n 0, 1) := by decide +kernel
theorem kX1_multiply_1 : cdOf kX1_multiply 1 = some (.getfield 41, 3) := by decide +kernel
theorem kX1_multiply_4 : cdOf kX1_multiply 4 = some (.aload_n 1, 1) := by decide +kernel
theorem kX1_multiply_5 : cdOf kX1_multiply 5 = some (.aload_n 2, 1) := by decide +kernel
theorem kX1_multiply_6 : cdOf kX1_multiply 6 = some (.invokevirtual 51, 3) := by decide +kernel
theorem kX1_multiply_9 : cdOf kX1_multiply 9 = some (.aload_n 1, 1) := by decide +kernel
theorem kX1_multiply_10 : cdOf kX1_multiply 10 = some (.aload_n 0, 1) := by decide +kernel
theorem kX1_multiply_11 : cdOf kX1_multiply 11 = some (.getfield 41, 3) := by decide +kernel
theorem kX1_multiply_14 : cdOf kX1_multiply 14 = some (.invokevirtual 89, 3) := by decide +kernel
theorem kX1_multiply_17 : cdOf kX1_multiply 17 = some (.return_, 1) := by decide +kernel
set_option maxRecDepth 20000 in
theorem kX1_multiply_ok : ∀ pc i len, cdOf kX1_multiply pc = some (i, len) → decode cX1_multiply pc = .ok (i, len) ∧ stOK 3 i = true ∧ jOK pc i = true ∧ eLen i len = true := cdOf_ok cX1_multiply 3 kX1_multiply (by decide +kernel)
def vtX1_multiply : Nat → Option (Nat × eSp) := fun k => match k with
  | 51 => some (3, SX8_setProduct)
  | 89 => some (2, SX8_copy)
  | _ => none
theorem vtX1_multiply_51 : vtX1_multiply 51 = some (3, SX8_setProduct) := rfl
theorem vtX1_multiply_89 : vtX1_multiply 89 = some (2, SX8_copy) := rfl
def stX1_multiply : Nat → Option (Nat × eSp) := fun _ => none
abbrev TX1_multiply : eT := (fl_RX1, cl_RX1, dl_RX1, vtX1_multiply, stX1_multiply)
set_option maxRecDepth 20000 in
theorem caX1_multiply : eCalls RX1 { frames := 2, cells := 0, slots := 0, locals := 51 } TX1_multiply := by
  refine ⟨fun k n sp h => ?_, fun k n sp h => ?_⟩
  · dsimp only [TX1_multiply] at h
    unfold vtX1_multiply at h
    split at h
    · cases h; exact eV_mk mX8_setProduct wX8_setProduct (by decide +kernel) (Or.inl (gW_at 526 (by decide +kernel) rfl))
    · cases h; exact eV_mk mX8_copy wX8_copy (by decide +kernel) (Or.inl (gW_at 443 (by decide +kernel) rfl))
    · cases h
  · cases h
set_option maxRecDepth 100000 in
set_option maxHeartbeats 4000000 in
theorem sX1_multiply : eSafe TX1_multiply (cdOf kX1_multiply) 3 none SX1_multiply := by
  intro K rt hK as M h
  obtain ⟨F, A, W, k, b, x, y, p, q, rfl, rfl, hk, hb, k8, b8, hx, hy, hp, hq, hpq, hxy, h⟩ := h
  refine ⟨by simp [eE], ?_⟩
  simp only [eLoc, eE, List.length_cons, List.length_nil, List.replicate, List.cons_append, List.nil_append, Nat.reduceAdd, Nat.reduceSub]
  refine x_aload_n hK kX1_multiply_0 (q := 1) rfl rfl ?_
  refine x_getfield hK kX1_multiply_1 (q := 4) rfl (gX1_41 ?_)
  refine x_aload_n hK kX1_multiply_4 (q := 5) rfl rfl ?_
  refine x_aload_n hK kX1_multiply_5 (q := 6) rfl rfl ?_
  refine x_cv3 hK kX1_multiply_6 (q := 9) rfl (vtX1_multiply_51) (Nat.le_of_ble_eq_true rfl) ?_
  refine SX8_setProduct_i (p := p) (q := q) (by decide) hk hb k8 b8 hx hy hp hq (by rw [lw_d (show 8 < 10 by decide)]; exact hpq) (fun f hf => ?_)
  refine x_aload_n hK kX1_multiply_9 (q := 10) rfl rfl ?_
  refine x_aload_n hK kX1_multiply_10 (q := 11) rfl rfl ?_
  refine x_getfield hK kX1_multiply_11 (q := 14) rfl (gX1_41 ?_)
  refine x_cv2 hK kX1_multiply_14 (q := 17) rfl (vtX1_multiply_89) (Nat.le_of_ble_eq_true rfl) ?_
  refine SX8_copy_i (z := x * y) hk (by decide) (fun g => k8 g.symm) (by rw [uA_g]; exact hf) hxy (fun g hg => ?_)
  refine x_return_ hK kX1_multiply_17 (by first | trivial | exact Or.inl rfl | exact Or.inr rfl) ?_
  exact h _ (fun t t8 tk => by rw [uA_n _ _ tk, uA_n _ _ t8]) (by rw [uA_g]; exact hg) ⟨_, by rw [uA_n _ _ (fun g => k8 g.symm), uA_g]; exact hf⟩
set_option maxRecDepth 20000 in
theorem mX1_multiply : eMet yX1_multiply cX1_multiply 3 none 2 51 SX1_multiply := eMet_of (by decide +kernel) sX1_multiply kX1_multiply_ok caX1_multiply tb_RX1
theorem wX1_multiply : eWV yX1_multiply cX1_multiply 3 none 3 1 SX1_multiply := ⟨(gW_at 627 (by decide +kernel) rfl), (gW_at 80 (by decide +kernel) rfl), (gW_at 625 (by decide +kernel) rfl), ⟨_, rfl, (gW_at 626 (by decide +kernel) rfl)⟩, by decide +kernel, SX1_multiply_r⟩
-- spread
theorem mul_pq {x y : Int} {p q : Nat} (hx : zAbs x < cB ^ p) (hy : zAbs y < cB ^ q) : zAbs (x * y) < cB ^ (p + q) := by
  rw [zAbs_x]
  have h1 := Int.mul_le_mul (show zAbs x ≤ cB ^ p - 1 by omega) (show zAbs y ≤ cB ^ q by omega) (zAbs_0 y) (by have := zAbs_0 x; omega)
  have h2 : (cB ^ p - 1) * cB ^ q = cB ^ (p + q) - cB ^ q := by rw [Int.sub_mul, Int.one_mul, ← Int.pow_add]
  have h4 := cB_pos q
  omega
theorem gcd_p {x y : Int} (hx : 0 < x) : 0 < (Int.gcd x y : Int) ∧ (Int.gcd x y : Int) ∣ x ∧ (Int.gcd x y : Int) ∣ y := by
  have := Int.gcd_pos_of_ne_zero_left y (show x ≠ 0 by omega)
  exact ⟨by omega, Int.gcd_dvd_left .., Int.gcd_dvd_right ..⟩
theorem ds_W {W W' : Nat → Int → Int} (h : ∀ t, t < 10 → dv W t) {S : Nat → Prop} (e : ∀ t, t < 10 → ¬ S t → W' t = W t) (d : ∀ t, t < 10 → S t → dv W' t) [DecidablePred S] : ∀ t, t < 10 → dv W' t := fun t ht => by
  by_cases q : S t
  · exact d t ht q
  · exact dv_n (h t ht) (e t ht q)
def SX1_spread : eSp := fun as M rt => ∃ (F : Nat → Int) (A W : Nat → Int → Int) (k b : Nat) (x y : Int) (p q : Nat), as = [eR (1, 2), eR (2, k), eR (2, b)] ∧ M = cC F A W ∧ (k < 332) ∧ (b < 332) ∧ (10 ≤ k) ∧ (10 ≤ b) ∧ (k ≠ b) ∧ (wq (lw k) (W k) x) ∧ (wq (lw b) (W b) y) ∧ (0 < x) ∧ (0 < y) ∧ (zAbs x < cB ^ p) ∧ (zAbs y < cB ^ q) ∧ (p + q ≤ 32) ∧ (∀ t, t < 10 → dv W t) ∧ (∀ W' : Nat → Int → Int, (∀ t, 10 ≤ t → t ≠ k → W' t = W t) → wq (lw k) (W' k) (x / (Int.gcd x y : Int) * y) → (∀ t, t < 10 → dv W' t) → rt none (cC F A W'))
theorem SX1_spread_i {F : Nat → Int} {A W : Nat → Int → Int} {k b : Nat} {x y : Int} {p q : Nat} {rt : Option eV → eM → Prop} (hk : k < 332) (hb : b < 332) (k10 : 10 ≤ k) (b10 : 10 ≤ b) (kb : k ≠ b) (hx : wq (lw k) (W k) x) (hy : wq (lw b) (W b) y) (x0 : 0 < x) (y0 : 0 < y) (hp : zAbs x < cB ^ p) (hq : zAbs y < cB ^ q) (hpq : p + q ≤ 32) (ds : ∀ t, t < 10 → dv W t) (h : ∀ W' : Nat → Int → Int, (∀ t, 10 ≤ t → t ≠ k → W' t = W t) → wq (lw k) (W' k) (x / (Int.gcd x y : Int) * y) → (∀ t, t < 10 → dv W' t) → rt none (cC F A W')) : SX1_spread [eR (1, 2), eR (2, k), eR (2, b)] (cC F A W) rt := ⟨F, A, W, k, b, x, y, p, q, rfl, rfl, hk, hb, k10, b10, kb, hx, hy, x0, y0, hp, hq, hpq, ds, h⟩
theorem SX1_spread_r : ∀ as M rt, SX1_spread as M rt → ∃ a r fs, as = eR a :: r ∧ M a = some (.inl (1, fs)) := by
  rintro as M rt ⟨F, A, W, k, b, x, y, p, q, rfl, rfl, -⟩
  exact ⟨_, _, _, rfl, rfl⟩
def kX1_spread : List (Nat × Jvm.ClassFile.Instr × Nat) := [(0, .aload_n 0, 1), (1, .getfield 32, 3), (4, .aload_n 0, 1), (5, .aload_n 1, 1), (6, .aload_n 2, 1), (7, .invokevirtual 136, 3), (10, .invokevirtual 89, 3), (13, .aload_n 0, 1), (14, .aload_n 1, 1), (15, .aload_n 0, 1), (16, .getfield 32, 3), (19, .invokevirtual 140, 3), (22, .aload_n 0, 1), (23, .aload_n 1, 1), (24, .aload_n 2, 1), (25, .invokevirtual 147, 3), (28, .return_, 1)]
theorem kX1_spread_0 : cdOf kX1_spread 0 = some (.aload_n 0, 1) := by decide +kernel
theorem kX1_spread_1 : cdOf kX1_spread 1 = some (.getfield 32, 3) := by decide +kernel
theorem kX1_spread_4 : cdOf kX1_spread 4 = some (.aload_n 0, 1) := by decide +kernel
theorem kX1_spread_5 : cdOf kX1_spread 5 = some (.aload_n 1, 1) := by decide +kernel
theorem kX1_spread_6 : cdOf kX1_spread 6 = some (.aload_n 2, 1) := by decide +kernel
theorem kX1_spread_7 : cdOf kX1_spread 7 = some (.invokevirtual 136, 3) := by decide +kernel
theorem kX1_spread_10 : cdOf kX1_spread 10 = some (.invokevirtual 89, 3) := by decide +kernel
theorem kX1_spread_13 : cdOf kX1_spread 13 = some (.aload_n 0, 1) := by decide +kernel
theorem kX1_spread_14 : cdOf kX1_spread 14 = some (.aload_n 1, 1) := by decide +kernel
theorem kX1_spread_15 : cdOf kX1_spread 15 = some (.aload_n 0, 1) := by decide +kernel
theorem kX1_spread_16 : cdOf kX1_spread 16 = some (.getfield 32, 3) := by decide +kernel
theorem kX1_spread_19 : cdOf kX1_spread 19 = some (.invokevirtual 140, 3) := by decide +kernel
theorem kX1_spread_22 : cdOf kX1_spread 22 = some (.aload_n 0, 1) := by decide +kernel
theorem kX1_spread_23 : cdOf kX1_spread 23 = some (.aload_n 1, 1) := by decide +kernel
theorem kX1_spread_24 : cdOf kX1_spread 24 = some (.aload_n 2, 1) := by decide +kernel
theorem kX1_spread_25 : cdOf kX1_spread 25 = some (.invokevirtual 147, 3) := by decide +kernel
theorem kX1_spread_28 : cdOf kX1_spread 28 = some (.return_, 1) := by decide +kernel
set_option maxRecDepth 20000 in
theorem kX1_spread_ok : ∀ pc i len, cdOf kX1_spread pc = some (i, len) → decode cX1_spread pc = .ok (i, len) ∧ stOK 3 i = true ∧ jOK pc i = true ∧ eLen i len = true := cdOf_ok cX1_spread 3 kX1_spread (by decide +kernel)
def vtX1_spread : Nat → Option (Nat × eSp) := fun k => match k with
  | 136 => some (3, SX1_divisor)
  | 89 => some (2, SX8_copy)
  | 140 => some (3, SX1_share)
  | 147 => some (3, SX1_multiply)
  | _ => none
theorem vtX1_spread_136 : vtX1_spread 136 = some (3, SX1_divisor) := rfl
theorem vtX1_spread_89 : vtX1_spread 89 = some (2, SX8_copy) := rfl
theorem vtX1_spread_140 : vtX1_spread 140 = some (3, SX1_share) := rfl
theorem vtX1_spread_147 : vtX1_spread 147 = some (3, SX1_multiply) := rfl
def stX1_spread : Nat → Option (Nat × eSp) := fun _ => none
abbrev TX1_spread : eT := (fl_RX1, cl_RX1, dl_RX1, vtX1_spread, stX1_spread)
set_option maxRecDepth 20000 in
theorem caX1_spread : eCalls RX1 { frames := 3, cells := 0, slots := 0, locals := 90 } TX1_spread := by
  refine ⟨fun k n sp h => ?_, fun k n sp h => ?_⟩
  · dsimp only [TX1_spread] at h
    unfold vtX1_spread at h
    split at h
    · cases h; exact eV_mk mX1_divisor wX1_divisor (by decide +kernel) (Or.inl (gW_at 447 (by decide +kernel) rfl))
    · cases h; exact eV_mk mX8_copy wX8_copy (by decide +kernel) (Or.inl (gW_at 443 (by decide +kernel) rfl))
    · cases h; exact eV_mk mX1_share wX1_share (by decide +kernel) (Or.inl (gW_at 510 (by decide +kernel) rfl))
    · cases h; exact eV_mk mX1_multiply wX1_multiply (by decide +kernel) (Or.inl (gW_at 624 (by decide +kernel) rfl))
    · cases h
  · cases h
set_option maxRecDepth 100000 in
set_option maxHeartbeats 4000000 in
theorem sX1_spread : eSafe TX1_spread (cdOf kX1_spread) 3 none SX1_spread := by
  intro K rt hK as M h
  obtain ⟨F, A, W, k, b, x, y, p, q, rfl, rfl, hk, hb, k10, b10, kb, hx, hy, x0, y0, hp, hq, hpq, ds, h⟩ := h
  refine ⟨by simp [eE], ?_⟩
  have gp := gcd_p (y := y) x0
  have p78 := cB_mono (show p ≤ 62 by omega)
  have q78 := cB_mono (show q ≤ 62 by omega)
  have xd : zAbs (x / (Int.gcd x y : Int)) < cB ^ p := by
    have := zAbs_dv x (m := (Int.gcd x y : Int)) (by omega)
    omega
  simp only [eLoc, eE, List.length_cons, List.length_nil, List.replicate, List.cons_append, List.nil_append, Nat.reduceAdd, Nat.reduceSub]
  refine x_aload_n hK kX1_spread_0 (q := 1) rfl rfl ?_
  refine x_getfield hK kX1_spread_1 (q := 4) rfl (gX1_32 ?_)
  refine x_aload_n hK kX1_spread_4 (q := 5) rfl rfl ?_
  refine x_aload_n hK kX1_spread_5 (q := 6) rfl rfl ?_
  refine x_aload_n hK kX1_spread_6 (q := 7) rfl rfl ?_
  refine x_cv3 hK kX1_spread_7 (q := 10) rfl (vtX1_spread_136) (Nat.le_of_ble_eq_true rfl) ?_
  refine SX1_divisor_i hk hb (by omega) (by omega) hx hy (by omega) (by omega) (ds 2 (by decide)) (ds 3 (by decide)) (fun W1 r hr f1 d1 g1 => ?_)
  refine x_cv2 hK kX1_spread_10 (q := 13) rfl (vtX1_spread_89) (Nat.le_of_ble_eq_true rfl) ?_
  refine SX8_copy_i (z := (Int.gcd x y : Int)) (by decide) (by omega) (by omega) g1 (to_d (by decide) g1) (fun f hf => ?_)
  refine x_aload_n hK kX1_spread_13 (q := 14) rfl rfl ?_
  refine x_aload_n hK kX1_spread_14 (q := 15) rfl rfl ?_
  refine x_aload_n hK kX1_spread_15 (q := 16) rfl rfl ?_
  refine x_getfield hK kX1_spread_16 (q := 19) rfl (gX1_32 ?_)
  refine x_cv3 hK kX1_spread_19 (q := 22) rfl (vtX1_spread_140) (Nat.le_of_ble_eq_true rfl) ?_
  refine SX1_share_i (x := x) (d := (Int.gcd x y : Int)) hk (by decide) (by omega) (by decide) (by omega) (by decide) (by omega) (by rw [uA_n _ _ (by omega), f1 k (by omega)]; exact hx) (by rw [uA_g]; exact hf) gp.1 gp.2.1 (by omega) (dv_n (d1 2 (by decide)) (uA_n _ _ (by decide))) (dv_n (ds 4 (by decide)) (by rw [uA_n _ _ (by decide), f1 4 (by decide)])) (fun W2 f2 g2 e2 e4 => ?_)
  refine x_aload_n hK kX1_spread_22 (q := 23) rfl rfl ?_
  refine x_aload_n hK kX1_spread_23 (q := 24) rfl rfl ?_
  refine x_aload_n hK kX1_spread_24 (q := 25) rfl rfl ?_
  refine x_cv3 hK kX1_spread_25 (q := 28) rfl (vtX1_spread_147) (Nat.le_of_ble_eq_true rfl) ?_
  refine SX1_multiply_i (x := x / (Int.gcd x y : Int)) (y := y) (p := p) (q := q) hk hb (by omega) (by omega) g2 (by rw [f2 b (by omega) (by omega) (fun g => kb g.symm), uA_n _ _ (by omega), f1 b (by omega)]; exact hy) xd hq (by omega) (Int.lt_of_lt_of_le (mul_pq xd hq) (Int.le_trans (cB_mono hpq) (lw_32 k))) (fun W3 f3 g3 e8 => ?_)
  refine x_return_ hK kX1_spread_28 (by first | trivial | exact Or.inl rfl | exact Or.inr rfl) ?_
  refine h W3 (fun t t10 tk => by rw [f3 t (by omega) tk, f2 t (by omega) (by omega) tk, uA_n _ _ (by omega), f1 t (by omega)]) g3 (fun t ht => ?_)
  have ht' : t = 8 ∨ t = 2 ∨ t = 4 ∨ t = 5 ∨ (t ≠ 8 ∧ t ≠ 2 ∧ t ≠ 4 ∧ t ≠ 5) := by omega
  rcases ht' with e | e | e | e | ⟨a8, a2, a4, a5⟩
  · rw [e]; exact e8
  · rw [e]; exact dv_n e2 (f3 2 (by decide) (by omega))
  · rw [e]; exact dv_n e4 (f3 4 (by decide) (by omega))
  · rw [e]; exact ⟨_, by rw [f3 5 (by decide) (by omega), f2 5 (by decide) (by decide) (by omega), uA_g]; exact hf⟩
  · have e : W3 t = W1 t := by rw [f3 t a8 (by omega), f2 t a2 a4 (by omega), uA_n _ _ a5]
    rcases Nat.lt_or_ge t 4 with g | g
    · exact dv_n (d1 t g) e
    · exact dv_n (ds t ht) (by rw [e, f1 t g])
set_option maxRecDepth 20000 in
theorem mX1_spread : eMet yX1_spread cX1_spread 3 none 3 90 SX1_spread := eMet_of (by decide +kernel) sX1_spread kX1_spread_ok caX1_spread tb_RX1
theorem wX1_spread : eWV yX1_spread cX1_spread 3 none 3 1 SX1_spread := ⟨(gW_at 623 (by decide +kernel) rfl), (gW_at 80 (by decide +kernel) rfl), (gW_at 621 (by decide +kernel) rfl), ⟨_, rfl, (gW_at 622 (by decide +kernel) rfl)⟩, by decide +kernel, SX1_spread_r⟩
