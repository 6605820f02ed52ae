/-! The desk: setShare, tell, simplify, eliminate. -/
def SX1_setShare : eSp := fun as M rt => ∃ (F : Nat → Int) (A W : Nat → Int → Int) (k a o q : Nat) (x d y : Int) (m n : Nat), as = [eR (1, 2), eR (2, k), eR (2, a), eR (2, o), eR (2, q)] ∧ M = cC F A W ∧ (k < 332) ∧ (a < 332) ∧ (o < 332) ∧ (q < 332) ∧ (10 ≤ k) ∧ (10 ≤ a) ∧ (10 ≤ o) ∧ (10 ≤ q) ∧ (a ≠ k) ∧ (wq (lw a) (W a) x) ∧ (wq (lw o) (W o) d) ∧ (wq (lw q) (W q) y) ∧ (0 < d) ∧ (d ∣ y) ∧ (zAbs x < cB ^ m) ∧ (zAbs y < cB ^ n) ∧ (m + n ≤ 32) ∧ (∀ t, t < 10 → dv W t) ∧ (∀ W' : Nat → Int → Int, (∀ t, 10 ≤ t → t ≠ k → W' t = W t) → wq (lw k) (W' k) (x * (y / d)) → (∀ t, t < 10 → dv W' t) → rt none (cC F A W'))
theorem SX1_setShare_i {F : Nat → Int} {A W : Nat → Int → Int} {k a o q : Nat} {x d y : Int} {m n : Nat} {rt : Option eV → eM → Prop} (hk : k < 332) (ha : a < 332) (ho : o < 332) (hq : q < 332) (k10 : 10 ≤ k) (a10 : 10 ≤ a) (o10 : 10 ≤ o) (q10 : 10 ≤ q) (ak : a ≠ k) (hx : wq (lw a) (W a) x) (hd : wq (lw o) (W o) d) (hy : wq (lw q) (W q) y) (d0 : 0 < d) (dy : d ∣ y) (hm : zAbs x < cB ^ m) (hn : zAbs y < cB ^ n) (hmn : m + n ≤ 32) (ds : ∀ t, t < 10 → dv W t) (h : ∀ W' : Nat → Int → Int, (∀ t, 10 ≤ t → t ≠ k → W' t = W t) → wq (lw k) (W' k) (x * (y / d)) → (∀ t, t < 10 → dv W' t) → rt none (cC F A W')) : SX1_setShare [eR (1, 2), eR (2, k), eR (2, a), eR (2, o), eR (2, q)] (cC F A W) rt := ⟨F, A, W, k, a, o, q, x, d, y, m, n, rfl, rfl, hk, ha, ho, hq, k10, a10, o10, q10, ak, hx, hd, hy, d0, dy, hm, hn, hmn, ds, h⟩
theorem SX1_setShare_r : ∀ as M rt, SX1_setShare as M rt → ∃ a r fs, as = eR a :: r ∧ M a = some (.inl (1, fs)) := by
  rintro as M rt ⟨F, A, W, k, a, o, q, x, d, y, m, n, rfl, rfl, -⟩
  exact ⟨_, _, _, rfl, rfl⟩
def kX1_setShare : List (Nat × Jvm.ClassFile.Instr × Nat) := [(0, .aload_n 0, 1), (1, .getfield 35, 3), (4, .aload 4, 2), (6, .invokevirtual 89, 3), (9, .aload_n 0, 1), (10, .aload_n 0, 1), (11, .getfield 35, 3), (14, .aload_n 3, 1), (15, .invokevirtual 140, 3), (18, .aload_n 1, 1), (19, .aload_n 2, 1), (20, .aload_n 0, 1), (21, .getfield 35, 3), (24, .invokevirtual 51, 3), (27, .return_, 1)]
theorem kX1_setShare_0 : cdOf kX1_setShare 0 = some (.aload_n 0, 1) := by decide +kernel
theorem kX1_setShare_1 : cdOf kX1_setShare 1 = some (.getfield 35, 3) := by decide +kernel
theorem kX1_setShare_4 : cdOf kX1_setShare 4 = some (.aload 4, 2) := by decide +kernel
theorem kX1_setShare_6 : cdOf kX1_setShare 6 = some (.invokevirtual 89, 3) := by decide +kernel
theorem kX1_setShare_9 : cdOf kX1_setShare 9 = some (.aload_n 0, 1) := by decide +kernel
theorem kX1_setShare_10 : cdOf kX1_setShare 10 = some (.aload_n 0, 1) := by decide +kernel
theorem kX1_setShare_11 : cdOf kX1_setShare 11 = some (.getfield 35, 3) := by decide +kernel
theorem kX1_setShare_14 : cdOf kX1_setShare 14 = some (.aload_n 3, 1) := by decide +kernel
theorem kX1_setShare_15 : cdOf kX1_setShare 15 = some (.invokevirtual 140, 3) := by decide +kernel
theorem kX1_setShare_18 : cdOf kX1_setShare 18 = some (.aload_n 1, 1) := by decide +kernel
theorem kX1_setShare_19 : cdOf kX1_setShare 19 = some (.aload_n 2, 1) := by decide +kernel
theorem kX1_setShare_20 : cdOf kX1_setShare 20 = some (.aload_n 0, 1) := by decide +kernel
theorem kX1_setShare_21 : cdOf kX1_setShare 21 = some (.getfield 35, 3) := by decide +kernel
theorem kX1_setShare_24 : cdOf kX1_setShare 24 = some (.invokevirtual 51, 3) := by decide +kernel
theorem kX1_setShare_27 : cdOf kX1_setShare 27 = some (.return_, 1) := by decide +kernel
set_option maxRecDepth 20000 in
theorem kX1_setShare_ok : ∀ pc i len, cdOf kX1_setShare pc = some (i, len) → decode cX1_setShare pc = .ok (i, len) ∧ stOK 5 i = true ∧ jOK pc i = true ∧ eLen i len = true := cdOf_ok cX1_setShare 5 kX1_setShare (by decide +kernel)
def vtX1_setShare : Nat → Option (Nat × eSp) := fun k => match k with
  | 89 => some (2, SX8_copy)
  | 140 => some (3, SX1_share)
  | 51 => some (3, SX8_setProduct)
  | _ => none
theorem vtX1_setShare_89 : vtX1_setShare 89 = some (2, SX8_copy) := rfl
theorem vtX1_setShare_140 : vtX1_setShare 140 = some (3, SX1_share) := rfl
theorem vtX1_setShare_51 : vtX1_setShare 51 = some (3, SX8_setProduct) := rfl
def stX1_setShare : Nat → Option (Nat × eSp) := fun _ => none
abbrev TX1_setShare : eT := (fl_RX1, cl_RX1, dl_RX1, vtX1_setShare, stX1_setShare)
set_option maxRecDepth 20000 in
theorem caX1_setShare : eCalls RX1 { frames := 3, cells := 0, slots := 0, locals := 87 } TX1_setShare := by
  refine ⟨fun k n sp h => ?_, fun k n sp h => ?_⟩
  · dsimp only [TX1_setShare] at h
    unfold vtX1_setShare at h
    split at h
    · cases h; exact eV_mk mX8_copy wX8_copy (by decide +kernel) (Or.inl (gW_at 443 (by decide +kernel) rfl))
    · cases h; exact eV_mk mX1_share wX1_share (by decide +kernel) (Or.inl (gW_at 510 (by decide +kernel) rfl))
    · cases h; exact eV_mk mX8_setProduct wX8_setProduct (by decide +kernel) (Or.inl (gW_at 526 (by decide +kernel) rfl))
    · cases h
  · cases h
set_option maxRecDepth 100000 in
set_option maxHeartbeats 4000000 in
theorem sX1_setShare : eSafe TX1_setShare (cdOf kX1_setShare) 5 none SX1_setShare := by
  intro K rt hK as M h
  obtain ⟨F, A, W, k, a, o, q, x, d, y, m, n, rfl, rfl, hk, ha, ho, hq, k10, a10, o10, q10, ak, hx, hd, hy, d0, dy, hm, hn, hmn, ds, h⟩ := h
  refine ⟨by simp [eE], ?_⟩
  have lk := lw_b k
  have y78 := cB_mono (show n ≤ 62 by omega)
  have yd := zAbs_dv y (m := d) (by omega)
  simp only [eLoc, eE, List.length_cons, List.length_nil, List.replicate, List.cons_append, List.nil_append, Nat.reduceAdd, Nat.reduceSub]
  refine x_aload_n hK kX1_setShare_0 (q := 1) rfl rfl ?_
  refine x_getfield hK kX1_setShare_1 (q := 4) rfl (gX1_35 ?_)
  refine x_aload hK kX1_setShare_4 (q := 6) rfl rfl ?_
  refine x_cv2 hK kX1_setShare_6 (q := 9) rfl (vtX1_setShare_89) (Nat.le_of_ble_eq_true rfl) ?_
  refine SX8_copy_i (z := y) (by decide) hq (by omega) hy (to_d (by decide) hy) (fun f hf => ?_)
  refine x_aload_n hK kX1_setShare_9 (q := 10) rfl rfl ?_
  refine x_aload_n hK kX1_setShare_10 (q := 11) rfl rfl ?_
  refine x_getfield hK kX1_setShare_11 (q := 14) rfl (gX1_35 ?_)
  refine x_aload_n hK kX1_setShare_14 (q := 15) rfl rfl ?_
  refine x_cv3 hK kX1_setShare_15 (q := 18) rfl (vtX1_setShare_140) (Nat.le_of_ble_eq_true rfl) ?_
  refine SX1_share_i (x := y) (d := d) (by decide) ho (by decide) (by omega) (by decide) (by omega) (by omega) (by rw [uA_g]; exact hf) (by rw [uA_n _ _ (by omega)]; exact hd) d0 dy (by omega) (dv_n (ds 2 (by decide)) (uA_n _ _ (by decide))) (dv_n (ds 4 (by decide)) (uA_n _ _ (by decide))) (fun W1 f1 g1 e2 e4 => ?_)
  refine x_aload_n hK kX1_setShare_18 (q := 19) rfl rfl ?_
  refine x_aload_n hK kX1_setShare_19 (q := 20) rfl rfl ?_
  refine x_aload_n hK kX1_setShare_20 (q := 21) rfl rfl ?_
  refine x_getfield hK kX1_setShare_21 (q := 24) rfl (gX1_35 ?_)
  refine x_cv3 hK kX1_setShare_24 (q := 27) rfl (vtX1_setShare_51) (Nat.le_of_ble_eq_true rfl) ?_
  refine SX8_setProduct_i (x := x) (y := y / d) (p := m) (q := n) hk ha (by decide) ak (by omega) (by rw [f1 a (by omega) (by omega) (by omega), uA_n _ _ (by omega)]; exact hx) g1 hm (by omega) (by omega) (fun g hg => ?_)
  refine x_return_ hK kX1_setShare_27 (by first | trivial | exact Or.inl rfl | exact Or.inr rfl) ?_
  refine h _ (fun t t10 tk => by rw [uA_n _ _ tk, f1 t (by omega) (by omega) (by omega), uA_n _ _ (by omega)]) (by rw [uA_g]; exact hg) (fun t ht => ?_)
  have e : uA W1 k g t = W1 t := uA_n _ _ (by omega)
  have ht' : t = 2 ∨ t = 4 ∨ t = 6 ∨ (t ≠ 2 ∧ t ≠ 4 ∧ t ≠ 6) := by omega
  rcases ht' with q | q | q | ⟨a2, a4, a6⟩
  · subst q; exact dv_n e2 e
  · subst q; exact dv_n e4 e
  · subst q; exact ⟨_, by rw [e]; exact g1⟩
  · exact dv_n (ds t ht) (by rw [e, f1 t a2 a4 a6, uA_n _ _ a6])
set_option maxRecDepth 20000 in
theorem mX1_setShare : eMet yX1_setShare cX1_setShare 5 none 3 87 SX1_setShare := eMet_of (by decide +kernel) sX1_setShare kX1_setShare_ok caX1_setShare tb_RX1
theorem wX1_setShare : eWV yX1_setShare cX1_setShare 5 none 5 1 SX1_setShare := ⟨(gW_at 645 (by decide +kernel) rfl), (gW_at 80 (by decide +kernel) rfl), (gW_at 643 (by decide +kernel) rfl), ⟨_, rfl, (gW_at 644 (by decide +kernel) rfl)⟩, by decide +kernel, SX1_setShare_r⟩
-- tell
theorem zE_w (p : Prop) [Decidable p] : w32 (zE p) := by unfold zE; split <;> decide
theorem zE_0 {p : Prop} [Decidable p] : zE p = 0 ↔ ¬ p := by unfold zE; split <;> simp_all
/-- a fraction's part, if both are short -/
def tel (x y what : Int) : Int := if zAbs (x / (Int.gcd x y : Int)) < 9223372036854775808 ∧ zAbs (y / (Int.gcd x y : Int)) < 9223372036854775808 then (if what = 0 then x / (Int.gcd x y : Int) else y / (Int.gcd x y : Int)) else -9223372036854775808
def SX1_tell : eSp := fun as M rt => ∃ (F : Nat → Int) (A W : Nat → Int → Int) (a b : Nat) (x y what : Int), as = [eR (1, 2), eR (2, a), eR (2, b), eI what] ∧ M = cC F A W ∧ (a < 332) ∧ (b < 332) ∧ (10 ≤ a) ∧ (10 ≤ b) ∧ (wq (lw a) (W a) x) ∧ (wq (lw b) (W b) y) ∧ (0 < y) ∧ (zAbs x < cB ^ 62) ∧ (zAbs y < cB ^ 62) ∧ (w32 what) ∧ (∀ t, t < 10 → dv W t) ∧ (∀ W' : Nat → Int → Int, (∀ t, 10 ≤ t → W' t = W t) → (∀ t, t < 10 → dv W' t) → rt (some (eL (tel x y what))) (cC F A W'))
theorem SX1_tell_i {F : Nat → Int} {A W : Nat → Int → Int} {a b : Nat} {x y what : Int} {rt : Option eV → eM → Prop} (ha : a < 332) (hb : b < 332) (a10 : 10 ≤ a) (b10 : 10 ≤ b) (hx : wq (lw a) (W a) x) (hy : wq (lw b) (W b) y) (y0 : 0 < y) (x78 : zAbs x < cB ^ 62) (y78 : zAbs y < cB ^ 62) (hw : w32 what) (ds : ∀ t, t < 10 → dv W t) (h : ∀ W' : Nat → Int → Int, (∀ t, 10 ≤ t → W' t = W t) → (∀ t, t < 10 → dv W' t) → rt (some (eL (tel x y what))) (cC F A W')) : SX1_tell [eR (1, 2), eR (2, a), eR (2, b), eI what] (cC F A W) rt := ⟨F, A, W, a, b, x, y, what, rfl, rfl, ha, hb, a10, b10, hx, hy, y0, x78, y78, hw, ds, h⟩
theorem SX1_tell_r : ∀ as M rt, SX1_tell as M rt → ∃ a r fs, as = eR a :: r ∧ M a = some (.inl (1, fs)) := by
  rintro as M rt ⟨F, A, W, a, b, x, y, what, rfl, rfl, -⟩
  exact ⟨_, _, _, rfl, rfl⟩
def kX1_tell : List (Nat × Jvm.ClassFile.Instr × Nat) := [(0, .aload_n 0, 1), (1, .getfield 32, 3), (4, .aload_n 0, 1), (5, .aload_n 1, 1), (6, .aload_n 2, 1), (7, .invokevirtual 136, 3), (10, .invokevirtual 89, 3), (13, .aload_n 0, 1), (14, .getfield 35, 3), (17, .aload_n 1, 1), (18, .invokevirtual 89, 3), (21, .aload_n 0, 1), (22, .aload_n 0, 1), (23, .getfield 35, 3), (26, .aload_n 0, 1), (27, .getfield 32, 3), (30, .invokevirtual 140, 3), (33, .aload_n 0, 1), (34, .getfield 38, 3), (37, .aload_n 2, 1), (38, .invokevirtual 89, 3), (41, .aload_n 0, 1), (42, .aload_n 0, 1), (43, .getfield 38, 3), (46, .aload_n 0, 1), (47, .getfield 32, 3), (50, .invokevirtual 140, 3), (53, .aload_n 0, 1), (54, .getfield 35, 3), (57, .invokevirtual 150, 3), (60, .ifCond .eq 13, 3), (63, .aload_n 0, 1), (64, .getfield 38, 3), (67, .invokevirtual 150, 3), (70, .ifCond .ne 7, 3), (73, .ldc2_w 153, 3), (76, .lreturn, 1), (77, .iload_n 3, 1), (78, .ifCond .ne 13, 3), (81, .aload_n 0, 1), (82, .getfield 35, 3), (85, .invokevirtual 118, 3), (88, .goto 10, 3), (91, .aload_n 0, 1), (92, .getfield 38, 3), (95, .invokevirtual 118, 3), (98, .lreturn, 1)]
theorem kX1_tell_0 : cdOf kX1_tell 0 = some (.aload_n 0, 1) := by decide +kernel
theorem kX1_tell_1 : cdOf kX1_tell 1 = some (.getfield 32, 3) := by decide +kernel
theorem kX1_tell_4 : cdOf kX1_tell 4 = some (.aload_n 0, 1) := by decide +kernel
theorem kX1_tell_5 : cdOf kX1_tell 5 = some (.aload_n 1, 1) := by decide +kernel
theorem kX1_tell_6 : cdOf kX1_tell 6 = some (.aload_n 2, 1) := by decide +kernel
theorem kX1_tell_7 : cdOf kX1_tell 7 = some (.invokevirtual 136, 3) := by decide +kernel
theorem kX1_tell_10 : cdOf kX1_tell 10 = some (.invokevirtual 89, 3) := by decide +kernel
theorem kX1_tell_13 : cdOf kX1_tell 13 = some (.aload_n 0, 1) := by decide +kernel
theorem kX1_tell_14 : cdOf kX1_tell 14 = some (.getfield 35, 3) := by decide +kernel
theorem kX1_tell_17 : cdOf kX1_tell 17 = some (.aload_n 1, 1) := by decide +kernel
theorem kX1_tell_18 : cdOf kX1_tell 18 = some (.invokevirtual 89, 3) := by decide +kernel
theorem kX1_tell_21 : cdOf kX1_tell 21 = some (.aload_n 0, 1) := by decide +kernel
theorem kX1_tell_22 : cdOf kX1_tell 22 = some (.aload_n 0, 1) := by decide +kernel
theorem kX1_tell_23 : cdOf kX1_tell 23 = some (.getfield 35, 3) := by decide +kernel
theorem kX1_tell_26 : cdOf kX1_tell 26 = some (.aload_n 0, 1) := by decide +kernel
theorem kX1_tell_27 : cdOf kX1_tell 27 = some (.getfield 32, 3) := by decide +kernel
theorem kX1_tell_30 : cdOf kX1_tell 30 = some (.invokevirtual 140, 3) := by decide +kernel
theorem kX1_tell_33 : cdOf kX1_tell 33 = some (.aload_n 0, 1) := by decide +kernel
theorem kX1_tell_34 : cdOf kX1_tell 34 = some (.getfield 38, 3) := by decide +kernel
theorem kX1_tell_37 : cdOf kX1_tell 37 = some (.aload_n 2, 1) := by decide +kernel
theorem kX1_tell_38 : cdOf kX1_tell 38 = some (.invokevirtual 89, 3) := by decide +kernel
theorem kX1_tell_41 : cdOf kX1_tell 41 = some (.aload_n 0, 1) := by decide +kernel
theorem kX1_tell_42 : cdOf kX1_tell 42 = some (.aload_n 0, 1) := by decide +kernel
theorem kX1_tell_43 : cdOf kX1_tell 43 = some (.getfield 38, 3) := by decide +kernel
theorem kX1_tell_46 : cdOf kX1_tell 46 = some (.aload_n 0, 1) := by decide +kernel
theorem kX1_tell_47 : cdOf kX1_tell 47 = some (.getfield 32, 3) := by decide +kernel
theorem kX1_tell_50 : cdOf kX1_tell 50 = some (.invokevirtual 140, 3) := by decide +kernel
theorem kX1_tell_53 : cdOf kX1_tell 53 = some (.aload_n 0, 1) := by decide +kernel
theorem kX1_tell_54 : cdOf kX1_tell 54 = some (.getfield 35, 3) := by decide +kernel
theorem kX1_tell_57 : cdOf kX1_tell 57 = some (.invokevirtual 150, 3) := by decide +kernel
theorem kX1_tell_60 : cdOf kX1_tell 60 = some (.ifCond .eq 13, 3) := by decide +kernel
theorem kX1_tell_63 : cdOf kX1_tell 63 = some (.aload_n 0, 1) := by decide +kernel
theorem kX1_tell_64 : cdOf kX1_tell 64 = some (.getfield 38, 3) := by decide +kernel
theorem kX1_tell_67 : cdOf kX1_tell 67 = some (.invokevirtual 150, 3) := by decide +kernel
theorem kX1_tell_70 : cdOf kX1_tell 70 = some (.ifCond .ne 7, 3) := by decide +kernel
theorem kX1_tell_73 : cdOf kX1_tell 73 = some (.ldc2_w 153, 3) := by decide +kernel
theorem kX1_tell_76 : cdOf kX1_tell 76 = some (.lreturn, 1) := by decide +kernel
theorem kX1_tell_77 : cdOf kX1_tell 77 = some (.iload_n 3, 1) := by decide +kernel
theorem kX1_tell_78 : cdOf kX1_tell 78 = some (.ifCond .ne 13, 3) := by decide +kernel
theorem kX1_tell_81 : cdOf kX1_tell 81 = some (.aload_n 0, 1) := by decide +kernel
theorem kX1_tell_82 : cdOf kX1_tell 82 = some (.getfield 35, 3) := by decide +kernel
theorem kX1_tell_85 : cdOf kX1_tell 85 = some (.invokevirtual 118, 3) := by decide +kernel
theorem kX1_tell_88 : cdOf kX1_tell 88 = some (.goto 10, 3) := by decide +kernel
theorem kX1_tell_91 : cdOf kX1_tell 91 = some (.aload_n 0, 1) := by decide +kernel
theorem kX1_tell_92 : cdOf kX1_tell 92 = some (.getfield 38, 3) := by decide +kernel
theorem kX1_tell_95 : cdOf kX1_tell 95 = some (.invokevirtual 118, 3) := by decide +kernel
theorem kX1_tell_98 : cdOf kX1_tell 98 = some (.lreturn, 1) := by decide +kernel
set_option maxRecDepth 20000 in
theorem kX1_tell_ok : ∀ pc i len, cdOf kX1_tell pc = some (i, len) → decode cX1_tell pc = .ok (i, len) ∧ stOK 4 i = true ∧ jOK pc i = true ∧ eLen i len = true := cdOf_ok cX1_tell 4 kX1_tell (by decide +kernel)
def vtX1_tell : Nat → Option (Nat × eSp) := fun k => match k with
  | 136 => some (3, SX1_divisor)
  | 89 => some (2, SX8_copy)
  | 140 => some (3, SX1_share)
  | 150 => some (1, SX8_isLong)
  | 118 => some (1, SX8_toLong)
  | _ => none
theorem vtX1_tell_136 : vtX1_tell 136 = some (3, SX1_divisor) := rfl
theorem vtX1_tell_89 : vtX1_tell 89 = some (2, SX8_copy) := rfl
theorem vtX1_tell_140 : vtX1_tell 140 = some (3, SX1_share) := rfl
theorem vtX1_tell_150 : vtX1_tell 150 = some (1, SX8_isLong) := rfl
theorem vtX1_tell_118 : vtX1_tell 118 = some (1, SX8_toLong) := rfl
def stX1_tell : Nat → Option (Nat × eSp) := fun _ => none
abbrev TX1_tell : eT := (fl_RX1, cl_RX1, dl_RX1, vtX1_tell, stX1_tell)
set_option maxRecDepth 20000 in
theorem caX1_tell : eCalls RX1 { frames := 3, cells := 0, slots := 0, locals := 90 } TX1_tell := by
  refine ⟨fun k n sp h => ?_, fun k n sp h => ?_⟩
  · dsimp only [TX1_tell] at h
    unfold vtX1_tell at h
    split at h
    · cases h; exact eV_mk mX1_divisor wX1_divisor (by decide +kernel) (Or.inl (gW_at 447 (by decide +kernel) rfl))
    · cases h; exact eV_mk mX8_copy wX8_copy (by decide +kernel) (Or.inl (gW_at 443 (by decide +kernel) rfl))
    · cases h; exact eV_mk mX1_share wX1_share (by decide +kernel) (Or.inl (gW_at 510 (by decide +kernel) rfl))
    · cases h; exact eV_mk mX8_isLong wX8_isLong (by decide +kernel) (Or.inl (gW_at 779 (by decide +kernel) rfl))
    · cases h; exact eV_mk mX8_toLong wX8_toLong (by decide +kernel) (Or.inl (gW_at 457 (by decide +kernel) rfl))
    · cases h
  · cases h
set_option maxRecDepth 100000 in
set_option maxHeartbeats 4000000 in
theorem sX1_tell : eSafe TX1_tell (cdOf kX1_tell) 4 (some .long) SX1_tell := by
  intro K rt hK as M h
  obtain ⟨F, A, W, a, b, x, y, what, rfl, rfl, ha, hb, a10, b10, hx, hy, y0, x78, y78, hw, ds, h⟩ := h
  refine ⟨by simp [eE], ?_⟩
  have gp : 0 < (Int.gcd x y : Int) := by
    have := Int.gcd_pos_of_ne_zero_right x (show y ≠ 0 by omega)
    omega
  have g1 : (Int.gcd x y : Int) ∣ x := Int.gcd_dvd_left ..
  have g2 : (Int.gcd x y : Int) ∣ y := Int.gcd_dvd_right ..
  unfold tel at h
  obtain ⟨X, hX⟩ : ∃ X, x / (Int.gcd x y : Int) = X := ⟨_, rfl⟩
  obtain ⟨Y, hY⟩ : ∃ Y, y / (Int.gcd x y : Int) = Y := ⟨_, rfl⟩
  rw [hX, hY] at h
  simp only [eLoc, eE, List.length_cons, List.length_nil, List.replicate, List.cons_append, List.nil_append, Nat.reduceAdd, Nat.reduceSub]
  refine x_aload_n hK kX1_tell_0 (q := 1) rfl rfl ?_
  refine x_getfield hK kX1_tell_1 (q := 4) rfl (gX1_32 ?_)
  refine x_aload_n hK kX1_tell_4 (q := 5) rfl rfl ?_
  refine x_aload_n hK kX1_tell_5 (q := 6) rfl rfl ?_
  refine x_aload_n hK kX1_tell_6 (q := 7) rfl rfl ?_
  refine x_cv3 hK kX1_tell_7 (q := 10) rfl (vtX1_tell_136) (Nat.le_of_ble_eq_true rfl) ?_
  refine SX1_divisor_i ha hb (by omega) (by omega) hx hy x78 y78 (ds 2 (by decide)) (ds 3 (by decide)) (fun W1 r hr f1 d1 q1 => ?_)
  refine x_cv2 hK kX1_tell_10 (q := 13) rfl (vtX1_tell_89) (Nat.le_of_ble_eq_true rfl) ?_
  refine SX8_copy_i (z := (Int.gcd x y : Int)) (by decide) (by omega) (by omega) q1 (to_d (by decide) q1) (fun f hf => ?_)
  refine x_aload_n hK kX1_tell_13 (q := 14) rfl rfl ?_
  refine x_getfield hK kX1_tell_14 (q := 17) rfl (gX1_35 ?_)
  refine x_aload_n hK kX1_tell_17 (q := 18) rfl rfl ?_
  refine x_cv2 hK kX1_tell_18 (q := 21) rfl (vtX1_tell_89) (Nat.le_of_ble_eq_true rfl) ?_
  refine SX8_copy_i (z := x) (by decide) ha (by omega) (by rw [uA_n _ _ (by omega), f1 a (by omega)]; exact hx) (lt_d (by decide) x78) (fun f2 hf2 => ?_)
  refine x_aload_n hK kX1_tell_21 (q := 22) rfl rfl ?_
  refine x_aload_n hK kX1_tell_22 (q := 23) rfl rfl ?_
  refine x_getfield hK kX1_tell_23 (q := 26) rfl (gX1_35 ?_)
  refine x_aload_n hK kX1_tell_26 (q := 27) rfl rfl ?_
  refine x_getfield hK kX1_tell_27 (q := 30) rfl (gX1_32 ?_)
  refine x_cv3 hK kX1_tell_30 (q := 33) rfl (vtX1_tell_140) (Nat.le_of_ble_eq_true rfl) ?_
  refine SX1_share_i (x := x) (d := (Int.gcd x y : Int)) (by decide) (by decide) (by decide) (by decide) (by decide) (by decide) (by decide) (by rw [uA_g]; exact hf2) (by rw [uA_n _ _ (by decide), uA_g]; exact hf) gp g1 x78 (dv_n (d1 2 (by decide)) (by rw [uA_n _ _ (by decide), uA_n _ _ (by decide)])) (dv_n (ds 4 (by decide)) (by rw [uA_n _ _ (by decide), uA_n _ _ (by decide), f1 4 (by decide)])) (fun W2 f3 q2 e2 e4 => ?_)
  have w5 : wq (lw 5) (W2 5) (Int.gcd x y : Int) := by rw [f3 5 (by decide) (by decide) (by decide), uA_n _ _ (by decide), uA_g]; exact hf
  have fr2 : ∀ t, t ≠ 2 → t ≠ 4 → t ≠ 5 → t ≠ 6 → W2 t = W1 t := fun t a2 a4 a5 a6 => by rw [f3 t a2 a4 a6, uA_n _ _ a6, uA_n _ _ a5]
  refine x_aload_n hK kX1_tell_33 (q := 34) rfl rfl ?_
  refine x_getfield hK kX1_tell_34 (q := 37) rfl (gX1_38 ?_)
  refine x_aload_n hK kX1_tell_37 (q := 38) rfl rfl ?_
  refine x_cv2 hK kX1_tell_38 (q := 41) rfl (vtX1_tell_89) (Nat.le_of_ble_eq_true rfl) ?_
  refine SX8_copy_i (z := y) (by decide) hb (by omega) (by rw [fr2 b (by omega) (by omega) (by omega) (by omega), f1 b (by omega)]; exact hy) (lt_d (by decide) y78) (fun f4 hf4 => ?_)
  refine x_aload_n hK kX1_tell_41 (q := 42) rfl rfl ?_
  refine x_aload_n hK kX1_tell_42 (q := 43) rfl rfl ?_
  refine x_getfield hK kX1_tell_43 (q := 46) rfl (gX1_38 ?_)
  refine x_aload_n hK kX1_tell_46 (q := 47) rfl rfl ?_
  refine x_getfield hK kX1_tell_47 (q := 50) rfl (gX1_32 ?_)
  refine x_cv3 hK kX1_tell_50 (q := 53) rfl (vtX1_tell_140) (Nat.le_of_ble_eq_true rfl) ?_
  refine SX1_share_i (x := y) (d := (Int.gcd x y : Int)) (by decide) (by decide) (by decide) (by decide) (by decide) (by decide) (by decide) (by rw [uA_g]; exact hf4) (by rw [uA_n _ _ (by decide)]; exact w5) gp g2 y78 (dv_n e2 (uA_n _ _ (by decide))) (dv_n e4 (uA_n _ _ (by decide))) (fun W3 f5 q3 e2' e4' => ?_)
  have w6 : wq (lw 6) (W3 6) X := by rw [f5 6 (by decide) (by decide) (by decide), uA_n _ _ (by decide), ← hX]; exact q2
  rw [hY] at q3
  have fr3 : ∀ t, t ≠ 2 → t ≠ 4 → t ≠ 7 → W3 t = W2 t := fun t a2 a4 a7 => by rw [f5 t a2 a4 a7, uA_n _ _ a7]
  have hfin := h W3 (fun t t10 => by rw [fr3 t (by omega) (by omega) (by omega), fr2 t (by omega) (by omega) (by omega) (by omega), f1 t (by omega)]) (fun t ht => by
    have ht' : t = 2 ∨ t = 4 ∨ t = 5 ∨ t = 6 ∨ t = 7 ∨ (t ≠ 2 ∧ t ≠ 4 ∧ t ≠ 5 ∧ t ≠ 6 ∧ t ≠ 7) := by omega
    rcases ht' with e | e | e | e | e | ⟨a2, a4, a5, a6, a7⟩
    · rw [e]; exact e2'
    · rw [e]; exact e4'
    · rw [e]; exact ⟨_, by rw [fr3 5 (by decide) (by decide) (by decide)]; exact w5⟩
    · rw [e]; exact ⟨_, w6⟩
    · rw [e]; exact ⟨_, q3⟩
    · have e : W3 t = W1 t := by rw [fr3 t a2 a4 a7, fr2 t a2 a4 a5 a6]
      rcases Nat.lt_or_ge t 4 with g | g
      · exact dv_n (d1 t g) e
      · exact dv_n (ds t ht) (by rw [e, f1 t g]))
  refine x_aload_n hK kX1_tell_53 (q := 54) rfl rfl ?_
  refine x_getfield hK kX1_tell_54 (q := 57) rfl (gX1_35 ?_)
  refine x_cv1 hK kX1_tell_57 (q := 60) rfl (vtX1_tell_150) (Nat.le_of_ble_eq_true rfl) ?_
  refine SX8_isLong_i (by decide) w6 ?_
  refine x_if_eq hK kX1_tell_60 (q := 63) rfl (tg := 73) rfl (by exact zE_w _) (fun c60 => ?_) (fun c60 => ?_)
  · have cx := zE_0.mp c60
    refine x_ldc2_w hK kX1_tell_73 (q := 76) rfl lc2_RX1_153 ?_
    refine x_lreturn hK kX1_tell_76 (by first | trivial | exact Or.inl rfl | exact Or.inr rfl) ?_
    rw [if_neg (by omega)] at hfin; exact hfin
  · have cx : zAbs X < 9223372036854775808 := Decidable.not_not.mp (fun g => c60 (zE_0.mpr g))
    refine x_aload_n hK kX1_tell_63 (q := 64) rfl rfl ?_
    refine x_getfield hK kX1_tell_64 (q := 67) rfl (gX1_38 ?_)
    refine x_cv1 hK kX1_tell_67 (q := 70) rfl (vtX1_tell_150) (Nat.le_of_ble_eq_true rfl) ?_
    refine SX8_isLong_i (by decide) q3 ?_
    refine x_if_ne hK kX1_tell_70 (q := 73) rfl (tg := 77) rfl (by exact zE_w _) (fun c70 => ?_) (fun c70 => ?_)
    · have cy : zAbs Y < 9223372036854775808 := Decidable.not_not.mp (fun g => c70 (zE_0.mpr g))
      refine x_iload_n hK kX1_tell_77 (q := 78) rfl rfl ?_
      refine x_if_ne hK kX1_tell_78 (q := 81) rfl (tg := 91) rfl (by exact hw) (fun c78 => ?_) (fun c78 => ?_)
      · refine x_aload_n hK kX1_tell_91 (q := 92) rfl rfl ?_
        refine x_getfield hK kX1_tell_92 (q := 95) rfl (gX1_38 ?_)
        refine x_cv1 hK kX1_tell_95 (q := 98) rfl (vtX1_tell_118) (Nat.le_of_ble_eq_true rfl) ?_
        refine SX8_toLong_i (by decide) q3 cy ?_
        refine x_lreturn hK kX1_tell_98 (by first | trivial | exact Or.inl rfl | exact Or.inr rfl) ?_
        first | (rw [if_pos ⟨cx, cy⟩, if_pos (by omega)] at hfin; exact hfin) | (rw [if_pos ⟨cx, cy⟩, if_neg c78] at hfin; exact hfin)
      · refine x_aload_n hK kX1_tell_81 (q := 82) rfl rfl ?_
        refine x_getfield hK kX1_tell_82 (q := 85) rfl (gX1_35 ?_)
        refine x_cv1 hK kX1_tell_85 (q := 88) rfl (vtX1_tell_118) (Nat.le_of_ble_eq_true rfl) ?_
        refine SX8_toLong_i (by decide) w6 cx ?_
        refine x_goto hK kX1_tell_88 (tg := 98) rfl ?_
        refine x_lreturn hK kX1_tell_98 (by first | trivial | exact Or.inl rfl | exact Or.inr rfl) ?_
        first | (rw [if_pos ⟨cx, cy⟩, if_pos (by omega)] at hfin; exact hfin) | (rw [if_pos ⟨cx, cy⟩, if_neg c78] at hfin; exact hfin)
    · have cy := zE_0.mp (Decidable.not_not.mp c70)
      refine x_ldc2_w hK kX1_tell_73 (q := 76) rfl lc2_RX1_153 ?_
      refine x_lreturn hK kX1_tell_76 (by first | trivial | exact Or.inl rfl | exact Or.inr rfl) ?_
      rw [if_neg (by omega)] at hfin; exact hfin
set_option maxRecDepth 20000 in
theorem mX1_tell : eMet yX1_tell cX1_tell 4 (some .long) 3 90 SX1_tell := eMet_of (by decide +kernel) sX1_tell kX1_tell_ok caX1_tell tb_RX1
theorem wX1_tell : eWV yX1_tell cX1_tell 4 (some .long) 4 1 SX1_tell := ⟨(gW_at 778 (by decide +kernel) rfl), (gW_at 80 (by decide +kernel) rfl), (gW_at 776 (by decide +kernel) rfl), ⟨_, rfl, (gW_at 777 (by decide +kernel) rfl)⟩, by decide +kernel, SX1_tell_r⟩
-- simplify
theorem wa_r {b : eA} {base n : Nat} (h : wa b base n) : 10 ≤ base ∧ base + n ≤ 332 ∧ n ≤ 16 := by
  rcases h with ⟨r, h, rfl, rfl, rfl⟩ | ⟨g, h, rfl, rfl, rfl⟩
  · unfold rb rl
    split <;> omega
  · unfold gb
    omega
def cG (V : Nat → Int) : Nat → Nat
  | 0 => 0
  | n + 1 => Int.gcd (cG V n) (V n)
theorem cG_d (V : Nat → Int) : ∀ (n i : Nat), i < n → (cG V n : Int) ∣ V i
  | 0, i, h => absurd h (Nat.not_lt_zero _)
  | n + 1, i, h => by
    rcases Nat.lt_or_ge i n with q | q
    · exact Int.dvd_trans (Int.gcd_dvd_left ..) (cG_d V n i q)
    · rw [show i = n by omega]
      exact Int.gcd_dvd_right ..
theorem cG_1 (V : Nat → Int) {i : Nat} (h : cG V i = 1) : ∀ d, cG V (i + d) = 1
  | 0 => h
  | d + 1 => by
    show Int.gcd (cG V (i + d) : Int) (V (i + d)) = 1
    rw [cG_1 V h d]
    exact Int.one_gcd
def SX1_simplify : eSp := fun as M rt => ∃ (F : Nat → Int) (A W : Nat → Int → Int) (ar : eA) (base n : Nat) (V : Nat → Int), as = [eR (1, 2), eR ar] ∧ M = cC F A W ∧ (wa ar base n) ∧ (∀ i, i < n → wq (lw (base + i)) (W (base + i)) (V i)) ∧ (∀ i, i < n → zAbs (V i) < cB ^ 62) ∧ (∀ t, t < 10 → dv W t) ∧ (∀ W' : Nat → Int → Int, (∀ t, 10 ≤ t → (t < base ∨ base + n ≤ t) → W' t = W t) → (∀ i, i < n → wq (lw (base + i)) (W' (base + i)) (V i / (cG V n : Int))) → (∀ t, t < 10 → dv W' t) → rt none (cC F A W'))
theorem SX1_simplify_i {F : Nat → Int} {A W : Nat → Int → Int} {ar : eA} {base n : Nat} {V : Nat → Int} {rt : Option eV → eM → Prop} (hw : wa ar base n) (hV : ∀ i, i < n → wq (lw (base + i)) (W (base + i)) (V i)) (hb : ∀ i, i < n → zAbs (V i) < cB ^ 62) (ds : ∀ t, t < 10 → dv W t) (h : ∀ W' : Nat → Int → Int, (∀ t, 10 ≤ t → (t < base ∨ base + n ≤ t) → W' t = W t) → (∀ i, i < n → wq (lw (base + i)) (W' (base + i)) (V i / (cG V n : Int))) → (∀ t, t < 10 → dv W' t) → rt none (cC F A W')) : SX1_simplify [eR (1, 2), eR ar] (cC F A W) rt := ⟨F, A, W, ar, base, n, V, rfl, rfl, hw, hV, hb, ds, h⟩
theorem SX1_simplify_r : ∀ as M rt, SX1_simplify as M rt → ∃ a r fs, as = eR a :: r ∧ M a = some (.inl (1, fs)) := by
  rintro as M rt ⟨F, A, W, ar, base, n, V, rfl, rfl, -⟩
  exact ⟨_, _, _, rfl, rfl⟩
def kX1_simplify : List (Nat × Jvm.ClassFile.Instr × Nat) := [(0, .aload_n 0, 1), (1, .getfield 32, 3), (4, .lconst 0, 1), (5, .invokevirtual 59, 3), (8, .iconst 0, 1), (9, .istore_n 2, 1), (10, .iload_n 2, 1), (11, .aload_n 1, 1), (12, .arraylength, 1), (13, .if_icmp .ge 46, 3), (16, .aload_n 0, 1), (17, .getfield 32, 3), (20, .invokevirtual 130, 3), (23, .ifCond .ne 36, 3), (26, .aload_n 1, 1), (27, .iload_n 2, 1), (28, .aaload, 1), (29, .invokevirtual 47, 3), (32, .ifCond .ne 21, 3), (35, .aload_n 0, 1), (36, .getfield 32, 3), (39, .aload_n 0, 1), (40, .aload_n 0, 1), (41, .getfield 32, 3), (44, .aload_n 1, 1), (45, .iload_n 2, 1), (46, .aaload, 1), (47, .invokevirtual 136, 3), (50, .invokevirtual 89, 3), (53, .iinc 2 1, 3), (56, .goto (-46), 3), (59, .aload_n 0, 1), (60, .getfield 32, 3), (63, .invokevirtual 47, 3), (66, .ifCond .ne 13, 3), (69, .aload_n 0, 1), (70, .getfield 32, 3), (73, .invokevirtual 130, 3), (76, .ifCond .eq 4, 3), (79, .return_, 1), (80, .iconst 0, 1), (81, .istore_n 2, 1), (82, .iload_n 2, 1), (83, .aload_n 1, 1), (84, .arraylength, 1), (85, .if_icmp .ge 20, 3), (88, .aload_n 0, 1), (89, .aload_n 1, 1), (90, .iload_n 2, 1), (91, .aaload, 1), (92, .aload_n 0, 1), (93, .getfield 32, 3), (96, .invokevirtual 140, 3), (99, .iinc 2 1, 3), (102, .goto (-20), 3), (105, .return_, 1)]
theorem kX1_simplify_0 : cdOf kX1_simplify 0 = some (.aload_n 0, 1) := by decide +kernel
theorem kX1_simplify_1 : cdOf kX1_simplify 1 = some (.getfield 32, 3) := by decide +kernel
theorem kX1_simplify_4 : cdOf kX1_simplify 4 = some (.lconst 0, 1) := by decide +kernel
theorem kX1_simplify_5 : cdOf kX1_simplify 5 = some (.invokevirtual 59, 3) := by decide +kernel
theorem kX1_simplify_8 : cdOf kX1_simplify 8 = some (.iconst 0, 1) := by decide +kernel
theorem kX1_simplify_9 : cdOf kX1_simplify 9 = some (.istore_n 2, 1) := by decide +kernel
theorem kX1_simplify_10 : cdOf kX1_simplify 10 = some (.iload_n 2, 1) := by decide +kernel
theorem kX1_simplify_11 : cdOf kX1_simplify 11 = some (.aload_n 1, 1) := by decide +kernel
theorem kX1_simplify_12 : cdOf kX1_simplify 12 = some (.arraylength, 1) := by decide +kernel
theorem kX1_simplify_13 : cdOf kX1_simplify 13 = some (.if_icmp .ge 46, 3) := by decide +kernel
theorem kX1_simplify_16 : cdOf kX1_simplify 16 = some (.aload_n 0, 1) := by decide +kernel
theorem kX1_simplify_17 : cdOf kX1_simplify 17 = some (.getfield 32, 3) := by decide +kernel
theorem kX1_simplify_20 : cdOf kX1_simplify 20 = some (.invokevirtual 130, 3) := by decide +kernel
theorem kX1_simplify_23 : cdOf kX1_simplify 23 = some (.ifCond .ne 36, 3) := by decide +kernel
theorem kX1_simplify_26 : cdOf kX1_simplify 26 = some (.aload_n 1, 1) := by decide +kernel
theorem kX1_simplify_27 : cdOf kX1_simplify 27 = some (.iload_n 2, 1) := by decide +kernel
theorem kX1_simplify_28 : cdOf kX1_simplify 28 = some (.aaload, 1) := by decide +kernel
theorem kX1_simplify_29 : cdOf kX1_simplify 29 = some (.invokevirtual 47, 3) := by decide +kernel
theorem kX1_simplify_32 : cdOf kX1_simplify 32 = some (.ifCond .ne 21, 3) := by decide +kernel
theorem kX1_simplify_35 : cdOf kX1_simplify 35 = some (.aload_n 0, 1) := by decide +kernel
theorem kX1_simplify_36 : cdOf kX1_simplify 36 = some (.getfield 32, 3) := by decide +kernel
theorem kX1_simplify_39 : cdOf kX1_simplify 39 = some (.aload_n 0, 1) := by decide +kernel
theorem kX1_simplify_40 : cdOf kX1_simplify 40 = some (.aload_n 0, 1) := by decide +kernel
theorem kX1_simplify_41 : cdOf kX1_simplify 41 = some (.getfield 32, 3) := by decide +kernel
theorem kX1_simplify_44 : cdOf kX1_simplify 44 = some (.aload_n 1, 1) := by decide +kernel
theorem kX1_simplify_45 : cdOf kX1_simplify 45 = some (.iload_n 2, 1) := by decide +kernel
theorem kX1_simplify_46 : cdOf kX1_simplify 46 = some (.aaload, 1) := by decide +kernel
theorem kX1_simplify_47 : cdOf kX1_simplify 47 = some (.invokevirtual 136, 3) := by decide +kernel
theorem kX1_simplify_50 : cdOf kX1_simplify 50 = some (.invokevirtual 89, 3) := by decide +kernel
theorem kX1_simplify_53 : cdOf kX1_simplify 53 = some (.iinc 2 1, 3) := by decide +kernel
theorem kX1_simplify_56 : cdOf kX1_simplify 56 = some (.goto (-46), 3) := by decide +kernel
theorem kX1_simplify_59 : cdOf kX1_simplify 59 = some (.aload_n 0, 1) := by decide +kernel
theorem kX1_simplify_60 : cdOf kX1_simplify 60 = some (.getfield 32, 3) := by decide +kernel
theorem kX1_simplify_63 : cdOf kX1_simplify 63 = some (.invokevirtual 47, 3) := by decide +kernel
theorem kX1_simplify_66 : cdOf kX1_simplify 66 = some (.ifCond .ne 13, 3) := by decide +kernel
theorem kX1_simplify_69 : cdOf kX1_simplify 69 = some (.aload_n 0, 1) := by decide +kernel
theorem kX1_simplify_70 : cdOf kX1_simplify 70 = some (.getfield 32, 3) := by decide +kernel
theorem kX1_simplify_73 : cdOf kX1_simplify 73 = some (.invokevirtual 130, 3) := by decide +kernel
theorem kX1_simplify_76 : cdOf kX1_simplify 76 = some (.ifCond .eq 4, 3) := by decide +kernel
theorem kX1_simplify_79 : cdOf kX1_simplify 79 = some (.return_, 1) := by decide +kernel
theorem kX1_simplify_80 : cdOf kX1_simplify 80 = some (.iconst 0, 1) := by decide +kernel
theorem kX1_simplify_81 : cdOf kX1_simplify 81 = some (.istore_n 2, 1) := by decide +kernel
theorem kX1_simplify_82 : cdOf kX1_simplify 82 = some (.iload_n 2, 1) := by decide +kernel
theorem kX1_simplify_83 : cdOf kX1_simplify 83 = some (.aload_n 1, 1) := by decide +kernel
theorem kX1_simplify_84 : cdOf kX1_simplify 84 = some (.arraylength, 1) := by decide +kernel
theorem kX1_simplify_85 : cdOf kX1_simplify 85 = some (.if_icmp .ge 20, 3) := by decide +kernel
theorem kX1_simplify_88 : cdOf kX1_simplify 88 = some (.aload_n 0, 1) := by decide +kernel
theorem kX1_simplify_89 : cdOf kX1_simplify 89 = some (.aload_n 1, 1) := by decide +kernel
theorem kX1_simplify_90 : cdOf kX1_simplify 90 = some (.iload_n 2, 1) := by decide +kernel
theorem kX1_simplify_91 : cdOf kX1_simplify 91 = some (.aaload, 1) := by decide +kernel
theorem kX1_simplify_92 : cdOf kX1_simplify 92 = some (.aload_n 0, 1) := by decide +kernel
theorem kX1_simplify_93 : cdOf kX1_simplify 93 = some (.getfield 32, 3) := by decide +kernel
theorem kX1_simplify_96 : cdOf kX1_simplify 96 = some (.invokevirtual 140, 3) := by decide +kernel
theorem kX1_simplify_99 : cdOf kX1_simplify 99 = some (.iinc 2 1, 3) := by decide +kernel
theorem kX1_simplify_102 : cdOf kX1_simplify 102 = some (.goto (-20), 3) := by decide +kernel
theorem kX1_simplify_105 : cdOf kX1_simplify 105 = some (.return_, 1) := by decide +kernel
set_option maxRecDepth 20000 in
theorem kX1_simplify_ok : ∀ pc i len, cdOf kX1_simplify pc = some (i, len) → decode cX1_simplify pc = .ok (i, len) ∧ stOK 3 i = true ∧ jOK pc i = true ∧ eLen i len = true := cdOf_ok cX1_simplify 3 kX1_simplify (by decide +kernel)
def vtX1_simplify : Nat → Option (Nat × eSp) := fun k => match k with
  | 59 => some (2, SX8_set)
  | 130 => some (1, SX8_isOne)
  | 47 => some (1, SX8_isZero)
  | 136 => some (3, SX1_divisor)
  | 89 => some (2, SX8_copy)
  | 140 => some (3, SX1_share)
  | _ => none
theorem vtX1_simplify_59 : vtX1_simplify 59 = some (2, SX8_set) := rfl
theorem vtX1_simplify_130 : vtX1_simplify 130 = some (1, SX8_isOne) := rfl
theorem vtX1_simplify_47 : vtX1_simplify 47 = some (1, SX8_isZero) := rfl
theorem vtX1_simplify_136 : vtX1_simplify 136 = some (3, SX1_divisor) := rfl
theorem vtX1_simplify_89 : vtX1_simplify 89 = some (2, SX8_copy) := rfl
theorem vtX1_simplify_140 : vtX1_simplify 140 = some (3, SX1_share) := rfl
def stX1_simplify : Nat → Option (Nat × eSp) := fun _ => none
abbrev TX1_simplify : eT := (fl_RX1, cl_RX1, dl_RX1, vtX1_simplify, stX1_simplify)
set_option maxRecDepth 20000 in
theorem caX1_simplify : eCalls RX1 { frames := 3, cells := 0, slots := 0, locals := 90 } TX1_simplify := by
  refine ⟨fun k n sp h => ?_, fun k n sp h => ?_⟩
  · dsimp only [TX1_simplify] at h
    unfold vtX1_simplify at h
    split at h
    · cases h; exact eV_mk mX8_set wX8_set (by decide +kernel) (Or.inl (gW_at 465 (by decide +kernel) rfl))
    · cases h; exact eV_mk mX8_isOne wX8_isOne (by decide +kernel) (Or.inl (gW_at 514 (by decide +kernel) rfl))
    · cases h; exact eV_mk mX8_isZero wX8_isZero (by decide +kernel) (Or.inl (gW_at 456 (by decide +kernel) rfl))
    · cases h; exact eV_mk mX1_divisor wX1_divisor (by decide +kernel) (Or.inl (gW_at 447 (by decide +kernel) rfl))
    · cases h; exact eV_mk mX8_copy wX8_copy (by decide +kernel) (Or.inl (gW_at 443 (by decide +kernel) rfl))
    · cases h; exact eV_mk mX1_share wX1_share (by decide +kernel) (Or.inl (gW_at 510 (by decide +kernel) rfl))
    · cases h
  · cases h
set_option maxRecDepth 100000 in
set_option maxHeartbeats 4000000 in
theorem sX1_simplify : eSafe TX1_simplify (cdOf kX1_simplify) 3 none SX1_simplify := by
  intro K rt hK as M h
  obtain ⟨F, A, W, ar, base, n, V, rfl, rfl, hw, hV, hb, ds, h⟩ := h
  refine ⟨by simp [eE], ?_⟩
  have wr := wa_r hw
  have c780 := cB_pos 62
  have gb78 : ∀ i, i ≤ n → (cG V i : Int) < cB ^ 62 := fun i hi => by
    have hd := cG_d V i
    rcases Nat.eq_zero_or_pos (cG V i) with q | q
    · rw [q]; exact c780
    · -- some entry is not 0
      rcases Classical.em (∃ k, k < i ∧ V k ≠ 0) with ⟨k, hk, hne⟩ | g
      · have h1 := Int.le_of_dvd (a := (cG V i : Int)) (b := zAbs (V k)) (by rcases zSg_c (V k) with g | g | g <;> omega) (by
          have := hd k hk
          rcases zSg_c (V k) with g | g | g
          · rw [g.2.2]; exact Int.dvd_neg.mpr this
          · rw [g.2.2]; exact ⟨0, by omega⟩
          · rw [g.2.2]; exact this)
        have := hb k (by omega)
        omega
      · have z : ∀ m, m ≤ i → cG V m = 0 := fun m => by
          induction m with
          | zero => intro _; rfl
          | succ m ih =>
            intro hm
            have e : V m = 0 := Decidable.not_not.mp (fun q => g ⟨m, by omega, q⟩)
            show Int.gcd (cG V m : Int) (V m) = 0
            rw [ih (by omega), e]
            rfl
        rw [z i (Nat.le_refl _)] at q
        omega
  -- all are shared
  have two : ∀ (d i : Nat) (W1 : Nat → Int → Int), i + d = n → 0 < (cG V n : Int) → wq (lw 5) (W1 5) (cG V n : Int) → (∀ t, 10 ≤ t → (t < base ∨ base + i ≤ t) → W1 t = W t) → (∀ k, k < i → wq (lw (base + k)) (W1 (base + k)) (V k / (cG V n : Int))) → (∀ t, t < 10 → dv W1 t) →
      K 82 [some (eR (1, 2)), some (eR ar), some (eI i)] [] (cC F A W1) := by
    intro d
    induction d with
    | zero =>
      intro i W1 hi hp h5 hf hv hd
      have : i = n := by omega
      subst this
      refine x_iload_n hK kX1_simplify_82 (q := 83) rfl rfl ?_
      refine x_aload_n hK kX1_simplify_83 (q := 84) rfl rfl ?_
      refine x_arraylength hK kX1_simplify_84 (q := 85) rfl (wa_n hw ?_)
      refine x_icmp_ge hK kX1_simplify_85 (q := 88) rfl (tg := 105) rfl (by refine ⟨?_, ?_⟩ <;> omega) (fun c85 => ?_) (fun c85 => ?_)
      · refine x_return_ hK kX1_simplify_105 (by first | trivial | exact Or.inl rfl | exact Or.inr rfl) ?_
        exact h W1 hf hv hd
      · exfalso; omega
    | succ d ih =>
      intro i W1 hi hp h5 hf hv hd
      refine x_iload_n hK kX1_simplify_82 (q := 83) rfl rfl ?_
      refine x_aload_n hK kX1_simplify_83 (q := 84) rfl rfl ?_
      refine x_arraylength hK kX1_simplify_84 (q := 85) rfl (wa_n hw ?_)
      refine x_icmp_ge hK kX1_simplify_85 (q := 88) rfl (tg := 105) rfl (by refine ⟨?_, ?_⟩ <;> omega) (fun c85 => ?_) (fun c85 => ?_)
      · exfalso; omega
      · refine x_aload_n hK kX1_simplify_88 (q := 89) rfl rfl ?_
        refine x_aload_n hK kX1_simplify_89 (q := 90) rfl rfl ?_
        refine x_iload_n hK kX1_simplify_90 (q := 91) rfl rfl ?_
        refine x_aaload hK kX1_simplify_91 (q := 92) rfl (wa_a hw (by omega) ?_)
        refine x_aload_n hK kX1_simplify_92 (q := 93) rfl rfl ?_
        refine x_getfield hK kX1_simplify_93 (q := 96) rfl (gX1_32 ?_)
        refine x_cv3 hK kX1_simplify_96 (q := 99) rfl (vtX1_simplify_140) (Nat.le_of_ble_eq_true rfl) ?_
        refine SX1_share_i (k := base + i) (x := V i) (d := (cG V n : Int)) (by omega) (by decide) (by omega) (by decide) (by omega) (by decide) (by omega) (by rw [hf _ (by omega) (by omega)]; exact hV i (by omega)) h5 hp (cG_d V n i (by omega)) (hb i (by omega)) (hd 2 (by decide)) (hd 4 (by decide)) (fun W2 f2 g2 e2 e4 => ?_)
        refine x_iinc hK kX1_simplify_99 (q := 102) rfl rfl ?_
        simp only [lS, lS2, clr_0, clr_I, clr_L, clr_R]
        refine x_goto hK kX1_simplify_102 (tg := 82) rfl ?_
        rw [show (i : Int) + 1 = ((i + 1 : Nat) : Int) by omega]
        refine ih (i + 1) W2 (by omega) hp (by rw [f2 5 (by decide) (by decide) (by omega)]; exact h5) (fun t t0 t1 => by rw [f2 t (by omega) (by omega) (by omega)]; exact hf t t0 (by omega)) (fun k hk => ?_) (fun t ht => ?_)
        · rcases Nat.lt_or_ge k i with q | q
          · rw [f2 _ (by omega) (by omega) (by omega)]; exact hv k q
          · rw [show k = i by omega]; exact g2
        · by_cases q2 : t = 2
          · rw [q2]; exact e2
          · by_cases q4 : t = 4
            · rw [q4]; exact e4
            · exact dv_n (hd t ht) (f2 t q2 q4 (by omega))
  have mid : ∀ (W1 : Nat → Int → Int) (i : Int), wq (lw 5) (W1 5) (cG V n : Int) → (∀ t, 10 ≤ t → W1 t = W t) → (∀ t, t < 10 → dv W1 t) → K 59 [some (eR (1, 2)), some (eR ar), some (eI i)] [] (cC F A W1) := by
    intro W1 i h5 hf hd
    refine x_aload_n hK kX1_simplify_59 (q := 60) rfl rfl ?_
    refine x_getfield hK kX1_simplify_60 (q := 63) rfl (gX1_32 ?_)
    refine x_cv1 hK kX1_simplify_63 (q := 66) rfl (vtX1_simplify_47) (Nat.le_of_ble_eq_true rfl) ?_
    refine SX8_isZero_i (by decide) h5 ?_
    refine x_if_ne hK kX1_simplify_66 (q := 69) rfl (tg := 79) rfl (by exact zZ_w _) (fun c66 => ?_) (fun c66 => ?_)
    · have g0 : (cG V n : Int) = 0 := Decidable.not_not.mp (fun g => c66 (zZ_0.mpr g))
      have hfin := h W1 (fun t t0 _ => hf t t0) (fun k hk => by
        have := cG_d V n k hk
        rw [g0] at this ⊢
        have e := Int.zero_dvd.mp this
        rw [e, Int.ediv_zero, hf _ (by omega), ← e]
        exact hV k hk) hd
      refine x_return_ hK kX1_simplify_79 (by first | trivial | exact Or.inl rfl | exact Or.inr rfl) ?_
      exact hfin
    · have g0 : (cG V n : Int) ≠ 0 := zZ_0.mp (Decidable.not_not.mp c66)
      refine x_aload_n hK kX1_simplify_69 (q := 70) rfl rfl ?_
      refine x_getfield hK kX1_simplify_70 (q := 73) rfl (gX1_32 ?_)
      refine x_cv1 hK kX1_simplify_73 (q := 76) rfl (vtX1_simplify_130) (Nat.le_of_ble_eq_true rfl) ?_
      refine SX8_isOne_i (by decide) h5 ?_
      refine x_if_eq hK kX1_simplify_76 (q := 79) rfl (tg := 80) rfl (by exact zO_w _) (fun c76 => ?_) (fun c76 => ?_)
      · refine x_iconst hK kX1_simplify_80 (q := 81) rfl ?_
        refine x_istore_n hK kX1_simplify_81 (q := 82) (jn := 2) rfl rfl ?_
        simp only [lS, lS2, clr_0, clr_I, clr_L, clr_R]
        exact two n 0 W1 (by omega) (by omega) h5 (fun t t0 _ => hf t t0) (fun k hk => absurd hk (by omega)) hd
      · have g1 : (cG V n : Int) = 1 := Decidable.not_not.mp (fun g => c76 (zO_0.mpr g))
        have hfin := h W1 (fun t t0 _ => hf t t0) (fun k hk => by
          rw [g1, Int.ediv_one, hf _ (by omega)]
          exact hV k hk) hd
        refine x_return_ hK kX1_simplify_79 (by first | trivial | exact Or.inl rfl | exact Or.inr rfl) ?_
        exact hfin
  have one : ∀ (d i : Nat) (W1 : Nat → Int → Int), i + d = n → wq (lw 5) (W1 5) (cG V i : Int) → (∀ t, 10 ≤ t → W1 t = W t) → (∀ t, t < 10 → dv W1 t) →
      K 10 [some (eR (1, 2)), some (eR ar), some (eI i)] [] (cC F A W1) := by
    intro d
    induction d with
    | zero =>
      intro i W1 hi h5 hf hd
      have : i = n := by omega
      subst this
      refine x_iload_n hK kX1_simplify_10 (q := 11) rfl rfl ?_
      refine x_aload_n hK kX1_simplify_11 (q := 12) rfl rfl ?_
      refine x_arraylength hK kX1_simplify_12 (q := 13) rfl (wa_n hw ?_)
      refine x_icmp_ge hK kX1_simplify_13 (q := 16) rfl (tg := 59) rfl (by refine ⟨?_, ?_⟩ <;> omega) (fun c13 => ?_) (fun c13 => ?_)
      · exact mid W1 _ h5 hf hd
      · exfalso; omega
    | succ d ih =>
      intro i W1 hi h5 hf hd
      refine x_iload_n hK kX1_simplify_10 (q := 11) rfl rfl ?_
      refine x_aload_n hK kX1_simplify_11 (q := 12) rfl rfl ?_
      refine x_arraylength hK kX1_simplify_12 (q := 13) rfl (wa_n hw ?_)
      refine x_icmp_ge hK kX1_simplify_13 (q := 16) rfl (tg := 59) rfl (by refine ⟨?_, ?_⟩ <;> omega) (fun c13 => ?_) (fun c13 => ?_)
      · exfalso; omega
      · refine x_aload_n hK kX1_simplify_16 (q := 17) rfl rfl ?_
        refine x_getfield hK kX1_simplify_17 (q := 20) rfl (gX1_32 ?_)
        refine x_cv1 hK kX1_simplify_20 (q := 23) rfl (vtX1_simplify_130) (Nat.le_of_ble_eq_true rfl) ?_
        refine SX8_isOne_i (by decide) h5 ?_
        refine x_if_ne hK kX1_simplify_23 (q := 26) rfl (tg := 59) rfl (by exact zO_w _) (fun c23 => ?_) (fun c23 => ?_)
        · have g1 : (cG V i : Int) = 1 := Decidable.not_not.mp (fun g => c23 (zO_0.mpr g))
          have g2 := cG_1 V (i := i) (by omega) (d + 1)
          rw [hi] at g2
          exact mid W1 _ (by rw [g2]; rw [g1] at h5; exact h5) hf hd
        · refine x_aload_n hK kX1_simplify_26 (q := 27) rfl rfl ?_
          refine x_iload_n hK kX1_simplify_27 (q := 28) rfl rfl ?_
          refine x_aaload hK kX1_simplify_28 (q := 29) rfl (wa_a hw (by omega) ?_)
          refine x_cv1 hK kX1_simplify_29 (q := 32) rfl (vtX1_simplify_47) (Nat.le_of_ble_eq_true rfl) ?_
          refine SX8_isZero_i (k := base + i) (by omega) (by rw [hf _ (by omega)]; exact hV i (by omega)) ?_
          refine x_if_ne hK kX1_simplify_32 (q := 35) rfl (tg := 53) rfl (by exact zZ_w _) (fun c32 => ?_) (fun c32 => ?_)
          · have g0 : V i = 0 := Decidable.not_not.mp (fun g => c32 (zZ_0.mpr g))
            have nx := ih (i + 1) W1 (by omega) (by
              have e : cG V (i + 1) = cG V i := by
                show Int.gcd (cG V i : Int) (V i) = _
                rw [g0, Int.gcd_zero_right]
                rfl
              rw [e]
              exact h5) hf hd
            refine x_iinc hK kX1_simplify_53 (q := 56) rfl rfl ?_
            simp only [lS, lS2, clr_0, clr_I, clr_L, clr_R]
            refine x_goto hK kX1_simplify_56 (tg := 10) rfl ?_
            exact nx
          · refine x_aload_n hK kX1_simplify_35 (q := 36) rfl rfl ?_
            refine x_getfield hK kX1_simplify_36 (q := 39) rfl (gX1_32 ?_)
            refine x_aload_n hK kX1_simplify_39 (q := 40) rfl rfl ?_
            refine x_aload_n hK kX1_simplify_40 (q := 41) rfl rfl ?_
            refine x_getfield hK kX1_simplify_41 (q := 44) rfl (gX1_32 ?_)
            refine x_aload_n hK kX1_simplify_44 (q := 45) rfl rfl ?_
            refine x_iload_n hK kX1_simplify_45 (q := 46) rfl rfl ?_
            refine x_aaload hK kX1_simplify_46 (q := 47) rfl (wa_a hw (by omega) ?_)
            refine x_cv3 hK kX1_simplify_47 (q := 50) rfl (vtX1_simplify_136) (Nat.le_of_ble_eq_true rfl) ?_
            refine SX1_divisor_i (b := base + i) (x := (cG V i : Int)) (y := V i) (by decide) (by omega) (by decide) (by omega) h5 (by rw [hf _ (by omega)]; exact hV i (by omega)) (by rw [zAbs_nn (by omega)]; exact gb78 i (by omega)) (hb i (by omega)) (hd 2 (by decide)) (hd 3 (by decide)) (fun W2 r hr f1 d1 q1 => ?_)
            refine x_cv2 hK kX1_simplify_50 (q := 53) rfl (vtX1_simplify_89) (Nat.le_of_ble_eq_true rfl) ?_
            refine SX8_copy_i (z := (Int.gcd (cG V i : Int) (V i) : Int)) (by decide) (by omega) (by omega) q1 (to_d (by decide) q1) (fun f hf2 => ?_)
            have nx := ih (i + 1) (uA W2 5 f) (by omega) (by rw [uA_g]; exact hf2) (fun t ht => by rw [uA_n _ _ (by omega), f1 t (by omega)]; exact hf t ht) (fun t ht => by
              by_cases q5 : t = 5
              · rw [q5]; exact ⟨_, by rw [uA_g]; exact hf2⟩
              · rcases Nat.lt_or_ge t 4 with g | g
                · exact dv_n (d1 t g) (uA_n _ _ q5)
                · exact dv_n (hd t ht) (by rw [uA_n _ _ q5, f1 t g]))
            refine x_iinc hK kX1_simplify_53 (q := 56) rfl rfl ?_
            simp only [lS, lS2, clr_0, clr_I, clr_L, clr_R]
            refine x_goto hK kX1_simplify_56 (tg := 10) rfl ?_
            exact nx
  simp only [eLoc, eE, List.length_cons, List.length_nil, List.replicate, List.cons_append, List.nil_append, Nat.reduceAdd, Nat.reduceSub]
  refine x_aload_n hK kX1_simplify_0 (q := 1) rfl rfl ?_
  refine x_getfield hK kX1_simplify_1 (q := 4) rfl (gX1_32 ?_)
  refine x_lconst0 hK kX1_simplify_4 (q := 5) rfl ?_
  refine x_cv2 hK kX1_simplify_5 (q := 8) rfl (vtX1_simplify_59) (Nat.le_of_ble_eq_true rfl) ?_
  refine SX8_set_i (by decide) (by decide) (fun f hf => ?_)
  refine x_iconst hK kX1_simplify_8 (q := 9) rfl ?_
  refine x_istore_n hK kX1_simplify_9 (q := 10) (jn := 2) rfl rfl ?_
  simp only [lS, lS2, clr_0, clr_I, clr_L, clr_R]
  refine one n 0 _ (by omega) (by rw [uA_g]; exact hf) (fun t ht => uA_n _ _ (by omega)) (fun t ht => ?_)
  by_cases q5 : t = 5
  · rw [q5]; exact ⟨_, by rw [uA_g]; exact hf⟩
  · exact dv_n (ds t ht) (uA_n _ _ q5)
set_option maxRecDepth 20000 in
theorem mX1_simplify : eMet yX1_simplify cX1_simplify 3 none 3 90 SX1_simplify := eMet_of (by decide +kernel) sX1_simplify kX1_simplify_ok caX1_simplify tb_RX1
theorem wX1_simplify : eWV yX1_simplify cX1_simplify 3 none 2 1 SX1_simplify := ⟨(gW_at 551 (by decide +kernel) rfl), (gW_at 80 (by decide +kernel) rfl), (gW_at 549 (by decide +kernel) rfl), ⟨_, rfl, (gW_at 550 (by decide +kernel) rfl)⟩, by decide +kernel, SX1_simplify_r⟩
