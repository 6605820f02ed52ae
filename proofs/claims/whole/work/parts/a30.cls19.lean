/-! The ideal: loadMultiple, reduce. -/
def bx (w : Int) : Int := if w = 0 then 1 else 0
theorem tg_h : ∀ w : Fin 2, ∀ i : Fin 6, (i.val : Int) + oD (i.val : Int) + 2 - (w.val : Nat) = (sh (w.val : Nat) i.val : Nat) ∧ sh (w.val : Nat) i.val < 10 := by decide +kernel
def xw (w : Int) (v : Nat → Int) : Nat → Int := fun c => if shP w c < 6 then v (shP w c) else 0
def SX3_loadMultiple : eSp := fun as M rt => ∃ (F : Nat → Int) (A W : Nat → Int → Int) (k : Nat) (w : Int) (R : Nat → Nat → Int), as = [eR (1, 3), eI k, eI (bx w)] ∧ M = cC F A W ∧ (k < 10) ∧ (w = 0 ∨ w = 1) ∧ (iR W R) ∧ (∀ i : Int, 0 ≤ i → i < 10 → A 2 i = 0 ∨ A 2 i = 1) ∧ (A 2 k = 1) ∧ (∀ W', iO W W' → iR W' (uR R 10 (xw w (R k))) → rt none (cC F A W'))
theorem SX3_loadMultiple_i {F : Nat → Int} {A W : Nat → Int → Int} {k : Nat} {w : Int} {R : Nat → Nat → Int} {rt : Option eV → eM → Prop} (hk : k < 10) (hw : w = 0 ∨ w = 1) (hR : iR W R) (hL : ∀ i : Int, 0 ≤ i → i < 10 → A 2 i = 0 ∨ A 2 i = 1) (hLk : A 2 k = 1) (h : ∀ W', iO W W' → iR W' (uR R 10 (xw w (R k))) → rt none (cC F A W')) : SX3_loadMultiple [eR (1, 3), eI k, eI (bx w)] (cC F A W) rt := ⟨F, A, W, k, w, R, rfl, rfl, hk, hw, hR, hL, hLk, h⟩
theorem SX3_loadMultiple_r : ∀ as M rt, SX3_loadMultiple as M rt → ∃ a r fs, as = eR a :: r ∧ M a = some (.inl (3, fs)) := by
  rintro as M rt ⟨F, A, W, k, w, R, rfl, rfl, -⟩
  exact ⟨_, _, _, rfl, rfl⟩
def kX3_loadMultiple : List (Nat × Jvm.ClassFile.Instr × Nat) := [(0, .aload_n 0, 1), (1, .getfield 29, 3), (4, .invokevirtual 75, 3), (7, .iconst 0, 1), (8, .istore_n 3, 1), (9, .iload_n 3, 1), (10, .bipush 6, 2), (12, .if_icmp .ge 70, 3), (15, .iload_n 2, 1), (16, .ifCond .eq 10, 3), (19, .iload_n 3, 1), (20, .invokestatic 90, 3), (23, .goto 7, 3), (26, .iload_n 3, 1), (27, .invokestatic 94, 3), (30, .istore 4, 2), (32, .iload 4, 2), (34, .ifCond .lt 42, 3), (37, .iload 4, 2), (39, .bipush 10, 2), (41, .if_icmp .ge 35, 3), (44, .aload_n 0, 1), (45, .iload_n 1, 1), (46, .invokevirtual 97, 3), (49, .ifCond .eq 27, 3), (52, .aload_n 0, 1), (53, .getfield 29, 3), (56, .getfield 78, 3), (59, .iload 4, 2), (61, .aaload, 1), (62, .aload_n 0, 1), (63, .getfield 15, 3), (66, .iload_n 1, 1), (67, .aaload, 1), (68, .getfield 78, 3), (71, .iload_n 3, 1), (72, .aaload, 1), (73, .invokevirtual 101, 3), (76, .iinc 3 1, 3), (79, .goto (-70), 3), (82, .return_, 1)]
theorem kX3_loadMultiple_0 : cdOf kX3_loadMultiple 0 = some (.aload_n 0, 1) := by decide +kernel
theorem kX3_loadMultiple_1 : cdOf kX3_loadMultiple 1 = some (.getfield 29, 3) := by decide +kernel
theorem kX3_loadMultiple_4 : cdOf kX3_loadMultiple 4 = some (.invokevirtual 75, 3) := by decide +kernel
theorem kX3_loadMultiple_7 : cdOf kX3_loadMultiple 7 = some (.iconst 0, 1) := by decide +kernel
theorem kX3_loadMultiple_8 : cdOf kX3_loadMultiple 8 = some (.istore_n 3, 1) := by decide +kernel
theorem kX3_loadMultiple_9 : cdOf kX3_loadMultiple 9 = some (.iload_n 3, 1) := by decide +kernel
theorem kX3_loadMultiple_10 : cdOf kX3_loadMultiple 10 = some (.bipush 6, 2) := by decide +kernel
theorem kX3_loadMultiple_12 : cdOf kX3_loadMultiple 12 = some (.if_icmp .ge 70, 3) := by decide +kernel
theorem kX3_loadMultiple_15 : cdOf kX3_loadMultiple 15 = some (.iload_n 2, 1) := by decide +kernel
theorem kX3_loadMultiple_16 : cdOf kX3_loadMultiple 16 = some (.ifCond .eq 10, 3) := by decide +kernel
theorem kX3_loadMultiple_19 : cdOf kX3_loadMultiple 19 = some (.iload_n 3, 1) := by decide +kernel
theorem kX3_loadMultiple_20 : cdOf kX3_loadMultiple 20 = some (.invokestatic 90, 3) := by decide +kernel
theorem kX3_loadMultiple_23 : cdOf kX3_loadMultiple 23 = some (.goto 7, 3) := by decide +kernel
theorem kX3_loadMultiple_26 : cdOf kX3_loadMultiple 26 = some (.iload_n 3, 1) := by decide +kernel
theorem kX3_loadMultiple_27 : cdOf kX3_loadMultiple 27 = some (.invokestatic 94, 3) := by decide +kernel
theorem kX3_loadMultiple_30 : cdOf kX3_loadMultiple 30 = some (.istore 4, 2) := by decide +kernel
theorem kX3_loadMultiple_32 : cdOf kX3_loadMultiple 32 = some (.iload 4, 2) := by decide +kernel
theorem kX3_loadMultiple_34 : cdOf kX3_loadMultiple 34 = some (.ifCond .lt 42, 3) := by decide +kernel
theorem kX3_loadMultiple_37 : cdOf kX3_loadMultiple 37 = some (.iload 4, 2) := by decide +kernel
theorem kX3_loadMultiple_39 : cdOf kX3_loadMultiple 39 = some (.bipush 10, 2) := by decide +kernel
theorem kX3_loadMultiple_41 : cdOf kX3_loadMultiple 41 = some (.if_icmp .ge 35, 3) := by decide +kernel
theorem kX3_loadMultiple_44 : cdOf kX3_loadMultiple 44 = some (.aload_n 0, 1) := by decide +kernel
theorem kX3_loadMultiple_45 : cdOf kX3_loadMultiple 45 = some (.iload_n 1, 1) := by decide +kernel
theorem kX3_loadMultiple_46 : cdOf kX3_loadMultiple 46 = some (.invokevirtual 97, 3) := by decide +kernel
theorem kX3_loadMultiple_49 : cdOf kX3_loadMultiple 49 = some (.ifCond .eq 27, 3) := by decide +kernel
theorem kX3_loadMultiple_52 : cdOf kX3_loadMultiple 52 = some (.aload_n 0, 1) := by decide +kernel
theorem kX3_loadMultiple_53 : cdOf kX3_loadMultiple 53 = some (.getfield 29, 3) := by decide +kernel
theorem kX3_loadMultiple_56 : cdOf kX3_loadMultiple 56 = some (.getfield 78, 3) := by decide +kernel
theorem kX3_loadMultiple_59 : cdOf kX3_loadMultiple 59 = some (.iload 4, 2) := by decide +kernel
theorem kX3_loadMultiple_61 : cdOf kX3_loadMultiple 61 = some (.aaload, 1) := by decide +kernel
theorem kX3_loadMultiple_62 : cdOf kX3_loadMultiple 62 = some (.aload_n 0, 1) := by decide +kernel
theorem kX3_loadMultiple_63 : cdOf kX3_loadMultiple 63 = some (.getfield 15, 3) := by decide +kernel
theorem kX3_loadMultiple_66 : cdOf kX3_loadMultiple 66 = some (.iload_n 1, 1) := by decide +kernel
theorem kX3_loadMultiple_67 : cdOf kX3_loadMultiple 67 = some (.aaload, 1) := by decide +kernel
theorem kX3_loadMultiple_68 : cdOf kX3_loadMultiple 68 = some (.getfield 78, 3) := by decide +kernel
theorem kX3_loadMultiple_71 : cdOf kX3_loadMultiple 71 = some (.iload_n 3, 1) := by decide +kernel
theorem kX3_loadMultiple_72 : cdOf kX3_loadMultiple 72 = some (.aaload, 1) := by decide +kernel
theorem kX3_loadMultiple_73 : cdOf kX3_loadMultiple 73 = some (.invokevirtual 101, 3) := by decide +kernel
theorem kX3_loadMultiple_76 : cdOf kX3_loadMultiple 76 = some (.iinc 3 1, 3) := by decide +kernel
theorem kX3_loadMultiple_79 : cdOf kX3_loadMultiple 79 = some (.goto (-70), 3) := by decide +kernel
theorem kX3_loadMultiple_82 : cdOf kX3_loadMultiple 82 = some (.return_, 1) := by decide +kernel
set_option maxRecDepth 20000 in
theorem kX3_loadMultiple_ok : ∀ pc i len, cdOf kX3_loadMultiple pc = some (i, len) → decode cX3_loadMultiple pc = .ok (i, len) ∧ stOK 5 i = true ∧ jOK pc i = true ∧ eLen i len = true := cdOf_ok cX3_loadMultiple 5 kX3_loadMultiple (by decide +kernel)
def vtX3_loadMultiple : Nat → Option (Nat × eSp) := fun k => match k with
  | 75 => some (1, SX7_wipe)
  | 97 => some (2, SX3_isLead)
  | 101 => some (2, SX8_copy)
  | _ => none
theorem vtX3_loadMultiple_75 : vtX3_loadMultiple 75 = some (1, SX7_wipe) := rfl
theorem vtX3_loadMultiple_97 : vtX3_loadMultiple 97 = some (2, SX3_isLead) := rfl
theorem vtX3_loadMultiple_101 : vtX3_loadMultiple 101 = some (2, SX8_copy) := rfl
def stX3_loadMultiple : Nat → Option (Nat × eSp) := fun k => match k with
  | 90 => some (1, SX5_timesX)
  | 94 => some (1, SX5_timesY)
  | _ => none
theorem stX3_loadMultiple_90 : stX3_loadMultiple 90 = some (1, SX5_timesX) := rfl
theorem stX3_loadMultiple_94 : stX3_loadMultiple 94 = some (1, SX5_timesY) := rfl
abbrev TX3_loadMultiple : eT := (fl_RX3, cl_RX3, dl_RX3, vtX3_loadMultiple, stX3_loadMultiple)
set_option maxRecDepth 20000 in
theorem caX3_loadMultiple : eCalls RX3 { frames := 2, cells := 0, slots := 0, locals := 48 } TX3_loadMultiple := by
  refine ⟨fun k n sp h => ?_, fun k n sp h => ?_⟩
  · dsimp only [TX3_loadMultiple] at h
    unfold vtX3_loadMultiple at h
    split at h
    · cases h; exact eV_mk mX7_wipe wX7_wipe (by decide +kernel) (Or.inl (gW_at 420 (by decide +kernel) rfl))
    · cases h; exact eV_mk mX3_isLead wX3_isLead (by decide +kernel) (Or.inl (gW_at 580 (by decide +kernel) rfl))
    · cases h; exact eV_mk mX8_copy wX8_copy (by decide +kernel) (Or.inl (gW_at 584 (by decide +kernel) rfl))
    · cases h
  · dsimp only [TX3_loadMultiple] at h
    unfold stX3_loadMultiple at h
    split at h
    · cases h; exact eS_mk mX5_timesX wX5_timesX (by decide +kernel) (Or.inl (gW_at 571 (by decide +kernel) rfl))
    · cases h; exact eS_mk mX5_timesY wX5_timesY (by decide +kernel) (Or.inl (gW_at 577 (by decide +kernel) rfl))
    · cases h
set_option maxRecDepth 100000 in
set_option maxHeartbeats 4000000 in
theorem sX3_loadMultiple : eSafe TX3_loadMultiple (cdOf kX3_loadMultiple) 5 none SX3_loadMultiple := by
  intro K rt hK as M h
  obtain ⟨F, A, W, k, w, R, rfl, rfl, hk, hw, hR, hL, hLk, h⟩ := h
  refine ⟨by simp [eE], ?_⟩
  have e10 : rb 10 = 110 ∧ rl 10 = 10 := rb_11 (by decide)
  have ek := rb_11 (show k < 11 by omega)
  have bw : w32 (bx w) := by unfold bx; split <;> decide
  have loop : ∀ (d i : Nat) (W1 : Nat → Int → Int) (u4 : Option eV), i + d = 6 → iO W W1 → iR W1 (uR R 10 (fun c => if shP w c < i then R k (shP w c) else 0)) → K 9 [some (eR (1, 3)), some (eI k), some (eI (bx w)), some (eI i), u4] [] (cC F A W1) := by
    intro d
    induction d with
    | zero =>
      intro i W1 u4 hi ho hr
      have : i = 6 := by omega
      subst this
      refine x_iload_n hK kX3_loadMultiple_9 (q := 10) rfl rfl ?_
      refine x_bipush hK kX3_loadMultiple_10 (q := 12) rfl (by decide) ?_
      refine x_icmp_ge hK kX3_loadMultiple_12 (q := 15) rfl (tg := 82) rfl (by refine ⟨?_, ?_⟩ <;> omega) (fun c12 => ?_) (fun c12 => ?_)
      · refine x_return_ hK kX3_loadMultiple_82 (by first | trivial | exact Or.inl rfl | exact Or.inr rfl) ?_
        exact h W1 ho hr
      · exfalso; omega
    | succ d ih =>
      intro i W1 u4 hi ho hr
      have tg : (i : Int) + oD i + 2 - w = (sh w i : Nat) ∧ sh w i < 10 := by
        rcases hw with rfl | rfl
        · exact tg_h 0 ⟨i, by omega⟩
        · exact tg_h 1 ⟨i, by omega⟩
      have od := oD_r i
      have go : ∀ u4, K 34 [some (eR (1, 3)), some (eI k), some (eI (bx w)), some (eI i), u4] [eI ((sh w i : Nat) : Int)] (cC F A W1) → True := fun _ _ => trivial
      have main : K 32 [some (eR (1, 3)), some (eI k), some (eI (bx w)), some (eI i), some (eI ((sh w i : Nat) : Int))] [] (cC F A W1) := by
        refine x_iload hK kX3_loadMultiple_32 (q := 34) rfl rfl ?_
        refine x_if_lt hK kX3_loadMultiple_34 (q := 37) rfl (tg := 76) rfl (by omega) (fun c34 => ?_) (fun c34 => ?_)
        · exfalso; omega
        · refine x_iload hK kX3_loadMultiple_37 (q := 39) rfl rfl ?_
          refine x_bipush hK kX3_loadMultiple_39 (q := 41) rfl (by decide) ?_
          refine x_icmp_ge hK kX3_loadMultiple_41 (q := 44) rfl (tg := 76) rfl (by refine ⟨?_, ?_⟩ <;> omega) (fun c41 => ?_) (fun c41 => ?_)
          · exfalso; omega
          · refine x_aload_n hK kX3_loadMultiple_44 (q := 45) rfl rfl ?_
            refine x_iload_n hK kX3_loadMultiple_45 (q := 46) rfl rfl ?_
            refine x_cv2 hK kX3_loadMultiple_46 (q := 49) rfl (vtX3_loadMultiple_97) (Nat.le_of_ble_eq_true rfl) ?_
            refine SX3_isLead_i ⟨by omega, by omega⟩ hL ?_
            refine x_if_eq hK kX3_loadMultiple_49 (q := 52) rfl (tg := 76) rfl (by exact zE_w _) (fun c49 => ?_) (fun c49 => ?_)
            · exact absurd ⟨by omega, by omega, hLk⟩ (zE_0.mp c49)
            · refine x_aload_n hK kX3_loadMultiple_52 (q := 53) rfl rfl ?_
              refine x_getfield hK kX3_loadMultiple_53 (q := 56) rfl (gX3_29 ?_)
              refine x_getfield hK kX3_loadMultiple_56 (q := 59) rfl (gX3_78 ?_)
              refine x_iload hK kX3_loadMultiple_59 (q := 61) rfl rfl ?_
              refine x_aaload hK kX3_loadMultiple_61 (q := 62) rfl (wa_a wa_6 (by rw [e10.2]; omega) ?_)
              refine x_aload_n hK kX3_loadMultiple_62 (q := 63) rfl rfl ?_
              refine x_getfield hK kX3_loadMultiple_63 (q := 66) rfl (gX3_15 ?_)
              refine x_iload_n hK kX3_loadMultiple_66 (q := 67) rfl rfl ?_
              refine x_aaload hK kX3_loadMultiple_67 (q := 68) rfl (aC3_1 (by omega) ?_)
              refine x_getfield hK kX3_loadMultiple_68 (q := 71) rfl (gX3_78 ?_)
              refine x_iload_n hK kX3_loadMultiple_71 (q := 72) rfl rfl ?_
              refine x_aaload hK kX3_loadMultiple_72 (q := 73) rfl (wa_a wa_6 (by rw [ek.2]; omega) ?_)
              refine x_cv2 hK kX3_loadMultiple_73 (q := 76) rfl (vtX3_loadMultiple_101) (Nat.le_of_ble_eq_true rfl) ?_
              refine SX8_copy_i (k := rb 10 + sh w i) (j := rb k + i) (z := R k i) (by omega) (by omega) (by omega) (by have := hr.1 k (by omega) i (by omega); rw [uR_n _ _ (by omega)] at this; exact this) (fun f hf => ?_)
              refine x_iinc hK kX3_loadMultiple_76 (q := 79) rfl rfl ?_
              simp only [lS, lS2, clr_0, clr_I, clr_L, clr_R]
              refine x_goto hK kX3_loadMultiple_79 (tg := 9) rfl ?_
              rw [show (i : Int) + 1 = ((i + 1 : Nat) : Int) by omega]
              refine ih (i + 1) _ _ (by omega) (fun t ht => by rw [uA_n _ _ (by omega)]; exact ho t ht) ?_
              have q := iR_u (W' := uA W1 (rb 10 + sh w i) f) (v := fun c => if shP w c < i + 1 then R k (shP w c) else 0) hr (show 10 < 11 by decide) (fun t t0 _ t1 => uA_n _ _ (by omega)) (fun c hc => by
                have se := shP_e (j := c) (k := i) hw (by omega) (by omega)
                rcases Decidable.em (c = sh w i) with g | g
                · rw [se.mpr g, if_pos (by omega), g, uA_g]; exact hf
                · rw [uA_n _ _ (by omega)]
                  have := hr.1 10 (by decide) c hc
                  rw [uR_s] at this
                  have ne : shP w c ≠ i := fun q => g (se.mp q)
                  rcases Nat.lt_or_ge (shP w c) i with g2 | g2
                  · rw [if_pos (by omega)]; rw [if_pos g2] at this; exact this
                  · rw [if_neg (by omega)]; rw [if_neg (by omega)] at this; exact this) (fun t ht => dv_n (hr.2 t ht) (uA_n _ _ (by omega)))
              rw [uR_u] at q
              exact q
      refine x_iload_n hK kX3_loadMultiple_9 (q := 10) rfl rfl ?_
      refine x_bipush hK kX3_loadMultiple_10 (q := 12) rfl (by decide) ?_
      refine x_icmp_ge hK kX3_loadMultiple_12 (q := 15) rfl (tg := 82) rfl (by refine ⟨?_, ?_⟩ <;> omega) (fun c12 => ?_) (fun c12 => ?_)
      · exfalso; omega
      · refine x_iload_n hK kX3_loadMultiple_15 (q := 16) rfl rfl ?_
        refine x_if_eq hK kX3_loadMultiple_16 (q := 19) rfl (tg := 26) rfl (by exact bw) (fun c16 => ?_) (fun c16 => ?_)
        · refine x_iload_n hK kX3_loadMultiple_26 (q := 27) rfl rfl ?_
          refine x_cs1 hK kX3_loadMultiple_27 (q := 30) rfl (stX3_loadMultiple_94) (Nat.le_of_ble_eq_true rfl) ?_
          refine SX5_timesY_i ⟨by omega, by omega⟩ ?_
          refine x_istore hK kX3_loadMultiple_30 (q := 32) rfl ?_
          simp only [lS, lS2, clr_0, clr_I, clr_L, clr_R]
          refine x_to main ?_ rfl rfl
          unfold bx at c16
          rcases hw with rfl | rfl
          · first | exact absurd c16 (by decide) | (rw [← tg.1, show (i : Int) + oD i + 2 - 0 = (i : Int) + oD i + 2 by omega])
          · first | exact absurd (by decide) c16 | (rw [← tg.1, show (i : Int) + oD i + 2 - 1 = (i : Int) + oD i + 1 by omega])
        · refine x_iload_n hK kX3_loadMultiple_19 (q := 20) rfl rfl ?_
          refine x_cs1 hK kX3_loadMultiple_20 (q := 23) rfl (stX3_loadMultiple_90) (Nat.le_of_ble_eq_true rfl) ?_
          refine SX5_timesX_i ⟨by omega, by omega⟩ ?_
          refine x_goto hK kX3_loadMultiple_23 (tg := 30) rfl ?_
          refine x_istore hK kX3_loadMultiple_30 (q := 32) rfl ?_
          simp only [lS, lS2, clr_0, clr_I, clr_L, clr_R]
          refine x_to main ?_ rfl rfl
          unfold bx at c16
          rcases hw with rfl | rfl
          · first | exact absurd c16 (by decide) | (rw [← tg.1, show (i : Int) + oD i + 2 - 0 = (i : Int) + oD i + 2 by omega])
          · first | exact absurd (by decide) c16 | (rw [← tg.1, show (i : Int) + oD i + 2 - 1 = (i : Int) + oD i + 1 by omega])
  simp only [eLoc, eE, List.length_cons, List.length_nil, List.replicate, List.cons_append, List.nil_append, Nat.reduceAdd, Nat.reduceSub]
  refine x_aload_n hK kX3_loadMultiple_0 (q := 1) rfl rfl ?_
  refine x_getfield hK kX3_loadMultiple_1 (q := 4) rfl (gX3_29 ?_)
  refine x_cv1 hK kX3_loadMultiple_4 (q := 7) rfl (vtX3_loadMultiple_75) (Nat.le_of_ble_eq_true rfl) ?_
  refine SX7_wipe_i (by decide) (fun W1 f1 g1 => ?_)
  refine x_iconst hK kX3_loadMultiple_7 (q := 8) rfl ?_
  refine x_istore_n hK kX3_loadMultiple_8 (q := 9) (jn := 3) rfl rfl ?_
  simp only [lS, lS2, clr_0, clr_I, clr_L, clr_R]
  refine loop 6 0 W1 _ rfl (fun t ht => f1 t (by omega)) ?_
  exact iR_u hR (show 10 < 11 by decide) (fun t _ _ t1 => f1 t (by omega)) (fun c hc => by rw [if_neg (by omega)]; exact g1 c (by omega)) (fun t ht => dv_n (hR.2 t ht) (f1 t (by omega)))
set_option maxRecDepth 20000 in
theorem mX3_loadMultiple : eMet yX3_loadMultiple cX3_loadMultiple 5 none 2 48 SX3_loadMultiple := eMet_of (by decide +kernel) sX3_loadMultiple kX3_loadMultiple_ok caX3_loadMultiple tb_RX3
theorem wX3_loadMultiple : eWV yX3_loadMultiple cX3_loadMultiple 5 none 3 3 SX3_loadMultiple := ⟨(gW_at 570 (by decide +kernel) rfl), (gW_at 84 (by decide +kernel) rfl), (gW_at 569 (by decide +kernel) rfl), ⟨_, rfl, (gW_at 16 (by decide +kernel) rfl)⟩, by decide +kernel, SX3_loadMultiple_r⟩
-- reduce
def el (v u : Nat → Int) (p : Nat) : Nat → Int := fun i => v i * (u p / (Int.gcd (u p) (v p) : Int)) - u i * (v p / (Int.gcd (u p) (v p) : Int))
def sm (v : Nat → Int) : Nat → Int := fun i => v i / (cG v 10 : Int)
def rdF (R : Nat → Nat → Int) (L : Int → Int) : Nat → (Nat → Int) → Int → (Nat → Int) × Int
  | 0, v, t => (v, t)
  | n + 1, v, t => if v n = 0 then rdF R L n v t else if L n = 0 then rdF R L n v (if t = -1 then n else t) else rdF R L n (sm (el v (R n) n)) t
def rdB (R : Nat → Nat → Int) (L : Int → Int) : Nat → (Nat → Int) → Prop
  | 0, _ => True
  | n + 1, v => if v n = 0 then rdB R L n v else if L n = 0 then rdB R L n v else (∃ a b, a + b ≤ 77 ∧ ∀ i, i < 10 → zAbs (v i) < cB ^ a ∧ zAbs (R n i) < cB ^ b) ∧ rdB R L n (sm (el v (R n) n))
theorem el_b {v u : Nat → Int} {p a b : Nat} (hp : p < 10) (u0 : 0 < u p) (hab : a + b ≤ 77) (h : ∀ i, i < 10 → zAbs (v i) < cB ^ a ∧ zAbs (u i) < cB ^ b) (i : Nat) (hi : i < 10) : zAbs (el v u p i) < cB ^ 78 := by
  have gp := gcd_p (y := v p) u0
  have q1 := zAbs_dv (u p) (m := (Int.gcd (u p) (v p) : Int)) (by omega)
  have q2 := zAbs_dv (v p) (m := (Int.gcd (u p) (v p) : Int)) (by omega)
  have h1 := h p hp
  have h2 := h i hi
  have pb : ∀ x y : Int, zAbs x < cB ^ a → zAbs y < cB ^ b → zAbs x * zAbs y < cB ^ 77 := fun x y hx hy => by
    have h1 := Int.mul_le_mul (show zAbs x ≤ cB ^ a - 1 by omega) (show zAbs y ≤ cB ^ b by omega) (zAbs_0 y) (by have := zAbs_0 x; omega)
    have h2 : (cB ^ a - 1) * cB ^ b = cB ^ (a + b) - cB ^ b := by rw [Int.sub_mul, Int.one_mul, ← Int.pow_add]
    have h3 := cB_mono hab
    have h4 := cB_pos b
    omega
  unfold el
  have t := zAbs_tri (v i * (u p / (Int.gcd (u p) (v p) : Int))) (-(u i * (v p / (Int.gcd (u p) (v p) : Int))))
  rw [zAbs_ng, zAbs_x, zAbs_x] at t
  have a1 := pb (v i) (u p / (Int.gcd (u p) (v p) : Int)) h2.1 (by omega)
  have a2 := pb (v p / (Int.gcd (u p) (v p) : Int)) (u i) (by omega) h2.2
  rw [Int.mul_comm] at a2
  have e : cB ^ 78 = cB ^ 77 * 2147483648 := cB_succ 77
  have c := cB_pos 77
  rw [show v i * (u p / (Int.gcd (u p) (v p) : Int)) - u i * (v p / (Int.gcd (u p) (v p) : Int)) = v i * (u p / (Int.gcd (u p) (v p) : Int)) + -(u i * (v p / (Int.gcd (u p) (v p) : Int))) by omega]
  omega
def SX3_reduce : eSp := fun as M rt => ∃ (F : Nat → Int) (A W : Nat → Int → Int) (r lim : Nat) (R : Nat → Nat → Int), as = [eR (1, 3), eR (7, r), eI lim] ∧ M = cC F A W ∧ (r < 11) ∧ (lim ≤ 10) ∧ (lim ≤ r) ∧ (iR W R) ∧ (∀ i : Int, 0 ≤ i → i < 10 → A 2 i = 0 ∨ A 2 i = 1) ∧ (∀ k : Nat, k < 10 → A 2 k = 1 → 0 < R k k) ∧ (rdB R (A 2) lim (R r)) ∧ (∀ W', iO W W' → iR W' (uR R r (rdF R (A 2) lim (R r) (-1)).1) → rt (some (eI (rdF R (A 2) lim (R r) (-1)).2)) (cC F A W'))
theorem SX3_reduce_i {F : Nat → Int} {A W : Nat → Int → Int} {r lim : Nat} {R : Nat → Nat → Int} {rt : Option eV → eM → Prop} (hr : r < 11) (hl : lim ≤ 10) (hrl : lim ≤ r) (hR : iR W R) (hL : ∀ i : Int, 0 ≤ i → i < 10 → A 2 i = 0 ∨ A 2 i = 1) (hp : ∀ k : Nat, k < 10 → A 2 k = 1 → 0 < R k k) (hB : rdB R (A 2) lim (R r)) (h : ∀ W', iO W W' → iR W' (uR R r (rdF R (A 2) lim (R r) (-1)).1) → rt (some (eI (rdF R (A 2) lim (R r) (-1)).2)) (cC F A W')) : SX3_reduce [eR (1, 3), eR (7, r), eI lim] (cC F A W) rt := ⟨F, A, W, r, lim, R, rfl, rfl, hr, hl, hrl, hR, hL, hp, hB, h⟩
theorem SX3_reduce_r : ∀ as M rt, SX3_reduce as M rt → ∃ a r fs, as = eR a :: r ∧ M a = some (.inl (3, fs)) := by
  rintro as M rt ⟨F, A, W, r, lim, R, rfl, rfl, -⟩
  exact ⟨_, _, _, rfl, rfl⟩
def kX3_reduce : List (Nat × Jvm.ClassFile.Instr × Nat) := [(0, .iconst (-1), 1), (1, .istore_n 3, 1), (2, .iload_n 2, 1), (3, .bipush 10, 2), (5, .invokestatic 122, 3), (8, .iconst 1, 1), (9, .isub, 1), (10, .istore 4, 2), (12, .iload 4, 2), (14, .ifCond .lt 80, 3), (17, .aload_n 1, 1), (18, .getfield 78, 3), (21, .iload 4, 2), (23, .aaload, 1), (24, .invokevirtual 127, 3), (27, .ifCond .eq 6, 3), (30, .goto 58, 3), (33, .aload_n 0, 1), (34, .getfield 19, 3), (37, .iload 4, 2), (39, .baload, 1), (40, .ifCond .eq 40, 3), (43, .aload_n 0, 1), (44, .getfield 44, 3), (47, .aload_n 1, 1), (48, .getfield 78, 3), (51, .aload_n 0, 1), (52, .getfield 15, 3), (55, .iload 4, 2), (57, .aaload, 1), (58, .getfield 78, 3), (61, .iload 4, 2), (63, .invokevirtual 131, 3), (66, .aload_n 0, 1), (67, .getfield 44, 3), (70, .aload_n 1, 1), (71, .getfield 78, 3), (74, .invokevirtual 105, 3), (77, .goto 11, 3), (80, .iload_n 3, 1), (81, .iconst (-1), 1), (82, .if_icmp .ne 6, 3), (85, .iload 4, 2), (87, .istore_n 3, 1), (88, .iinc 4 (-1), 3), (91, .goto (-79), 3), (94, .iload_n 3, 1), (95, .ireturn, 1)]
theorem kX3_reduce_0 : cdOf kX3_reduce 0 = some (.iconst (-1), 1) := by decide +kernel
theorem kX3_reduce_1 : cdOf kX3_reduce 1 = some (.istore_n 3, 1) := by decide +kernel
theorem kX3_reduce_2 : cdOf kX3_reduce 2 = some (.iload_n 2, 1) := by decide +kernel
theorem kX3_reduce_3 : cdOf kX3_reduce 3 = some (.bipush 10, 2) := by decide +kernel
theorem kX3_reduce_5 : cdOf kX3_reduce 5 = some (.invokestatic 122, 3) := by decide +kernel
theorem kX3_reduce_8 : cdOf kX3_reduce 8 = some (.iconst 1, 1) := by decide +kernel
theorem kX3_reduce_9 : cdOf kX3_reduce 9 = some (.isub, 1) := by decide +kernel
theorem kX3_reduce_10 : cdOf kX3_reduce 10 = some (.istore 4, 2) := by decide +kernel
theorem kX3_reduce_12 : cdOf kX3_reduce 12 = some (.iload 4, 2) := by decide +kernel
theorem kX3_reduce_14 : cdOf kX3_reduce 14 = some (.ifCond .lt 80, 3) := by decide +kernel
theorem kX3_reduce_17 : cdOf kX3_reduce 17 = some (.aload_n 1, 1) := by decide +kernel
theorem kX3_reduce_18 : cdOf kX3_reduce 18 = some (.getfield 78, 3) := by decide +kernel
theorem kX3_reduce_21 : cdOf kX3_reduce 21 = some (.iload 4, 2) := by decide +kernel
theorem kX3_reduce_23 : cdOf kX3_reduce 23 = some (.aaload, 1) := by decide +kernel
theorem kX3_reduce_24 : cdOf kX3_reduce 24 = some (.invokevirtual 127, 3) := by decide +kernel
theorem kX3_reduce_27 : cdOf kX3_reduce 27 = some (.ifCond .eq 6, 3) := by decide +kernel
theorem kX3_reduce_30 : cdOf kX3_reduce 30 = some (.goto 58, 3) := by decide +kernel
theorem kX3_reduce_33 : cdOf kX3_reduce 33 = some (.aload_n 0, 1) := by decide +kernel
theorem kX3_reduce_34 : cdOf kX3_reduce 34 = some (.getfield 19, 3) := by decide +kernel
theorem kX3_reduce_37 : cdOf kX3_reduce 37 = some (.iload 4, 2) := by decide +kernel
theorem kX3_reduce_39 : cdOf kX3_reduce 39 = some (.baload, 1) := by decide +kernel
theorem kX3_reduce_40 : cdOf kX3_reduce 40 = some (.ifCond .eq 40, 3) := by decide +kernel
theorem kX3_reduce_43 : cdOf kX3_reduce 43 = some (.aload_n 0, 1) := by decide +kernel
theorem kX3_reduce_44 : cdOf kX3_reduce 44 = some (.getfield 44, 3) := by decide +kernel
theorem kX3_reduce_47 : cdOf kX3_reduce 47 = some (.aload_n 1, 1) := by decide +kernel
theorem kX3_reduce_48 : cdOf kX3_reduce 48 = some (.getfield 78, 3) := by decide +kernel
theorem kX3_reduce_51 : cdOf kX3_reduce 51 = some (.aload_n 0, 1) := by decide +kernel
theorem kX3_reduce_52 : cdOf kX3_reduce 52 = some (.getfield 15, 3) := by decide +kernel
theorem kX3_reduce_55 : cdOf kX3_reduce 55 = some (.iload 4, 2) := by decide +kernel
theorem kX3_reduce_57 : cdOf kX3_reduce 57 = some (.aaload, 1) := by decide +kernel
theorem kX3_reduce_58 : cdOf kX3_reduce 58 = some (.getfield 78, 3) := by decide +kernel
theorem kX3_reduce_61 : cdOf kX3_reduce 61 = some (.iload 4, 2) := by decide +kernel
theorem kX3_reduce_63 : cdOf kX3_reduce 63 = some (.invokevirtual 131, 3) := by decide +kernel
theorem kX3_reduce_66 : cdOf kX3_reduce 66 = some (.aload_n 0, 1) := by decide +kernel
theorem kX3_reduce_67 : cdOf kX3_reduce 67 = some (.getfield 44, 3) := by decide +kernel
theorem kX3_reduce_70 : cdOf kX3_reduce 70 = some (.aload_n 1, 1) := by decide +kernel
theorem kX3_reduce_71 : cdOf kX3_reduce 71 = some (.getfield 78, 3) := by decide +kernel
theorem kX3_reduce_74 : cdOf kX3_reduce 74 = some (.invokevirtual 105, 3) := by decide +kernel
theorem kX3_reduce_77 : cdOf kX3_reduce 77 = some (.goto 11, 3) := by decide +kernel
theorem kX3_reduce_80 : cdOf kX3_reduce 80 = some (.iload_n 3, 1) := by decide +kernel
theorem kX3_reduce_81 : cdOf kX3_reduce 81 = some (.iconst (-1), 1) := by decide +kernel
theorem kX3_reduce_82 : cdOf kX3_reduce 82 = some (.if_icmp .ne 6, 3) := by decide +kernel
theorem kX3_reduce_85 : cdOf kX3_reduce 85 = some (.iload 4, 2) := by decide +kernel
theorem kX3_reduce_87 : cdOf kX3_reduce 87 = some (.istore_n 3, 1) := by decide +kernel
theorem kX3_reduce_88 : cdOf kX3_reduce 88 = some (.iinc 4 (-1), 3) := by decide +kernel
theorem kX3_reduce_91 : cdOf kX3_reduce 91 = some (.goto (-79), 3) := by decide +kernel
theorem kX3_reduce_94 : cdOf kX3_reduce 94 = some (.iload_n 3, 1) := by decide +kernel
theorem kX3_reduce_95 : cdOf kX3_reduce 95 = some (.ireturn, 1) := by decide +kernel
set_option maxRecDepth 20000 in
theorem kX3_reduce_ok : ∀ pc i len, cdOf kX3_reduce pc = some (i, len) → decode cX3_reduce pc = .ok (i, len) ∧ stOK 5 i = true ∧ jOK pc i = true ∧ eLen i len = true := cdOf_ok cX3_reduce 5 kX3_reduce (by decide +kernel)
def vtX3_reduce : Nat → Option (Nat × eSp) := fun k => match k with
  | 127 => some (1, SX8_isZero)
  | 131 => some (4, SX1_eliminate)
  | 105 => some (2, SX1_simplify)
  | _ => none
theorem vtX3_reduce_127 : vtX3_reduce 127 = some (1, SX8_isZero) := rfl
theorem vtX3_reduce_131 : vtX3_reduce 131 = some (4, SX1_eliminate) := rfl
theorem vtX3_reduce_105 : vtX3_reduce 105 = some (2, SX1_simplify) := rfl
def stX3_reduce : Nat → Option (Nat × eSp) := fun k => match k with
  | 122 => some (2, sMin)
  | _ => none
theorem stX3_reduce_122 : stX3_reduce 122 = some (2, sMin) := rfl
abbrev TX3_reduce : eT := (fl_RX3, cl_RX3, dl_RX3, vtX3_reduce, stX3_reduce)
set_option maxRecDepth 20000 in
theorem caX3_reduce : eCalls RX3 { frames := 4, cells := 0, slots := 0, locals := 114 } TX3_reduce := by
  refine ⟨fun k n sp h => ?_, fun k n sp h => ?_⟩
  · dsimp only [TX3_reduce] at h
    unfold vtX3_reduce at h
    split at h
    · cases h; exact eV_mk mX8_isZero wX8_isZero (by decide +kernel) (Or.inl (gW_at 438 (by decide +kernel) rfl))
    · cases h; exact eV_mk mX1_eliminate wX1_eliminate (by decide +kernel) (Or.inl (gW_at 442 (by decide +kernel) rfl))
    · cases h; exact eV_mk mX1_simplify wX1_simplify (by decide +kernel) (Or.inl (gW_at 549 (by decide +kernel) rfl))
    · cases h
  · dsimp only [TX3_reduce] at h
    unfold stX3_reduce at h
    split at h
    · cases h; exact eS_min (by decide +kernel) (gW_at 435 (by decide +kernel) rfl) (gW_at 436 (by decide +kernel) rfl) (gW_at 86 (by decide +kernel) rfl) (gW_at 437 (by decide +kernel) rfl)
    · cases h
set_option maxRecDepth 100000 in
set_option maxHeartbeats 4000000 in
theorem sX3_reduce : eSafe TX3_reduce (cdOf kX3_reduce) 5 (some .int) SX3_reduce := by
  intro K rt hK as M h
  obtain ⟨F, A, W, r, lim, R, rfl, rfl, hr, hl, hrl, hR, hL, hp, hB, h⟩ := h
  refine ⟨by simp [eE], ?_⟩
  have er := rb_11 hr
  obtain ⟨Gf, hGf⟩ : ∃ Gf, rdF R (A 2) lim (R r) (-1) = Gf := ⟨_, rfl⟩
  rw [hGf] at h
  have loop : ∀ (n : Nat) (v : Nat → Int) (t : Int) (W1 : Nat → Int → Int), n ≤ lim → w32 t → iO W W1 → iR W1 (uR R r v) → rdB R (A 2) n v → rdF R (A 2) n v t = Gf →
      K 12 [some (eR (1, 3)), some (eR (7, r)), some (eI lim), some (eI t), some (eI ((n : Int) - 1))] [] (cC F A W1) := by
    intro n
    induction n with
    | zero =>
      intro v t W1 hn ht ho hi hb he
      rw [← he] at h
      refine x_iload hK kX3_reduce_12 (q := 14) rfl rfl ?_
      refine x_if_lt hK kX3_reduce_14 (q := 17) rfl (tg := 94) rfl (by omega) (fun c14 => ?_) (fun c14 => ?_)
      · refine x_iload_n hK kX3_reduce_94 (q := 95) rfl rfl ?_
        refine x_ireturn hK kX3_reduce_95 (by first | trivial | exact Or.inl rfl | exact Or.inr rfl) ?_
        exact h W1 ho hi
      · exfalso; omega
    | succ n ih =>
      intro v t W1 hn ht ho hi hb he
      have en := rb_11 (show n < 11 by omega)
      have wv : ∀ c, c < 10 → wq (W1 (rb r + c)) (v c) := fun c hc => by
        have := hi.1 r hr c hc
        rw [uR_s] at this
        exact this
      have wn : ∀ c, c < 10 → wq (W1 (rb n + c)) (R n c) := fun c hc => by
        have := hi.1 n (by omega) c hc
        rw [uR_n _ _ (by omega)] at this
        exact this
      have e1 : ((n + 1 : Nat) : Int) - 1 = (n : Int) := by omega
      have hLn := hL n (by omega) (by omega)
      unfold rdB at hb
      unfold rdF at he
      rw [e1]
      refine x_iload hK kX3_reduce_12 (q := 14) rfl rfl ?_
      refine x_if_lt hK kX3_reduce_14 (q := 17) rfl (tg := 94) rfl (by omega) (fun c14 => ?_) (fun c14 => ?_)
      · exfalso; omega
      · refine x_aload_n hK kX3_reduce_17 (q := 18) rfl rfl ?_
        refine x_getfield hK kX3_reduce_18 (q := 21) rfl (gX3_78 ?_)
        refine x_iload hK kX3_reduce_21 (q := 23) rfl rfl ?_
        refine x_aaload hK kX3_reduce_23 (q := 24) rfl (wa_a wa_6 (by rw [er.2]; omega) ?_)
        refine x_cv1 hK kX3_reduce_24 (q := 27) rfl (vtX3_reduce_127) (Nat.le_of_ble_eq_true rfl) ?_
        refine SX8_isZero_i (k := rb r + n) (z := v n) (by omega) (wv n (by omega)) ?_
        refine x_if_eq hK kX3_reduce_27 (q := 30) rfl (tg := 33) rfl (by exact zZ_w _) (fun c27 => ?_) (fun c27 => ?_)
        · have v0 : v n ≠ 0 := zZ_0.mp c27
          rw [if_neg v0] at hb he
          refine x_aload_n hK kX3_reduce_33 (q := 34) rfl rfl ?_
          refine x_getfield hK kX3_reduce_34 (q := 37) rfl (gX3_19 ?_)
          refine x_iload hK kX3_reduce_37 (q := 39) rfl rfl ?_
          refine x_baload hK kX3_reduce_39 (q := 40) rfl (aC3_2 (by refine ⟨?_, ?_⟩ <;> omega) ?_)
          refine x_if_eq hK kX3_reduce_40 (q := 43) rfl (tg := 80) rfl (by rcases hLn with e | e <;> (rw [e]; decide)) (fun c40 => ?_) (fun c40 => ?_)
          · rw [if_pos c40] at hb he
            have nx := ih v (if t = -1 then (n : Int) else t) W1 (by omega) (by split; exact ⟨by omega, by omega⟩; exact ht) ho hi hb he
            refine x_iload_n hK kX3_reduce_80 (q := 81) rfl rfl ?_
            refine x_iconst hK kX3_reduce_81 (q := 82) rfl ?_
            refine x_icmp_ne hK kX3_reduce_82 (q := 85) rfl (tg := 88) rfl (by refine ⟨ht, by decide⟩) (fun c82 => ?_) (fun c82 => ?_)
            · rw [if_neg c82] at nx
              refine x_iinc hK kX3_reduce_88 (q := 91) rfl rfl ?_
              simp only [lS, lS2, clr_0, clr_I, clr_L, clr_R]
              refine x_goto hK kX3_reduce_91 (tg := 12) rfl ?_
              rw [show (n : Int) + -1 = (n : Int) - 1 by omega]
              exact nx
            · rw [if_pos (Decidable.not_not.mp c82)] at nx
              refine x_iload hK kX3_reduce_85 (q := 87) rfl rfl ?_
              refine x_istore_n hK kX3_reduce_87 (q := 88) (jn := 3) rfl rfl ?_
              refine x_iinc hK kX3_reduce_88 (q := 91) rfl rfl ?_
              simp only [lS, lS2, clr_0, clr_I, clr_L, clr_R]
              refine x_goto hK kX3_reduce_91 (tg := 12) rfl ?_
              rw [show (n : Int) + -1 = (n : Int) - 1 by omega]
              exact nx
          · rw [if_neg c40] at hb he
            obtain ⟨⟨a, b, hab, hbd⟩, hb2⟩ := hb
            have Rn := hp n (by omega) (by omega)
            have elb := el_b (show n < 10 by omega) Rn hab hbd
            refine x_aload_n hK kX3_reduce_43 (q := 44) rfl rfl ?_
            refine x_getfield hK kX3_reduce_44 (q := 47) rfl (gX3_44 ?_)
            refine x_aload_n hK kX3_reduce_47 (q := 48) rfl rfl ?_
            refine x_getfield hK kX3_reduce_48 (q := 51) rfl (gX3_78 ?_)
            refine x_aload_n hK kX3_reduce_51 (q := 52) rfl rfl ?_
            refine x_getfield hK kX3_reduce_52 (q := 55) rfl (gX3_15 ?_)
            refine x_iload hK kX3_reduce_55 (q := 57) rfl rfl ?_
            refine x_aaload hK kX3_reduce_57 (q := 58) rfl (aC3_1 (by omega) ?_)
            refine x_getfield hK kX3_reduce_58 (q := 61) rfl (gX3_78 ?_)
            refine x_iload hK kX3_reduce_61 (q := 63) rfl rfl ?_
            refine x_cv4 hK kX3_reduce_63 (q := 66) rfl (vtX3_reduce_131) (Nat.le_of_ble_eq_true rfl) ?_
            refine SX1_eliminate_i (ba := rb r) (bb := rb n) (n := 10) (p := n) (V := v) (U := R n) (a := a) (b := b) (by have := wa_6 (r := r); rw [er.2] at this; exact this) (by have := wa_6 (r := n); rw [en.2] at this; exact this) (by omega) (by omega) wv wn Rn (fun i hi => (hbd i hi).1) (fun i hi => (hbd i hi).2) (by omega) hi.2 (fun W2 f2 g2 d2 => ?_)
            refine x_aload_n hK kX3_reduce_66 (q := 67) rfl rfl ?_
            refine x_getfield hK kX3_reduce_67 (q := 70) rfl (gX3_44 ?_)
            refine x_aload_n hK kX3_reduce_70 (q := 71) rfl rfl ?_
            refine x_getfield hK kX3_reduce_71 (q := 74) rfl (gX3_78 ?_)
            refine x_cv2 hK kX3_reduce_74 (q := 77) rfl (vtX3_reduce_105) (Nat.le_of_ble_eq_true rfl) ?_
            refine SX1_simplify_i (base := rb r) (n := 10) (V := el v (R n) n) (by have := wa_6 (r := r); rw [er.2] at this; exact this) g2 elb d2 (fun W3 f3 g3 d3 => ?_)
            have nx := ih (sm (el v (R n) n)) t W3 (by omega) ht (fun s hs => by rw [f3 s (by omega) (by omega), f2 s (by omega) (by omega)]; exact ho s hs) (by
              have q := iR_u (W' := W3) (v := sm (el v (R n) n)) hi hr (fun s s0 _ s2 => by rw [f3 s s0 s2, f2 s s0 s2]) g3 d3
              rw [uR_u] at q
              exact q) hb2 he
            refine x_goto hK kX3_reduce_77 (tg := 88) rfl ?_
            refine x_iinc hK kX3_reduce_88 (q := 91) rfl rfl ?_
            simp only [lS, lS2, clr_0, clr_I, clr_L, clr_R]
            refine x_goto hK kX3_reduce_91 (tg := 12) rfl ?_
            rw [show (n : Int) + -1 = (n : Int) - 1 by omega]
            exact nx
        · have v0 : v n = 0 := Decidable.not_not.mp (fun g => c27 (zZ_0.mpr g))
          rw [if_pos v0] at hb he
          have nx := ih v t W1 (by omega) ht ho hi hb he
          refine x_goto hK kX3_reduce_30 (tg := 88) rfl ?_
          refine x_iinc hK kX3_reduce_88 (q := 91) rfl rfl ?_
          simp only [lS, lS2, clr_0, clr_I, clr_L, clr_R]
          refine x_goto hK kX3_reduce_91 (tg := 12) rfl ?_
          rw [show (n : Int) + -1 = (n : Int) - 1 by omega]
          exact nx
  simp only [eLoc, eE, List.length_cons, List.length_nil, List.replicate, List.cons_append, List.nil_append, Nat.reduceAdd, Nat.reduceSub]
  refine x_iconst hK kX3_reduce_0 (q := 1) rfl ?_
  refine x_istore_n hK kX3_reduce_1 (q := 2) (jn := 3) rfl rfl ?_
  refine x_iload_n hK kX3_reduce_2 (q := 3) rfl rfl ?_
  refine x_bipush hK kX3_reduce_3 (q := 5) rfl (by decide) ?_
  simp only [lS, lS2, clr_0, clr_I, clr_L, clr_R]
  refine x_cs2 hK kX3_reduce_5 (q := 8) rfl (stX3_reduce_122) (Nat.le_of_ble_eq_true rfl) ?_
  refine SJ9_min_7cf53_i ⟨⟨by omega, by omega⟩, by decide⟩ ?_
  refine x_iconst hK kX3_reduce_8 (q := 9) rfl ?_
  rw [show min (lim : Int) 10 = (lim : Int) by omega]
  refine x_isub hK kX3_reduce_9 (q := 10) rfl ?_
  refine x_istore hK kX3_reduce_10 (q := 12) rfl ?_
  simp only [lS, lS2, clr_0, clr_I, clr_L, clr_R]
  refine loop lim (R r) (-1) W (Nat.le_refl _) (by decide) (fun _ _ => rfl) ?_ hB hGf
  rw [uR_i]
  exact hR
set_option maxRecDepth 20000 in
theorem mX3_reduce : eMet yX3_reduce cX3_reduce 5 (some .int) 4 114 SX3_reduce := eMet_of (by decide +kernel) sX3_reduce kX3_reduce_ok caX3_reduce tb_RX3
theorem wX3_reduce : eWV yX3_reduce cX3_reduce 5 (some .int) 3 3 SX3_reduce := ⟨(gW_at 434 (by decide +kernel) rfl), (gW_at 84 (by decide +kernel) rfl), (gW_at 433 (by decide +kernel) rfl), ⟨_, rfl, (gW_at 4 (by decide +kernel) rfl)⟩, by decide +kernel, SX3_reduce_r⟩
