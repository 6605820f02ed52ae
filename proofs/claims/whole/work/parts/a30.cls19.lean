/-! The ideal: loadMultiple, reduce. -/
def bx (w : Int) : Int := if w = 0 then 1 else 0
theorem tg_h : ∀ w : Fin 2, ∀ i : Fin 6, (i.val : Int) + oD (i.val : Int) + 2 - (w.val : Nat) = (sh (w.val : Nat) i.val : Nat) ∧ sh (w.val : Nat) i.val < 10 := by decide +kernel
def xw (w : Int) (v : Nat → Int) : Nat → Int := fun c => if shP w c < 6 then v (shP w c) else 0
def SX3_loadMultiple : eSp := fun as M rt => ∃ (F : Nat → Int) (A W : Nat → Int → Int) (k : Nat) (w : Int) (R : Nat → Nat → Int), as = [eR (1, 3), eI k, eI (bx w)] ∧ M = cC F A W ∧ (k < 10) ∧ (w = 0 ∨ w = 1) ∧ (iR W R) ∧ (∀ i : Int, 0 ≤ i → i < 10 → A 2 i = 0 ∨ A 2 i = 1) ∧ (A 2 k = 1) ∧ (∀ W', iO W W' → iR W' (uR R 10 (xw w (R k))) → rt none (cC F A W'))
theorem SX3_loadMultiple_i {F : Nat → Int} {A W : Nat → Int → Int} {k : Nat} {w : Int} {R : Nat → Nat → Int} {rt : Option eV → eM → Prop} (hk : k < 10) (hw : w = 0 ∨ w = 1) (hR : iR W R) (hL : ∀ i : Int, 0 ≤ i → i < 10 → A 2 i = 0 ∨ A 2 i = 1) (hLk : A 2 k = 1) (h : ∀ W', iO W W' → iR W' (uR R 10 (xw w (R k))) → rt none (cC F A W')) : SX3_loadMultiple [eR (1, 3), eI k, eI (bx w)] (cC F A W) rt := ⟨F, A, W, k, w, R, rfl, rfl, hk, hw, hR, hL, hLk, h⟩
theorem SX3_loadMultiple_r : ∀ as M rt, SX3_loadMultiple as M rt → ∃ a r fs, as = eR a :: r ∧ M a = some (.inl (3, fs)) := by
  rintro as M rt ⟨F, A, W, k, w, R, rfl, rfl, -⟩
  exact ⟨_, _, _, rfl, rfl⟩
def kX3_loadMultiple : List (Nat × Jvm.ClassFile.Instr × Nat) := [(0, .aload_n 0, 1), (1, .getfield 29, 3), (4, .invokevirtual 71, 3), (7, .iconst 0, 1), (8, .istore_n 3, 1), (9, .iload_n 3, 1), (10, .bipush 6, 2), (12, .if_icmp .ge 70, 3), (15, .iload_n 2, 1), (16, .ifCond .eq 10, 3), (19, .iload_n 3, 1), (20, .invokestatic 86, 3), (23, .goto 7, 3), (26, .iload_n 3, 1), (27, .invokestatic 90, 3), (30, .istore 4, 2), (32, .iload 4, 2), (34, .ifCond .lt 42, 3), (37, .iload 4, 2), (39, .bipush 10, 2), (41, .if_icmp .ge 35, 3), (44, .aload_n 0, 1), (45, .iload_n 1, 1), (46, .invokevirtual 93, 3), (49, .ifCond .eq 27, 3), (52, .aload_n 0, 1), (53, .getfield 29, 3), (56, .getfield 74, 3), (59, .iload 4, 2), (61, .aaload, 1), (62, .aload_n 0, 1), (63, .getfield 15, 3), (66, .iload_n 1, 1), (67, .aaload, 1), (68, .getfield 74, 3), (71, .iload_n 3, 1), (72, .aaload, 1), (73, .invokevirtual 97, 3), (76, .iinc 3 1, 3), (79, .goto (-70), 3), (82, .return_, 1)]
theorem kX3_loadMultiple_0 : cdOf kX3_loadMultiple 0 = some (.aload_n 0, 1) := by decide +kernel
theorem kX3_loadMultiple_1 : cdOf kX3_loadMultiple 1 = some (.getfield 29, 3) := by decide +kernel
theorem kX3_loadMultiple_4 : cdOf kX3_loadMultiple 4 = some (.invokevirtual 71, 3) := by decide +kernel
theorem kX3_loadMultiple_7 : cdOf kX3_loadMultiple 7 = some (.iconst 0, 1) := by decide +kernel
theorem kX3_loadMultiple_8 : cdOf kX3_loadMultiple 8 = some (.istore_n 3, 1) := by decide +kernel
theorem kX3_loadMultiple_9 : cdOf kX3_loadMultiple 9 = some (.iload_n 3, 1) := by decide +kernel
theorem kX3_loadMultiple_10 : cdOf kX3_loadMultiple 10 = some (.bipush 6, 2) := by decide +kernel
theorem kX3_loadMultiple_12 : cdOf kX3_loadMultiple 12 = some (.if_icmp .ge 70, 3) := by decide +kernel
theorem kX3_loadMultiple_15 : cdOf kX3_loadMultiple 15 = some (.iload_n 2, 1) := by decide +kernel
theorem kX3_loadMultiple_16 : cdOf kX3_loadMultiple 16 = some (.ifCond .eq 10, 3) := by decide +kernel
theorem kX3_loadMultiple_19 : cdOf kX3_loadMultiple 19 = some (.iload_n 3, 1) := by decide +kernel
theorem kX3_loadMultiple_20 : cdOf kX3_loadMultiple 20 = some (.invokestatic 86, 3) := by decide +kernel
theorem kX3_loadMultiple_23 : cdOf kX3_loadMultiple 23 = some (.goto 7, 3) := by decide +kernel
theorem kX3_loadMultiple_26 : cdOf kX3_loadMultiple 26 = some (.iload_n 3, 1) := by decide +kernel
theorem kX3_loadMultiple_27 : cdOf kX3_loadMultiple 27 = some (.invokestatic 90, 3) := by decide +kernel
theorem kX3_loadMultiple_30 : cdOf kX3_loadMultiple 30 = some (.istore 4, 2) := by decide +kernel
theorem kX3_loadMultiple_32 : cdOf kX3_loadMultiple 32 = some (.iload 4, 2) := by decide +kernel
theorem kX3_loadMultiple_34 : cdOf kX3_loadMultiple 34 = some (.ifCond .lt 42, 3) := by decide +kernel
theorem kX3_loadMultiple_37 : cdOf kX3_loadMultiple 37 = some (.iload 4, 2) := by decide +kernel
theorem kX3_loadMultiple_39 : cdOf kX3_loadMultiple 39 = some (.bipush 10, 2) := by decide +kernel
theorem kX3_loadMultiple_41 : cdOf kX3_loadMultiple 41 = some (.if_icmp .ge 35, 3) := by decide +kernel
theorem kX3_loadMultiple_44 : cdOf kX3_loadMultiple 44 = some (.aload_n 0, 1) := by decide +kernel
theorem kX3_loadMultiple_45 : cdOf kX3_loadMultiple 45 = some (.iload_n 1, 1) := by decide +kernel
theorem kX3_loadMultiple_46 : cdOf kX3_loadMultiple 46 = some (.invokevirtual 93, 3) := by decide +kernel
theorem kX3_loadMultiple_49 : cdOf kX3_loadMultiple 49 = some (.ifCond .eq 27, 3) := by decide +kernel
theorem kX3_loadMultiple_52 : cdOf kX3_loadMultiple 52 = some (.aload_n 0, 1) := by decide +kernel
theorem kX3_loadMultiple_53 : cdOf kX3_loadMultiple 53 = some (.getfield 29, 3) := by decide +kernel
theorem kX3_loadMultiple_56 : cdOf kX3_loadMultiple 56 = some (.getfield 74, 3) := by decide +kernel
theorem kX3_loadMultiple_59 : cdOf kX3_loadMultiple 59 = some (.iload 4, 2) := by decide +kernel
theorem kX3_loadMultiple_61 : cdOf kX3_loadMultiple 61 = some (.aaload, 1) := by decide +kernel
theorem kX3_loadMultiple_62 : cdOf kX3_loadMultiple 62 = some (.aload_n 0, 1) := by decide +kernel
theorem kX3_loadMultiple_63 : cdOf kX3_loadMultiple 63 = some (.getfield 15, 3) := by decide +kernel
theorem kX3_loadMultiple_66 : cdOf kX3_loadMultiple 66 = some (.iload_n 1, 1) := by decide +kernel
theorem kX3_loadMultiple_67 : cdOf kX3_loadMultiple 67 = some (.aaload, 1) := by decide +kernel
theorem kX3_loadMultiple_68 : cdOf kX3_loadMultiple 68 = some (.getfield 74, 3) := by decide +kernel
theorem kX3_loadMultiple_71 : cdOf kX3_loadMultiple 71 = some (.iload_n 3, 1) := by decide +kernel
theorem kX3_loadMultiple_72 : cdOf kX3_loadMultiple 72 = some (.aaload, 1) := by decide +kernel
theorem kX3_loadMultiple_73 : cdOf kX3_loadMultiple 73 = some (.invokevirtual 97, 3) := by decide +kernel
theorem kX3_loadMultiple_76 : cdOf kX3_loadMultiple 76 = some (.iinc 3 1, 3) := by decide +kernel
theorem kX3_loadMultiple_79 : cdOf kX3_loadMultiple 79 = some (.goto (-70), 3) := by decide +kernel
theorem kX3_loadMultiple_82 : cdOf kX3_loadMultiple 82 = some (.return_, 1) := by decide +kernel
set_option maxRecDepth 20000 in
theorem kX3_loadMultiple_ok : ∀ pc i len, cdOf kX3_loadMultiple pc = some (i, len) → decode cX3_loadMultiple pc = .ok (i, len) ∧ stOK 5 i = true ∧ jOK pc i = true ∧ eLen i len = true := cdOf_ok cX3_loadMultiple 5 kX3_loadMultiple (by decide +kernel)
def vtX3_loadMultiple : Nat → Option (Nat × eSp) := fun k => match k with
  | 71 => some (1, SX7_wipe)
  | 93 => some (2, SX3_isLead)
  | 97 => some (2, SX8_copy)
  | _ => none
theorem vtX3_loadMultiple_71 : vtX3_loadMultiple 71 = some (1, SX7_wipe) := rfl
theorem vtX3_loadMultiple_93 : vtX3_loadMultiple 93 = some (2, SX3_isLead) := rfl
theorem vtX3_loadMultiple_97 : vtX3_loadMultiple 97 = some (2, SX8_copy) := rfl
def stX3_loadMultiple : Nat → Option (Nat × eSp) := fun k => match k with
  | 86 => some (1, SX5_timesX)
  | 90 => some (1, SX5_timesY)
  | _ => none
theorem stX3_loadMultiple_86 : stX3_loadMultiple 86 = some (1, SX5_timesX) := rfl
theorem stX3_loadMultiple_90 : stX3_loadMultiple 90 = some (1, SX5_timesY) := rfl
abbrev TX3_loadMultiple : eT := (fl_RX3, cl_RX3, dl_RX3, vtX3_loadMultiple, stX3_loadMultiple)
set_option maxRecDepth 20000 in
theorem caX3_loadMultiple : eCalls RX3 { frames := 2, cells := 0, slots := 0, locals := 48 } TX3_loadMultiple := by
  refine ⟨fun k n sp h => ?_, fun k n sp h => ?_⟩
  · dsimp only [TX3_loadMultiple] at h
    unfold vtX3_loadMultiple at h
    split at h
    · cases h; exact eV_mk mX7_wipe wX7_wipe (by decide +kernel) (Or.inl (gW_at 420 (by decide +kernel) rfl))
    · cases h; exact eV_mk mX3_isLead wX3_isLead (by decide +kernel) (Or.inl (gW_at 579 (by decide +kernel) rfl))
    · cases h; exact eV_mk mX8_copy wX8_copy (by decide +kernel) (Or.inl (gW_at 583 (by decide +kernel) rfl))
    · cases h
  · dsimp only [TX3_loadMultiple] at h
    unfold stX3_loadMultiple at h
    split at h
    · cases h; exact eS_mk mX5_timesX wX5_timesX (by decide +kernel) (Or.inl (gW_at 570 (by decide +kernel) rfl))
    · cases h; exact eS_mk mX5_timesY wX5_timesY (by decide +kernel) (Or.inl (gW_at 576 (by decide +kernel) rfl))
    · cases h
set_option maxRecDepth 100000 in
set_option maxHeartbeats 4000000 in
theorem sX3_loadMultiple : eSafe TX3_loadMultiple (cdOf kX3_loadMultiple) 5 none SX3_loadMultiple := by
  intro K rt hK as M h
  obtain ⟨F, A, W, k, w, R, rfl, rfl, hk, hw, hR, hL, hLk, h⟩ := h
  refine ⟨by simp [eE], ?_⟩
  have e10 : rb 10 = 110 ∧ rl 10 = 10 := rb_11 (by decide)
  have ek := rb_11 (show k < 11 by omega)
  have bw : w32 (bx w) := by unfold bx; split <;> decide
  have loop : ∀ (d i : Nat) (W1 : Nat → Int → Int) (u4 : Option eV), i + d = 6 → iO W W1 → iR W1 (uR R 10 (fun c => if shP w c < i then R k (shP w c) else 0)) → K 9 [some (eR (1, 3)), some (eI k), some (eI (bx w)), some (eI i), u4] [] (cC F A W1) := by
    intro d
    induction d with
    | zero =>
      intro i W1 u4 hi ho hr
      have : i = 6 := by omega
      subst this
      refine x_iload_n hK kX3_loadMultiple_9 (q := 10) rfl rfl ?_
      refine x_bipush hK kX3_loadMultiple_10 (q := 12) rfl (by decide) ?_
      refine x_icmp_ge hK kX3_loadMultiple_12 (q := 15) rfl (tg := 82) rfl (by refine ⟨?_, ?_⟩ <;> omega) (fun c12 => ?_) (fun c12 => ?_)
      · refine x_return_ hK kX3_loadMultiple_82 (by first | trivial | exact Or.inl rfl | exact Or.inr rfl) ?_
        exact h W1 ho hr
      · exfalso; omega
    | succ d ih =>
      intro i W1 u4 hi ho hr
      have tg : (i : Int) + oD i + 2 - w = (sh w i : Nat) ∧ sh w i < 10 := by
        rcases hw with rfl | rfl
        · exact tg_h 0 ⟨i, by omega⟩
        · exact tg_h 1 ⟨i, by omega⟩
      have od := oD_r i
      have go : ∀ u4, K 34 [some (eR (1, 3)), some (eI k), some (eI (bx w)), some (eI i), u4] [eI ((sh w i : Nat) : Int)] (cC F A W1) → True := fun _ _ => trivial
      have main : K 32 [some (eR (1, 3)), some (eI k), some (eI (bx w)), some (eI i), some (eI ((sh w i : Nat) : Int))] [] (cC F A W1) := by
        refine x_iload hK kX3_loadMultiple_32 (q := 34) rfl rfl ?_
        refine x_if_lt hK kX3_loadMultiple_34 (q := 37) rfl (tg := 76) rfl (by omega) (fun c34 => ?_) (fun c34 => ?_)
        · exfalso; omega
        · refine x_iload hK kX3_loadMultiple_37 (q := 39) rfl rfl ?_
          refine x_bipush hK kX3_loadMultiple_39 (q := 41) rfl (by decide) ?_
          refine x_icmp_ge hK kX3_loadMultiple_41 (q := 44) rfl (tg := 76) rfl (by refine ⟨?_, ?_⟩ <;> omega) (fun c41 => ?_) (fun c41 => ?_)
          · exfalso; omega
          · refine x_aload_n hK kX3_loadMultiple_44 (q := 45) rfl rfl ?_
            refine x_iload_n hK kX3_loadMultiple_45 (q := 46) rfl rfl ?_
            refine x_cv2 hK kX3_loadMultiple_46 (q := 49) rfl (vtX3_loadMultiple_93) (Nat.le_of_ble_eq_true rfl) ?_
            refine SX3_isLead_i ⟨by omega, by omega⟩ hL ?_
            refine x_if_eq hK kX3_loadMultiple_49 (q := 52) rfl (tg := 76) rfl (by exact zE_w _) (fun c49 => ?_) (fun c49 => ?_)
            · exact absurd ⟨by omega, by omega, hLk⟩ (zE_0.mp c49)
            · refine x_aload_n hK kX3_loadMultiple_52 (q := 53) rfl rfl ?_
              refine x_getfield hK kX3_loadMultiple_53 (q := 56) rfl (gX3_29 ?_)
              refine x_getfield hK kX3_loadMultiple_56 (q := 59) rfl (gX3_74 ?_)
              refine x_iload hK kX3_loadMultiple_59 (q := 61) rfl rfl ?_
              refine x_aaload hK kX3_loadMultiple_61 (q := 62) rfl (wa_a wa_6 (by rw [e10.2]; omega) ?_)
              refine x_aload_n hK kX3_loadMultiple_62 (q := 63) rfl rfl ?_
              refine x_getfield hK kX3_loadMultiple_63 (q := 66) rfl (gX3_15 ?_)
              refine x_iload_n hK kX3_loadMultiple_66 (q := 67) rfl rfl ?_
              refine x_aaload hK kX3_loadMultiple_67 (q := 68) rfl (aC3_1 (by omega) ?_)
              refine x_getfield hK kX3_loadMultiple_68 (q := 71) rfl (gX3_74 ?_)
              refine x_iload_n hK kX3_loadMultiple_71 (q := 72) rfl rfl ?_
              refine x_aaload hK kX3_loadMultiple_72 (q := 73) rfl (wa_a wa_6 (by rw [ek.2]; omega) ?_)
              refine x_cv2 hK kX3_loadMultiple_73 (q := 76) rfl (vtX3_loadMultiple_97) (Nat.le_of_ble_eq_true rfl) ?_
              refine SX8_copy_i (k := rb 10 + sh w i) (j := rb k + i) (z := R k i) (by omega) (by omega) (by omega) (by have := hr.1 k (by omega) i (by omega); rw [uR_n _ _ (by omega)] at this; exact this) (by rw [lw_11 (by decide) (by omega)]; exact iR_lt hR (by omega) (by omega)) (fun f hf => ?_)
              refine x_iinc hK kX3_loadMultiple_76 (q := 79) rfl rfl ?_
              simp only [lS, lS2, clr_0, clr_I, clr_L, clr_R]
              refine x_goto hK kX3_loadMultiple_79 (tg := 9) rfl ?_
              rw [show (i : Int) + 1 = ((i + 1 : Nat) : Int) by omega]
              refine ih (i + 1) _ _ (by omega) (fun t ht => by rw [uA_n _ _ (by omega)]; exact ho t ht) ?_
              have q := iR_u (W' := uA W1 (rb 10 + sh w i) f) (v := fun c => if shP w c < i + 1 then R k (shP w c) else 0) hr (show 10 < 11 by decide) (fun t t0 _ t1 => uA_n _ _ (by omega)) (fun c hc => by
                have se := shP_e (j := c) (k := i) hw (by omega) (by omega)
                rcases Decidable.em (c = sh w i) with g | g
                · rw [se.mpr g, if_pos (by omega), g, uA_g]; exact hf
                · rw [uA_n _ _ (by omega)]
                  have := hr.1 10 (by decide) c hc
                  rw [uR_s] at this
                  have ne : shP w c ≠ i := fun q => g (se.mp q)
                  rcases Nat.lt_or_ge (shP w c) i with g2 | g2
                  · rw [if_pos (by omega)]; rw [if_pos g2] at this; exact this
                  · rw [if_neg (by omega)]; rw [if_neg (by omega)] at this; exact this) (fun t ht => dv_n (hr.2 t ht) (uA_n _ _ (by omega)))
              rw [uR_u] at q
              exact q
      refine x_iload_n hK kX3_loadMultiple_9 (q := 10) rfl rfl ?_
      refine x_bipush hK kX3_loadMultiple_10 (q := 12) rfl (by decide) ?_
      refine x_icmp_ge hK kX3_loadMultiple_12 (q := 15) rfl (tg := 82) rfl (by refine ⟨?_, ?_⟩ <;> omega) (fun c12 => ?_) (fun c12 => ?_)
      · exfalso; omega
      · refine x_iload_n hK kX3_loadMultiple_15 (q := 16) rfl rfl ?_
        refine x_if_eq hK kX3_loadMultiple_16 (q := 19) rfl (tg := 26) rfl (by exact bw) (fun c16 => ?_) (fun c16 => ?_)
        · refine x_iload_n hK kX3_loadMultiple_26 (q := 27) rfl rfl ?_
          refine x_cs1 hK kX3_loadMultiple_27 (q := 30) rfl (stX3_loadMultiple_90) (Nat.le_of_ble_eq_true rfl) ?_
          refine SX5_timesY_i ⟨by omega, by omega⟩ ?_
          refine x_istore hK kX3_loadMultiple_30 (q := 32) rfl ?_
          simp only [lS, lS2, clr_0, clr_I, clr_L, clr_R]
          refine x_to main ?_ rfl rfl
          unfold bx at c16
          rcases hw with rfl | rfl
          · first | exact absurd c16 (by decide) | (rw [← tg.1, show (i : Int) + oD i + 2 - 0 = (i : Int) + oD i + 2 by omega])
          · first | exact absurd (by decide) c16 | (rw [← tg.1, show (i : Int) + oD i + 2 - 1 = (i : Int) + oD i + 1 by omega])
        · refine x_iload_n hK kX3_loadMultiple_19 (q := 20) rfl rfl ?_
          refine x_cs1 hK kX3_loadMultiple_20 (q := 23) rfl (stX3_loadMultiple_86) (Nat.le_of_ble_eq_true rfl) ?_
          refine SX5_timesX_i ⟨by omega, by omega⟩ ?_
          refine x_goto hK kX3_loadMultiple_23 (tg := 30) rfl ?_
          refine x_istore hK kX3_loadMultiple_30 (q := 32) rfl ?_
          simp only [lS, lS2, clr_0, clr_I, clr_L, clr_R]
          refine x_to main ?_ rfl rfl
          unfold bx at c16
          rcases hw with rfl | rfl
          · first | exact absurd c16 (by decide) | (rw [← tg.1, show (i : Int) + oD i + 2 - 0 = (i : Int) + oD i + 2 by omega])
          · first | exact absurd (by decide) c16 | (rw [← tg.1, show (i : Int) + oD i + 2 - 1 = (i : Int) + oD i + 1 by omega])
  simp only [eLoc, eE, List.length_cons, List.length_nil, List.replicate, List.cons_append, List.nil_append, Nat.reduceAdd, Nat.reduceSub]
  refine x_aload_n hK kX3_loadMultiple_0 (q := 1) rfl rfl ?_
  refine x_getfield hK kX3_loadMultiple_1 (q := 4) rfl (gX3_29 ?_)
  refine x_cv1 hK kX3_loadMultiple_4 (q := 7) rfl (vtX3_loadMultiple_71) (Nat.le_of_ble_eq_true rfl) ?_
  refine SX7_wipe_i (by decide) (fun W1 f1 g1 => ?_)
  refine x_iconst hK kX3_loadMultiple_7 (q := 8) rfl ?_
  refine x_istore_n hK kX3_loadMultiple_8 (q := 9) (jn := 3) rfl rfl ?_
  simp only [lS, lS2, clr_0, clr_I, clr_L, clr_R]
  refine loop 6 0 W1 _ rfl (fun t ht => f1 t (by omega)) ?_
  exact iR_u hR (show 10 < 11 by decide) (fun t _ _ t1 => f1 t (by omega)) (fun c hc => by rw [if_neg (by omega)]; exact g1 c (by omega)) (fun t ht => dv_n (hR.2 t ht) (f1 t (by omega)))
set_option maxRecDepth 20000 in
theorem mX3_loadMultiple : eMet yX3_loadMultiple cX3_loadMultiple 5 none 2 48 SX3_loadMultiple := eMet_of (by decide +kernel) sX3_loadMultiple kX3_loadMultiple_ok caX3_loadMultiple tb_RX3
theorem wX3_loadMultiple : eWV yX3_loadMultiple cX3_loadMultiple 5 none 3 3 SX3_loadMultiple := ⟨(gW_at 569 (by decide +kernel) rfl), (gW_at 84 (by decide +kernel) rfl), (gW_at 568 (by decide +kernel) rfl), ⟨_, rfl, (gW_at 16 (by decide +kernel) rfl)⟩, by decide +kernel, SX3_loadMultiple_r⟩
-- reduce
def el (v u : Nat → Int) (p : Nat) : Nat → Int := fun i => v i * (u p / (Int.gcd (u p) (v p) : Int)) - u i * (v p / (Int.gcd (u p) (v p) : Int))
def sm (v : Nat → Int) : Nat → Int := fun i => v i / (cG v 10 : Int)
def rdF (R : Nat → Nat → Int) (L : Int → Int) : Nat → (Nat → Int) → Int → (Nat → Int) × Int
  | 0, v, t => (v, t)
  | n + 1, v, t => if v n = 0 then rdF R L n v t else if L n = 0 then rdF R L n v (if t = -1 then n else t) else rdF R L n (sm (el v (R n) n)) t
/-- the room of one step -/
def elB (v u : Nat → Int) (p : Nat) : Prop := (∃ a b, a + b ≤ 62 ∧ ∀ i, i < 10 → zAbs (v i) < cB ^ a ∧ zAbs (u i) < cB ^ b) ∧ ∀ i, i < 10 → zAbs (el v u p i) < cB ^ 32
def rdB (R : Nat → Nat → Int) (L : Int → Int) : Nat → (Nat → Int) → Prop
  | 0, _ => True
  | n + 1, v => if v n = 0 then rdB R L n v else if L n = 0 then rdB R L n v else elB v (R n) n ∧ rdB R L n (sm (el v (R n) n))
def SX3_reduce : eSp := fun as M rt => ∃ (F : Nat → Int) (A W : Nat → Int → Int) (R : Nat → Nat → Int), as = [eR (1, 3)] ∧ M = cC F A W ∧ (iR W R) ∧ (∀ i : Int, 0 ≤ i → i < 10 → A 2 i = 0 ∨ A 2 i = 1) ∧ (∀ k : Nat, k < 10 → A 2 k = 1 → 0 < R k k) ∧ (rdB R (A 2) 10 (R 10)) ∧ (∀ W', iO W W' → iR W' (uR R 10 (rdF R (A 2) 10 (R 10) (-1)).1) → rt (some (eI (rdF R (A 2) 10 (R 10) (-1)).2)) (cC F A W'))
theorem SX3_reduce_i {F : Nat → Int} {A W : Nat → Int → Int} {R : Nat → Nat → Int} {rt : Option eV → eM → Prop} (hR : iR W R) (hL : ∀ i : Int, 0 ≤ i → i < 10 → A 2 i = 0 ∨ A 2 i = 1) (hp : ∀ k : Nat, k < 10 → A 2 k = 1 → 0 < R k k) (hB : rdB R (A 2) 10 (R 10)) (h : ∀ W', iO W W' → iR W' (uR R 10 (rdF R (A 2) 10 (R 10) (-1)).1) → rt (some (eI (rdF R (A 2) 10 (R 10) (-1)).2)) (cC F A W')) : SX3_reduce [eR (1, 3)] (cC F A W) rt := ⟨F, A, W, R, rfl, rfl, hR, hL, hp, hB, h⟩
theorem SX3_reduce_r : ∀ as M rt, SX3_reduce as M rt → ∃ a r fs, as = eR a :: r ∧ M a = some (.inl (3, fs)) := by
  rintro as M rt ⟨F, A, W, R, rfl, rfl, -⟩
  exact ⟨_, _, _, rfl, rfl⟩
def kX3_reduce : List (Nat × Jvm.ClassFile.Instr × Nat) := [(0, .iconst (-1), 1), (1, .istore_n 1, 1), (2, .bipush 9, 2), (4, .istore_n 2, 1), (5, .iload_n 2, 1), (6, .ifCond .lt 84, 3), (9, .aload_n 0, 1), (10, .getfield 29, 3), (13, .getfield 74, 3), (16, .iload_n 2, 1), (17, .aaload, 1), (18, .invokevirtual 118, 3), (21, .ifCond .eq 6, 3), (24, .goto 60, 3), (27, .aload_n 0, 1), (28, .getfield 19, 3), (31, .iload_n 2, 1), (32, .baload, 1), (33, .ifCond .eq 44, 3), (36, .aload_n 0, 1), (37, .getfield 44, 3), (40, .aload_n 0, 1), (41, .getfield 29, 3), (44, .getfield 74, 3), (47, .aload_n 0, 1), (48, .getfield 15, 3), (51, .iload_n 2, 1), (52, .aaload, 1), (53, .getfield 74, 3), (56, .iload_n 2, 1), (57, .invokevirtual 122, 3), (60, .aload_n 0, 1), (61, .getfield 44, 3), (64, .aload_n 0, 1), (65, .getfield 29, 3), (68, .getfield 74, 3), (71, .invokevirtual 101, 3), (74, .goto 10, 3), (77, .iload_n 1, 1), (78, .iconst (-1), 1), (79, .if_icmp .ne 5, 3), (82, .iload_n 2, 1), (83, .istore_n 1, 1), (84, .iinc 2 (-1), 3), (87, .goto (-82), 3), (90, .iload_n 1, 1), (91, .ireturn, 1)]
theorem kX3_reduce_0 : cdOf kX3_reduce 0 = some (.iconst (-1), 1) := by decide +kernel
theorem kX3_reduce_1 : cdOf kX3_reduce 1 = some (.istore_n 1, 1) := by decide +kernel
theorem kX3_reduce_2 : cdOf kX3_reduce 2 = some (.bipush 9, 2) := by decide +kernel
theorem kX3_reduce_4 : cdOf kX3_reduce 4 = some (.istore_n 2, 1) := by decide +kernel
theorem kX3_reduce_5 : cdOf kX3_reduce 5 = some (.iload_n 2, 1) := by decide +kernel
theorem kX3_reduce_6 : cdOf kX3_reduce 6 = some (.ifCond .lt 84, 3) := by decide +kernel
theorem kX3_reduce_9 : cdOf kX3_reduce 9 = some (.aload_n 0, 1) := by decide +kernel
theorem kX3_reduce_10 : cdOf kX3_reduce 10 = some (.getfield 29, 3) := by decide +kernel
theorem kX3_reduce_13 : cdOf kX3_reduce 13 = some (.getfield 74, 3) := by decide +kernel
theorem kX3_reduce_16 : cdOf kX3_reduce 16 = some (.iload_n 2, 1) := by decide +kernel
theorem kX3_reduce_17 : cdOf kX3_reduce 17 = some (.aaload, 1) := by decide +kernel
theorem kX3_reduce_18 : cdOf kX3_reduce 18 = some (.invokevirtual 118, 3) := by decide +kernel
theorem kX3_reduce_21 : cdOf kX3_reduce 21 = some (.ifCond .eq 6, 3) := by decide +kernel
theorem kX3_reduce_24 : cdOf kX3_reduce 24 = some (.goto 60, 3) := by decide +kernel
theorem kX3_reduce_27 : cdOf kX3_reduce 27 = some (.aload_n 0, 1) := by decide +kernel
theorem kX3_reduce_28 : cdOf kX3_reduce 28 = some (.getfield 19, 3) := by decide +kernel
theorem kX3_reduce_31 : cdOf kX3_reduce 31 = some (.iload_n 2, 1) := by decide +kernel
theorem kX3_reduce_32 : cdOf kX3_reduce 32 = some (.baload, 1) := by decide +kernel
theorem kX3_reduce_33 : cdOf kX3_reduce 33 = some (.ifCond .eq 44, 3) := by decide +kernel
theorem kX3_reduce_36 : cdOf kX3_reduce 36 = some (.aload_n 0, 1) := by decide +kernel
theorem kX3_reduce_37 : cdOf kX3_reduce 37 = some (.getfield 44, 3) := by decide +kernel
theorem kX3_reduce_40 : cdOf kX3_reduce 40 = some (.aload_n 0, 1) := by decide +kernel
theorem kX3_reduce_41 : cdOf kX3_reduce 41 = some (.getfield 29, 3) := by decide +kernel
theorem kX3_reduce_44 : cdOf kX3_reduce 44 = some (.getfield 74, 3) := by decide +kernel
theorem kX3_reduce_47 : cdOf kX3_reduce 47 = some (.aload_n 0, 1) := by decide +kernel
theorem kX3_reduce_48 : cdOf kX3_reduce 48 = some (.getfield 15, 3) := by decide +kernel
theorem kX3_reduce_51 : cdOf kX3_reduce 51 = some (.iload_n 2, 1) := by decide +kernel
theorem kX3_reduce_52 : cdOf kX3_reduce 52 = some (.aaload, 1) := by decide +kernel
theorem kX3_reduce_53 : cdOf kX3_reduce 53 = some (.getfield 74, 3) := by decide +kernel
theorem kX3_reduce_56 : cdOf kX3_reduce 56 = some (.iload_n 2, 1) := by decide +kernel
theorem kX3_reduce_57 : cdOf kX3_reduce 57 = some (.invokevirtual 122, 3) := by decide +kernel
theorem kX3_reduce_60 : cdOf kX3_reduce 60 = some (.aload_n 0, 1) := by decide +kernel
theorem kX3_reduce_61 : cdOf kX3_reduce 61 = some (.getfield 44, 3) := by decide +kernel
theorem kX3_reduce_64 : cdOf kX3_reduce 64 = some (.aload_n 0, 1) := by decide +kernel
theorem kX3_reduce_65 : cdOf kX3_reduce 65 = some (.getfield 29, 3) := by decide +kernel
theorem kX3_reduce_68 : cdOf kX3_reduce 68 = some (.getfield 74, 3) := by decide +kernel
theorem kX3_reduce_71 : cdOf kX3_reduce 71 = some (.invokevirtual 101, 3) := by decide +kernel
theorem kX3_reduce_74 : cdOf kX3_reduce 74 = some (.goto 10, 3) := by decide +kernel
theorem kX3_reduce_77 : cdOf kX3_reduce 77 = some (.iload_n 1, 1) := by decide +kernel
theorem kX3_reduce_78 : cdOf kX3_reduce 78 = some (.iconst (-1), 1) := by decide +kernel
theorem kX3_reduce_79 : cdOf kX3_reduce 79 = some (.if_icmp .ne 5, 3) := by decide +kernel
theorem kX3_reduce_82 : cdOf kX3_reduce 82 = some (.iload_n 2, 1) := by decide +kernel
theorem kX3_reduce_83 : cdOf kX3_reduce 83 = some (.istore_n 1, 1) := by decide +kernel
theorem kX3_reduce_84 : cdOf kX3_reduce 84 = some (.iinc 2 (-1), 3) := by decide +kernel
theorem kX3_reduce_87 : cdOf kX3_reduce 87 = some (.goto (-82), 3) := by decide +kernel
theorem kX3_reduce_90 : cdOf kX3_reduce 90 = some (.iload_n 1, 1) := by decide +kernel
theorem kX3_reduce_91 : cdOf kX3_reduce 91 = some (.ireturn, 1) := by decide +kernel
set_option maxRecDepth 20000 in
theorem kX3_reduce_ok : ∀ pc i len, cdOf kX3_reduce pc = some (i, len) → decode cX3_reduce pc = .ok (i, len) ∧ stOK 3 i = true ∧ jOK pc i = true ∧ eLen i len = true := cdOf_ok cX3_reduce 3 kX3_reduce (by decide +kernel)
def vtX3_reduce : Nat → Option (Nat × eSp) := fun k => match k with
  | 118 => some (1, SX8_isZero)
  | 122 => some (4, SX1_eliminate)
  | 101 => some (2, SX1_simplify)
  | _ => none
theorem vtX3_reduce_118 : vtX3_reduce 118 = some (1, SX8_isZero) := rfl
theorem vtX3_reduce_122 : vtX3_reduce 122 = some (4, SX1_eliminate) := rfl
theorem vtX3_reduce_101 : vtX3_reduce 101 = some (2, SX1_simplify) := rfl
def stX3_reduce : Nat → Option (Nat × eSp) := fun _ => none
abbrev TX3_reduce : eT := (fl_RX3, cl_RX3, dl_RX3, vtX3_reduce, stX3_reduce)
set_option maxRecDepth 20000 in
theorem caX3_reduce : eCalls RX3 { frames := 4, cells := 0, slots := 0, locals := 114 } TX3_reduce := by
  refine ⟨fun k n sp h => ?_, fun k n sp h => ?_⟩
  · dsimp only [TX3_reduce] at h
    unfold vtX3_reduce at h
    split at h
    · cases h; exact eV_mk mX8_isZero wX8_isZero (by decide +kernel) (Or.inl (gW_at 435 (by decide +kernel) rfl))
    · cases h; exact eV_mk mX1_eliminate wX1_eliminate (by decide +kernel) (Or.inl (gW_at 439 (by decide +kernel) rfl))
    · cases h; exact eV_mk mX1_simplify wX1_simplify (by decide +kernel) (Or.inl (gW_at 548 (by decide +kernel) rfl))
    · cases h
  · cases h
set_option maxRecDepth 100000 in
set_option maxHeartbeats 4000000 in
theorem sX3_reduce : eSafe TX3_reduce (cdOf kX3_reduce) 3 (some .int) SX3_reduce := by
  intro K rt hK as M h
  obtain ⟨F, A, W, R, rfl, rfl, hR, hL, hp, hB, h⟩ := h
  refine ⟨by simp [eE], ?_⟩
  have hr : 10 < 11 := by decide
  have er := rb_11 hr
  obtain ⟨Gf, hGf⟩ : ∃ Gf, rdF R (A 2) 10 (R 10) (-1) = Gf := ⟨_, rfl⟩
  rw [hGf] at h
  have loop : ∀ (n : Nat) (v : Nat → Int) (t : Int) (W1 : Nat → Int → Int), n ≤ 10 → w32 t → iO W W1 → iR W1 (uR R 10 v) → rdB R (A 2) n v → rdF R (A 2) n v t = Gf →
      K 5 [some (eR (1, 3)), some (eI t), some (eI ((n : Int) - 1))] [] (cC F A W1) := by
    intro n
    induction n with
    | zero =>
      intro v t W1 hn ht ho hi hb he
      rw [← he] at h
      refine x_iload_n hK kX3_reduce_5 (q := 6) rfl rfl ?_
      refine x_if_lt hK kX3_reduce_6 (q := 9) rfl (tg := 90) rfl (by omega) (fun c6 => ?_) (fun c6 => ?_)
      · refine x_iload_n hK kX3_reduce_90 (q := 91) rfl rfl ?_
        refine x_ireturn hK kX3_reduce_91 (by first | trivial | exact Or.inl rfl | exact Or.inr rfl) ?_
        exact h W1 ho hi
      · exfalso; omega
    | succ n ih =>
      intro v t W1 hn ht ho hi hb he
      have en := rb_11 (show n < 11 by omega)
      have wv : ∀ c, c < 10 → wq (lw (rb 10 + c)) (W1 (rb 10 + c)) (v c) := fun c hc => by
        have := hi.1 10 hr c hc
        rw [uR_s] at this
        exact this
      have wn : ∀ c, c < 10 → wq (lw (rb n + c)) (W1 (rb n + c)) (R n c) := fun c hc => by
        have := hi.1 n (by omega) c hc
        rw [uR_n _ _ (by omega)] at this
        exact this
      have e1 : ((n + 1 : Nat) : Int) - 1 = (n : Int) := by omega
      have hLn := hL n (by omega) (by omega)
      unfold rdB at hb
      unfold rdF at he
      rw [e1]
      refine x_iload_n hK kX3_reduce_5 (q := 6) rfl rfl ?_
      refine x_if_lt hK kX3_reduce_6 (q := 9) rfl (tg := 90) rfl (by omega) (fun c6 => ?_) (fun c6 => ?_)
      · exfalso; omega
      · refine x_aload_n hK kX3_reduce_9 (q := 10) rfl rfl ?_
        refine x_getfield hK kX3_reduce_10 (q := 13) rfl (gX3_29 ?_)
        refine x_getfield hK kX3_reduce_13 (q := 16) rfl (gX3_74 ?_)
        refine x_iload_n hK kX3_reduce_16 (q := 17) rfl rfl ?_
        refine x_aaload hK kX3_reduce_17 (q := 18) rfl (wa_a wa_6 (by rw [er.2]; omega) ?_)
        refine x_cv1 hK kX3_reduce_18 (q := 21) rfl (vtX3_reduce_118) (Nat.le_of_ble_eq_true rfl) ?_
        refine SX8_isZero_i (k := rb 10 + n) (z := v n) (by omega) (wv n (by omega)) ?_
        refine x_if_eq hK kX3_reduce_21 (q := 24) rfl (tg := 27) rfl (by exact zZ_w _) (fun c21 => ?_) (fun c21 => ?_)
        · have v0 : v n ≠ 0 := zZ_0.mp c21
          rw [if_neg v0] at hb he
          refine x_aload_n hK kX3_reduce_27 (q := 28) rfl rfl ?_
          refine x_getfield hK kX3_reduce_28 (q := 31) rfl (gX3_19 ?_)
          refine x_iload_n hK kX3_reduce_31 (q := 32) rfl rfl ?_
          refine x_baload hK kX3_reduce_32 (q := 33) rfl (aC3_2 (by refine ⟨?_, ?_⟩ <;> omega) ?_)
          refine x_if_eq hK kX3_reduce_33 (q := 36) rfl (tg := 77) rfl (by rcases hLn with e | e <;> (rw [e]; decide)) (fun c33 => ?_) (fun c33 => ?_)
          · rw [if_pos c33] at hb he
            have nx := ih v (if t = -1 then (n : Int) else t) W1 (by omega) (by split; exact ⟨by omega, by omega⟩; exact ht) ho hi hb he
            refine x_iload_n hK kX3_reduce_77 (q := 78) rfl rfl ?_
            refine x_iconst hK kX3_reduce_78 (q := 79) rfl ?_
            refine x_icmp_ne hK kX3_reduce_79 (q := 82) rfl (tg := 84) rfl (by refine ⟨ht, by decide⟩) (fun c79 => ?_) (fun c79 => ?_)
            · rw [if_neg c79] at nx
              refine x_iinc hK kX3_reduce_84 (q := 87) rfl rfl ?_
              simp only [lS, lS2, clr_0, clr_I, clr_L, clr_R]
              refine x_goto hK kX3_reduce_87 (tg := 5) rfl ?_
              rw [show (n : Int) + -1 = (n : Int) - 1 by omega]
              exact nx
            · rw [if_pos (Decidable.not_not.mp c79)] at nx
              refine x_iload_n hK kX3_reduce_82 (q := 83) rfl rfl ?_
              refine x_istore_n hK kX3_reduce_83 (q := 84) (jn := 1) rfl rfl ?_
              refine x_iinc hK kX3_reduce_84 (q := 87) rfl rfl ?_
              simp only [lS, lS2, clr_0, clr_I, clr_L, clr_R]
              refine x_goto hK kX3_reduce_87 (tg := 5) rfl ?_
              rw [show (n : Int) + -1 = (n : Int) - 1 by omega]
              exact nx
          · rw [if_neg c33] at hb he
            obtain ⟨⟨⟨a, b, hab, hbd⟩, elb⟩, hb2⟩ := hb
            have Rn := hp n (by omega) (by omega)
            refine x_aload_n hK kX3_reduce_36 (q := 37) rfl rfl ?_
            refine x_getfield hK kX3_reduce_37 (q := 40) rfl (gX3_44 ?_)
            refine x_aload_n hK kX3_reduce_40 (q := 41) rfl rfl ?_
            refine x_getfield hK kX3_reduce_41 (q := 44) rfl (gX3_29 ?_)
            refine x_getfield hK kX3_reduce_44 (q := 47) rfl (gX3_74 ?_)
            refine x_aload_n hK kX3_reduce_47 (q := 48) rfl rfl ?_
            refine x_getfield hK kX3_reduce_48 (q := 51) rfl (gX3_15 ?_)
            refine x_iload_n hK kX3_reduce_51 (q := 52) rfl rfl ?_
            refine x_aaload hK kX3_reduce_52 (q := 53) rfl (aC3_1 (by omega) ?_)
            refine x_getfield hK kX3_reduce_53 (q := 56) rfl (gX3_74 ?_)
            refine x_iload_n hK kX3_reduce_56 (q := 57) rfl rfl ?_
            refine x_cv4 hK kX3_reduce_57 (q := 60) rfl (vtX3_reduce_122) (Nat.le_of_ble_eq_true rfl) ?_
            refine SX1_eliminate_i (ba := rb 10) (bb := rb n) (n := 10) (p := n) (V := v) (U := R n) (a := a) (b := b) (by have := wa_6 (r := 10); rw [er.2] at this; exact this) (by have := wa_6 (r := n); rw [en.2] at this; exact this) (by omega) (by omega) wv wn Rn (fun i hi => (hbd i hi).1) (fun i hi => (hbd i hi).2) hab (fun i hi => Int.lt_of_lt_of_le (elb i hi) (lw_32 _)) hi.2 (fun W2 f2 g2 d2 => ?_)
            refine x_aload_n hK kX3_reduce_60 (q := 61) rfl rfl ?_
            refine x_getfield hK kX3_reduce_61 (q := 64) rfl (gX3_44 ?_)
            refine x_aload_n hK kX3_reduce_64 (q := 65) rfl rfl ?_
            refine x_getfield hK kX3_reduce_65 (q := 68) rfl (gX3_29 ?_)
            refine x_getfield hK kX3_reduce_68 (q := 71) rfl (gX3_74 ?_)
            refine x_cv2 hK kX3_reduce_71 (q := 74) rfl (vtX3_reduce_101) (Nat.le_of_ble_eq_true rfl) ?_
            refine SX1_simplify_i (base := rb 10) (n := 10) (V := el v (R n) n) (by have := wa_6 (r := 10); rw [er.2] at this; exact this) g2 (fun i hi => c32_62 (elb i hi)) d2 (fun W3 f3 g3 d3 => ?_)
            have nx := ih (sm (el v (R n) n)) t W3 (by omega) ht (fun s hs => by rw [f3 s (by omega) (by omega), f2 s (by omega) (by omega)]; exact ho s hs) (by
              have q := iR_u (W' := W3) (v := sm (el v (R n) n)) hi hr (fun s s0 _ s2 => by rw [f3 s s0 s2, f2 s s0 s2]) g3 d3
              rw [uR_u] at q
              exact q) hb2 he
            refine x_goto hK kX3_reduce_74 (tg := 84) rfl ?_
            refine x_iinc hK kX3_reduce_84 (q := 87) rfl rfl ?_
            simp only [lS, lS2, clr_0, clr_I, clr_L, clr_R]
            refine x_goto hK kX3_reduce_87 (tg := 5) rfl ?_
            rw [show (n : Int) + -1 = (n : Int) - 1 by omega]
            exact nx
        · have v0 : v n = 0 := Decidable.not_not.mp (fun g => c21 (zZ_0.mpr g))
          rw [if_pos v0] at hb he
          have nx := ih v t W1 (by omega) ht ho hi hb he
          refine x_goto hK kX3_reduce_24 (tg := 84) rfl ?_
          refine x_iinc hK kX3_reduce_84 (q := 87) rfl rfl ?_
          simp only [lS, lS2, clr_0, clr_I, clr_L, clr_R]
          refine x_goto hK kX3_reduce_87 (tg := 5) rfl ?_
          rw [show (n : Int) + -1 = (n : Int) - 1 by omega]
          exact nx
  simp only [eLoc, eE, List.length_cons, List.length_nil, List.replicate, List.cons_append, List.nil_append, Nat.reduceAdd, Nat.reduceSub]
  refine x_iconst hK kX3_reduce_0 (q := 1) rfl ?_
  refine x_istore_n hK kX3_reduce_1 (q := 2) (jn := 1) rfl rfl ?_
  refine x_bipush hK kX3_reduce_2 (q := 4) rfl (by decide) ?_
  refine x_istore_n hK kX3_reduce_4 (q := 5) (jn := 2) rfl rfl ?_
  simp only [lS, lS2, clr_0, clr_I, clr_L, clr_R]
  refine x_to (loop 10 (R 10) (-1) W (Nat.le_refl _) (by decide) (fun _ _ => rfl) ?_ hB hGf) rfl rfl rfl
  rw [uR_i]
  exact hR
set_option maxRecDepth 20000 in
theorem mX3_reduce : eMet yX3_reduce cX3_reduce 3 (some .int) 4 114 SX3_reduce := eMet_of (by decide +kernel) sX3_reduce kX3_reduce_ok caX3_reduce tb_RX3
theorem wX3_reduce : eWV yX3_reduce cX3_reduce 3 (some .int) 1 3 SX3_reduce := ⟨(gW_at 434 (by decide +kernel) rfl), (gW_at 84 (by decide +kernel) rfl), (gW_at 433 (by decide +kernel) rfl), ⟨_, rfl, (gW_at 4 (by decide +kernel) rfl)⟩, by decide +kernel, SX3_reduce_r⟩
