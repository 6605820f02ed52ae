/-! isLeast. -/
theorem SX10_divides_j {u v : Int} {M : eM} {rt : Option eV → eM → Prop} (h0 : 0 ≤ u ∧ u < 45) (h1 : 0 ≤ v ∧ v < 45) (h : ∀ b : Int, (b = 0 ∨ b = 1) → (b = 1 ↔ mX u ≤ mX v ∧ mY u ≤ mY v) → rt (some (eI b)) M) : SX10_divides [eI u, eI v] M rt := SX10_divides_i h0 h1 h
def iL (hs : Int → Int) (n : Int) (l : Int) : Prop := hs l = 1 ∧ ∀ k, 0 ≤ k → k < n → k ≠ l → hs k = 1 → ¬ (mX k ≤ mX l ∧ mY k ≤ mY l)
def SX10_isLeast : eSp := fun as M rt => ∃ (F : Nat → Int) (A : Nat → Int → Int) (n l : Nat), as = [eRR, eI l] ∧ M = cR F A ∧ F 14 = n ∧ n ≤ 45 ∧ l < n ∧ (∀ k, A 15 k = 0 ∨ A 15 k = 1) ∧ ∀ b : Int, (b = 0 ∨ b = 1) → (b = 1 ↔ iL (A 15) n l) → rt (some (eI b)) (cR F A)
theorem SX10_isLeast_i {F : Nat → Int} {A : Nat → Int → Int} {n l : Nat} {rt : Option eV → eM → Prop} (h0 : F 14 = n) (h1 : n ≤ 45) (h2 : l < n) (h3 : ∀ k, A 15 k = 0 ∨ A 15 k = 1) (h : ∀ b : Int, (b = 0 ∨ b = 1) → (b = 1 ↔ iL (A 15) n l) → rt (some (eI b)) (cR F A)) : SX10_isLeast [eRR, eI l] (cR F A) rt := ⟨F, A, n, l, rfl, rfl, h0, h1, h2, h3, h⟩
theorem SX10_isLeast_r : ∀ as M rt, SX10_isLeast as M rt → ∃ a r fs, as = eR a :: r ∧ M a = some (.inl (9, fs)) := by
  rintro as M rt ⟨F, A, n, l, rfl, rfl, -⟩
  exact ⟨_, _, _, rfl, rfl⟩
def kX10_isLeast : List (Nat × Jvm.ClassFile.Instr × Nat) := [(0, .iconst 0, 1), (1, .istore_n 2, 1), (2, .iload_n 2, 1), (3, .aload_n 0, 1), (4, .getfield 167, 3), (7, .if_icmp .ge 33, 3), (10, .iload_n 2, 1), (11, .iload_n 1, 1), (12, .if_icmp .eq 22, 3), (15, .aload_n 0, 1), (16, .getfield 45, 3), (19, .iload_n 2, 1), (20, .baload, 1), (21, .ifCond .eq 13, 3), (24, .iload_n 2, 1), (25, .iload_n 1, 1), (26, .invokestatic 192, 3), (29, .ifCond .eq 5, 3), (32, .iconst 0, 1), (33, .ireturn, 1), (34, .iinc 2 1, 3), (37, .goto (-35), 3), (40, .aload_n 0, 1), (41, .getfield 45, 3), (44, .iload_n 1, 1), (45, .baload, 1), (46, .ireturn, 1)]
theorem kX10_isLeast_0 : cdOf kX10_isLeast 0 = some (.iconst 0, 1) := by decide +kernel
theorem kX10_isLeast_1 : cdOf kX10_isLeast 1 = some (.istore_n 2, 1) := by decide +kernel
theorem kX10_isLeast_2 : cdOf kX10_isLeast 2 = some (.iload_n 2, 1) := by decide +kernel
theorem kX10_isLeast_3 : cdOf kX10_isLeast 3 = some (.aload_n 0, 1) := by decide +kernel
theorem kX10_isLeast_4 : cdOf kX10_isLeast 4 = some (.getfield 167, 3) := by decide +kernel
theorem kX10_isLeast_7 : cdOf kX10_isLeast 7 = some (.if_icmp .ge 33, 3) := by decide +kernel
theorem kX10_isLeast_10 : cdOf kX10_isLeast 10 = some (.iload_n 2, 1) := by decide +kernel
theorem kX10_isLeast_11 : cdOf kX10_isLeast 11 = some (.iload_n 1, 1) := by decide +kernel
theorem kX10_isLeast_12 : cdOf kX10_isLeast 12 = some (.if_icmp .eq 22, 3) := by decide +kernel
theorem kX10_isLeast_15 : cdOf kX10_isLeast 15 = some (.aload_n 0, 1) := by decide +kernel
theorem kX10_isLeast_16 : cdOf kX10_isLeast 16 = some (.getfield 45, 3) := by decide +kernel
theorem kX10_isLeast_19 : cdOf kX10_isLeast 19 = some (.iload_n 2, 1) := by decide +kernel
theorem kX10_isLeast_20 : cdOf kX10_isLeast 20 = some (.baload, 1) := by decide +kernel
theorem kX10_isLeast_21 : cdOf kX10_isLeast 21 = some (.ifCond .eq 13, 3) := by decide +kernel
theorem kX10_isLeast_24 : cdOf kX10_isLeast 24 = some (.iload_n 2, 1) := by decide +kernel
theorem kX10_isLeast_25 : cdOf kX10_isLeast 25 = some (.iload_n 1, 1) := by decide +kernel
theorem kX10_isLeast_26 : cdOf kX10_isLeast 26 = some (.invokestatic 192, 3) := by decide +kernel
theorem kX10_isLeast_29 : cdOf kX10_isLeast 29 = some (.ifCond .eq 5, 3) := by decide +kernel
theorem kX10_isLeast_32 : cdOf kX10_isLeast 32 = some (.iconst 0, 1) := by decide +kernel
theorem kX10_isLeast_33 : cdOf kX10_isLeast 33 = some (.ireturn, 1) := by decide +kernel
theorem kX10_isLeast_34 : cdOf kX10_isLeast 34 = some (.iinc 2 1, 3) := by decide +kernel
theorem kX10_isLeast_37 : cdOf kX10_isLeast 37 = some (.goto (-35), 3) := by decide +kernel
theorem kX10_isLeast_40 : cdOf kX10_isLeast 40 = some (.aload_n 0, 1) := by decide +kernel
theorem kX10_isLeast_41 : cdOf kX10_isLeast 41 = some (.getfield 45, 3) := by decide +kernel
theorem kX10_isLeast_44 : cdOf kX10_isLeast 44 = some (.iload_n 1, 1) := by decide +kernel
theorem kX10_isLeast_45 : cdOf kX10_isLeast 45 = some (.baload, 1) := by decide +kernel
theorem kX10_isLeast_46 : cdOf kX10_isLeast 46 = some (.ireturn, 1) := by decide +kernel
set_option maxRecDepth 20000 in
theorem kX10_isLeast_ok : ∀ pc i len, cdOf kX10_isLeast pc = some (i, len) → decode cX10_isLeast pc = .ok (i, len) ∧ stOK 3 i = true ∧ jOK pc i = true ∧ eLen i len = true := cdOf_ok cX10_isLeast 3 kX10_isLeast (by decide +kernel)
def vtX10_isLeast : Nat → Option (Nat × eSp) := fun _ => none
def stX10_isLeast : Nat → Option (Nat × eSp) := fun k => match k with
  | 192 => some (2, SX10_divides)
  | _ => none
theorem stX10_isLeast_192 : stX10_isLeast 192 = some (2, SX10_divides) := rfl
abbrev TX10_isLeast : eT := (fl_RX10, cl_RX10, dl_RX10, vtX10_isLeast, stX10_isLeast)
set_option maxRecDepth 20000 in
theorem caX10_isLeast : eCalls RX10 { frames := 4, cells := 0, slots := 0, locals := 83 } TX10_isLeast := by
  refine ⟨fun k n sp h => ?_, fun k n sp h => ?_⟩
  · cases h
  · dsimp only [TX10_isLeast] at h
    unfold stX10_isLeast at h
    split at h
    · cases h; exact eS_mk mX10_divides wX10_divides (by decide +kernel) (Or.inl (gW_at 1194 (by decide +kernel) rfl))
    · cases h
set_option maxRecDepth 100000 in
set_option maxHeartbeats 4000000 in
theorem sX10_isLeast : eSafe TX10_isLeast (cdOf kX10_isLeast) 3 (some .boolean) SX10_isLeast := by
  intro K rt hK as M h
  obtain ⟨F, A, n, l, rfl, rfl, hF, hn, hl, hh, h⟩ := h
  refine ⟨by simp [eE], ?_⟩
  have wl : w32 (l : Int) := by constructor <;> omega
  have wh : ∀ k, w32 (A 15 k) := fun k => by rcases hh k with e | e <;> rw [e] <;> decide
  have loop : ∀ (d k : Nat), k + d = n → (∀ j, 0 ≤ j → j < (k : Int) → j ≠ l → A 15 j = 1 → ¬ (mX j ≤ mX l ∧ mY j ≤ mY l)) → K 2 [some eRR, some (eI l), some (eI k)] [] (cR F A) := by
    intro d
    induction d with
    | zero =>
      intro k hk hj
      have e : k = n := by omega
      subst e
      refine x_iload_n hK kX10_isLeast_2 (q := 3) rfl rfl ?_
      refine x_aload_n hK kX10_isLeast_3 (q := 4) rfl rfl ?_
      refine x_getfield hK kX10_isLeast_4 (q := 7) rfl (gX10_167 ?_)
      rw [hF]
      refine x_icmp_ge hK kX10_isLeast_7 (q := 10) rfl (tg := 40) rfl (by refine ⟨?_, ?_⟩ <;> omega) (fun c7 => ?_) (fun c7 => ?_)
      · refine x_aload_n hK kX10_isLeast_40 (q := 41) rfl rfl ?_
        refine x_getfield hK kX10_isLeast_41 (q := 44) rfl (gX10_45 ?_)
        refine x_iload_n hK kX10_isLeast_44 (q := 45) rfl rfl ?_
        refine x_baload hK kX10_isLeast_45 (q := 46) rfl (aX10_A15 (by refine ⟨?_, ?_⟩ <;> omega) ?_)
        refine x_ireturn hK kX10_isLeast_46 (by exact hh l) ?_
        exact h _ (hh l) ⟨fun g => ⟨g, hj⟩, fun g => g.1⟩
      · exfalso; omega
    | succ d ih =>
      intro k hk hj
      have wk : w32 (k : Int) := by constructor <;> omega
      have kl : (k : Int) < n := by omega
      have nx : ((k : Int) ≠ l → A 15 k = 1 → ¬ (mX k ≤ mX l ∧ mY k ≤ mY l)) → K 34 [some eRR, some (eI l), some (eI k)] [] (cR F A) := by
        intro g
        refine x_iinc hK kX10_isLeast_34 (q := 37) rfl rfl ?_
        simp only [lS, lS2, clr_0, clr_I, clr_L, clr_R]
        refine x_goto hK kX10_isLeast_37 (tg := 2) rfl ?_
        rw [show (k : Int) + 1 = ((k + 1 : Nat) : Int) by omega]
        refine ih (k + 1) (by omega) (fun j j0 j1 j2 j3 => ?_)
        rcases Int.lt_or_le j k with g2 | g2
        · exact hj j j0 g2 j2 j3
        · have e : j = k := by omega
          subst e
          exact g j2 j3
      refine x_iload_n hK kX10_isLeast_2 (q := 3) rfl rfl ?_
      refine x_aload_n hK kX10_isLeast_3 (q := 4) rfl rfl ?_
      refine x_getfield hK kX10_isLeast_4 (q := 7) rfl (gX10_167 ?_)
      rw [hF]
      refine x_icmp_ge hK kX10_isLeast_7 (q := 10) rfl (tg := 40) rfl (by refine ⟨?_, ?_⟩ <;> omega) (fun c7 => ?_) (fun c7 => ?_)
      · exfalso; omega
      · refine x_iload_n hK kX10_isLeast_10 (q := 11) rfl rfl ?_
        refine x_iload_n hK kX10_isLeast_11 (q := 12) rfl rfl ?_
        refine x_icmp_eq hK kX10_isLeast_12 (q := 15) rfl (tg := 34) rfl (by exact ⟨wk, wl⟩) (fun c12 => ?_) (fun c12 => ?_)
        · exact nx (fun g => absurd c12 g)
        · refine x_aload_n hK kX10_isLeast_15 (q := 16) rfl rfl ?_
          refine x_getfield hK kX10_isLeast_16 (q := 19) rfl (gX10_45 ?_)
          refine x_iload_n hK kX10_isLeast_19 (q := 20) rfl rfl ?_
          refine x_baload hK kX10_isLeast_20 (q := 21) rfl (aX10_A15 (by refine ⟨?_, ?_⟩ <;> omega) ?_)
          refine x_if_eq hK kX10_isLeast_21 (q := 24) rfl (tg := 34) rfl (by exact wh _) (fun c21 => ?_) (fun c21 => ?_)
          · exact nx (fun _ g => by omega)
          · refine x_iload_n hK kX10_isLeast_24 (q := 25) rfl rfl ?_
            refine x_iload_n hK kX10_isLeast_25 (q := 26) rfl rfl ?_
            refine x_cs2 hK kX10_isLeast_26 (q := 29) rfl (stX10_isLeast_192) (Nat.le_of_ble_eq_true rfl) ?_
            refine SX10_divides_i (by omega) (by omega) (fun b b0 b1 => ?_)
            refine x_if_eq hK kX10_isLeast_29 (q := 32) rfl (tg := 34) rfl (by rcases b0 with e | e <;> rw [e] <;> decide) (fun c29 => ?_) (fun c29 => ?_)
            · exact nx (fun _ _ g => by have := b1.mpr g; omega)
            · have c30 : b = 1 := by omega
              have c31 : A 15 k = 1 := by have := hh k; omega
              refine x_iconst hK kX10_isLeast_32 (q := 33) rfl ?_
              refine x_ireturn hK kX10_isLeast_33 (by exact Or.inl rfl) ?_
              exact h 0 (Or.inl rfl) ⟨fun g => absurd g (by decide), fun g => absurd (b1.mp c30) (g.2 k (by omega) kl c12 c31)⟩
  simp only [eLoc, eE, List.length_cons, List.length_nil, List.replicate, List.cons_append, List.nil_append, Nat.reduceAdd, Nat.reduceSub]
  refine x_iconst hK kX10_isLeast_0 (q := 1) rfl ?_
  refine x_istore_n hK kX10_isLeast_1 (q := 2) (jn := 2) rfl rfl ?_
  simp only [lS, lS2, clr_0, clr_I, clr_L, clr_R]
  exact loop n 0 (by omega) (fun j j0 j1 => by omega)
set_option maxRecDepth 20000 in
theorem mX10_isLeast : eMet yX10_isLeast cX10_isLeast 3 (some .boolean) 4 83 SX10_isLeast := eMet_of (by decide +kernel) sX10_isLeast kX10_isLeast_ok caX10_isLeast tb_RX10
theorem wX10_isLeast : eWV yX10_isLeast cX10_isLeast 3 (some .boolean) 2 9 SX10_isLeast := ⟨(gW_at 1193 (by decide +kernel) rfl), (gW_at 89 (by decide +kernel) rfl), (gW_at 1192 (by decide +kernel) rfl), ⟨_, rfl, (gW_at 58 (by decide +kernel) rfl)⟩, by decide +kernel, SX10_isLeast_r⟩
