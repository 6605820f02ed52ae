/-! The face: solve. -/
theorem slM_2 (A : Nat → Int → Int) (f L G : Int → Int) : slM A f L G 2 = L := by unfold slM; rw [uA_n _ _ (by decide), uA_g]
theorem slM_1 (A : Nat → Int → Int) (f L G : Int → Int) : slM A f L G 1 = f := by unfold slM; rw [uA_n _ _ (by decide), uA_n _ _ (by decide), uA_g]
def slK (A : Nat → Int → Int) (V : Nat → Int) (P : Nat) : Prop := ∀ f, sP0 f (A 0) → idB f P (vR V) (A 2) (A 3) ∧ ∀ i : Int, 0 ≤ i → i < 10 → slL A V P f i = 0 ∨ slL A V P f i = 1
def slH (F : Nat → Int) (A : Nat → Int → Int) : Prop := F 1 ≠ -1 ∧ F 2 = F 3 ∧ sP0 (A 0) (A 1)
def SX9_solve : eSp := fun as M rt => ∃ (F : Nat → Int) (A W : Nat → Int → Int) (V : Nat → Int) (P : Nat), as = [eR (0, 0)] ∧ M = cC F A W ∧ (aR W V) ∧ (F 2 = P) ∧ (P ≤ 4) ∧ (0 ≤ F 0 ∧ F 0 ≤ 40) ∧ (w32 (F 1)) ∧ (w32 (F 3)) ∧ (∀ i : Int, 0 ≤ i → i < 30 → w32 (A 0 i) ∧ w32 (A 1 i)) ∧ (∀ i : Int, 24 ≤ i → i < 30 → -5 ≤ A 0 i ∧ A 0 i ≤ 5) ∧ (slK A V P) ∧ ((slH F A → rt (some (eI (F 1))) (cC F A W)) ∧ (¬ slH F A → 40 ≤ F 0 → rt (some (eI (-1))) (cC F A W)) ∧ (¬ slH F A → F 0 < 40 → ∀ (f : Int → Int) (W' : Nat → Int → Int), sP0 f (A 0) → aR W' (sV V (slR A V P f)) → slT (slF F (slQ A V P f) (slA (slL A V P f))) (slM A f (slL A V P f) (slG A V P f)) W' (sV V (slR A V P f)) rt))
theorem SX9_solve_i {F : Nat → Int} {A W : Nat → Int → Int} {V : Nat → Int} {P : Nat} {rt : Option eV → eM → Prop} (hV : aR W V) (hP : F 2 = P) (P4 : P ≤ 4) (h0 : 0 ≤ F 0 ∧ F 0 ≤ 40) (h1 : w32 (F 1)) (h3 : w32 (F 3)) (hA : ∀ i : Int, 0 ≤ i → i < 30 → w32 (A 0 i) ∧ w32 (A 1 i)) (hA5 : ∀ i : Int, 24 ≤ i → i < 30 → -5 ≤ A 0 i ∧ A 0 i ≤ 5) (hB : slK A V P) (h : (slH F A → rt (some (eI (F 1))) (cC F A W)) ∧ (¬ slH F A → 40 ≤ F 0 → rt (some (eI (-1))) (cC F A W)) ∧ (¬ slH F A → F 0 < 40 → ∀ (f : Int → Int) (W' : Nat → Int → Int), sP0 f (A 0) → aR W' (sV V (slR A V P f)) → slT (slF F (slQ A V P f) (slA (slL A V P f))) (slM A f (slL A V P f) (slG A V P f)) W' (sV V (slR A V P f)) rt)) : SX9_solve [eR (0, 0)] (cC F A W) rt := ⟨F, A, W, V, P, rfl, rfl, hV, hP, P4, h0, h1, h3, hA, hA5, hB, h⟩
theorem SX9_solve_r : ∀ as M rt, SX9_solve as M rt → ∃ a r fs, as = eR a :: r ∧ M a = some (.inl (8, fs)) := by
  rintro as M rt ⟨F, A, W, V, P, rfl, rfl, -⟩
  exact ⟨_, _, _, rfl, rfl⟩
set_option maxRecDepth 100000 in
set_option maxHeartbeats 1000000 in
set_option maxRecDepth 100000 in
set_option maxHeartbeats 4000000 in
theorem sX9_solve : eSafe TX9_solve (cdOf kX9_solve) 1 (some .int) SX9_solve := by
  intro K rt hK as M h
  obtain ⟨F, A, W, V, P, rfl, rfl, hV, hP, P4, h0, h1, h3, hA, hA5, hB, g1, g2, g3⟩ := h
  refine ⟨by simp [eE], ?_⟩
  have r22 : slH F A → K 22 [some (eR (0, 0))] [] (cC F A W) := fun a => by
    have hfin := g1 a
    refine x_aload_n hK kX9_solve_22 (q := 23) rfl rfl ?_
    refine x_getfield hK kX9_solve_23 (q := 26) rfl (gX9_48 ?_)
    refine x_ireturn hK kX9_solve_26 (by first | trivial | exact Or.inl rfl | exact Or.inr rfl) ?_
    exact hfin
  have f27 : ¬ slH F A → K 27 [some (eR (0, 0))] [] (cC F A W) := fun hn => by
    have w41 : w32 (F 0 + 1) := ⟨by omega, by omega⟩
    have m3 : ∀ x, uF F 0 x 2 = F 2 := fun x => uF_n _ _ (by decide)
    refine x_aload_n hK kX9_solve_27 (q := 28) rfl rfl ?_
    refine x_getfield hK kX9_solve_28 (q := 31) rfl (gX9_44 ?_)
    refine x_bipush hK kX9_solve_31 (q := 33) rfl (by decide) ?_
    refine x_icmp_lt hK kX9_solve_33 (q := 36) rfl (tg := 38) rfl (by exact ⟨⟨by omega, by omega⟩, by decide⟩) (fun c33 => ?_) (fun c33 => ?_)
    · refine x_aload_n hK kX9_solve_38 (q := 39) rfl rfl ?_
      refine x_dupR hK kX9_solve_39 (q := 40) rfl ?_
      refine x_getfield hK kX9_solve_40 (q := 43) rfl (gX9_44 ?_)
      refine x_iconst hK kX9_solve_43 (q := 44) rfl ?_
      refine x_iadd hK kX9_solve_44 (q := 45) rfl ?_
      refine x_putfield hK kX9_solve_45 (q := 48) rfl (pX9_44 ?_)
      refine x_aload_n hK kX9_solve_48 (q := 49) rfl rfl ?_
      refine x_getfield hK kX9_solve_49 (q := 52) rfl (gX9_21 ?_)
      refine x_aload_n hK kX9_solve_52 (q := 53) rfl rfl ?_
      refine x_getfield hK kX9_solve_53 (q := 56) rfl (gX9_15 ?_)
      refine x_cv2 hK kX9_solve_56 (q := 59) rfl (vtX9_solve_94) (Nat.le_of_ble_eq_true rfl) ?_
      refine SX6_copy_i (p := 1) (q := 0) (by decide) (by decide) (by decide) (fun f hf => ?_)
      have b1 := (hB f hf).1
      have b2 := (hB f hf).2
      have a1 : uA A 1 f 1 = f := uA_g _ _ _
      have a2 : uA A 1 f 2 = A 2 := uA_n _ _ (by decide)
      have a3 : uA A 1 f 3 = A 3 := uA_n _ _ (by decide)
      have ef : uF (uF F 0 (F 0 + 1)) (2 + 1) (uF F 0 (F 0 + 1) (2 + 0)) = uF (uF F 0 (F 0 + 1)) 3 (F 2) := by rw [show uF F 0 (F 0 + 1) (2 + 0) = F 2 from m3 _]
      rw [ef]
      have hP' : uF (uF F 0 (F 0 + 1)) 3 (F 2) (2 + 1) = P := by rw [← hP]; exact uF_g _ _ _
      refine x_aload_n hK kX9_solve_59 (q := 60) rfl rfl ?_
      refine x_getfield hK kX9_solve_60 (q := 63) rfl (gX9_33 ?_)
      refine x_aload_n hK kX9_solve_63 (q := 64) rfl rfl ?_
      refine x_getfield hK kX9_solve_64 (q := 67) rfl (gX9_21 ?_)
      refine x_cv2 hK kX9_solve_67 (q := 70) rfl (vtX9_solve_98) (Nat.le_of_ble_eq_true rfl) ?_
      refine SX3_build_i (p := 1) (P := P) (R := vR V) (by decide) P4 hP' (vR_i hV) (by rw [a1]; exact fun i i0 i1 => by rw [hf i i0 i1]; exact (hA i i0 i1).1) (by rw [a1, a2, a3]; exact b1) (fun W2 ho hr => ?_)
      rw [a1, a2, a3] at hr
      rw [a1, a2, a3]
      have hW := sV_i hV ho hr
      have hT := g3 hn (by omega) f W2 hf hW
      refine solve_70 (F := uF (uF (uF F 0 (F 0 + 1)) 3 (F 2)) 4 (slQ A V P f)) (A := slM A f (slL A V P f) (slG A V P f)) hK hW ?_ ?_ ?_
      · rw [slM_2]; exact b2
      · rw [slM_1]
        intro i i0 i1
        rw [hf i (by omega) i1]
        exact hA5 i i0 i1
      · rw [slM_2]
        exact hT
    · refine x_iconst hK kX9_solve_36 (q := 37) rfl ?_
      refine x_ireturn hK kX9_solve_37 (by first | trivial | exact Or.inl rfl | exact Or.inr rfl) ?_
      exact g2 hn (by omega)
  simp only [eLoc, eE, List.length_cons, List.length_nil, List.replicate, List.cons_append, List.nil_append, Nat.reduceAdd, Nat.reduceSub]
  refine x_aload_n hK kX9_solve_0 (q := 1) rfl rfl ?_
  refine x_getfield hK kX9_solve_1 (q := 4) rfl (gX9_48 ?_)
  refine x_iconst hK kX9_solve_4 (q := 5) rfl ?_
  refine x_icmp_eq hK kX9_solve_5 (q := 8) rfl (tg := 27) rfl (by exact ⟨h1, by decide⟩) (fun c5 => ?_) (fun c5 => ?_)
  · exact f27 (fun z => by first | exact z.1 (by omega) | exact q ⟨z.2.1, z.2.2⟩)
  · refine x_aload_n hK kX9_solve_8 (q := 9) rfl rfl ?_
    refine x_getfield hK kX9_solve_9 (q := 12) rfl (gX9_15 ?_)
    refine x_aload_n hK kX9_solve_12 (q := 13) rfl rfl ?_
    refine x_getfield hK kX9_solve_13 (q := 16) rfl (gX9_21 ?_)
    refine x_cv2 hK kX9_solve_16 (q := 19) rfl (vtX9_solve_90) (Nat.le_of_ble_eq_true rfl) ?_
    refine SX6_same_i (p := 0) (q := 1) (by decide) (by decide) ⟨(show w32 (F 2) from ⟨by omega, by omega⟩), (show w32 (F 3) from h3)⟩ hA ⟨fun q => ?_, fun q => ?_⟩
    · refine x_if_eq hK kX9_solve_19 (q := 22) rfl (tg := 27) rfl (by decide) (fun c => absurd c (by decide)) (fun _ => ?_)
      exact r22 ⟨by omega, q.1, q.2⟩
    refine x_if_eq hK kX9_solve_19 (q := 22) rfl (tg := 27) rfl (by omega) (fun c19 => ?_) (fun c19 => ?_)
    · exact f27 (fun z => by first | exact z.1 (by omega) | exact q ⟨z.2.1, z.2.2⟩)
    · exact absurd rfl c19
set_option maxRecDepth 20000 in
theorem mX9_solve : eMet yX9_solve cX9_solve 1 (some .int) 7 181 SX9_solve := eMet_of (by decide +kernel) sX9_solve kX9_solve_ok caX9_solve tb_RX9
theorem wX9_solve : eWV yX9_solve cX9_solve 1 (some .int) 1 8 SX9_solve := ⟨(gW_at 395 (by decide +kernel) rfl), (gW_at 79 (by decide +kernel) rfl), (gW_at 393 (by decide +kernel) rfl), ⟨_, rfl, (gW_at 394 (by decide +kernel) rfl)⟩, by decide +kernel, SX9_solve_r⟩
