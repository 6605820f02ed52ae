/-! The face: solve, from behind the ideal's build. -/
theorem slA_c (L : Int → Int) : 0 ≤ slA L ∧ slA L ≤ 2 := by
  unfold slA
  split
  · decide
  · split <;> decide
set_option maxRecDepth 100000 in
set_option maxHeartbeats 1000000 in
theorem solve_100 {K : eK0} {rt : Option eV → eM → Prop} (hK : eCl TX9_solve (cdOf kX9_solve) (some .int) K rt) {F : Nat → Int} {A W : Nat → Int → Int} {V : Nat → Int} {v : Int} (hV : aR W V) (h1 : 0 ≤ v ∧ v ≤ 2) (hL : ∀ i : Int, 0 ≤ i → i < 10 → A 2 i = 0 ∨ A 2 i = 1) (hA : ∀ i : Int, 24 ≤ i → i < 30 → -5 ≤ A 1 i ∧ A 1 i ≤ 5) (h : slT (uF F 1 v) A W V rt) : K 100 [some (eR (0, 0))] [eI v, eR (0, 0)] (cC F A W) := by
  have e1 : uF F 1 v 1 = v := uF_g _ _ _
  refine x_putfield hK kX9_solve_100 (q := 103) rfl (pX9_48 ?_)
  exact solve_t hK hV (by rw [e1]; exact h1) hL hA h
set_option maxRecDepth 100000 in
set_option maxHeartbeats 1000000 in
theorem solve_92 {K : eK0} {rt : Option eV → eM → Prop} (hK : eCl TX9_solve (cdOf kX9_solve) (some .int) K rt) {F : Nat → Int} {A W : Nat → Int → Int} {b v : Int} (hb : (b = 0 ∧ v = 2) ∨ (b = 1 ∧ v = 1)) (h : K 100 [some (eR (0, 0))] [eI v, eR (0, 0)] (cC F A W)) : K 92 [some (eR (0, 0))] [eI b, eR (0, 0)] (cC F A W) := by
  refine x_if_eq hK kX9_solve_92 (q := 95) rfl (tg := 99) rfl (by exact ⟨by omega, by omega⟩) (fun c92 => ?_) (fun c92 => ?_)
  · have e : v = 2 := by omega
    rw [e] at h
    refine x_iconst hK kX9_solve_99 (q := 100) rfl ?_
    exact h
  · have e : v = 1 := by omega
    rw [e] at h
    refine x_iconst hK kX9_solve_95 (q := 96) rfl ?_
    refine x_goto hK kX9_solve_96 (tg := 100) rfl ?_
    exact h
set_option maxRecDepth 100000 in
set_option maxHeartbeats 1000000 in
theorem solve_70 {K : eK0} {rt : Option eV → eM → Prop} (hK : eCl TX9_solve (cdOf kX9_solve) (some .int) K rt) {F : Nat → Int} {A W : Nat → Int → Int} {V : Nat → Int} (hV : aR W V) (hL : ∀ i : Int, 0 ≤ i → i < 10 → A 2 i = 0 ∨ A 2 i = 1) (hA : ∀ i : Int, 24 ≤ i → i < 30 → -5 ≤ A 1 i ∧ A 1 i ≤ 5) (h : slT (uF F 1 (slA (A 2))) A W V rt) : K 70 [some (eR (0, 0))] [] (cC F A W) := by
  have l0 := hL 0 (by decide) (by decide)
  have key := solve_100 hK hV (slA_c (A 2)) hL hA h
  have nine : A 2 0 = 0 → ∀ b : Int, ((∀ i : Int, 6 ≤ i → i < 10 → A 2 i = 1) ∧ b = 1 ∨ ¬ (∀ i : Int, 6 ≤ i → i < 10 → A 2 i = 1) ∧ b = 0) → K 92 [some (eR (0, 0))] [eI b, eR (0, 0)] (cC F A W) := fun z b hb => by
    refine solve_92 hK (v := slA (A 2)) ?_ key
    unfold slA
    rw [if_neg (by omega)]
    rcases hb with ⟨q, e⟩ | ⟨q, e⟩
    · rw [if_pos ⟨q 6 (by decide) (by decide), q 7 (by decide) (by decide), q 8 (by decide) (by decide), q 9 (by decide) (by decide)⟩]
      exact Or.inr ⟨e, rfl⟩
    · rw [if_neg (fun w => q (fun i i0 i1 => by
        have : i = 6 ∨ i = 7 ∨ i = 8 ∨ i = 9 := by omega
        rcases this with rfl | rfl | rfl | rfl
        · exact w.1
        · exact w.2.1
        · exact w.2.2.1
        · exact w.2.2.2))]
      exact Or.inl ⟨e, rfl⟩
  refine x_aload_n hK kX9_solve_70 (q := 71) rfl rfl ?_
  refine x_aload_n hK kX9_solve_71 (q := 72) rfl rfl ?_
  refine x_getfield hK kX9_solve_72 (q := 75) rfl (gX9_33 ?_)
  refine x_cv1 hK kX9_solve_75 (q := 78) rfl (vtX9_solve_101) (Nat.le_of_ble_eq_true rfl) ?_
  refine SX3_isWhole_i l0 ?_
  refine x_if_eq hK kX9_solve_78 (q := 81) rfl (tg := 85) rfl (by rcases l0 with e | e <;> (rw [e]; decide)) (fun c78 => ?_) (fun c78 => ?_)
  · refine x_aload_n hK kX9_solve_85 (q := 86) rfl rfl ?_
    refine x_getfield hK kX9_solve_86 (q := 89) rfl (gX9_33 ?_)
    refine x_cv1 hK kX9_solve_89 (q := 92) rfl (vtX9_solve_105) (Nat.le_of_ble_eq_true rfl) ?_
    refine SX3_isFinite_i hL ⟨fun q => nine (by omega) 1 (Or.inl ⟨q, rfl⟩), fun q => nine (by omega) 0 (Or.inr ⟨q, rfl⟩)⟩
  · have e : slA (A 2) = 0 := by unfold slA; rw [if_pos (by omega)]
    rw [e] at key
    refine x_iconst hK kX9_solve_81 (q := 82) rfl ?_
    refine x_goto hK kX9_solve_82 (tg := 100) rfl ?_
    exact key
