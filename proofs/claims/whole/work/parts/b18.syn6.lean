/-! The small calls keep the relation, with the same answers. -/
section
variable {F F' : Nat → Int} {A A' : Nat → Int → Int}
theorem yN_u (h : yN F F' A A') {K : Nat} {v : Int} (hK : (K : Int) < 6 * F 2) (hv : -5 ≤ v ∧ v ≤ 5) : yN F F' (uA A 0 (uI (A 0) K v)) (uA A' 4 (uI (A' 4) K v)) := by
  obtain ⟨n1, n2, n3, n4, n5, n6⟩ := h
  refine ⟨n1, n2, fun k hk => ?_, fun k hk => ?_, fun i i0 i1 => ?_, fun i i0 i1 => ?_⟩
  · rw [uA_g, uA_g]
    rcases Decidable.em (k = K) with q | q
    · rw [q, uI_s, uI_s]
    · rw [uI_n _ _ (by omega), uI_n _ _ (by omega)]
      exact n3 k hk
  · rw [uA_g, uA_n _ _ (by decide), uI_n _ _ (by omega)]
    exact n4 k hk
  · rw [uA_g]
    rcases Decidable.em (i = K) with q | q
    · rw [q, uI_s]
      exact hv
    · rw [uI_n _ _ q]
      exact n5 i i0 i1
  · rw [uA_g, uI_n _ _ (by omega)]
    exact n6 i i0 i1
theorem yN_q (h : yN F F' A A') {K : Nat} {v : Int} (hK : K < 6) (hv : -5 ≤ v ∧ v ≤ 5) : yN F F' (uA A 0 (uI (A 0) (24 + (K : Int)) v)) (uA A' 5 (uI (A' 5) K v)) := by
  obtain ⟨n1, n2, n3, n4, n5, n6⟩ := h
  refine ⟨n1, n2, fun k hk => ?_, fun k hk => ?_, fun i i0 i1 => ?_, fun i i0 i1 => ?_⟩
  · rw [uA_g, uA_n _ _ (by decide), uI_n _ _ (by omega)]
    exact n3 k hk
  · rw [uA_g, uA_g]
    rcases Decidable.em (k = K) with q | q
    · rw [q, uI_s, uI_s]
    · rw [uI_n _ _ (by omega), uI_n _ _ (by omega)]
      exact n4 k hk
  · rw [uA_g]
    rcases Decidable.em (i = 24 + (K : Int)) with q | q
    · rw [q, uI_s]
      exact hv
    · rw [uI_n _ _ q]
      exact n5 i i0 i1
  · rw [uA_g, uI_n _ _ (by omega)]
    exact n6 i i0 i1
theorem mN_2 {a b : Int} (h : 0 ≤ a ∧ 0 ≤ b ∧ a + b ≤ 2) : ∃ k : Nat, mN a b = k ∧ k < 6 := by
  obtain ⟨h0, h1⟩ := mN_6 h
  exact ⟨(mN a b).toNat, by omega, by omega⟩
end
section
variable {M1 M2 : eM} {o x1 x2 x3 x4 : Int}
theorem yc_0 (h : Syn M1 M2) : SX9_clear [eR (0, 0)] M1 (fun r M1' => r = none ∧ SX10_clear [eR (0, 0)] M2 (fun r2 M2' => r2 = none ∧ Syn M1' M2')) := by
  obtain ⟨F, A, W, F', A', V, s, rfl, rfl, hV, hr, hN, hT⟩ := h
  refine SX9_clear_i (fun f hf => ⟨rfl, F', A', rfl, rfl, fun F2 A2 g1 g2 g3 g4 g5 g6 => ⟨rfl, ?_⟩⟩)
  refine SI_mk hV (by rw [g4 0 (by decide) (by decide)]; exact hr) ⟨by rw [uF_g, g2], by rw [uF_g]; exact ⟨by decide, by decide⟩, fun k hk => by rw [uA_g, g5 k hk]; exact hf k (by omega) (by omega), fun k hk => by rw [uA_g, g6 k hk]; exact hf _ (by omega) (by omega), fun i i0 i1 => by rw [uA_g, hf i i0 i1]; exact ⟨by decide, by decide⟩, fun i i0 i1 => by rw [uA_g]; rw [uF_g] at i0; exact hf i (by omega) (by omega)⟩ (yT_c hT (fun j hj => uF_n _ _ hj) (fun j hj => uA_n _ _ hj) (fun j h1 h2 => g1 j h1 h2) (fun k hk => g4 k (by omega) (by omega)) (fun _ _ => rfl))
theorem yc_1 (h : Syn M1 M2) : SX9_start [eR (0, 0)] M1 (fun r M1' => ∃ v, r = some (eI v) ∧ SX10_start [eR (0, 0)] M2 (fun r2 M2' => r2 = some (eI v) ∧ Syn M1' M2')) := by
  obtain ⟨F, A, W, F', A', V, s, rfl, rfl, hV, hr, hN, hT⟩ := h
  obtain ⟨n1, n2, n3, n4, n5, n6⟩ := id hN
  refine SX9_start_i n2 ⟨fun q => ⟨-1, rfl, F', A', rfl, rfl, by omega, fun _ => ⟨rfl, SI_12 hV 0 hr hN hT⟩, fun g => absurd (show F' 6 = 4 by omega) g⟩, fun q => ⟨F 2, rfl, F', A', rfl, rfl, by omega, fun g => absurd q (by omega), fun g => ⟨by rw [n1], ?_⟩⟩⟩
  exact SI_mk hV hr ⟨by rw [uF_g, uF_g, n1], by rw [uF_g]; omega, n3, n4, n5, fun i h1 h2 => n6 i (by rw [uF_g] at h1; omega) h2⟩ (yT_c hT (fun j hj => uF_n _ _ hj) (fun _ _ => rfl) (fun j h1 h2 => by rw [uF_n _ _ h1, uF_n _ _ h2]) (fun _ _ => rfl) (fun _ _ => rfl))
theorem yc_2 (h : Syn M1 M2) (w1 : w32 x1) (w2 : w32 x2) (w3 : w32 x3) (w4 : w32 x4) : lSp exTer [eR (0, 0), eI x1, eI x2, eI x3, eI x4] M1 o (fun k o' M1' => (w32 k ∧ True) ∧ SX10_term [eR (0, 0), eI x1, eI x2, eI x3, eI x4] M2 (fun r2 M2' => ∃ v2, w32 v2 ∧ r2 = some (eI v2) ∧ SX10_thrown [eR (0, 0)] M2' (fun r3 M3 => r3 = some (eI k) ∧ (k = 0 → o' = v2) ∧ Syn M1' M3))) [(xIO, 1), (xIA, 2)] := by
  obtain ⟨F, A, W, F', A', V, s, rfl, rfl, hV, hr, hN, hT⟩ := h
  obtain ⟨n1, n2, n3, n4, n5, n6⟩ := id hN
  have b4 : ∀ k : Nat, k < 24 → -5 ≤ A' 4 k ∧ A' 4 k ≤ 5 := fun k hk => by
    rw [← n3 k hk]
    exact n5 k (by omega) (by omega)
  have n26 : 0 ≤ F' 6 ∧ F' 6 ≤ 4 := by omega
  have wz : w32 (0 : Int) := by decide
  refine ⟨F, A, W, x1, x2, x3, x4, rfl, rfl, w1, n2, w2, w3, w4, n5, fun q => ⟨1, List.mem_cons_self, ⟨by decide, trivial⟩, F', A', x1, x2, x3, x4, rfl, rfl, w1, w2, w3, w4, n26, b4, fun g => ⟨0, wz, rfl, _, _, rfl, rfl, by rw [uF_g], fun c => absurd c (by decide), SI_12 hV 1 hr hN hT⟩, fun g1 g2 => absurd (show 0 ≤ x1 ∧ x1 < F 2 by omega) q, fun g1 g2 => absurd (show 0 ≤ x1 ∧ x1 < F 2 by omega) q, fun g1 g2 => absurd (show 0 ≤ x1 ∧ x1 < F 2 by omega) q⟩, fun q => ⟨fun e => ?_, fun e g => ?_, fun e g1 g2 => ?_⟩⟩
  · have nt : ¬ (0 ≤ x2 ∧ 0 ≤ x3 ∧ x2 + x3 ≤ 2) := fun t => by
      rw [oP_m, if_pos t] at e
      have := (mN_6 t).1
      omega
    exact ⟨2, List.mem_cons_of_mem _ List.mem_cons_self, ⟨by decide, trivial⟩, F', A', x1, x2, x3, x4, rfl, rfl, w1, w2, w3, w4, n26, b4, fun g => absurd g (by omega), fun g1 g2 g3 => ⟨0, wz, rfl, _, _, rfl, rfl, by rw [uF_g], fun c => absurd c (by decide), SI_12 hV 2 hr hN hT⟩, fun g1 g2 t => absurd t nt, fun g1 g2 t => absurd t nt⟩
  · have t : 0 ≤ x2 ∧ 0 ≤ x3 ∧ x2 + x3 ≤ 2 := Decidable.of_not_not (fun t => e (by rw [oP_m, if_neg t]))
    rw [oP_m, if_pos t] at g
    obtain ⟨k, hk, k6⟩ := mN_2 t
    have ek : 6 * x1 + mN x2 x3 = ((6 * x1.toNat + k : Nat) : Int) := by omega
    rw [ek, n3 _ (by omega), ← ek] at g
    have b := b4 (6 * x1.toNat + k) (by omega)
    rw [← ek] at b
    exact ⟨2, List.mem_cons_of_mem _ List.mem_cons_self, ⟨by decide, trivial⟩, F', A', x1, x2, x3, x4, rfl, rfl, w1, w2, w3, w4, n26, b4, fun g => absurd g (by omega), fun g1 g2 g3 => absurd t g3, fun g1 g2 _ _ => ⟨_, w32_s (by omega) (by omega), rfl, _, _, rfl, rfl, by rw [uF_g], fun c => absurd c (by decide), SI_12 hV 2 hr hN hT⟩, fun g1 g2 _ g3 => absurd g g3⟩
  · have t : 0 ≤ x2 ∧ 0 ≤ x3 ∧ x2 + x3 ≤ 2 := Decidable.of_not_not (fun t => e (by rw [oP_m, if_neg t]))
    rw [oP_m, if_pos t] at g1 g2 ⊢
    obtain ⟨k, hk, k6⟩ := mN_2 t
    have ek : 6 * x1 + mN x2 x3 = ((6 * x1.toNat + k : Nat) : Int) := by omega
    have e3 := n3 (6 * x1.toNat + k) (by omega)
    rw [← ek] at e3
    obtain ⟨v, hv⟩ : ∃ v, A 0 (6 * x1 + mN x2 x3) + x4 = v := ⟨_, rfl⟩
    have hv' : A' 4 (6 * x1 + mN x2 x3) + x4 = v := by rw [← e3]; exact hv
    rw [hv] at g1 g2 ⊢
    refine ⟨v, rfl, v, rfl, w32_s (by omega) (by omega), ⟨by decide, trivial⟩, F', A', x1, x2, x3, x4, rfl, rfl, w1, w2, w3, w4, n26, b4, fun g => absurd g (by omega), fun g1 g2 g3 => absurd t g3, fun _ _ _ g3 => absurd g3 (by rw [hv']; omega), fun _ _ _ _ => ⟨v, w32_s (by omega) (by omega), by rw [hv'], _, _, rfl, rfl, by rw [uF_g], fun _ => rfl, ?_⟩⟩
    rw [hv', ek]
    exact SI_mk hV hr (yN_c (yN_u hN (by omega) ⟨g1, g2⟩) (uF_n _ _ (by decide)) rfl rfl) (yT_c hT (fun _ _ => rfl) (fun j hj => uA_n _ _ hj) (fun j _ h => uF_n _ _ h) (fun k hk => uA_n _ _ (by omega)) (fun _ _ => rfl))
theorem yc_3 (h : Syn M1 M2) (w1 : w32 x1) (w2 : w32 x2) (w3 : w32 x3) : lSp exQue [eR (0, 0), eI x1, eI x2, eI x3] M1 o (fun k o' M1' => (w32 k ∧ True) ∧ SX10_query [eR (0, 0), eI x1, eI x2, eI x3] M2 (fun r2 M2' => ∃ v2, w32 v2 ∧ r2 = some (eI v2) ∧ SX10_thrown [eR (0, 0)] M2' (fun r3 M3 => r3 = some (eI k) ∧ (k = 0 → o' = v2) ∧ Syn M1' M3))) [(xIA, 1)] := by
  obtain ⟨F, A, W, F', A', V, s, rfl, rfl, hV, hr, hN, hT⟩ := h
  obtain ⟨n1, n2, n3, n4, n5, n6⟩ := id hN
  have b5 : ∀ k : Nat, k < 6 → -5 ≤ A' 5 k ∧ A' 5 k ≤ 5 := fun k hk => by
    rw [← n4 k hk]
    exact n5 _ (by omega) (by omega)
  have wz : w32 (0 : Int) := by decide
  refine ⟨F, A, W, x1, x2, x3, rfl, rfl, w1, w2, w3, n5, fun e => ?_, fun e g => ?_, fun e g1 g2 => ?_⟩
  · have nt : ¬ (0 ≤ x1 ∧ 0 ≤ x2 ∧ x1 + x2 ≤ 2) := fun t => by
      rw [oP_m, if_pos t] at e
      have := (mN_6 t).1
      omega
    exact ⟨1, List.mem_cons_self, ⟨by decide, trivial⟩, F', A', x1, x2, x3, rfl, rfl, w1, w2, w3, b5, fun g => ⟨0, wz, rfl, _, _, rfl, rfl, by rw [uF_g], fun c => absurd c (by decide), SI_12 hV 1 hr hN hT⟩, fun t => absurd t nt, fun t => absurd t nt⟩
  · have t : 0 ≤ x1 ∧ 0 ≤ x2 ∧ x1 + x2 ≤ 2 := Decidable.of_not_not (fun t => e (by rw [oP_m, if_neg t]))
    rw [oP_m, if_pos t] at g
    obtain ⟨k, hk, k6⟩ := mN_2 t
    have e4 := n4 k k6
    have b := b5 k k6
    rw [← hk] at e4 b
    rw [show (6 : Int) * 4 = 24 by decide, e4] at g
    exact ⟨1, List.mem_cons_self, ⟨by decide, trivial⟩, F', A', x1, x2, x3, rfl, rfl, w1, w2, w3, b5, fun g3 => absurd t g3, fun _ _ => ⟨_, w32_s (by omega) (by omega), rfl, _, _, rfl, rfl, by rw [uF_g], fun c => absurd c (by decide), SI_12 hV 1 hr hN hT⟩, fun _ g3 => absurd g g3⟩
  · have t : 0 ≤ x1 ∧ 0 ≤ x2 ∧ x1 + x2 ≤ 2 := Decidable.of_not_not (fun t => e (by rw [oP_m, if_neg t]))
    rw [oP_m, if_pos t, show (6 : Int) * 4 = 24 by decide] at g1 g2 ⊢
    obtain ⟨k, hk, k6⟩ := mN_2 t
    have e4 := n4 k k6
    rw [← hk] at e4
    obtain ⟨v, hv⟩ : ∃ v, A 0 (24 + mN x1 x2) + x3 = v := ⟨_, rfl⟩
    have hv' : A' 5 (mN x1 x2) + x3 = v := by rw [← e4]; exact hv
    rw [hv] at g1 g2 ⊢
    refine ⟨v, rfl, v, rfl, w32_s (by omega) (by omega), ⟨by decide, trivial⟩, F', A', x1, x2, x3, rfl, rfl, w1, w2, w3, b5, fun g3 => absurd t g3, fun _ g3 => absurd g3 (by rw [hv']; omega), fun _ _ => ⟨v, w32_s (by omega) (by omega), by rw [hv'], _, _, rfl, rfl, by rw [uF_g], fun _ => rfl, ?_⟩⟩
    rw [hv', hk]
    exact SI_mk hV hr (yN_c (yN_q hN k6 ⟨g1, g2⟩) (uF_n _ _ (by decide)) rfl rfl) (yT_c hT (fun _ _ => rfl) (fun j hj => uA_n _ _ hj) (fun j _ h => uF_n _ _ h) (fun k hk => uA_n _ _ (by omega)) (fun _ _ => rfl))
theorem yc_5 (h : Syn M1 M2) : SX9_complex [eR (0, 0)] M1 (fun r M1' => ∃ v, r = some (eI v) ∧ SX10_complex [eR (0, 0)] M2 (fun r2 M2' => r2 = some (eI v) ∧ Syn M1' M2')) := by
  obtain ⟨F, A, W, F', A', V, s, rfl, rfl, hV, hr, hN, hT⟩ := h
  obtain ⟨⟨-, -, s1, s2, -⟩, -, -, hA⟩ := id hT
  have w1 : w32 (F 1) := w32_s (by omega) (by omega)
  refine SX9_complex_i w1 ⟨_, rfl, F', A', rfl, rfl, by rw [← s1]; exact w1, fun g => ⟨?_, SI_12 hV 0 hr hN hT⟩, fun g => ⟨?_, SI_12 hV 0 hr hN hT⟩⟩
  · have g' : F 1 = 0 ∨ F 1 = 1 := by rw [s1]; exact g
    have e : A 5 0 = A' 20 0 := ((hA g').2.2.1 0 (by decide)).1
    rw [if_pos g', ← e]
    rfl
  · have g' : ¬ (F 1 = 0 ∨ F 1 = 1) := by rw [s1]; exact g
    rw [if_neg g']
theorem yc_6 (h : Syn M1 M2) (w1 : w32 x1) : SX9_real [eR (0, 0), eI x1] M1 (fun r M1' => ∃ v, r = some (eI v) ∧ SX10_real [eR (0, 0), eI x1] M2 (fun r2 M2' => r2 = some (eI v) ∧ Syn M1' M2')) := by
  obtain ⟨F, A, W, F', A', V, s, rfl, rfl, hV, hr, hN, hT⟩ := h
  obtain ⟨⟨-, -, s1, s2, -, -, -, -, -, -, -, -, -, -, -, -, -, -, h6⟩, -, -, hA⟩ := id hT
  have w : w32 (F 1) := w32_s (by omega) (by omega)
  have fi : cFin F' → F 1 = 0 ∨ F 1 = 1 := fun g => by rw [s1]; exact g
  have e0 : cFin F' → A' 21 0 = A 6 0 ∧ A' 21 1 = A 6 1 ∧ A' 21 2 = A 6 2 := fun g => ⟨((hA (fi g)).2.2.1 0 (by decide)).2.symm, ((hA (fi g)).2.2.1 1 (by decide)).2.symm, ((hA (fi g)).2.2.1 2 (by decide)).2.symm⟩
  have b1 := h6 1 (by decide) (by decide)
  have b2 := h6 2 (by decide) (by decide)
  refine SX9_real_i w w1 h6 ⟨_, rfl, F', A', x1, rfl, rfl, by rw [← s1]; exact w, w1, fun g => ?_, fun g => ⟨?_, SI_12 hV 0 hr hN hT⟩, fun g => ⟨?_, SI_12 hV 0 hr hN hT⟩⟩
  · obtain ⟨-, e1, e2⟩ := e0 g
    rw [e1, e2]
    omega
  · obtain ⟨a0, a1, a2⟩ := e0 g.1
    obtain ⟨g0, g1, g2⟩ := g
    rw [if_pos (fi g0)]
    unfold rRe
    rw [a0, a1, a2]
    rcases (show x1 = 2 ∨ x1 = 1 ∨ x1 = 0 ∨ x1 = -1 by omega) with q | q | q | q <;> rw [q] <;> rfl
  · by_cases gf : F 1 = 0 ∨ F 1 = 1
    · rw [if_pos gf]
      have gf' : cFin F' := by unfold cFin; rw [← s1]; exact gf
      have : ¬ (-1 ≤ x1 ∧ x1 ≤ 2) := fun z => g ⟨gf', z⟩
      rw [if_neg (by omega), if_neg (by omega), if_neg (by omega), if_neg (by omega)]
    · rw [if_neg gf]
theorem yc_7 (h : Syn M1 M2) : SX9_elements [eR (0, 0)] M1 (fun r M1' => ∃ v, r = some (eI v) ∧ SX10_elements [eR (0, 0)] M2 (fun r2 M2' => r2 = some (eI v) ∧ Syn M1' M2')) := by
  obtain ⟨F, A, W, F', A', V, s, rfl, rfl, hV, hr, hN, hT⟩ := h
  obtain ⟨⟨-, -, s1, s2, -, -, -, -, -, hL, -⟩, -, hI, -⟩ := id hT
  have w1 : w32 (F 1) := w32_s (by omega) (by omega)
  refine SX9_elements_i w1 hL ⟨_, rfl, F', A', rfl, rfl, by rw [← s1]; exact w1, fun g => ⟨?_, SI_12 hV 0 hr hN hT⟩, fun g => ⟨?_, SI_12 hV 0 hr hN hT⟩⟩
  · rw [if_pos (by rw [s1]; exact g)]
  · have g' : F 1 ≠ -1 := by rw [s1]; exact g
    rw [if_neg g', (hI g').1]
theorem yc_8 (h : Syn M1 M2) (w1 : w32 x1) : SX9_lead [eR (0, 0), eI x1] M1 (fun r M1' => ∃ v, r = some (eI v) ∧ SX10_lead [eR (0, 0), eI x1] M2 (fun r2 M2' => r2 = some (eI v) ∧ Syn M1' M2')) := by
  obtain ⟨F, A, W, F', A', V, s, rfl, rfl, hV, hr, hN, hT⟩ := h
  obtain ⟨⟨-, -, s1, s2, -, -, -, -, -, hL, -, h17, h16, -⟩, -, hI, -⟩ := id hT
  have w : w32 (F 1) := w32_s (by omega) (by omega)
  refine SX9_lead_i w w1 hL ⟨_, rfl, F', A', x1, rfl, rfl, by rw [← s1]; exact w, w1, h17, h16, fun g => ⟨?_, SI_12 hV 0 hr hN hT⟩, fun g => ⟨?_, SI_12 hV 0 hr hN hT⟩⟩
  · obtain ⟨g0, g1⟩ := g
    have g' : F 1 ≠ -1 := by rw [s1]; exact g0
    obtain ⟨-, i2, -, i4, -⟩ := hI g'
    have i := i4 x1.toNat (by omega)
    rw [show ((x1.toNat : Nat) : Int) = x1 by omega] at i
    rw [if_neg g', i2, if_pos g1, if_neg (by omega), oT_m i.2.1]
  · by_cases g' : F 1 = -1
    · rw [if_pos g']
    · obtain ⟨-, i2, -⟩ := hI g'
      rw [if_neg g', i2, if_neg (fun q => g ⟨by rw [← s1]; exact g', q⟩), if_pos rfl]
theorem yc_10 (h : Syn M1 M2) : SX9_standard [eR (0, 0)] M1 (fun r M1' => ∃ v, r = some (eI v) ∧ SX10_standard [eR (0, 0)] M2 (fun r2 M2' => r2 = some (eI v) ∧ Syn M1' M2')) := by
  obtain ⟨F, A, W, F', A', V, s, rfl, rfl, hV, hr, hN, hT⟩ := h
  obtain ⟨⟨-, -, s1, s2, -⟩, -, -, hA⟩ := id hT
  have w1 : w32 (F 1) := w32_s (by omega) (by omega)
  refine SX9_standard_i w1 ⟨_, rfl, F', A', rfl, rfl, by rw [← s1]; exact w1, fun g => ⟨?_, SI_12 hV 0 hr hN hT⟩, fun g => ⟨?_, SI_12 hV 0 hr hN hT⟩⟩
  · have g' : F 1 = 0 ∨ F 1 = 1 := by rw [s1]; exact g
    rw [if_pos g', (hA g').1]
  · have g' : ¬ (F 1 = 0 ∨ F 1 = 1) := by rw [s1]; exact g
    rw [if_neg g']
theorem yc_11 (h : Syn M1 M2) (w1 : w32 x1) : SX9_monomial [eR (0, 0), eI x1] M1 (fun r M1' => ∃ v, r = some (eI v) ∧ SX10_monomial_ [eR (0, 0), eI x1] M2 (fun r2 M2' => r2 = some (eI v) ∧ Syn M1' M2')) := by
  obtain ⟨F, A, W, F', A', V, s, rfl, rfl, hV, hr, hN, hT⟩ := h
  obtain ⟨⟨-, -, s1, s2, -, -, -, -, -, -, -, -, -, h19, -, -, ⟨n, hn, n4⟩, h4, -⟩, -, -, hA⟩ := id hT
  have w : w32 (F 1) := w32_s (by omega) (by omega)
  have fi : cFin F' → F 1 = 0 ∨ F 1 = 1 := fun g => by rw [s1]; exact g
  refine SX9_monomial_i w w1 (w32_s (by omega) (by omega)) h4 ⟨_, rfl, F', A', x1, rfl, rfl, by rw [← s1]; exact w, w1, h19, fun g i hi => ?_, fun g => ⟨?_, SI_12 hV 0 hr hN hT⟩, fun g => ⟨?_, SI_12 hV 0 hr hN hT⟩⟩
  · obtain ⟨a1, a2, -⟩ := hA (fi g)
    have := a2 i (by omega)
    omega
  · obtain ⟨g0, g1⟩ := g
    obtain ⟨a1, a2, -⟩ := hA (fi g0)
    have a := a2 x1.toNat (by omega)
    rw [show ((x1.toNat : Nat) : Int) = x1 by omega] at a
    have ep : plI (A 4) (F 5) x1 = A' 18 x1 := by
      unfold plI
      rw [if_pos (by omega)]
      exact a.1
    rw [if_pos (fi g0), ep, if_neg (by omega), oT_m (by omega)]
  · by_cases gf : F 1 = 0 ∨ F 1 = 1
    · have gf' : cFin F' := by unfold cFin; rw [← s1]; exact gf
      have a1 := (hA gf).1
      have : ¬ (0 ≤ x1 ∧ x1 < F' 19) := fun z => g ⟨gf', z⟩
      have ep : plI (A 4) (F 5) x1 = -1 := by
        unfold plI
        exact if_neg (by omega)
      rw [if_pos gf, ep, if_pos rfl]
    · rw [if_neg gf]
theorem yc_14 (h : Syn M1 M2) (w1 : w32 x1) : SX9_rank [eR (0, 0), eI x1] M1 (fun r M1' => ∃ v, r = some (eI v) ∧ SX10_rank [eR (0, 0), eI x1] M2 (fun r2 M2' => r2 = some (eI v) ∧ Syn M1' M2')) := by
  obtain ⟨F, A, W, F', A', V, s, rfl, rfl, hV, hr, hN, hT⟩ := h
  obtain ⟨⟨-, -, s1, s2, -⟩, -, -, hA⟩ := id hT
  have w : w32 (F 1) := w32_s (by omega) (by omega)
  refine SX9_rank_i w w1 ⟨_, rfl, F', A', x1, rfl, rfl, by rw [← s1]; exact w, w1, fun g => ⟨?_, SI_12 hV 0 hr hN hT⟩, fun g => ⟨?_, SI_12 hV 0 hr hN hT⟩⟩
  · obtain ⟨g0, g1⟩ := g
    have g' : F 1 = 0 ∨ F 1 = 1 := by rw [s1]; exact g0
    have e := ((hA g').2.2.1 x1.toNat (by omega)).1
    rw [show ((x1.toNat : Nat) : Int) = x1 by omega] at e
    unfold p3I
    rw [if_pos g', if_pos (by omega), e]
  · by_cases gf : F 1 = 0 ∨ F 1 = 1
    · have gf' : cFin F' := by unfold cFin; rw [← s1]; exact gf
      have : ¬ (0 ≤ x1 ∧ x1 ≤ 2) := fun z => g ⟨gf', z⟩
      unfold p3I
      rw [if_pos gf, if_neg (by omega)]
    · rw [if_neg gf]
theorem yc_15 (h : Syn M1 M2) (w1 : w32 x1) : lSp exSig [eR (0, 0), eI x1] M1 o (fun k o' M1' => (w32 k ∧ True) ∧ SX10_signature [eR (0, 0), eI x1] M2 (fun r2 M2' => ∃ v2, w32 v2 ∧ r2 = some (eI v2) ∧ SX10_thrown [eR (0, 0)] M2' (fun r3 M3 => r3 = some (eI k) ∧ (k = 0 → o' = v2) ∧ Syn M1' M3))) [(xIA, 1), (xIS, 2)] := by
  obtain ⟨F, A, W, F', A', V, s, rfl, rfl, hV, hr, hN, hT⟩ := h
  obtain ⟨⟨-, -, s1, s2, -, -, -, -, -, -, -, -, -, -, -, -, -, -, h6⟩, -, -, hA⟩ := id hT
  have w : w32 (F 1) := w32_s (by omega) (by omega)
  have w' : w32 (F' 10) := by rw [← s1]; exact w
  have wz : w32 (0 : Int) := by decide
  have fi : cFin F' → F 1 = 0 ∨ F 1 = 1 := fun g => by rw [s1]; exact g
  refine ⟨F, A, W, x1, rfl, rfl, w1, w, fun q => ⟨1, List.mem_cons_self, ⟨by decide, trivial⟩, F', A', x1, rfl, rfl, w', w1, fun _ => ⟨0, wz, rfl, _, _, rfl, rfl, by rw [uF_g], fun c => absurd c (by decide), SI_12 hV 1 hr hN hT⟩, fun g1 g2 => absurd q (by omega), fun g1 g2 => absurd q (by omega)⟩, fun q1 q2 q => ⟨2, List.mem_cons_of_mem _ List.mem_cons_self, ⟨by decide, trivial⟩, F', A', x1, rfl, rfl, w', w1, fun g => absurd g (by omega), fun _ _ _ => ⟨0, wz, rfl, _, _, rfl, rfl, by rw [uF_g], fun c => absurd c (by decide), SI_12 hV 2 hr hN hT⟩, fun _ _ g => absurd (fi g) q⟩, fun q1 q2 q => ?_⟩
  have b := h6 x1 q1 q2
  have wb : w32 (A 6 x1) := w32_s (by omega) (by omega)
  have e := ((hA q).2.2.1 x1.toNat (by omega)).2
  rw [show ((x1.toNat : Nat) : Int) = x1 by omega] at e
  have gf : cFin F' := by unfold cFin; rw [← s1]; exact q
  exact ⟨A 6 x1, rfl, A 6 x1, rfl, wb, ⟨by decide, trivial⟩, F', A', x1, rfl, rfl, w', w1, fun g => absurd g (by omega), fun _ _ g => absurd gf g, fun _ _ _ => ⟨A 6 x1, wb, by rw [e], _, _, rfl, rfl, by rw [uF_g], fun _ => rfl, SI_12 hV 0 hr hN hT⟩⟩
theorem yc_17 (h : Syn M1 M2) : SX9_member [eR (0, 0)] M1 (fun r M1' => ∃ v, r = some (eI v) ∧ SX10_member [eR (0, 0)] M2 (fun r2 M2' => r2 = some (eI v) ∧ Syn M1' M2')) := by
  obtain ⟨F, A, W, F', A', V, s, rfl, rfl, hV, hr, hN, hT⟩ := h
  obtain ⟨⟨-, -, s1, s2, -, -, -, -, -, -, -, -, -, -, h4, h22, -⟩, -, hI, -⟩ := id hT
  have w1 : w32 (F 1) := w32_s (by omega) (by omega)
  refine SX9_member_i w1 h4 ⟨_, rfl, F', A', rfl, rfl, by rw [← s1]; exact w1, h22, fun g => ⟨?_, SI_12 hV 0 hr hN hT⟩, fun g => ⟨?_, SI_12 hV 0 hr hN hT⟩⟩
  · rw [if_pos (by rw [s1]; exact g)]
  · have g' : F 1 ≠ -1 := by rw [s1]; exact g
    rw [if_neg g', (hI g').2.2.2.2.2]
theorem yc_18 (h : Syn M1 M2) (w1 : w32 x1) : SX9_count [eR (0, 0), eI x1] M1 (fun r M1' => ∃ v, r = some (eI v) ∧ SX10_count [eR (0, 0), eI x1] M2 (fun r2 M2' => r2 = some (eI v) ∧ Syn M1' M2')) := by
  obtain ⟨F, A, W, F', A', V, s, rfl, rfl, hV, hr, hN, hT⟩ := h
  obtain ⟨⟨s0, -, s1, -⟩, -⟩ := id hT
  have n1 := hN.1
  exact SX9_count_i w1 ⟨_, rfl, F', A', x1, rfl, rfl, w1, by rw [n1, s0, s1], SI_12 hV 0 hr hN hT⟩
theorem yc_19 (h : Syn M1 M2) (w1 : w32 x1) (w2 : w32 x2) (w3 : w32 x3) : SX9_at [eR (0, 0), eI x1, eI x2, eI x3] M1 (fun r M1' => ∃ v, r = some (eI v) ∧ SX10_at_ [eR (0, 0), eI x1, eI x2, eI x3] M2 (fun r2 M2' => r2 = some (eI v) ∧ Syn M1' M2')) := by
  obtain ⟨F, A, W, F', A', V, s, rfl, rfl, hV, hr, hN, hT⟩ := h
  obtain ⟨n1, n2, n3, n4, n5, n6⟩ := id hN
  refine SX9_at_i w1 w2 w3 n2 ⟨_, rfl, F', A', x1, x2, x3, rfl, rfl, w1, w2, w3, by omega, fun g => ⟨?_, SI_12 hV 0 hr hN hT⟩, fun t g => ⟨?_, SI_12 hV 0 hr hN hT⟩, fun t g0 g1 => ⟨?_, SI_12 hV 0 hr hN hT⟩⟩
  · rcases g with g | g
    · by_cases t : oP x2 x3 2 = -1
      · rw [if_pos t]
      · rw [if_neg t, if_neg (by omega), if_neg (by omega)]
    · rw [oP_m, if_neg g, if_pos rfl]
  · obtain ⟨k, hk, k6⟩ := mN_2 t
    have e := n4 k k6
    rw [← hk] at e
    rw [oP_m, if_pos t, if_neg (by omega), if_pos g]
    unfold pr
    rw [if_pos (by omega), show (6 : Int) * 4 = 24 by decide, e]
  · obtain ⟨k, hk, k6⟩ := mN_2 t
    have e := n3 (6 * x1.toNat + k) (by omega)
    rw [show ((6 * x1.toNat + k : Nat) : Int) = 6 * x1 + mN x2 x3 by omega] at e
    rw [oP_m, if_pos t, if_neg (by omega), if_neg (by omega), if_pos (by omega)]
    unfold pr
    rw [if_pos (by omega), e]
end
