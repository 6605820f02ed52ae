/-! A solve that is worked: what both sides hold then. -/
section
variable {F F' Fn F2 : Nat → Int} {A A' An A2 : Nat → Int → Int} {V Vn : Nat → Int} {s s2 f : Int → Int} {P m : Nat} {L : Int → Int} {R : Nat → Nat → Int} {Q : Int}
theorem yw_S (hN : yN F F' A A') (hT : yT V s F F' A A') (hP : F 2 = P) (h40 : F 0 < 40) (hf : sP0 f (A 0))
    (i2 : ∀ i : Int, 0 ≤ i → i < 10 → L i = 0 ∨ L i = 1) (eE : elc L 10 = (vE A' s P m).2) (tE : ∀ k : Int, tpF L k 10 0 0 = if 0 ≤ k ∧ k < (vE A' s P m).2 then (vE A' s P m).1 k else -1)
    (rE : ∀ l : Nat, l < 10 → L l = 1 → (vZ A' s P m).1 l = 1 ∧ 0 < (vZ A' s P m).2 (45 * (l : Int) + l) ∧ ∀ j : Nat, j < 10 → R l j = (vZ A' s P m).2 (45 * (l : Int) + j))
    (qE : Q = (if tF (vK A' s P m) 2025 15 < 0 then 1 else 0)) (lE : ∀ i : Nat, i < (vE A' s P m).2 → 0 ≤ (vE A' s P m).1 i ∧ (vE A' s P m).1 i < 10 ∧ L ((vE A' s P m).1 i) = 1)
    (rz : ∀ l : Nat, l < 10 → L l = 1 → ∀ j : Nat, j < 10 → zAbs (R l j) ≤ 2 ^ 930 ∧ (l < j → R l j = 0)) (hR : svR F' A' s P m F2 A2 s2)
    (c0 : Fn 0 = F 0 + 1) (c1 : Fn 1 = vA A' s P m) (c3 : Fn 3 = F 2) (c4 : Fn 4 = Q) (c5 : ∃ n : Nat, Fn 5 = n ∧ n ≤ 4) (d1 : An 1 = f) (d2 : An 2 = L) (d4 : ∀ i : Int, 0 ≤ i → i < 4 → 0 ≤ An 4 i ∧ An 4 i < 10) (d6 : ∀ i : Int, 0 ≤ i → i < 3 → -4 ≤ An 6 i ∧ An 6 i ≤ 4)
    (hVn : ∀ l j : Nat, l < 10 → j < 10 → Vn (rb l + j) = R l j) : yS Fn F2 An A2 ∧ yL Fn F2 An A2 ∧ yI Vn s2 Fn F2 An A2 := by
  obtain ⟨n1, n2, n3, n4, n5, n6⟩ := hN
  obtain ⟨⟨s0, s00, -, -, -, -, -, -, -, -, h15, -⟩, -⟩ := hT
  obtain ⟨⟨-, r6, r9, r10, r11, r13, r14, r17, r22⟩, ⟨a4, a5, a7, a8, a15, a16, zz⟩, -, r19⟩ := hR
  have vb := vA_b A' s P m
  have fb : ∀ i : Int, 0 ≤ i → i < 30 → -5 ≤ f i ∧ f i ≤ 5 := fun i i0 i1 => by rw [hf i i0 i1]; exact n5 i i0 i1
  have f4 : ∀ k : Nat, k < 24 → f k = A' 4 k := fun k hk => by rw [hf k (by omega) (by omega)]; exact n3 k hk
  have f5 : ∀ k : Nat, k < 6 → f (24 + (k : Int)) = A' 5 k := fun k hk => by rw [hf _ (by omega) (by omega)]; exact n4 k hk
  have e15 : (vE A' s P m).2 ≤ 15 := fE_le _ _ _ _
  have q01 : Q = 0 ∨ Q = 1 := by
    rw [qE]
    split
    · exact Or.inr rfl
    · exact Or.inl rfl
  refine ⟨⟨by omega, by omega, by omega, by omega, w32_s (by omega) (by omega), w32_s (by omega) (by omega), fun i i0 i1 => ?_, fun k hk => ?_, fun k hk => ?_, ?_, ?_, by omega, fun i hi => ?_, r19, by rw [c4]; exact q01, by rw [r22, ← qE]; exact q01, c5, d4, d6⟩, ⟨fun q => absurd q (by omega), fun _ => ⟨by omega, fun i i0 i1 => ?_, fun k hk => ?_, fun k hk => ?_⟩⟩, by rw [d2, eE, r17], fun k => by rw [d2, tE, r17, a16], r13, fun i hi => ?_, fun l hl h1 => ?_, by rw [c4, r22, qE]⟩
  · rw [d1]
    have := fb i i0 i1
    exact w32_s (by omega) (by omega)
  · rw [a7 k hk, ← f4 k hk]
    have := fb k (by omega) (by omega)
    exact w32_s (by omega) (by omega)
  · rw [a8 k hk, ← f5 k hk]
    have := fb (24 + (k : Int)) (by omega) (by omega)
    exact w32_s (by omega) (by omega)
  · rw [d2]
    exact i2
  · rw [a15]
    exact vZ_01 h15
  · rw [a16]
    have := lE i (by omega)
    omega
  · rw [d1, hf i (by omega) (by omega)]
    exact n6 i (by omega) i1
  · rw [d1, a7 k hk]
    exact f4 k hk
  · rw [d1, a8 k hk]
    exact f5 k hk
  · rw [a16, d2]
    exact lE i (by omega)
  · rw [d2] at h1
    obtain ⟨-, p0, pj⟩ := rE l hl h1
    refine ⟨by rw [hVn l l hl hl, pj l hl]; exact p0, fun j hj => ?_⟩
    rw [hVn l j hl hj]
    obtain ⟨z1, z2⟩ := rz l hl h1 j hj
    exact ⟨by rw [pj j hj, zz _ (by omega)], z1, z2⟩
theorem yw_A {f : Nat → Int} {n : Nat} {st : Int → Int} {W : Nat → Int} {br ba : Nat → Int} (n4 : n ≤ 4) (en : (vG A' s P m).2 = n) (n6 : ∀ j : Nat, j < n → 0 ≤ (vG A' s P m).1 j ∧ (vG A' s P m).1 j < 6) (hst : ∀ j : Nat, j < n → st j = (vG A' s P m).1 j) (hb : bdQ W L st f n) (fi : fiL A' s P m (bv6 W L st f n) n) (hR : svR F' A' s P m F2 A2 s2) (hv : vA A' s P m < 2)
    (c5 : Fn 5 = n) (d4 : An 4 = st) (hm : ∀ e : Nat, e < 3 → mzT n (bv6 W L st f n (e + 1)) (7 + e) (br e) (ba e) ∧ An 5 e = br e ∧ An 6 e = ba e) (hk : kpE (bv6 W L st f n 3) Vn) : yA Vn s2 Fn F2 An A2 := by
  obtain ⟨-, -, hR, -⟩ := hR
  obtain ⟨r19, a18, rD, rX, rY, rH, rF⟩ := hR hv
  rw [en] at r19 rX rY rH rF
  obtain ⟨D8, z1, z2⟩ := fi_z n4 hb fi
  obtain ⟨D0, f1, f2⟩ := fi
  obtain ⟨t1, t2, t3⟩ := f1 3 (Nat.le_refl _)
  have kv : ∀ g c : Nat, g ≤ 9 → c < 17 → Vn (gb g + c) = bv6 W L st f n 3 (gb g + c) := fun g c hg hc => hk _ (by unfold kp gb; omega)
  refine ⟨by rw [c5, r19], fun j hj => ?_, fun e he => ?_, by rw [rD]; exact D0, by rw [rD]; exact D8, fun of ho => ⟨?_, fun i j hi hj => ?_⟩, ⟨?_, fun i j hi hj => ?_⟩, fun e he => ⟨?_, fun i j hi hj => ?_⟩, fun g hg => ⟨?_, fun c hc => ?_⟩, fun e he => ⟨?_, fun c hc => ?_⟩⟩
  · have hj' : j < n := by omega
    rw [d4, a18]
    exact ⟨hst j hj', n6 j hj'⟩
  · obtain ⟨m1, m2, m3⟩ := hm e he
    obtain ⟨-, q1, q2⟩ := rF e he
    have g2 := (f2 e he (e + 1) (by omega) (by omega)).1
    have ms := mz_e (D := vD A' s P m) (F := vF A' s P m e) (t := fun i => (mD ((vG A' s P m).1 (i : Nat))).toNat) n4 D0 (fun i hi => by have := mD_6 (n6 i hi); show (mD ((vG A' s P m).1 (i : Nat))).toNat ≤ 2; omega) g2 m1
    rw [m2, m3, q1, q2]
    exact ms
  · rw [kv of 16 (by omega) (by decide), (t1 of ho).2, rD]
  · have hi' : i < n := by omega
    have hj' : j < n := by omega
    rw [kv of _ (by omega) (by omega), (t1 of ho).1 i j hi' hj']
    rcases (show of = 0 ∨ of = 1 by omega) with q | q
    · subst q
      rw [show 2080 + 36 * ((0 : Nat) : Int) + 6 * (i : Int) + j = 2080 + 6 * (i : Int) + j by omega]
      exact (rX i j hi' hj').symm
    · subst q
      rw [show 2080 + 36 * ((1 : Nat) : Int) + 6 * (i : Int) + j = 2116 + 6 * (i : Int) + j by omega]
      exact (rY i j hi' hj').symm
  · rw [kv 2 16 (by omega) (by decide), t3, rD]
  · have hi' : i < n := by omega
    have hj' : j < n := by omega
    rw [kv 2 _ (by omega) (by omega), t2 i j hi' hj']
    exact (rH i j hi' hj').symm
  · rw [kv (7 + e) 16 (by omega) (by decide), ((f2 e he 3 (by omega) (by omega)).2).2, rD]
  · have hi' : i < n := by omega
    have hj' : j < n := by omega
    have q := (rF e he).1 i j hi' hj'
    have q' : s2 (2332 + 36 * (e : Int) + 6 * i + j) = vF A' s P m e i j := q
    rw [kv (7 + e) _ (by omega) (by omega), ((f2 e he 3 (by omega) (by omega)).1 i j hi' hj').1, rD, a18, q']
  · rw [kv g 16 (by omega) (by decide)]
    exact (z1 g hg).1
  · rw [kv g c (by omega) (by omega)]
    exact (z1 g hg).2 c hc
  · rw [kv (7 + e) 16 (by omega) (by decide)]
    exact (z2 e he).1
  · rw [kv (7 + e) c (by omega) (by omega)]
    exact (z2 e he).2 c hc
end
theorem slF_0 (F : Nat → Int) (q v : Int) : slF F q v 0 = F 0 + 1 := by unfold slF; rw [uF_n _ _ (by decide), uF_n _ _ (by decide), uF_n _ _ (by decide), uF_g]
theorem slF_1 (F : Nat → Int) (q v : Int) : slF F q v 1 = v := by unfold slF; rw [uF_g]
theorem slF_3 (F : Nat → Int) (q v : Int) : slF F q v 3 = F 2 := by unfold slF; rw [uF_n _ _ (by decide), uF_n _ _ (by decide), uF_g]
theorem slF_4 (F : Nat → Int) (q v : Int) : slF F q v 4 = q := by unfold slF; rw [uF_n _ _ (by decide), uF_g]
theorem slF_o (F : Nat → Int) (q v : Int) {j : Nat} (h0 : j ≠ 0) (h1 : j ≠ 1) (h3 : j ≠ 3) (h4 : j ≠ 4) : slF F q v j = F j := by unfold slF; rw [uF_n _ _ h1, uF_n _ _ h4, uF_n _ _ h3, uF_n _ _ h0]
theorem slM_o (A : Nat → Int → Int) (f L G : Int → Int) {k : Nat} (h1 : k ≠ 1) (h2 : k ≠ 2) (h3 : k ≠ 3) : slM A f L G k = A k := by unfold slM; rw [uA_n _ _ h3, uA_n _ _ h2, uA_n _ _ h1]
theorem sV_r (V : Nat → Int) (R : Nat → Nat → Int) {l j : Nat} (hl : l < 10) (hj : j < 10) : sV V R (rb l + j) = R l j := by
  have r := rb_11 (show l < 11 by omega)
  unfold sV
  rw [if_pos (by omega), show (rb l + j - 10) / 10 = l by omega, show (rb l + j - 10) % 10 = j by omega]
/-- one and the same solve, told by either side -/
theorem yw_e {F F' : Nat → Int} {A A' : Nat → Int → Int} {V : Nat → Int} {s : Int → Int} (hN : yN F F' A A') (hT : yT V s F F' A A') : slH F A ↔ eSm F' A' := by
  obtain ⟨n1, n2, n3, n4, n5, n6⟩ := hN
  obtain ⟨-, ⟨l1, l2⟩, -⟩ := hT
  unfold slH eSm sP0
  rcases Decidable.em (F 1 = -1) with q | q
  · have := (l1 q).1
    exact ⟨fun h => absurd q h.1, fun h => absurd h.1 (by omega)⟩
  · obtain ⟨l3, l4, l5, l6⟩ := l2 q
    constructor
    · rintro ⟨-, h2, h3⟩
      exact ⟨by omega, fun k hk => Or.inr (by rw [← l5 k hk, ← n3 k hk]; exact (h3 k (by omega) (by omega)).symm), fun k hk => by rw [← l6 k hk, ← n4 k hk]; exact (h3 _ (by omega) (by omega)).symm⟩
    · rintro ⟨h1, h2, h3⟩
      refine ⟨q, by omega, fun i i0 i1 => ?_⟩
      obtain ⟨k, rfl⟩ : ∃ k : Nat, i = k := ⟨i.toNat, by omega⟩
      rcases Nat.lt_or_ge k 24 with g | g
      · rcases h2 k g with c | c
        · rw [n6 k (by omega) (by omega), l4 k (by omega) (by omega)]
        · rw [n3 k g, l5 k g]
          exact c.symm
      · have e := h3 (k - 24) (by omega)
        rw [← l6 _ (by omega), ← n4 _ (by omega), show (24 : Int) + ((k - 24 : Nat) : Int) = k by omega] at e
        exact e.symm
theorem yc_4 {M1 M2 : eM} (h : Syn M1 M2) : SX9_solve [eR (0, 0)] M1 (fun r M1' => ∃ v, r = some (eI v) ∧ SX10_solve [eR (0, 0)] M2 (fun r2 M2' => r2 = some (eI v) ∧ Syn M1' M2')) := by
  obtain ⟨F, A, W, F', A', V, s, rfl, rfl, hV, hr, hN, hT⟩ := h
  obtain ⟨n1, n2, n3, n4, n5, n6⟩ := id hN
  obtain ⟨⟨s0, s00, s1, s2, w3, w9, wA1, wA7, wA8, hL, h15, -, -, -, -, -, h5, h4, h6⟩, -⟩ := id hT
  have same := yw_e hN hT
  obtain ⟨P, hP⟩ : ∃ P : Nat, F 2 = P := ⟨(F 2).toNat, by omega⟩
  have hP' : F' 6 = P := by rw [← n1]; exact hP
  have P4 : P ≤ 4 := by omega
  have w1 : w32 (F 1) := w32_s (by omega) (by omega)
  have w11 : w32 (F' 11) := w32_s (by omega) (by omega)
  have b4 : ∀ k : Nat, k < 24 → -5 ≤ A' 4 k ∧ A' 4 k ≤ 5 := fun k hk => by
    rw [← n3 k hk]
    exact n5 k (by omega) (by omega)
  have b5 : ∀ k : Nat, k < 6 → -5 ≤ A' 5 k ∧ A' 5 k ≤ 5 := fun k hk => by
    rw [← n4 k hk]
    exact n5 _ (by omega) (by omega)
  have hw7 : ∀ k : Nat, k < 24 → w32 (A' 7 k) ∧ w32 (A' 4 k) := fun k hk => ⟨wA7 k hk, by have := b4 k hk; exact w32_s (by omega) (by omega)⟩
  have hw8 : ∀ k : Nat, k < 6 → w32 (A' 8 k) ∧ (-5 ≤ A' 5 k ∧ A' 5 k ≤ 5) := fun k hk => ⟨wA8 k hk, b5 k hk⟩
  have fb : ∀ f : Int → Int, sP0 f (A 0) → ∀ i : Int, 0 ≤ i → i < 30 → -5 ≤ f i ∧ f i ≤ 5 := fun f hf i i0 i1 => by rw [hf i i0 i1]; exact n5 i i0 i1
  have LK := fun (f : Int → Int) (hf : sP0 f (A 0)) => lnk_h (Ar := A') (A := A) (s := s) (f := f) (V := V) (P := P) h15 b4 b5 P4 (fb f hf) (fun k hk => by rw [hf k (by omega) (by omega)]; exact n3 k hk) (fun k hk => by rw [hf _ (by omega) (by omega)]; exact n4 k hk)
  refine SX9_solve_i hV hP P4 s00 w1 w3 (fun i i0 i1 => ⟨by have := n5 i i0 i1; exact w32_s (by omega) (by omega), wA1 i i0 i1⟩) (fun i i0 i1 => n5 i (by omega) i1) (fun f hf => by obtain ⟨m, -, j1, j2, -⟩ := LK f hf; exact ⟨j1, j2⟩) ⟨fun q => ⟨F 1, rfl, SX10_solve_i 0 hr hP' P4 w9 w11 hw7 hw8 h15 (fun _ => ⟨by rw [s1], SI_12 hV 0 hr hN hT⟩) (fun z => absurd (same.mp q) z) (fun z => absurd (same.mp q) z)⟩, fun q g => ⟨-1, rfl, SX10_solve_i 0 hr hP' P4 w9 w11 hw7 hw8 h15 (fun z => absurd (same.mpr z) q) (fun _ _ => ⟨rfl, SI_12 hV 0 hr hN hT⟩) (fun _ z => absurd (show F' 11 = 40 by omega) z)⟩, fun q g f W' hf hW' => ?_⟩
  obtain ⟨m, sB, -, i2, aE, eE, tE, rE, qE, lE, fE⟩ := LK f hf
  have rz := rows_z (A := A) (f := f) (V := V) P4 (fb f hf)
  have ref : ∀ (v : Int) (M' : eM), v = vA A' s P m → (∀ (F2 : Nat → Int) (A2 : Nat → Int → Int) (s2 : Int → Int), rn (A2 0) s2 → svR F' A' s P m F2 A2 s2 → Syn M' (cR F2 A2)) → ∃ v', some (eI v) = some (eI v') ∧ SX10_solve [eR (0, 0)] (cR F' A') (fun r2 M2' => r2 = some (eI v') ∧ Syn M' M2') := fun v M' hv hs => ⟨v, rfl, SX10_solve_i m hr hP' P4 w9 w11 hw7 hw8 h15 (fun z => absurd (same.mpr z) q) (fun _ z => absurd z (by omega)) (fun _ _ => ⟨sB, fun F2 A2 s2 hr2 hR => ⟨by rw [hv], hs F2 A2 s2 hr2 hR⟩⟩)⟩
  have yNw : ∀ (Fn F2 : Nat → Int) (An A2 : Nat → Int → Int) (s2 : Int → Int), svR F' A' s P m F2 A2 s2 → Fn 2 = F 2 → An 0 = A 0 → yN Fn F2 An A2 := fun Fn F2 An A2 s2 hR e1 e2 => by
    obtain ⟨⟨-, r6, -⟩, ⟨a4, a5, -⟩, -⟩ := hR
    unfold yN
    rw [e1, e2, r6, a4, a5]
    exact hN
  refine ⟨fun z => ?_, fun z => ?_⟩
  · refine ref _ _ (by rw [slF_1]; exact aE) (fun F2 A2 s2' hr2 hR => ?_)
    rw [slF_1] at z
    have yw := yw_S (Fn := slF F (slQ A V P f) (slA (slL A V P f))) (An := slM A f (slL A V P f) (slG A V P f)) (Vn := sV V (slR A V P f)) hN hT hP g hf i2 eE tE rE qE lE rz hR (slF_0 _ _ _) (by rw [slF_1]; exact aE) (slF_3 _ _ _) (slF_4 _ _ _) (by rw [slF_o _ _ _ (by decide) (by decide) (by decide) (by decide)]; exact h5) (slM_1 _ _ _ _) (slM_2 _ _ _ _) (by rw [slM_o _ _ _ _ (by decide) (by decide) (by decide)]; exact h4) (by rw [slM_o _ _ _ _ (by decide) (by decide) (by decide)]; exact h6) (fun l j hl hj => sV_r _ _ hl hj)
    refine SI_mk hW' hr2 (yNw _ _ _ _ _ hR (slF_o _ _ _ (by decide) (by decide) (by decide) (by decide)) (slM_o _ _ _ _ (by decide) (by decide) (by decide))) ⟨yw.1, yw.2.1, fun _ => yw.2.2, fun c => ?_⟩
    rw [slF_1] at c
    omega
  · rw [slF_1, aE] at z
    have vb := vA_b A' s P m
    have hv : vA A' s P m < 2 := by omega
    obtain ⟨g4, g6, st, ch, hst, hb, fi⟩ := fE hv
    have e4 : slM A f (slL A V P f) (slG A V P f) 4 = A 4 := slM_o _ _ _ _ (by decide) (by decide) (by decide)
    have e4' : (chG (slL A V P f) (A 4) 6).1 = st := by rw [ch]
    refine ⟨st, (vG A' s P m).2, by rw [slM_2, e4]; exact ch, g4, fun j hj => by rw [hst j hj]; exact g6 j hj, by rw [slM_2, slM_1]; exact hb, fun br ba V3 W3 z6 z7 O f5 f6 hm hW3 hk => ?_⟩
    rw [slM_2, slM_1] at hk
    rw [slM_2, slM_1] at hm
    refine ref _ _ (by rw [slF_1]; exact aE) (fun F2 A2 s2' hr2 hR => ?_)
    obtain ⟨Fn, hFn⟩ : ∃ Fn, uF (uF (uF (slF F (slQ A V P f) (slA (slL A V P f))) 5 ((vG A' s P m).2 : Int)) 6 z6) 7 z7 = Fn := ⟨_, rfl⟩
    obtain ⟨An, hAn⟩ : ∃ An, uA (uA (uA (uA (slM A f (slL A V P f) (slG A V P f)) 4 st) 7 O) 5 f5) 6 f6 = An := ⟨_, rfl⟩
    have fn : ∀ j, j < 5 → Fn j = slF F (slQ A V P f) (slA (slL A V P f)) j := fun j hj => by rw [← hFn, uF_n _ _ (by omega), uF_n _ _ (by omega), uF_n _ _ (by omega)]
    have fn5 : Fn 5 = (vG A' s P m).2 := by rw [← hFn, uF_n _ _ (by decide), uF_n _ _ (by decide), uF_g]
    have an : ∀ j, j < 4 → An j = slM A f (slL A V P f) (slG A V P f) j := fun j hj => by rw [← hAn, uA_n _ _ (by omega), uA_n _ _ (by omega), uA_n _ _ (by omega), uA_n _ _ (by omega)]
    have an4 : An 4 = st := by rw [← hAn, uA_n _ _ (by decide), uA_n _ _ (by decide), uA_n _ _ (by decide), uA_g]
    have an5 : An 5 = f5 := by rw [← hAn, uA_n _ _ (by decide), uA_g]
    have an6 : An 6 = f6 := by rw [← hAn, uA_g]
    rw [hFn, hAn]
    have f1 : Fn 1 = vA A' s P m := by rw [fn 1 (by decide), slF_1]; exact aE
    have yw := yw_S (Fn := Fn) (An := An) (Vn := V3) hN hT hP g hf i2 eE tE rE qE lE rz hR (by rw [fn 0 (by decide)]; exact slF_0 _ _ _) f1 (by rw [fn 3 (by decide)]; exact slF_3 _ _ _) (by rw [fn 4 (by decide)]; exact slF_4 _ _ _) ⟨_, fn5, g4⟩ (by rw [an 1 (by decide)]; exact slM_1 _ _ _ _) (by rw [an 2 (by decide)]; exact slM_2 _ _ _ _) (by rw [an4, ← e4']; exact chG_w h4 6 (Nat.le_refl _)) (fun i i0 i1 => by
      obtain ⟨e, rfl⟩ : ∃ e : Nat, i = e := ⟨i.toNat, by omega⟩
      obtain ⟨m1, -, m3⟩ := hm e (by omega)
      rw [an6, m3]
      exact mzT_b m1) (fun l j hl hj => by
      have r := rb_11 (show l < 11 by omega)
      rw [hk _ (by unfold kp; omega), bv6_r g4 (by omega) (Nat.le_refl _)]
      exact sV_r _ _ hl hj)
    refine SI_mk hW3 hr2 (yNw _ _ _ _ _ hR (by rw [fn 2 (by decide)]; exact slF_o _ _ _ (by decide) (by decide) (by decide) (by decide)) (by rw [an 0 (by decide)]; exact slM_o _ _ _ _ (by decide) (by decide) (by decide))) ⟨yw.1, yw.2.1, fun _ => yw.2.2, fun _ => ?_⟩
    exact yw_A (br := br) (ba := ba) g4 rfl g6 hst hb fi hR hv fn5 an4 (fun e he => by
      obtain ⟨m1, m2, m3⟩ := hm e he
      rw [an5, an6]
      exact ⟨m1, m2, m3⟩) hk
