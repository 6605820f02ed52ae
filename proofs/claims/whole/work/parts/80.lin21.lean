/-! isEnough holds at degree 4. -/
section
variable {hs0 s0 : Int → Int} {z : (Int → Int) × (Int → Int)}
/-- no lead below 6: none at all -/
theorem none_h {sy : Int → Int} {P : Nat} (f : fin hs0 s0 z) (hsys : ∀ J, lin J → (jr J hs0 s0 ↔ ∀ q : Nat, q < P → J (sv sy (6 * q)))) (h : ∀ t : Nat, t < 6 → z.1 t = 0) : ∀ t : Nat, t < 15 → z.1 t = 0 := by
  have lJ : lin (fun v : lV => ∀ j, v j = 0) := ⟨fun u v a b hu hv j => by show a * u j + b * v j = 0; rw [hu j, hv j]; omega, fun v T hT hv j => mul_z hT (hv j), fun _ => rfl⟩
  have cJ : clo (fun v : lV => ∀ j, v j = 0) := ⟨lJ, fun v w _ _ hv j => by
    unfold xs
    split
    · exact hv _
    · rfl⟩
  have hj : jr (fun v : lV => ∀ j, v j = 0) hs0 s0 := by
    refine (hsys _ lJ).mpr (fun q hq => ?_)
    have hw := (hsys _ (wsp_lin z.1 z.2)).mp (f.2.2.1 _ (wsp_lin _ _) wsp_r) q hq
    exact fin_2 f lJ (fun l hl h2 => absurd (h l hl) h2) hw (fun j hj => by unfold sv; rw [if_neg (by omega)])
  intro t ht
  rcases Decidable.em (z.1 t = 0) with g | g
  · exact g
  · have := fin_Q (Q := 0) f cJ (fun v t hv ht h2 _ => absurd (hv t) h2) hj ht g
    rw [Nat.zero_testBit] at this
    cases this
theorem dvb_e (d k : Nat) : dvb d k = true ↔ mX (d : Int) ≤ mX (k : Int) ∧ mY (d : Int) ≤ mY (k : Int) := by
  unfold dvb
  simp only [Bool.and_eq_true, decide_eq_true_eq]
theorem sh_lo : sh 0 0 = 2 ∧ sh 1 0 = 1 ∧ sh 0 1 = 4 ∧ sh 1 1 = 3 ∧ sh 0 2 = 5 ∧ sh 1 2 = 4 := by decide +kernel
theorem lOk_h {sy : Int → Int} {P : Nat} (f : fin hs0 s0 z) (hsys : ∀ J, lin J → (jr J hs0 s0 ↔ ∀ q : Nat, q < P → J (sv sy (6 * q)))) {a b : Nat} (ha : a < 15) (hb : b < 15) (la : iL z.1 15 a) (lb : iL z.1 15 b) : ∃ L, L < 64 ∧ (∀ l : Nat, l < 6 → (L.testBit l = true ↔ z.1 l ≠ 0)) ∧ lOk L a b (decide (z.1 (6 : Nat) ≠ 0)) = true := by
  obtain ⟨M, bb, r, -⟩ := f.1
  have z01 := f.2.2.2.2
  have hL : ∀ l : Nat, l < 6 → ((M % 2 ^ 6).testBit l = true ↔ z.1 l ≠ 0) := fun l hl => by
    rw [Nat.testBit_mod_two_pow, r.2.1 l (by omega)]
    simp [hl]
  have one : ∀ l : Nat, z.1 l ≠ 0 → z.1 l = 1 := fun l h => by rcases z01 l with g | g; exact absurd g h; exact g
  have least : ∀ (c d : Nat), iL z.1 15 c → d < 15 → z.1 d ≠ 0 → dvb d c = true → d = c := fun c d hc hd h1 h2 => by
    rcases Decidable.em (d = c) with g | g
    · exact g
    · exact absurd ((dvb_e d c).mp h2) (hc.2 d (by omega) (by omega) (by omega) (one d h1))
  have a0 : z.1 a ≠ 0 := by rw [la.1]; decide
  have b0 : z.1 b ≠ 0 := by rw [lb.1]; decide
  refine ⟨M % 2 ^ 6, Nat.mod_lt _ (by decide), hL, ?_⟩
  obtain ⟨L, hLL⟩ : ∃ L, M % 2 ^ 6 = L := ⟨_, rfl⟩
  rw [hLL] at hL ⊢
  have lst : ∀ d : Nat, d < 15 → z.1 d ≠ 0 → ((!(dvb d a) || d == a) && (!(dvb d b) || d == b)) = true := fun d hd h => by
    have e1 : (!(dvb d a) || d == a) = true := by
      cases q : dvb d a
      · rfl
      · have := least a d la hd h q
        simp [this]
    have e2 : (!(dvb d b) || d == b) = true := by
      cases q : dvb d b
      · rfl
      · have := least b d lb hd h q
        simp [this]
    rw [e1, e2]
    rfl
  have up : ∀ (k : Nat) (w : Int) (j : Nat), (w = 0 ∨ w = 1) → k < 6 → j < 6 → sh w k = j → L.testBit k = true → L.testBit j = true := fun k w j hw hk hj e h => by
    have := lead_up f hw (show k < 10 by omega) ((hL k hk).mp h)
    rw [e] at this
    exact (hL j hj).mpr this
  obtain ⟨s00, s10, s01, s11, s02, s12⟩ := sh_lo
  have imp2 : ∀ x y w : Bool, (x = true → y = true ∧ w = true) → (!x || (y && w)) = true := fun x y w h => by
    cases x
    · rfl
    · obtain ⟨h1, h2⟩ := h rfl
      rw [h1, h2]
      rfl
  have bits : ∀ X : Nat, X < 64 → L = X → ∀ l : Nat, l < 6 → (z.1 l ≠ 0 ↔ X.testBit l = true) := fun X _ e l hl => by rw [← hL l hl, e]
  unfold lOk
  simp only [Bool.and_eq_true]
  refine ⟨⟨⟨⟨⟨⟨⟨⟨⟨⟨?_, ?_⟩, ?_⟩, ?_⟩, ?_⟩, ?_⟩, ?_⟩, ?_⟩, ?_⟩, ?_⟩, ?_⟩
  · refine List.all_eq_true.mpr (fun d hd => ?_)
    have hd6 := List.mem_range.mp hd
    cases q : L.testBit d
    · rfl
    · have := lst d (by omega) ((hL d hd6).mp q)
      rw [this]
      rfl
  · rcases Nat.lt_or_ge a 6 with g | g
    · rw [(hL a g).mpr a0]
      simp
    · simp [show ¬ a < 6 by omega]
  · rcases Nat.lt_or_ge b 6 with g | g
    · rw [(hL b g).mpr b0]
      simp
    · simp [show ¬ b < 6 by omega]
  · rcases Decidable.em (z.1 (6 : Nat) = 0) with g | g
    · have g' : z.1 6 = 0 := g
      simp [g']
    · have := lst 6 (by decide) g
      rw [this]
      simp
  · exact imp2 _ _ _ (fun h => ⟨up 0 1 1 (Or.inr rfl) (by decide) (by decide) s10 h, up 0 0 2 (Or.inl rfl) (by decide) (by decide) s00 h⟩)
  · exact imp2 _ _ _ (fun h => ⟨up 1 1 3 (Or.inr rfl) (by decide) (by decide) s11 h, up 1 0 4 (Or.inl rfl) (by decide) (by decide) s01 h⟩)
  · exact imp2 _ _ _ (fun h => ⟨up 2 1 4 (Or.inr rfl) (by decide) (by decide) s12 h, up 2 0 5 (Or.inl rfl) (by decide) (by decide) s02 h⟩)
  · refine List.all_eq_true.mpr (fun l hl => ?_)
    have hl6 := List.mem_range.mp hl
    cases q : L.testBit l
    · rfl
    · cases q2 : (List.range 6).all (fun t => !(L.testBit t) || dvb l t)
      · rfl
      · have h1 := List.all_eq_true.mp q2
        have h2 := one_h f hsys hl6 ((hL l hl6).mp q) (fun t ht h3 => by
          have h4 := h1 t (List.mem_range.mpr ht)
          rw [(hL t ht).mpr h3] at h4
          exact (dvb_e l t).mp (by simpa using h4))
        rw [h2 a ha a0, h2 b hb b0]
        rfl
  · rcases Decidable.em (L = 24) with g | g
    · have hb24 := bits 24 (by decide) g
      have zz : ∀ l : Nat, l < 6 → (24 : Nat).testBit l = false → z.1 l = 0 := fun l hl h => by
        rcases Decidable.em (z.1 l = 0) with q | q
        · exact q
        · have := (hb24 l hl).mp q
          rw [h] at this
          cases this
      have h2 := line_y f hsys (zz 0 (by decide) (by decide)) (zz 1 (by decide) (by decide)) (zz 2 (by decide) (by decide)) ((hb24 3 (by decide)).mpr (by decide)) ((hb24 4 (by decide)).mpr (by decide)) (zz 5 (by decide) (by decide))
      rw [h2 a ha a0, h2 b hb b0]
      simp
    · simp [g]
  · rcases Decidable.em (L = 48) with g | g
    · have hb24 := bits 48 (by decide) g
      have zz : ∀ l : Nat, l < 6 → (48 : Nat).testBit l = false → z.1 l = 0 := fun l hl h => by
        rcases Decidable.em (z.1 l = 0) with q | q
        · exact q
        · have := (hb24 l hl).mp q
          rw [h] at this
          cases this
      rcases line_x f hsys (zz 0 (by decide) (by decide)) (zz 1 (by decide) (by decide)) (zz 2 (by decide) (by decide)) (zz 3 (by decide) (by decide)) ((hb24 4 (by decide)).mpr (by decide)) ((hb24 5 (by decide)).mpr (by decide)) with h2 | h2
      · have h2' : ¬ z.1 6 = 0 := h2
        simp [h2']
      · rw [h2 a ha a0, h2 b hb b0]
        simp
    · simp [g]
  · rcases Decidable.em (L = 0) with g | g
    · have h0 := none_h f hsys (fun t ht => by
        rcases Decidable.em (z.1 t = 0) with q | q
        · exact q
        · have := (hL t ht).mpr q
          rw [g, Nat.zero_testBit] at this
          cases this)
      exact absurd (h0 a ha) a0
    · simp [g]
end
/-- the elements are least leads, in order -/
theorem fE_l {hs : Int → Int} {n : Nat} {g : Int → Int} : ∀ (l i : Nat), i < (fE hs n g l).2 → ∃ a : Nat, a < l ∧ (fE hs n g l).1 i = a ∧ iL hs n a
  | 0, i, h => absurd h (by unfold fE; exact Nat.not_lt_zero _)
  | l + 1, i, h => by
    unfold fE at h ⊢
    split at h
    · rename_i hc
      rw [if_pos hc]
      have h2 : i < (fE hs n g l).2 + 1 := h
      rcases Nat.lt_or_ge i (fE hs n g l).2 with q | q
      · obtain ⟨a, a0, a1, a2⟩ := fE_l l i q
        refine ⟨a, by omega, ?_, a2⟩
        show uI _ _ _ (i : Int) = _
        rw [uI_n _ _ (by omega)]
        exact a1
      · refine ⟨l, by omega, ?_, (iLb_iff hs n l).mp hc⟩
        show uI _ _ _ (i : Int) = _
        rw [show (i : Int) = ((fE hs n g l).2 : Int) by omega, uI_s]
    · rename_i hc
      rw [if_neg hc]
      obtain ⟨a, a0, a1, a2⟩ := fE_l l i h
      exact ⟨a, by omega, a1, a2⟩
/-- isEnough at degree 4 -/
theorem enough_h {hs0 s0 : Int → Int} {z : (Int → Int) × (Int → Int)} {sy g : Int → Int} {P : Nat} (f : fin hs0 s0 z) (hsys : ∀ J, lin J → (jr J hs0 s0 ↔ ∀ q : Nat, q < P → J (sv sy (6 * q)))) : eNo (fE z.1 15 g 15).1 (fE z.1 15 g 15).2 4 := by
  intro i k hik hk hc
  obtain ⟨a, a0, a1, a2⟩ := fE_l (hs := z.1) (n := 15) (g := g) 15 i (by omega)
  obtain ⟨b, b0, b1, b2⟩ := fE_l (hs := z.1) (n := 15) (g := g) 15 k hk
  rw [a1, b1] at hc
  obtain ⟨L, hL, -, ok⟩ := lOk_h f hsys a0 b0 a2 b2
  have hcb : eCb a b = true := by
    unfold eCm at hc
    unfold eCb
    simp only [Bool.and_eq_true, Bool.or_eq_true, decide_eq_true_eq]
    exact hc
  have h := List.all_eq_true.mp (lOk_c ⟨a, a0⟩ ⟨b, b0⟩ hcb) L (List.mem_range.mpr hL)
  simp only [Bool.and_eq_true, Bool.not_eq_true'] at h
  cases q : decide (z.1 (6 : Nat) ≠ 0)
  · rw [q] at ok
    rw [h.2] at ok
    cases ok
  · rw [q] at ok
    rw [h.1] at ok
    cases ok
