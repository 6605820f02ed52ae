/-! What is kept: sizes, cells outside. -/
section
variable {V : Nat → Int} {L st : Int → Int} {f : Nat → Int} {n : Nat}
theorem bv6_4 {t : Nat} (ht : (133 ≤ t ∧ t < 260) ∨ 311 ≤ t) {m : Nat} (hm : m ≤ 3) : bv6 V L st f n m t = bv4 V L st f n t := by
  rw [bv6_o (by omega) m hm]
  show wgV (bv4 V L st f n) n t = _
  exact wg_o (by omega)
theorem bv4_2 (n4 : n ≤ 4) {t : Nat} (ht : t < 175 ∨ 328 ≤ t) : bv4 V L st f n t = bv2 V L st n t := by
  have e3 : gb 3 = 192 := rfl
  have e7 : gb 7 = 260 := rfl
  show mqX (bv3 V L st n) f n 6 0 0 t = _
  rw [mqX_o (by omega)]
  exact msF_o (by omega) n n4
theorem bv2_1 {t : Nat} (ht : t < 158 ∨ 175 ≤ t) : bv2 V L st n t = bv1 V L st n t := by
  have e1 : gb 1 = 158 := rfl
  show mvV (bv1 V L st n) L st 1 n t = _
  unfold mvV
  rw [vU_n _ _ (by omega), vG8_o _ _ (by omega)]
theorem bv6_r (n4 : n ≤ 4) {t : Nat} (ht : t < 120) {m : Nat} (hm : m ≤ 3) : bv6 V L st f n m t = V t := by
  rw [bv6_o (by omega) m hm]
  show wgV (bv4 V L st f n) n t = _
  rw [wg_o (by omega), bv4_2 n4 (by omega), bv2_1 (by omega)]
  exact (bv_o V L st n ht).2
/-- cells outside n by n -/
theorem bv4_z (n4 : n ≤ 4) {g c : Nat} (hg : g < 3) (hc : c < 16) (hn : ¬ (c / 4 < n ∧ c % 4 < n)) : bv4 V L st f n (gb g + c) = 0 := by
  have g3 : g = 0 ∨ g = 1 ∨ g = 2 := by omega
  rcases g3 with rfl | rfl | rfl
  · have e0 : gb 0 = 141 := rfl
    rw [bv4_2 n4 (by omega), bv2_1 (by omega)]
    show mvV (bv0 V L st n) L st 0 n (gb 0 + c) = 0
    unfold mvV
    rw [vU_n _ _ (by omega), vG8_i _ _ hc, if_neg hn]
  · have e1 : gb 1 = 158 := rfl
    rw [bv4_2 n4 (by omega)]
    show mvV (bv1 V L st n) L st 1 n (gb 1 + c) = 0
    unfold mvV
    rw [vU_n _ _ (by omega), vG8_i _ _ hc, if_neg hn]
  · show mqX (bv3 V L st n) f n 6 0 0 (gb 2 + c) = 0
    unfold mqX
    rw [vU_n _ _ (by omega), vG8_i _ _ hc]
    exact if_neg hn
theorem bv6_n {e c : Nat} (he : e < 3) (hc : c < 17) : ∀ m, e < m → m ≤ 3 → bv6 V L st f n m (gb (7 + e) + c) = bv6 V L st f n (e + 1) (gb (7 + e) + c)
  | 0, h, _ => absurd h (Nat.not_lt_zero _)
  | m + 1, h, hm => by
    rcases Decidable.em (e = m) with q | q
    · rw [q]
    · show ftX (bv6 V L st f n m) m n _ = _
      rw [ft_o (by unfold gb; omega)]
      exact bv6_n he hc m (by omega) (by omega)
end
theorem two_l2 {x : Int} {m : Nat} (h : x ≤ 2 ^ m) (hm : m ≤ 930) : x ≤ 2 ^ 930 := by
  rcases Nat.lt_or_ge m 930 with q | q
  · exact Int.le_trans h (Int.le_of_lt (two_m q))
  · rw [show m = 930 by omega] at h
    exact h
/-- the sizes of what is kept -/
theorem fi_z {Ar : Nat → Int → Int} {s : Int → Int} {P m : Nat} {W : Nat → Int} {L st : Int → Int} {f : Nat → Int} {n : Nat} (n4 : n ≤ 4) (hb : bdQ W L st f n) (fi : fiL Ar s P m (bv6 W L st f n) n) :
    vD Ar s P m ^ 8 ≤ 2 ^ 930 ∧ (∀ g, g < 3 → zAbs (bv6 W L st f n 3 (gb g + 16)) ≤ 2 ^ 930 ∧ ∀ c, c < 16 → zAbs (bv6 W L st f n 3 (gb g + c)) ≤ 2 ^ 930) ∧ ∀ e, e < 3 → zAbs (bv6 W L st f n 3 (gb (7 + e) + 16)) ≤ 2 ^ 930 ∧ ∀ c, c < 16 → zAbs (bv6 W L st f n 3 (gb (7 + e) + c)) ≤ 2 ^ 930 := by
  obtain ⟨-, -, b3, ⟨m1, b4, b4'⟩, ⟨a5, b5, -, b52, b53⟩, b6, b7⟩ := hb
  obtain ⟨D0, f1, f2⟩ := fi
  obtain ⟨D, hD⟩ : ∃ D, vD Ar s P m = D := ⟨_, rfl⟩
  rw [hD] at D0 f1 f2 ⊢
  obtain ⟨t1, t2, t3⟩ := f1 3 (Nat.le_refl _)
  have e329 : bv6 W L st f n 0 329 = D * D := by
    obtain ⟨-, -, u3⟩ := f1 0 (by omega)
    show wgV (bv4 W L st f n) n 329 = _
    rw [wg_o (by omega)]
    have h1 : bv6 W L st f n 0 (gb 2 + 16) = bv4 W L st f n (gb 2 + 16) := bv6_4 (by decide) (by omega)
    rw [u3] at h1
    rw [h1]
    have e7 : gb 7 = 260 := rfl
    show mqX (bv3 W L st n) f n 6 0 0 329 = mqX (bv3 W L st n) f n 6 0 0 (gb 2 + 16)
    rw [mqX_o (by omega)]
    unfold mqX
    rw [vU_s]
  obtain ⟨a6, bb6, m6, -, -, -, z6, m65⟩ := b6 0 (by decide)
  rw [e329] at z6
  have DD : 0 < D * D := Int.mul_pos D0 D0
  rw [zAbs_nn (by omega)] at z6
  have D8 : D ^ 8 ≤ 2 ^ (m6 * 4) := by
    rw [← two_pow, show D ^ 8 = (D * D) ^ 4 by rw [show (8 : Nat) = 2 * 4 by rfl, Int.pow_mul]; congr 1; rw [Int.pow_succ, Int.pow_succ]; simp]
    exact (pw_le (by omega) z6 4).2
  have pw : ∀ k, (D * D) ^ k ≤ 2 ^ (m6 * k) := fun k => by
    rw [← two_pow]
    exact (pw_le (by omega) z6 k).2
  have Dz : D ≤ D * D := by
    have := Int.mul_le_mul_of_nonneg_left (show (1 : Int) ≤ D by omega) (show (0 : Int) ≤ D by omega)
    omega
  refine ⟨two_l2 D8 (by omega), fun g hg => ⟨?_, fun c hc => ?_⟩, fun e he => ⟨?_, fun c hc => ?_⟩⟩
  · rcases (show g < 2 ∨ g = 2 by omega) with q | q
    · rw [(t1 g q).2, zAbs_nn (by omega)]
      exact two_l2 (Int.le_trans Dz z6) (by omega)
    · rw [q, t3, zAbs_nn (by omega)]
      exact two_l2 z6 (by omega)
  · have gl : gb g = 141 + 17 * g := rfl
    rw [bv6_4 (by omega) (Nat.le_refl _)]
    by_cases hn : c / 4 < n ∧ c % 4 < n
    · have ec : c = 4 * (c / 4) + c % 4 := by omega
      rcases (show g < 2 ∨ g = 2 by omega) with q | q
      · rw [bv4_2 n4 (by omega), ec]
        exact two_l2 (b4.1 g q _ _ hn.1 hn.2) (by omega)
      · rw [q, ec]
        exact two_l2 (b52 _ _ hn.1 hn.2) (by omega)
    · rw [bv4_z n4 hg hc hn]
      exact two_l2 (m := 0) (by decide) (by omega)
  · rw [((f2 e he 3 (by omega) (by omega)).2).2, zAbs_nn (Int.le_of_lt (Int.pow_pos DD))]
    have h5 : m6 * (e + 2) ≤ m6 * 4 := Nat.mul_le_mul_left _ (by omega)
    exact two_l2 (pw (e + 2)) (by omega)
  · rw [bv6_n he (by omega) 3 (by omega) (by omega)]
    exact (b7 e he).1 c hc
/-- the class's rows: sizes, 0 above the lead -/
theorem rows_z {A : Nat → Int → Int} {f : Int → Int} {V : Nat → Int} {P : Nat} (hP : P ≤ 4) (hf : ∀ i : Int, 0 ≤ i → i < 30 → -5 ≤ f i ∧ f i ≤ 5) : ∀ l : Nat, l < 10 → slL A V P f l = 1 → ∀ j : Nat, j < 10 → zAbs (slR A V P f l j) ≤ 2 ^ 930 ∧ (l < j → slR A V P f l j = 0) := by
  intro l hl h1 j hj
  obtain ⟨-, hs, s, ⟨⟨hr, hb⟩, -, c3, -, c5, -⟩, -⟩ := idl_h (f := f) (R := vR V) (L := A 2) (G := A 3) hf hP
  have eL : (idG f P (vR V) (A 2) (A 3)).2.1 = slL A V P f := rfl
  rw [eL] at c3 c5
  have h0 : hs l ≠ 0 := (c3 l hl).mp (by omega)
  have e : slR A V P f l j = rv s l j := by
    unfold slR
    rw [uR_n _ _ (by omega)]
    exact c5 l hl (by omega) j hj
  rw [e]
  refine ⟨?_, fun hlj => ?_⟩
  · exact two_l2 (hb l hl h0 j (by omega)) (by omega)
  · exact (hr l (by omega) h0).2.1 j hlj (by omega)
/-- what changes nothing of the leads' bits -/
theorem vZ_01 {A : Nat → Int → Int} {s : Int → Int} {P m : Nat} (h01 : ∀ k, A 15 k = 0 ∨ A 15 k = 1) : ∀ k, (vZ A s P m).1 k = 0 ∨ (vZ A s P m).1 k = 1 := by
  have hc01 : ∀ k, hC (A 15) 45 k = 0 ∨ hC (A 15) 45 k = 1 := by
    intro k
    unfold hC
    split
    · exact Or.inl rfl
    · exact h01 k
  have gw : ∀ (m : Nat) (z : (Int → Int) × (Int → Int)), (∀ k, z.1 k = 0 ∨ z.1 k = 1) → ∀ k, (gWr 15 4 m z).1 k = 0 ∨ (gWr 15 4 m z).1 k = 1 := by
    intro m
    induction m with
    | zero => exact fun z h => h
    | succ m ih =>
      intro z h
      unfold gWr
      split
      · exact (gR0_ok h).2
      · exact ih _ (gR0_ok h).2
  exact gw m _ (sL_b hc01 P)
/-- the standard monomials' places -/
theorem chG_w {L f : Int → Int} (h : ∀ i : Int, 0 ≤ i → i < 4 → 0 ≤ f i ∧ f i < 10) : ∀ m, m ≤ 6 → ∀ i : Int, 0 ≤ i → i < 4 → 0 ≤ (chG L f m).1 i ∧ (chG L f m).1 i < 10
  | 0, _ => h
  | m + 1, hm => by
    have ih := chG_w (L := L) h m (by omega)
    unfold chG
    split
    · exact ih
    · split
      · intro i i0 i1
        show 0 ≤ uI _ _ _ i ∧ uI _ _ _ i < 10
        unfold uI
        split
        · omega
        · exact ih i i0 i1
      · exact ih
theorem mzR_b : ∀ (n : Nat) (O : Int → Int) (S : Nat → Nat → Int) (t br ba br' ba' : Int), -1 ≤ t → t ≤ 1 → mzR n O S t br ba br' ba' → ba - n ≤ ba' ∧ ba' ≤ ba + n
  | 0, _, _, _, _, _, _, _, _, _, h => by have := h.2; omega
  | n + 1, O, S, t, br, ba, br', ba', t0, t1, h => by
    obtain ⟨r, S', -, h⟩ := h
    rcases h with ⟨-, -, h⟩ | ⟨k, -, -, h⟩
    · omega
    · have z : ∀ x : Int, -1 ≤ t * zSg x ∧ t * zSg x ≤ 1 := fun x => by
        unfold zSg
        split
        · omega
        · split
          · omega
          · omega
      have z' := z (S' k k)
      have := mzR_b n _ _ _ _ _ _ _ z'.1 z'.2 h
      omega
theorem mzT_b {n : Nat} {V : Nat → Int} {g : Nat} {br ba : Int} (h : mzT n V g br ba) : -4 ≤ ba ∧ ba ≤ 4 := by
  obtain ⟨O, V1, -, h⟩ := h
  have := mzR_b 4 _ _ _ _ _ _ _ (by decide) (by decide) h
  omega
