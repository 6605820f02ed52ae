/-! The relation of both memories that every call keeps. -/
/-- system and query now -/
def yN (F F' : Nat → Int) (A A' : Nat → Int → Int) : Prop :=
  F 2 = F' 6 ∧ (0 ≤ F 2 ∧ F 2 ≤ 4) ∧ (∀ k : Nat, k < 24 → A 0 k = A' 4 k) ∧ (∀ k : Nat, k < 6 → A 0 (24 + (k : Int)) = A' 5 k) ∧ (∀ i : Int, 0 ≤ i → i < 30 → -5 ≤ A 0 i ∧ A 0 i ≤ 5) ∧ ∀ i : Int, 6 * F 2 ≤ i → i < 24 → A 0 i = 0
/-- what holds at any time of what was told by solve -/
def yS (F F' : Nat → Int) (A A' : Nat → Int → Int) : Prop :=
  F 0 = F' 11 ∧ (0 ≤ F 0 ∧ F 0 ≤ 40) ∧ F 1 = F' 10 ∧ (-1 ≤ F 1 ∧ F 1 ≤ 2) ∧ w32 (F 3) ∧ w32 (F' 9) ∧ (∀ i : Int, 0 ≤ i → i < 30 → w32 (A 1 i)) ∧ (∀ k : Nat, k < 24 → w32 (A' 7 k)) ∧ (∀ k : Nat, k < 6 → w32 (A' 8 k)) ∧ (∀ i : Int, 0 ≤ i → i < 10 → A 2 i = 0 ∨ A 2 i = 1) ∧ (∀ k, A' 15 k = 0 ∨ A' 15 k = 1) ∧ (0 ≤ F' 17 ∧ F' 17 ≤ 45) ∧ (∀ i : Nat, (i : Int) < F' 17 → 0 ≤ A' 16 i ∧ A' 16 i < 45) ∧ (0 ≤ F' 19 ∧ F' 19 ≤ 6) ∧ (F 4 = 0 ∨ F 4 = 1) ∧ (F' 22 = 0 ∨ F' 22 = 1) ∧ (∃ n : Nat, F 5 = n ∧ n ≤ 4) ∧ (∀ i : Int, 0 ≤ i → i < 4 → 0 ≤ A 4 i ∧ A 4 i < 10) ∧ ∀ i : Int, 0 ≤ i → i < 3 → -4 ≤ A 6 i ∧ A 6 i ≤ 4
/-- the system and query of the last solve -/
def yL (F F' : Nat → Int) (A A' : Nat → Int → Int) : Prop :=
  (F 1 = -1 → F' 9 = -1 ∧ ∀ i : Int, 0 ≤ i → i < 10 → A 2 i = 0) ∧ (F 1 ≠ -1 → F 3 = F' 9 ∧ (∀ i : Int, 6 * F 3 ≤ i → i < 24 → A 1 i = 0) ∧ (∀ k : Nat, k < 24 → A 1 k = A' 7 k) ∧ ∀ k : Nat, k < 6 → A 1 (24 + (k : Int)) = A' 8 k)
/-- the ideal -/
def yI (V : Nat → Int) (s : Int → Int) (F F' : Nat → Int) (A A' : Nat → Int → Int) : Prop :=
  (elc (A 2) 10 : Int) = F' 17 ∧ (∀ k : Int, tpF (A 2) k 10 0 0 = if 0 ≤ k ∧ k < F' 17 then A' 16 k else -1) ∧ F' 13 = 4 ∧ (∀ i : Nat, (i : Int) < F' 17 → 0 ≤ A' 16 i ∧ A' 16 i < 10 ∧ A 2 (A' 16 i) = 1) ∧ (∀ l : Nat, l < 10 → A 2 l = 1 → 0 < V (rb l + l) ∧ ∀ j : Nat, j < 10 → V (rb l + j) = s (45 * (l : Int) + j) ∧ zAbs (V (rb l + j)) ≤ 2 ^ 930 ∧ (l < j → V (rb l + j) = 0)) ∧ F 4 = F' 22
/-- the algebra -/
def yA (V : Nat → Int) (s : Int → Int) (F F' : Nat → Int) (A A' : Nat → Int → Int) : Prop :=
  F 5 = F' 19 ∧ (∀ j : Nat, (j : Int) < F 5 → A 4 j = A' 18 j ∧ 0 ≤ A' 18 j ∧ A' 18 j < 6) ∧ (∀ e : Nat, e < 3 → A 5 e = A' 20 e ∧ A 6 e = A' 21 e) ∧ 0 < s 2076 ∧ s 2076 ^ 8 ≤ 2 ^ 930 ∧
  (∀ of : Nat, of < 2 → V (gb of + 16) = s 2076 ∧ ∀ i j : Nat, (i : Int) < F 5 → (j : Int) < F 5 → V (gb of + (4 * i + j)) = s (2080 + 36 * (of : Int) + 6 * i + j)) ∧
  (V (gb 2 + 16) = s 2076 * s 2076 ∧ ∀ i j : Nat, (i : Int) < F 5 → (j : Int) < F 5 → V (gb 2 + (4 * i + j)) = s (2152 + 6 * (i : Int) + j)) ∧
  (∀ e : Nat, e < 3 → V (gb (7 + e) + 16) = (s 2076 * s 2076) ^ (e + 2) ∧ ∀ i j : Nat, (i : Int) < F 5 → (j : Int) < F 5 → V (gb (7 + e) + (4 * i + j)) = s 2076 ^ (2 - (mD (A' 18 i)).toNat) * (s 2076 ^ (2 - (mD (A' 18 j)).toNat) * s (2332 + 36 * (e : Int) + 6 * i + j))) ∧
  (∀ g, g < 3 → zAbs (V (gb g + 16)) ≤ 2 ^ 930 ∧ ∀ c, c < 16 → zAbs (V (gb g + c)) ≤ 2 ^ 930) ∧ ∀ e, e < 3 → zAbs (V (gb (7 + e) + 16)) ≤ 2 ^ 930 ∧ ∀ c, c < 16 → zAbs (V (gb (7 + e) + c)) ≤ 2 ^ 930
def yT (V : Nat → Int) (s : Int → Int) (F F' : Nat → Int) (A A' : Nat → Int → Int) : Prop :=
  yS F F' A A' ∧ yL F F' A A' ∧ (F 1 ≠ -1 → yI V s F F' A A') ∧ (F 1 = 0 ∨ F 1 = 1 → yA V s F F' A A')
def Syn (M1 M2 : eM) : Prop := ∃ (F : Nat → Int) (A W : Nat → Int → Int) (F' : Nat → Int) (A' : Nat → Int → Int) (V : Nat → Int) (s : Int → Int), M1 = cC F A W ∧ M2 = cR F' A' ∧ aR W V ∧ rn (A' 0) s ∧ yN F F' A A' ∧ yT V s F F' A A'
section
variable {F F' F2 F2' : Nat → Int} {A A' W A2 A2' : Nat → Int → Int} {V : Nat → Int} {s s2 : Int → Int}
theorem SI_mk (hV : aR W V) (hr : rn (A' 0) s) (hN : yN F F' A A') (hT : yT V s F F' A A') : Syn (cC F A W) (cR F' A') := ⟨F, A, W, F', A', V, s, rfl, rfl, hV, hr, hN, hT⟩
theorem yT_c (h : yT V s F F' A A') (hF : ∀ j, j ≠ 2 → F2 j = F j) (hA : ∀ k, k ≠ 0 → A2 k = A k) (hF' : ∀ j, j ≠ 6 → j ≠ 12 → F2' j = F' j) (hA' : ∀ k, 6 ≤ k → A2' k = A' k) (hs : ∀ p, p < 2070 ∨ 2075 ≤ p → s2 p = s p) : yT V s2 F2 F2' A2 A2' := by
  have f0 := hF 0 (by decide)
  have f1 := hF 1 (by decide)
  have f3 := hF 3 (by decide)
  have f4 := hF 4 (by decide)
  have f5 := hF 5 (by decide)
  have a1 := hA 1 (by decide)
  have a2 := hA 2 (by decide)
  have a4 := hA 4 (by decide)
  have a5 := hA 5 (by decide)
  have a6 := hA 6 (by decide)
  have g9 := hF' 9 (by decide) (by decide)
  have g10 := hF' 10 (by decide) (by decide)
  have g11 := hF' 11 (by decide) (by decide)
  have g13 := hF' 13 (by decide) (by decide)
  have g17 := hF' 17 (by decide) (by decide)
  have g19 := hF' 19 (by decide) (by decide)
  have g22 := hF' 22 (by decide) (by decide)
  have b7 := hA' 7 (by decide)
  have b8 := hA' 8 (by decide)
  have b15 := hA' 15 (by decide)
  have b16 := hA' 16 (by decide)
  have b18 := hA' 18 (by decide)
  have b20 := hA' 20 (by decide)
  have b21 := hA' 21 (by decide)
  obtain ⟨h1, h2, h3, h4⟩ := h
  refine ⟨?_, ?_, fun q => ?_, fun q => ?_⟩
  · unfold yS at h1 ⊢
    rw [f0, f1, f3, f4, f5, a1, a2, a4, a6, g9, g10, g11, g17, g19, g22, b7, b8, b15, b16]
    exact h1
  · unfold yL at h2 ⊢
    rw [f1, f3, a1, a2, g9, b7, b8]
    exact h2
  · rw [f1] at q
    obtain ⟨i1, i2, i3, i4, i5, i6⟩ := h3 q
    unfold yI
    rw [a2, g17, b16, g13, f4, g22]
    refine ⟨i1, i2, i3, i4, fun l hl hl1 => ⟨(i5 l hl hl1).1, fun j hj => ?_⟩, i6⟩
    obtain ⟨e1, e2, e3⟩ := (i5 l hl hl1).2 j hj
    exact ⟨by rw [hs _ (by omega)]; exact e1, e2, e3⟩
  · rw [f1] at q
    obtain ⟨i1, i2, i3, i4, i5, i6, i7, i8, i9, i10⟩ := h4 q
    unfold yA
    rw [f5, g19, a4, b18, a5, b20, a6, b21, hs 2076 (by decide)]
    refine ⟨i1, i2, i3, i4, i5, fun of ho => ⟨(i6 of ho).1, fun i j hi hj => ?_⟩, ⟨i7.1, fun i j hi hj => ?_⟩, fun e he => ⟨(i8 e he).1, fun i j hi hj => ?_⟩, i9, i10⟩
    · rw [hs _ (by omega)]
      exact (i6 of ho).2 i j hi hj
    · rw [hs _ (by omega)]
      exact i7.2 i j hi hj
    · rw [hs _ (by omega)]
      exact (i8 e he).2 i j hi hj
theorem yN_c (h : yN F F' A A') (hF' : F2' 6 = F' 6) (h4 : A2' 4 = A' 4) (h5 : A2' 5 = A' 5) : yN F F2' A A2' := by
  unfold yN at h ⊢
  rw [hF', h4, h5]
  exact h
/-- a call of the reference that lays 12 anew, the small numbers and the places 2070 to 2074 -/
theorem SI_k (hV : aR W V) (z : Int) (hA : sN A' A2') (hr : rn (A2' 0) s2) (hs : ∀ p, p < 2070 ∨ 2075 ≤ p → s2 p = s p) (hN : yN F F' A A') (hT : yT V s F F' A A') : Syn (cC F A W) (cR (uF F' 12 z) A2') :=
  SI_mk hV hr (yN_c hN (uF_n _ _ (by decide)) (hA 4 (by decide)) (hA 5 (by decide))) (yT_c hT (fun _ _ => rfl) (fun _ _ => rfl) (fun j _ h => uF_n _ _ h) (fun k hk => hA k (by omega)) hs)
theorem SI_12 (hV : aR W V) (z : Int) (hr : rn (A' 0) s) (hN : yN F F' A A') (hT : yT V s F F' A A') : Syn (cC F A W) (cR (uF F' 12 z) A') := SI_k hV z (sN_rf A') hr (fun _ _ => rfl) hN hT
end
/-- the start -/
theorem Syn_00 : Syn (cC F00 A00 W00) (cR F01 A00) := by
  refine SI_mk aR_00 rn_00 ⟨rfl, ⟨by decide, by decide⟩, fun _ _ => rfl, fun _ _ => rfl, fun _ _ _ => ⟨by show (-5 : Int) ≤ 0; decide, by show (0 : Int) ≤ 5; decide⟩, fun _ _ _ => rfl⟩ ⟨⟨rfl, ⟨by decide, by decide⟩, rfl, ⟨by decide, by decide⟩, by decide, by decide, fun _ _ _ => by show w32 0; decide, fun _ _ => by show w32 0; decide, fun _ _ => by show w32 0; decide, fun _ _ _ => Or.inl rfl, fun _ => Or.inl rfl, ⟨by decide, by decide⟩, fun i h => ?_, ⟨by decide, by decide⟩, Or.inl rfl, Or.inl rfl, ⟨0, rfl, by decide⟩, fun _ _ _ => ⟨by show (0 : Int) ≤ 0; decide, by show (0 : Int) < 10; decide⟩, fun _ _ _ => ⟨by show (-4 : Int) ≤ 0; decide, by show (0 : Int) ≤ 4; decide⟩⟩, ⟨fun _ => ⟨rfl, fun _ _ _ => rfl⟩, fun h => absurd rfl h⟩, fun h => absurd rfl h, fun h => ?_⟩
  · have : F01 17 = 0 := rfl
    omega
  · have : F00 1 = -1 := rfl
    omega
