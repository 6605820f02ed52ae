/-! The room of a solve, but for the sizes of the rows in the finite case. -/
theorem rowB_c {hs s s' st : Int → Int} {n β : Nat} (hst : ∀ j : Nat, j < n → 0 ≤ st j ∧ st j < 6) (hc : ∀ p, p < 2025 → s' p = s p) (h : rowB hs s st n β) : rowB hs s' st n β := fun j hj w hw g => by
  obtain ⟨h1, h2, h3⟩ := h j hj w hw g
  have hm := (mv_h (hst j hj)).2.2.2.2 w (by omega) (by omega)
  refine ⟨?_, ?_, fun i hi => ?_⟩
  · rw [hc _ (by omega)]
    exact h1
  · rw [hc _ (by omega)]
    exact h2
  · have := hst i hi
    rw [hc _ (by omega)]
    exact h3 i hi
/-- what is asked of the sizes -/
def rowU (A : Nat → Int → Int) (s : Int → Int) (P m : Nat) : Prop := ∃ β d : Nat, d ≤ 2 ∧ (∀ j : Nat, j < (vG A s P m).2 → mD ((vG A s P m).1 j) ≤ d) ∧ rowB (vZ A s P m).1 (vZ A s P m).2 (vG A s P m).1 (vG A s P m).2 β ∧ ((vG A s P m).2 - 1 + 1) * (41 + 4 * ((pc (vZ A s P m).1 (vG A s P m).1 (vG A s P m).2 + 1) * β) + 2 * (d * ((pc (vZ A s P m).1 (vG A s P m).1 (vG A s P m).2 + 1) * β + 3))) < 16744 ∧ 41 + 6 * ((pc (vZ A s P m).1 (vG A s P m).1 (vG A s P m).2 + 1) * β) < 16744
theorem svB_h {A : Nat → Int → Int} {s : Int → Int} {P : Nat} (h01 : ∀ k, A 15 k = 0 ∨ A 15 k = 1) (h4 : ∀ k : Nat, k < 24 → -5 ≤ A 4 k ∧ A 4 k ≤ 5) (h5 : ∀ k : Nat, k < 6 → -5 ≤ A 5 k ∧ A 5 k ≤ 5) (hP : P ≤ 4) (hz : ∀ (m : Nat) (hs0 s0 : Int → Int), (∀ J, lin J → (jr J hs0 s0 ↔ ∀ q : Nat, q < P → J (sv (A 4) (6 * q)))) → fin hs0 s0 (vZ A s P m) → vA A s P m < 2 → (vG A s P m).2 ≤ 4 → (∀ j : Nat, j < (vG A s P m).2 → 0 ≤ (vG A s P m).1 j ∧ (vG A s P m).1 j < 6) → rowU A s P m) : ∃ m, svB A s P m := by
  obtain ⟨m, hs0, s0, a, b, c, d, e, f⟩ := rows_v h01 h4 h5 hP
  refine ⟨m, c, d, e, f, fun hA => ?_⟩
  have hf : (vZ A s P m).1 0 ≠ 0 ∨ vB (fE (vZ A s P m).1 15 (A 16) 15).1 (fE (vZ A s P m).1 15 (A 16) 15).2 = true := by
    unfold vA at hA
    split at hA
    · split at hA
      · rename_i g
        exact Or.inr g
      · omega
    · rename_i g
      exact Or.inl g
  obtain ⟨k1, k2⟩ := std_h (g := A 16) (g' := A 18) b a hf
  have k3 : ∀ j : Nat, j < (vG A s P m).2 → 0 ≤ (vG A s P m).1 j ∧ (vG A s P m).1 j < 6 := k2
  have k4 : (vG A s P m).2 ≤ 4 := k1
  obtain ⟨β, dd, r1, r2, r3, r4, r5⟩ := hz m hs0 s0 a b hA k4 k3
  have r6 : rowB (vZ A s P m).1 (vK A s P m) (vG A s P m).1 (vG A s P m).2 β := rowB_c k3 (fun p hp => (dA_o hp 15 _).trans (lW_o hp 6)) r3
  have t := tRm_h r6 h5 (by omega)
  exact ⟨by omega, k3, ⟨_, _, t⟩, rm_u k4 k3 r2 r1 t r4 r5⟩
