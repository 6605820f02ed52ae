/-! The room of a solve: the rows, isEnough, the query. -/
theorem rows_v {A : Nat → Int → Int} {s : Int → Int} {P : Nat} (h01 : ∀ k, A 15 k = 0 ∨ A 15 k = 1) (h4 : ∀ k : Nat, k < 24 → -5 ≤ A 4 k ∧ A 4 k ≤ 5) (h5 : ∀ k : Nat, k < 6 → -5 ≤ A 5 k ∧ A 5 k ≤ 5) (hP : P ≤ 4) : ∃ (m : Nat) (hs0 s0 : Int → Int), (∀ J, lin J → (jr J hs0 s0 ↔ ∀ q : Nat, q < P → J (sv (A 4) (6 * q)))) ∧ fin hs0 s0 (vZ A s P m) ∧ sLB 15 (A 4) (hC (A 15) 45) s P ∧ gWB 15 4 m (sL 15 (A 4) (hC (A 15) 45) s P) ∧ eNo (vE A s P m).1 (vE A s P m).2 4 ∧ dP (vZ A s P m).1 15 15 (lW (vZ A s P m).2 (A 5) 0 6) := by
  have c01 : ∀ k, hC (A 15) 45 k = 0 ∨ hC (A 15) 45 k = 1 := fun k => by
    unfold hC
    split
    · exact Or.inl rfl
    · exact h01 k
  have c0 : ∀ l : Nat, l < 15 → hC (A 15) 45 l = 0 := fun l hl => by
    unfold hC
    rw [if_pos (by omega)]
  obtain ⟨a, b, m, c, d⟩ := rows_h (s := s) c01 c0 h4 hP
  refine ⟨m, _, _, b, d, a, c, enough_h d b, ?_⟩
  obtain ⟨M, bb, r, hb⟩ := d.1
  have lo : ∀ q, q < 2025 → lW (vZ A s P m).2 (A 5) 0 6 q = (vZ A s P m).2 q := fun q hq => lW_o hq 6
  have r' : rel M bb (vZ A s P m).1 (lW (vZ A s P m).2 (A 5) 0 6) := rel_s r lo
  have wz : ∀ j, 6 ≤ j → wv (lW (vZ A s P m).2 (A 5) 0 6) j = 0 := fun j hj => by
    rw [lW_v]
    unfold sv
    rw [if_neg (by omega)]
  have ws : nS (wv (lW (vZ A s P m).2 (A 5) 0 6)) 15 ≤ 2 ^ 7 := by
    have h1 := nS_B (a := wv (lW (vZ A s P m).2 (A 5) 0 6)) (B := 5) (n := 15) (fun j hj => by
      rw [lW_v]
      unfold sv
      split
      · rename_i g
        have := h5 j g
        rw [show (0 : Int) + (j : Int) = j by omega]
        unfold zAbs
        split <;> omega
      · decide)
    have h2 : ((15 : Nat) : Int) * 5 = 75 := by decide
    have h3 : (2 : Int) ^ 7 = 128 := by decide
    omega
  have b5 := hb 5
  have b14 := hb 14
  exact (rel_en (p := 5) (w := 7) r' (by decide) (fun j j0 _ => wz j (by omega)) ws (by omega) (by omega)).1.1
