/-! rowU from the bits of the rows alone. -/
def btN (n : Nat) : Nat := match n with
  | 4 => 74
  | 3 => 103
  | 2 => 138
  | _ => 177
theorem rowU_h {A : Nat → Int → Int} {s : Int → Int} {P m : Nat} (h01 : ∀ k, (vZ A s P m).1 k = 0 ∨ (vZ A s P m).1 k = 1) (hn : (vG A s P m).2 ≤ 4) (h0 : ∀ j : Nat, j < (vG A s P m).2 → 0 ≤ (vG A s P m).1 j ∧ (vG A s P m).1 j < 6) (h : rowB (vZ A s P m).1 (vZ A s P m).2 (vG A s P m).1 (vG A s P m).2 (btN (vG A s P m).2)) : rowU A s P m := by
  have p : pc (vZ A s P m).1 (vG A s P m).1 (vG A s P m).2 ≤ (vG A s P m).2 + 1 := pc_G (g := A 16) (g' := A 18) h01 hn h0
  refine ⟨btN (vG A s P m).2, 2, Nat.le_refl _, fun j hj => mD_6 (h0 j hj), h, ?_⟩
  obtain ⟨c, hc⟩ : ∃ c, pc (vZ A s P m).1 (vG A s P m).1 (vG A s P m).2 = c := ⟨_, rfl⟩
  obtain ⟨n, hn'⟩ : ∃ n, (vG A s P m).2 = n := ⟨_, rfl⟩
  rw [hc] at p ⊢
  rw [hn'] at p hn ⊢
  clear hc hn' h h0 h01
  have q := Nat.mul_le_mul_right (btN n) (show c + 1 ≤ n + 2 by omega)
  obtain ⟨X, hX⟩ : ∃ X, (c + 1) * btN n = X := ⟨_, rfl⟩
  rw [hX] at q ⊢
  match n, hn, q with
  | 0, _, q =>
    have q' : X ≤ 2 * 177 := q
    show (0 + 1) * _ < _ ∧ _
    omega
  | 1, _, q =>
    have q' : X ≤ 3 * 177 := q
    show (0 + 1) * _ < _ ∧ _
    omega
  | 2, _, q =>
    have q' : X ≤ 4 * 138 := q
    show (1 + 1) * _ < _ ∧ _
    omega
  | 3, _, q =>
    have q' : X ≤ 5 * 103 := q
    show (2 + 1) * _ < _ ∧ _
    omega
  | 4, _, q =>
    have q' : X ≤ 6 * 74 := q
    show (3 + 1) * _ < _ ∧ _
    omega
