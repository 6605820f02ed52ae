/-! The standard monomials as a list: all of them, in order. -/
theorem fG_a (e : Int → Int) (N : Nat) (g : Int → Int) : ∀ n k : Nat, k < n → gFb e N k = true → ∃ i : Nat, i < (fG e N g n).2 ∧ (fG e N g n).1 i = k
  | 0, k, h, _ => absurd h (Nat.not_lt_zero _)
  | n + 1, k, h, hk => by
    unfold fG
    rcases Decidable.em (k = n) with q | q
    · subst q
      rw [if_pos hk]
      refine ⟨(fG e N g k).2, Nat.lt_succ_self _, ?_⟩
      show uI _ _ _ _ = _
      exact uI_s _ _ _
    · obtain ⟨i, i0, i1⟩ := fG_a e N g n k (by omega) hk
      split
      · refine ⟨i, Nat.lt_succ_of_lt i0, ?_⟩
        show uI _ _ _ (i : Int) = _
        rw [uI_n _ _ (by omega)]
        exact i1
      · exact ⟨i, i0, i1⟩
theorem fG_s (e : Int → Int) (N : Nat) (g : Int → Int) : ∀ n (i j : Nat), i < j → j < (fG e N g n).2 → (fG e N g n).1 i < (fG e N g n).1 j
  | 0, i, j, _, h => absurd h (by unfold fG; exact Nat.not_lt_zero _)
  | n + 1, i, j, hij, h => by
    unfold fG at h ⊢
    split at h
    · rename_i hc
      rw [if_pos hc]
      have h2 : j < (fG e N g n).2 + 1 := h
      show uI _ _ _ (i : Int) < uI _ _ _ (j : Int)
      rw [uI_n _ _ (show (i : Int) ≠ ((fG e N g n).2 : Int) by omega)]
      rcases Nat.lt_or_ge j (fG e N g n).2 with q | q
      · rw [uI_n _ _ (show (j : Int) ≠ ((fG e N g n).2 : Int) by omega)]
        exact fG_s e N g n i j hij q
      · rw [show (j : Int) = ((fG e N g n).2 : Int) by omega, uI_s]
        obtain ⟨k, k0, k1, -⟩ := fG_k e N g n i (by omega)
        rw [k1]
        omega
    · rename_i hc
      rw [if_neg hc]
      exact fG_s e N g n i j hij h
