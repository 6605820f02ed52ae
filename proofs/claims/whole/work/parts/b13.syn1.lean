/-! The numbers at the start. -/
def V00 (k : Nat) : Int := if 141 ≤ k ∧ k < 328 ∧ (k - 141) % 17 = 16 then 1 else 0
theorem wq_00 (k : Nat) : wq (lw k) (W00 k) (V00 k) := by
  have hL := lw_b k
  unfold V00
  by_cases e : 141 ≤ k ∧ k < 328 ∧ (k - 141) % 17 = 16
  · rw [if_pos e]
    refine ⟨1, by omega, ?_, fun j hj => ?_, fun _ => ?_, ?_, ?_⟩
    · unfold W00; rw [if_pos ⟨e, by omega⟩]; rfl
    · have : j = 0 := by omega
      subst this
      unfold W00; rw [if_pos ⟨e, by omega⟩]
      exact ⟨by omega, by decide⟩
    · unfold W00; rw [if_pos ⟨e, by omega⟩]; decide
    · show vL (W00 k) 1 = _
      have h0 : W00 k 0 = 1 := by unfold W00; rw [if_pos ⟨e, by omega⟩]
      simp [vL, h0, zAbs]
    · unfold W00; rw [if_pos ⟨e, by omega⟩]; decide
  · rw [if_neg e]
    refine ⟨0, by omega, ?_, fun j hj => by omega, fun h => by omega, ?_, ?_⟩
    · unfold W00; rw [if_neg (fun q => e q.1)]; rfl
    · simp [vL, zAbs]
    · unfold W00; rw [if_neg (fun q => e q.1)]; decide
theorem rn_00 : rn (A00 0) (fun _ => 0) := by
  intro p h1 h2
  exact ⟨0, by omega, fun k hk => by omega, fun h => by omega, Or.inl ⟨rfl, rfl⟩⟩
theorem aR_00 : aR W00 V00 := ⟨fun t _ _ => wq_00 t, fun t _ => ⟨V00 t, wq_00 t⟩⟩
