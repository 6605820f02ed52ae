/-! What is made is cC, and cR. -/
def dmR : List eA := (List.range 16).map (fun k => (7, k)) ++ ((List.range 16).map (fun k => (8, k)) ++ ((List.range 11).map (fun k => (9, k)) ++ ((List.range 11).map (fun k => (10, k)) ++ ((List.range 5).map (fun k => (5, k)) ++ ((List.range 5).map (fun k => (6, k)) ++ ((List.range 23).map (fun k => (1, k)) ++ [(0, 0)]))))))
set_option maxRecDepth 1000000 in
set_option maxHeartbeats 4000000 in
theorem coM_b : (dmR.all fun a => match cC F00 A00 W00 a, coM (fun _ => none) a with | some c, some d => eqvb c d | none, _ => true | _, _ => false) = true := by decide +kernel
theorem coM_s {a : eA} {c : eC} (h : cC F00 A00 W00 a = some c) : ∃ d, coM (fun _ => none) a = some d ∧ eqv c d := by
  have hm := cC_dm h
  unfold dmL at hm
  rcases List.mem_append.mp hm with h2 | hm
  · obtain ⟨k, hk, rfl⟩ := List.mem_map.mp h2
    have hk := List.mem_range.mp hk
    rw [cC_2 hk] at h
    cases h
    rw [(rl_co k).1, kco_e k hk]
    by_cases e : 141 ≤ k ∧ k < 328 ∧ (k - 141) % 17 = 16
    · rw [if_pos e]
      refine ⟨_, rfl, ?_⟩
      show (7, _) = (7, _)
      unfold W00
      rw [if_pos ⟨e, by omega⟩, if_pos ⟨e, by omega⟩]
    · rw [if_neg e]
      refine ⟨_, rfl, ?_⟩
      show (7, _) = (7, _)
      unfold W00
      rw [if_neg (fun q => e q.1), if_neg (fun q => e q.1)]
  rcases List.mem_append.mp hm with h2 | hm
  · obtain ⟨k, hk, rfl⟩ := List.mem_map.mp h2
    have hk := List.mem_range.mp hk
    rw [cC_3 hk] at h
    cases h
    rw [(rl_co k).2, kco_e k hk]
    by_cases e : 141 ≤ k ∧ k < 328 ∧ (k - 141) % 17 = 16
    · rw [if_pos e]
      refine ⟨_, rfl, rfl, rfl, fun i hi => ?_⟩
      have hi : i < lw k := hi
      have hl := lw_b k
      show mk8 (W00 k) (lw k) (i : Int) = fUp (fun _ => eI 0) 0 (eI 1) (i : Int)
      rw [mk8_e ⟨by omega, by omega⟩]
      unfold W00 fUp
      by_cases e0 : i = 0
      · subst e0
        rw [if_pos ⟨e, Or.inl rfl⟩]
        rfl
      · rw [if_neg (by omega), if_neg (by omega)]
    · rw [if_neg e]
      refine ⟨_, rfl, rfl, rfl, fun i hi => ?_⟩
      have hi : i < lw k := hi
      have hl := lw_b k
      show mk8 (W00 k) (lw k) (i : Int) = eI 0
      rw [mk8_e ⟨by omega, by omega⟩]
      unfold W00
      rw [if_neg (fun q => e q.1)]
  · have h1 := List.all_eq_true.mp coM_b a hm
    rw [h] at h1
    cases hd : coM (fun _ => none) a with
    | none => rw [hd] at h1; cases h1
    | some d => rw [hd] at h1; exact ⟨d, rfl, eqvb_s h1⟩
def F01 (k : Nat) : Int := if k = 9 ∨ k = 10 then -1 else 0
theorem moM_s {a : eA} {c : eC} (h : cR F01 A00 a = some c) : ∃ d, moM (fun _ => none) a = some d ∧ eqv c d := by
  unfold cR at h
  split at h <;> first | (cases h; done) | (cases h; exact ⟨_, rfl, rfl⟩) | (cases h; exact ⟨_, rfl, rfl, rfl, fun i _ => rfl⟩)
