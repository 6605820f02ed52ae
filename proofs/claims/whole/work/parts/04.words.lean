/-! The words that every contract of ours may use: the tables' good ones. -/
def gW : List Cond := lw_tbl.filter goodWord
theorem gW_in {w : Cond} (h : w ∈ lw_tbl) (g : goodWord w = true) : w ∈ gW := List.mem_filter.mpr ⟨h, g⟩
theorem gW_at {w : Cond} (i : Nat) (h : lw_tbl[i]? = some w) (g : goodWord w = true) : w ∈ gW := gW_in (List.mem_of_getElem? h) g
theorem gW_sub {y : MethodName} {b : ByteArray} {n : Nat} {r : Option FieldType} {ws : List Cond} (hw : ∀ w ∈ gW, w ∈ ws) (hc : Cond.code y b n r ∈ gW) : GoodIn ws (Cond.code y b n r :: gW) := by
  intro w h
  rcases List.mem_cons.mp h with rfl | h
  · exact ⟨hw _ hc, good_of_word (List.mem_filter.mp hc).2⟩
  · exact ⟨hw _ h, good_of_word (List.mem_filter.mp h).2⟩
theorem gW_lay : ∀ (c : Nat) (q : vw_C), vwCl[c]? = some q → ∀ w ∈ u_ws q.1 q.2.1 q.2.2, w ∈ gW := by
  have key : ∀ (C : String) (T : u_T) (N : Nat), (∀ w ∈ u_ws C T N, w ∈ lw_tbl) → ∀ w ∈ u_ws C T N, w ∈ gW := by
    intro C T N h w hw
    refine gW_in (h w hw) ?_
    obtain ⟨k, -, rfl⟩ := List.mem_map.mp hw
    unfold u_lay
    split <;> rfl
  intro c q hq
  match c, hq with
  | 0, hq => cases hq; exact key _ _ _ inX0
  | 1, hq => cases hq; exact key _ _ _ inX1
  | 2, hq => cases hq; exact key _ _ _ inX2
  | 3, hq => cases hq; exact key _ _ _ inX3
  | 4, hq => cases hq; exact key _ _ _ inX4
  | 5, hq => cases hq; exact key _ _ _ inX6
  | 6, hq => cases hq; exact key _ _ _ inX7
  | 7, hq => cases hq; exact key _ _ _ inX8
  | 8, hq => cases hq; exact key _ _ _ inX9
  | 9, hq => cases hq; exact key _ _ _ inX10
  | c + 10, hq => simp [vwCl] at hq
/-- the fields' kinds: int or boolean, not final -/
def gW_ty : Nat → Nat → FieldType := fun c => match c with
  | 0 => tyX0 | 1 => tyX1 | 2 => tyX2 | 3 => tyX3 | 4 => tyX4 | 5 => tyX6 | 6 => tyX7 | 7 => tyX8 | 8 => tyX9 | _ => tyX10
theorem gW_tyok : ∀ (c : Nat) (q : vw_C), vwCl[c]? = some q → (∀ k, k < q.2.2 → parseFieldDescriptor (q.2.1 k).2.2.1 = some (gW_ty c k)) ∧ ∀ a, a < q.2.2 → ∀ b, b < q.2.2 → a ≠ b → (q.2.1 a).2.1 ≠ (q.2.1 b).2.1 := by
  intro c q hq
  match c, hq with
  | 0, hq => cases hq; exact ⟨tyX0_ok, nmX0⟩
  | 1, hq => cases hq; exact ⟨tyX1_ok, nmX1⟩
  | 2, hq => cases hq; exact ⟨tyX2_ok, nmX2⟩
  | 3, hq => cases hq; exact ⟨tyX3_ok, nmX3⟩
  | 4, hq => cases hq; exact ⟨tyX4_ok, nmX4⟩
  | 5, hq => cases hq; exact ⟨tyX6_ok, nmX6⟩
  | 6, hq => cases hq; exact ⟨tyX7_ok, nmX7⟩
  | 7, hq => cases hq; exact ⟨tyX8_ok, nmX8⟩
  | 8, hq => cases hq; exact ⟨tyX9_ok, nmX9⟩
  | 9, hq => cases hq; exact ⟨tyX10_ok, nmX10⟩
  | c + 10, hq => simp [vwCl] at hq
