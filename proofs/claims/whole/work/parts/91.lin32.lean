/-! The pairs that lead out, for the standard monomials of a solve. -/
theorem fG_0 {hs e : Int → Int} {N : Nat} {g g' : Int → Int} (h01 : ∀ k, hs k = 0 ∨ hs k = 1) (j : Nat) (hj : j < (fG (fE hs 15 g 15).1 (fE hs 15 g 15).2 g' 15).2) : hs ((fG (fE hs 15 g 15).1 (fE hs 15 g 15).2 g' 15).1 j) = 0 := by
  obtain ⟨k, k0, k1, k2⟩ := fG_k (fE hs 15 g 15).1 (fE hs 15 g 15).2 g' 15 j hj
  rw [k1]
  rcases h01 k with q | q
  · exact q
  · obtain ⟨a, a0, a1, a2, a3⟩ := lst_b h01 15 k k0 k0 (by rw [q]; decide)
    obtain ⟨i, i0, i1⟩ := fE_m (g := g) 15 a a0 a1
    have := (gFb_iff _ _ _).mp k2 i i0
    rw [i1] at this
    exact absurd ⟨a2, a3⟩ this
theorem fG_d {e g' : Int → Int} {N : Nat} (j : Nat) (hj : j < (fG e N g' 15).2) (d : Nat) (hd : d < 6) (h1 : mX (d : Int) ≤ mX ((fG e N g' 15).1 j)) (h2 : mY (d : Int) ≤ mY ((fG e N g' 15).1 j)) : ∃ i : Nat, i < (fG e N g' 15).2 ∧ (fG e N g' 15).1 i = d := by
  obtain ⟨k, k0, k1, k2⟩ := fG_k e N g' 15 j hj
  rw [k1] at h1 h2
  refine fG_a e N g' 15 d (by omega) ((gFb_iff _ _ _).mpr fun i hi hh => ?_)
  exact (gFb_iff _ _ _).mp k2 i hi ⟨Int.le_trans hh.1 h1, Int.le_trans hh.2 h2⟩
theorem pc_G {hs g g' : Int → Int} (h01 : ∀ k, hs k = 0 ∨ hs k = 1) (hn : (fG (fE hs 15 g 15).1 (fE hs 15 g 15).2 g' 15).2 ≤ 4) (h0 : ∀ j : Nat, j < (fG (fE hs 15 g 15).1 (fE hs 15 g 15).2 g' 15).2 → 0 ≤ (fG (fE hs 15 g 15).1 (fE hs 15 g 15).2 g' 15).1 j ∧ (fG (fE hs 15 g 15).1 (fE hs 15 g 15).2 g' 15).1 j < 6) : pc hs (fG (fE hs 15 g 15).1 (fE hs 15 g 15).2 g' 15).1 (fG (fE hs 15 g 15).1 (fE hs 15 g 15).2 g' 15).2 ≤ (fG (fE hs 15 g 15).1 (fE hs 15 g 15).2 g' 15).2 + 1 :=
  pc_h hn h0 (fun i j hij hj => fG_s _ _ _ 15 i j hij hj) (fun j hj d hd h1 h2 => fG_d j hj d hd h1 h2) (fun j hj => fG_0 (e := g) (N := 0) h01 j hj)
