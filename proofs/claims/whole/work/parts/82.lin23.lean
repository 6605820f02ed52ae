/-! The standard monomials: at most four, of degree 2 at most. -/
theorem dvb_o : ∀ d k : Fin 15, dvb d.val k.val = true → d.val ≤ k.val := by decide +kernel
theorem fE_m {hs : Int → Int} {n : Nat} {g : Int → Int} : ∀ (l a : Nat), a < l → iL hs n a → ∃ i : Nat, i < (fE hs n g l).2 ∧ (fE hs n g l).1 i = a
  | 0, a, h, _ => absurd h (Nat.not_lt_zero _)
  | l + 1, a, h, hl => by
    unfold fE
    rcases Decidable.em (a = l) with q | q
    · subst q
      rw [if_pos ((iLb_iff hs n a).mpr hl)]
      refine ⟨(fE hs n g a).2, Nat.lt_succ_self _, ?_⟩
      show uI _ _ _ _ = _
      exact uI_s _ _ _
    · obtain ⟨i, i0, i1⟩ := fE_m (hs := hs) (n := n) (g := g) l a (by omega) hl
      split
      · refine ⟨i, Nat.lt_succ_of_lt i0, ?_⟩
        show uI _ _ _ (i : Int) = _
        rw [uI_n _ _ (by omega)]
        exact i1
      · exact ⟨i, i0, i1⟩
/-- under each lead there is a least one -/
theorem lst_b {hs : Int → Int} (h01 : ∀ k, hs k = 0 ∨ hs k = 1) : ∀ (n k : Nat), k < n → k < 15 → hs k ≠ 0 → ∃ a : Nat, a < 15 ∧ iL hs 15 a ∧ mX (a : Int) ≤ mX (k : Int) ∧ mY (a : Int) ≤ mY (k : Int)
  | 0, k, h, _, _ => absurd h (Nat.not_lt_zero _)
  | n + 1, k, h, h15, hk => by
    rcases Classical.em (iL hs 15 k) with g | g
    · exact ⟨k, h15, g, Int.le_refl _, Int.le_refl _⟩
    · have hk1 : hs k = 1 := by rcases h01 k with q | q; exact absurd q hk; exact q
      have : ∃ d : Int, 0 ≤ d ∧ d < ((15 : Nat) : Int) ∧ d ≠ k ∧ hs d = 1 ∧ mX d ≤ mX (k : Int) ∧ mY d ≤ mY (k : Int) := by
        rcases Classical.em (∃ d : Int, 0 ≤ d ∧ d < ((15 : Nat) : Int) ∧ d ≠ k ∧ hs d = 1 ∧ mX d ≤ mX (k : Int) ∧ mY d ≤ mY (k : Int)) with q | q
        · exact q
        · exact absurd ⟨hk1, fun d d0 d1 d2 d3 d4 => q ⟨d, d0, d1, d2, d3, d4.1, d4.2⟩⟩ g
      obtain ⟨d, d0, d1, d2, d3, d4, d5⟩ := this
      obtain ⟨e, rfl⟩ : ∃ e : Nat, d = e := ⟨d.toNat, by omega⟩
      have he := dvb_o ⟨e, by omega⟩ ⟨k, h15⟩ ((dvb_e e k).mpr ⟨d4, d5⟩)
      have he' : e ≤ k := he
      obtain ⟨a, a0, a1, a2, a3⟩ := lst_b h01 n e (by omega) (by omega) (by rw [d3]; decide)
      exact ⟨a, a0, a1, Int.le_trans a2 d4, Int.le_trans a3 d5⟩
theorem fG_c (e : Int → Int) (N : Nat) (g : Int → Int) : ∀ n, (fG e N g n).2 = cnt (gFb e N) n
  | 0 => rfl
  | n + 1 => by
    have h := fG_c e N g n
    unfold fG cnt
    cases q : gFb e N n
    · rw [if_neg (by decide), h]
      rfl
    · rw [if_pos rfl]
      show (fG e N g n).2 + 1 = cnt (gFb e N) n + 1
      rw [h]
theorem fG_k (e : Int → Int) (N : Nat) (g : Int → Int) : ∀ n (i : Nat), i < (fG e N g n).2 → ∃ k : Nat, k < n ∧ (fG e N g n).1 i = k ∧ gFb e N k = true
  | 0, i, h => absurd h (by unfold fG; exact Nat.not_lt_zero _)
  | n + 1, i, h => by
    unfold fG at h ⊢
    split at h
    · rename_i hc
      rw [if_pos hc]
      have h2 : i < (fG e N g n).2 + 1 := h
      rcases Nat.lt_or_ge i (fG e N g n).2 with q | q
      · obtain ⟨k, k0, k1, k2⟩ := fG_k e N g n i q
        refine ⟨k, by omega, ?_, k2⟩
        show uI _ _ _ (i : Int) = _
        rw [uI_n _ _ (by omega)]
        exact k1
      · refine ⟨n, by omega, ?_, hc⟩
        show uI _ _ _ (i : Int) = _
        rw [show (i : Int) = ((fG e N g n).2 : Int) by omega, uI_s]
    · rename_i hc
      rw [if_neg hc]
      obtain ⟨k, k0, k1, k2⟩ := fG_k e N g n i h
      exact ⟨k, by omega, k1, k2⟩
theorem cnt_m {p q : Nat → Bool} : ∀ n, (∀ k, k < n → p k = true → q k = true) → cnt p n ≤ cnt q n
  | 0, _ => Nat.le_refl _
  | n + 1, h => by
    have h1 := cnt_m (p := p) (q := q) n (fun k hk => h k (by omega))
    unfold cnt
    cases a : p n
    · show cnt p n + 0 ≤ _
      omega
    · rw [h n (by omega) a]
      show cnt p n + 1 ≤ cnt q n + 1
      omega
theorem cnt_z {p : Nat → Bool} {m : Nat} : ∀ d, (∀ k, m ≤ k → k < m + d → p k = false) → cnt p (m + d) = cnt p m
  | 0, _ => rfl
  | d + 1, h => by
    show cnt p (m + d) + (bif p (m + d) then 1 else 0) = _
    rw [h (m + d) (by omega) (by omega), cnt_z d (fun k h0 h1 => h k h0 (by omega))]
    rfl
theorem std_h {hs0 s0 : Int → Int} {z : (Int → Int) × (Int → Int)} {sy g g' : Int → Int} {P : Nat} (f : fin hs0 s0 z) (hsys : ∀ J, lin J → (jr J hs0 s0 ↔ ∀ q : Nat, q < P → J (sv sy (6 * q)))) (h : z.1 0 ≠ 0 ∨ vB (fE z.1 15 g 15).1 (fE z.1 15 g 15).2 = true) : (fG (fE z.1 15 g 15).1 (fE z.1 15 g 15).2 g' 15).2 ≤ 4 ∧ ∀ j : Nat, j < (fG (fE z.1 15 g 15).1 (fE z.1 15 g 15).2 g' 15).2 → 0 ≤ (fG (fE z.1 15 g 15).1 (fE z.1 15 g 15).2 g' 15).1 j ∧ (fG (fE z.1 15 g 15).1 (fE z.1 15 g 15).2 g' 15).1 j < 6 := by
  obtain ⟨E, hE⟩ : ∃ E, fE z.1 15 g 15 = E := ⟨_, rfl⟩
  rw [hE] at h ⊢
  have z01 := f.2.2.2.2
  have inE : ∀ a : Nat, a < 15 → iL z.1 15 a → ∃ i : Nat, i < E.2 ∧ E.1 i = a := fun a ha hl => by rw [← hE]; exact fE_m 15 a ha hl
  have ofE : ∀ i : Nat, i < E.2 → ∃ a : Nat, a < 15 ∧ E.1 i = a ∧ iL z.1 15 a := fun i hi => by rw [← hE] at hi ⊢; exact fE_l 15 i hi
  -- a monomial over a lead is not standard
  have ns : ∀ d k : Nat, d < 15 → z.1 d ≠ 0 → dvb d k = true → gFb E.1 E.2 k = false := fun d k hd hz hk => by
    obtain ⟨a, a0, a1, a2, a3⟩ := lst_b z01 (d + 1) d (by omega) hd hz
    obtain ⟨i, i0, i1⟩ := inE a a0 a1
    cases q : gFb E.1 E.2 k
    · rfl
    · have := (gFb_iff E.1 E.2 k).mp q i i0
      rw [i1] at this
      have h2 := (dvb_e d k).mp hk
      exact absurd ⟨Int.le_trans a2 h2.1, Int.le_trans a3 h2.2⟩ this
  -- powers of y and of x
  obtain ⟨a, b, a0, b0, la, lb, ax, bY⟩ : ∃ a b : Nat, a < 15 ∧ b < 15 ∧ iL z.1 15 a ∧ iL z.1 15 b ∧ mX (a : Int) = 0 ∧ mY (b : Int) = 0 := by
    rcases h with h | h
    · obtain ⟨a, a0, a1, a2, a3⟩ := lst_b z01 1 0 (by decide) (by decide) h
      have ea : a ≤ 0 := dvb_o ⟨a, a0⟩ ⟨0, by decide⟩ ((dvb_e a 0).mpr ⟨a2, a3⟩)
      have ea0 : a = 0 := by omega
      subst ea0
      exact ⟨0, 0, a0, a0, a1, a1, by decide, by decide⟩
    · unfold vB at h
      simp only [Bool.and_eq_true, List.any_eq_true, List.mem_range, decide_eq_true_eq] at h
      obtain ⟨⟨i, i0, i1⟩, j, j0, j1⟩ := h
      obtain ⟨b, b0, b1, b2⟩ := ofE i i0
      obtain ⟨a, a0, a1, a2⟩ := ofE j j0
      rw [b1] at i1
      rw [a1] at j1
      exact ⟨a, b, a0, b0, a2, b2, j1, i1⟩
  obtain ⟨L, hL, hb, ok⟩ := lOk_h f hsys a0 b0 la lb
  have h1 := List.all_eq_true.mp (lOk_f ⟨a, a0⟩ ⟨b, b0⟩ ax bY) L (List.mem_range.mpr hL)
  have h2 : ((List.range 15).all (fun k => decide (k < 6) || dvb a k || dvb b k || (List.range 6).any (fun d => L.testBit d && dvb d k)) && decide (cnt (fun k => !(L.testBit k)) 6 ≤ 4)) = true := by
    have h1' : ((!(lOk L a b true) && !(lOk L a b false)) || ((List.range 15).all (fun k => decide (k < 6) || dvb a k || dvb b k || (List.range 6).any (fun d => L.testBit d && dvb d k)) && decide (cnt (fun k => !(L.testBit k)) 6 ≤ 4))) = true := h1
    rw [Bool.or_eq_true] at h1'
    rcases h1' with q | q
    · simp only [Bool.and_eq_true, Bool.not_eq_true'] at q
      cases q2 : decide (z.1 (6 : Nat) ≠ 0)
      · rw [q2, q.2] at ok
        cases ok
      · rw [q2, q.1] at ok
        cases ok
    · exact q
  rw [Bool.and_eq_true] at h2
  have av : z.1 a ≠ 0 := by rw [la.1]; decide
  have bv : z.1 b ≠ 0 := by rw [lb.1]; decide
  have hi : ∀ k, 6 ≤ k → k < 15 → gFb E.1 E.2 k = false := fun k k0 k1 => by
    have h3 := List.all_eq_true.mp h2.1 k (List.mem_range.mpr k1)
    simp only [Bool.or_eq_true, decide_eq_true_eq, List.any_eq_true, List.mem_range, Bool.and_eq_true] at h3
    rcases h3 with ((q | q) | q) | ⟨d, d0, d1, d2⟩
    · omega
    · exact ns a k a0 av q
    · exact ns b k b0 bv q
    · exact ns d k (by omega) ((hb d d0).mp d1) d2
  refine ⟨?_, fun j hj => ?_⟩
  · rw [fG_c, show (15 : Nat) = 6 + 9 from rfl, cnt_z 9 (fun k k0 k1 => hi k k0 (by omega))]
    refine Nat.le_trans (cnt_m (q := fun k => !(L.testBit k)) 6 (fun k hk hg => ?_)) (of_decide_eq_true h2.2)
    cases q : L.testBit k
    · rfl
    · have := ns k k (by omega) ((hb k hk).mp q) ((dvb_e k k).mpr ⟨Int.le_refl _, Int.le_refl _⟩)
      rw [this] at hg
      cases hg
  · obtain ⟨k, k0, k1, k2⟩ := fG_k E.1 E.2 g' 15 j hj
    rw [k1]
    rcases Nat.lt_or_ge k 6 with q | q
    · omega
    · rw [hi k q k0] at k2
      cases k2
