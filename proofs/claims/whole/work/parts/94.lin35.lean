/-! Shifts up to degree 5: their places, their sums of sizes. -/
def bs (w : Int) (v : lV) : lV := fun j => if j < 15 then xs w v j else if w = 0 then (if 15 < j ∧ j < 21 then v (j - 6) else 0) else (if j < 20 then v (j - 5) else 0)
theorem bs_l (w a b : Int) (u v : lV) (j : Nat) : bs w (fun k => a * u k + b * v k) j = a * bs w u j + b * bs w v j := by
  unfold bs
  split
  · exact xs_l w a b u v j
  · split
    · split
      · rfl
      · omega
    · split
      · rfl
      · omega
theorem bs_c (w a : Int) (u : lV) (j : Nat) : bs w (fun k => a * u k) j = a * bs w u j := by
  have := bs_l w a 0 u u j
  have e : (fun k => a * u k + 0 * u k) = fun k => a * u k := funext (fun k => by omega)
  rw [e] at this
  omega
theorem bs_x {w : Int} {v : lV} (h : ∀ j, 10 ≤ j → v j = 0) (j : Nat) : bs w v j = xs w v j := by
  unfold bs
  split
  · rfl
  · have e : xs w v j = 0 := by unfold xs; rw [if_neg (by omega)]
    rw [e]
    split
    · split
      · exact h _ (by omega)
      · rfl
    · split
      · exact h _ (by omega)
      · rfl
/-- shifts of a system's polynomials -/
def gs (S : lV → Prop) : Nat → lV → Prop
  | 0 => S
  | d + 1 => fun u => gs S d u ∨ ∃ (w : Int) (t : lV), (w = 0 ∨ w = 1) ∧ gs S d t ∧ u = bs w t
theorem gs_b {S : lV → Prop} {d : Nat} {w : Int} (hw : w = 0 ∨ w = 1) {v : lV} (h : spo (gs S d) v) : spo (gs S (d + 1)) (bs w v) := fun J hJ hg => by
  refine h (fun t => J (bs w t)) ⟨fun u v a b hu hv => ?_, fun v T hT hv => ?_, ?_⟩ (fun t ht => hg _ (Or.inr ⟨w, t, hw, ht, rfl⟩))
  · show J (bs w fun k => a * u k + b * v k)
    rw [show (bs w fun k => a * u k + b * v k) = fun k => a * bs w u k + b * bs w v k from funext (bs_l w a b u v)]
    exact hJ.1 _ _ a b hu hv
  · refine hJ.2.1 _ T hT ?_
    rw [show (fun k => T * bs w v k) = bs w fun k => T * v k from funext (fun k => (bs_c w T v k).symm)]
    exact hv
  · show J (bs w fun _ => 0)
    refine lin_0 hJ (fun k => ?_)
    rw [bs_x (fun _ _ => rfl)]
    exact xs_0 w (fun _ => rfl) k
theorem gs_m {S : lV → Prop} {d : Nat} {v : lV} (h : spo (gs S d) v) : spo (gs S (d + 1)) v := fun J hJ hg => h J hJ (fun t ht => hg t (Or.inl ht))
theorem gs_vV {S U : lV → Prop} {d : Nat} (hd : ∀ u, U u → dg2 u) (h : ∀ u, U u → spo (gs S d) u) {v : lV} (hv : vV U v) : spo (gs S (d + 1)) v :=
  vV_J (spo_lin _) (fun u hu => gs_m (h u hu)) (fun u w hw hu => by
    rw [show xs w u = bs w u from funext (fun j => (bs_x (fun k hk => hd u hu k (by omega)) j).symm)]
    exact gs_b hw (h u hu)) hv
theorem gs_C {S : lV → Prop} (hS : ∀ u, S u → dg2 u) : ∀ (i : Nat) (v : lV), Cn S i v → spo (gs S i) v
  | 0, _, h => h
  | i + 1, _, h => gs_vV (Cn_d hS i) (gs_C hS i) h.2
theorem gs_up {S : lV → Prop} {d : Nat} {v : lV} (h : spo (gs S d) v) : ∀ m, spo (gs S (d + m)) v
  | 0 => h
  | m + 1 => gs_m (gs_up h m)
def cD : Nat → Nat
  | 0 => 6
  | d + 1 => cD d + (d + 4)
theorem shP_5 : ∀ w : Fin 2, ∀ j : Fin 15, shP (w.val : Nat) j.val < 15 → j.val ≤ shP (w.val : Nat) j.val + 5 := by decide +kernel
theorem bs_d {w : Int} (hw : w = 0 ∨ w = 1) {v : lV} : ∀ d : Nat, d < 3 → (∀ j, cD d ≤ j → v j = 0) → ∀ j, cD (d + 1) ≤ j → bs w v j = 0
  | 0, _, h, j, hj => by
    have hj' : 10 ≤ j := hj
    rw [bs_x (fun k hk => h k (by show 6 ≤ k; omega))]
    exact xs_hi hw h hj'
  | 1, _, h, j, hj => by
    have hj' : 15 ≤ j := hj
    rw [bs_x h]
    unfold xs
    rw [if_neg (by omega)]
  | 2, _, h, j, hj => by
    have hj' : 21 ≤ j := hj
    unfold bs
    rw [if_neg (by omega), if_neg (show ¬ (15 < j ∧ j < 21) by omega), if_neg (show ¬ j < 20 by omega)]
    split <;> rfl
  | _ + 3, hd, _, _, _ => by omega
theorem gs_d {S : lV → Prop} (hS : ∀ u, S u → dg2 u) : ∀ (d : Nat), d ≤ 3 → ∀ u, gs S d u → ∀ j, cD d ≤ j → u j = 0
  | 0, _, u, h, j, hj => hS u h j hj
  | d + 1, hd, u, h, j, hj => by
    have hj' : cD d + (d + 4) ≤ j := hj
    rcases h with h | ⟨w, t, hw, ht, e⟩
    · exact gs_d hS d (by omega) u h j (by omega)
    · rw [e]
      exact bs_d hw d (by omega) (gs_d hS d (by omega) t ht) j hj
theorem shP_0' : shP 0 10 = 15 ∧ shP 0 11 = 6 ∧ shP 0 12 = 7 ∧ shP 0 13 = 8 ∧ shP 0 14 = 9 := by decide +kernel
theorem shP_1' : shP 1 10 = 6 ∧ shP 1 11 = 7 ∧ shP 1 12 = 8 ∧ shP 1 13 = 9 ∧ shP 1 14 = 15 := by decide +kernel
theorem xs0_w (v : lV) : xs 0 v 10 = 0 ∧ xs 0 v 11 = v 6 ∧ xs 0 v 12 = v 7 ∧ xs 0 v 13 = v 8 ∧ xs 0 v 14 = v 9 := by
  obtain ⟨a0, a1, a2, a3, a4⟩ := shP_0'
  exact ⟨xs_15 a0, xs_at a1 (by decide) (by decide), xs_at a2 (by decide) (by decide), xs_at a3 (by decide) (by decide), xs_at a4 (by decide) (by decide)⟩
theorem xs1_w (v : lV) : xs 1 v 10 = v 6 ∧ xs 1 v 11 = v 7 ∧ xs 1 v 12 = v 8 ∧ xs 1 v 13 = v 9 ∧ xs 1 v 14 = 0 := by
  obtain ⟨a0, a1, a2, a3, a4⟩ := shP_1'
  exact ⟨xs_at a0 (by decide) (by decide), xs_at a1 (by decide) (by decide), xs_at a2 (by decide) (by decide), xs_at a3 (by decide) (by decide), xs_15 a4⟩
def n21 (v : lV) : Int := zAbs (v 0) + zAbs (v 1) + zAbs (v 2) + zAbs (v 3) + zAbs (v 4) + zAbs (v 5) + zAbs (v 6) + zAbs (v 7) + zAbs (v 8) + zAbs (v 9) + zAbs (v 10) + zAbs (v 11) + zAbs (v 12) + zAbs (v 13) + zAbs (v 14) + zAbs (v 15) + zAbs (v 16) + zAbs (v 17) + zAbs (v 18) + zAbs (v 19) + zAbs (v 20)
theorem n21_e (v : lV) : nS v 21 = n21 v := by
  show 0 + zAbs (v 0) + zAbs (v 1) + zAbs (v 2) + zAbs (v 3) + zAbs (v 4) + zAbs (v 5) + zAbs (v 6) + zAbs (v 7) + zAbs (v 8) + zAbs (v 9) + zAbs (v 10) + zAbs (v 11) + zAbs (v 12) + zAbs (v 13) + zAbs (v 14) + zAbs (v 15) + zAbs (v 16) + zAbs (v 17) + zAbs (v 18) + zAbs (v 19) + zAbs (v 20) = _
  unfold n21
  omega
theorem bs_n {w : Int} (hw : w = 0 ∨ w = 1) (v : lV) : nS (bs w v) 21 ≤ nS v 21 := by
  rw [n21_e, n21_e]
  have z0 : zAbs 0 = 0 := rfl
  have p : ∀ j, 0 ≤ zAbs (v j) := fun j => zAbs_p (v j)
  have lo : ∀ (w : Int) (j : Nat), j < 15 → bs w v j = xs w v j := fun w j hj => if_pos hj
  have p15 := p 15
  have p16 := p 16
  have p17 := p 17
  have p18 := p 18
  have p19 := p 19
  have p20 := p 20
  unfold n21
  rw [lo w 0 (by decide), lo w 1 (by decide), lo w 2 (by decide), lo w 3 (by decide), lo w 4 (by decide), lo w 5 (by decide), lo w 6 (by decide), lo w 7 (by decide), lo w 8 (by decide), lo w 9 (by decide), lo w 10 (by decide), lo w 11 (by decide), lo w 12 (by decide), lo w 13 (by decide), lo w 14 (by decide)]
  rcases hw with rfl | rfl
  · obtain ⟨x0, x1, x2, x3, x4, x5, x6, x7, x8, x9⟩ := xs0_v v
    obtain ⟨a0, a1, a2, a3, a4⟩ := xs0_w v
    rw [x0, x1, x2, x3, x4, x5, x6, x7, x8, x9, a0, a1, a2, a3, a4]
    show zAbs 0 + zAbs 0 + zAbs (v 0) + zAbs 0 + zAbs (v 1) + zAbs (v 2) + zAbs 0 + zAbs (v 3) + zAbs (v 4) + zAbs (v 5) + zAbs 0 + zAbs (v 6) + zAbs (v 7) + zAbs (v 8) + zAbs (v 9) + zAbs 0 + zAbs (v 10) + zAbs (v 11) + zAbs (v 12) + zAbs (v 13) + zAbs (v 14) ≤ _
    rw [z0]
    omega
  · obtain ⟨x0, x1, x2, x3, x4, x5, x6, x7, x8, x9⟩ := xs1_v v
    obtain ⟨a0, a1, a2, a3, a4⟩ := xs1_w v
    rw [x0, x1, x2, x3, x4, x5, x6, x7, x8, x9, a0, a1, a2, a3, a4]
    show zAbs 0 + zAbs (v 0) + zAbs 0 + zAbs (v 1) + zAbs (v 2) + zAbs 0 + zAbs (v 3) + zAbs (v 4) + zAbs (v 5) + zAbs 0 + zAbs (v 6) + zAbs (v 7) + zAbs (v 8) + zAbs (v 9) + zAbs 0 + zAbs (v 10) + zAbs (v 11) + zAbs (v 12) + zAbs (v 13) + zAbs (v 14) + zAbs 0 ≤ _
    rw [z0]
    omega
theorem gs_n {S : lV → Prop} {B : Int} (hS : ∀ u, S u → nS u 21 ≤ B) : ∀ (d : Nat) (u : lV), gs S d u → nS u 21 ≤ B
  | 0, u, h => hS u h
  | d + 1, u, h => by
    rcases h with h | ⟨w, t, hw, ht, e⟩
    · exact gs_n hS d u h
    · rw [e]
      exact Int.le_trans (bs_n hw t) (gs_n hS d t ht)
theorem nS_up (v : lV) (n : Nat) : ∀ m, nS v n ≤ nS v (n + m)
  | 0 => Int.le_refl _
  | m + 1 => by
    have h1 := nS_up v n m
    have h2 := zAbs_p (v (n + m))
    show _ ≤ nS v (n + m) + zAbs (v (n + m))
    omega
