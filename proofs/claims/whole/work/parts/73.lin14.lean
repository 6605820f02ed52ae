/-! One polynomial: its multiples. -/
def pv (v : lV) (a b : Int) : Int := if 0 ≤ a ∧ 0 ≤ b ∧ a + b ≤ 4 then v (mN a b).toNat else 0
def cvl (f : lV) (g : Int → Int → Int) (a b : Int) : Int := f 0 * g a b + f 1 * g a (b - 1) + f 2 * g (a - 1) b + f 3 * g a (b - 2) + f 4 * g (a - 1) (b - 1) + f 5 * g (a - 2) b
def mul1 (f v : lV) : Prop := ∃ (T N : Int) (g : Int → Int → Int), T ≠ 0 ∧ (∀ a b, (a < 0 ∨ b < 0 ∨ N < a + b) → g a b = 0) ∧ ∀ a b, T * pv v a b = cvl f g a b
theorem pv_l (u v : lV) (x y a b : Int) : pv (fun k => x * u k + y * v k) a b = x * pv u a b + y * pv v a b := by
  unfold pv
  split
  · rfl
  · omega
theorem mul1_lin (f : lV) : lin (mul1 f) := by
  refine ⟨?_, ?_, ?_⟩
  · rintro u v x y ⟨T, N, g, hT, hg, e⟩ ⟨T', N', g', hT', hg', e'⟩
    refine ⟨T * T', max N N', fun a b => T' * x * g a b + T * y * g' a b, ?_, fun a b h => ?_, fun a b => ?_⟩
    · intro h
      rcases Int.mul_eq_zero.mp h with q | q
      · exact hT q
      · exact hT' q
    · show T' * x * g a b + T * y * g' a b = 0
      rw [hg a b (by omega), hg' a b (by omega)]
      omega
    · rw [pv_l]
      have e1 := e a b
      have e2 := e' a b
      unfold cvl at e1 e2 ⊢
      grind
  · rintro v x hx ⟨T, N, g, hT, hg, e⟩
    refine ⟨T * x, N, g, ?_, hg, fun a b => ?_⟩
    · intro h
      rcases Int.mul_eq_zero.mp h with q | q
      · exact hT q
      · exact hx q
    · have e1 := e a b
      have e2 := pv_l v v x 0 a b
      have e3 : pv (fun k => x * v k) a b = x * pv v a b := by
        unfold pv
        split
        · rfl
        · omega
      rw [e3] at e1
      rw [Int.mul_assoc]
      exact e1
  · refine ⟨1, 0, fun _ _ => 0, by decide, fun _ _ _ => rfl, fun a b => ?_⟩
    have z : pv (fun _ => 0) a b = 0 := by
      unfold pv
      split <;> rfl
    rw [z]
    show 1 * 0 = f 0 * 0 + f 1 * 0 + f 2 * 0 + f 3 * 0 + f 4 * 0 + f 5 * 0
    omega
theorem sh_p : ∀ w : Fin 2, ∀ a : Fin 5, ∀ b : Fin 5, a.val + b.val ≤ 4 → (w.val = 0 → 1 ≤ a.val → shP 0 (mN a.val b.val).toNat = (mN ((a.val : Int) - 1) b.val).toNat ∧ (mN ((a.val : Int) - 1) b.val).toNat < 10) ∧ (w.val = 0 → a.val = 0 → shP 0 (mN a.val b.val).toNat = 15) ∧ (w.val = 1 → 1 ≤ b.val → shP 1 (mN a.val b.val).toNat = (mN a.val ((b.val : Int) - 1)).toNat ∧ (mN a.val ((b.val : Int) - 1)).toNat < 10) ∧ (w.val = 1 → b.val = 0 → shP 1 (mN a.val b.val).toNat = 15) := by decide +kernel
theorem mN_t : ∀ a : Fin 5, ∀ b : Fin 5, (a.val + b.val ≤ 4 → (mN a.val b.val).toNat < 15) ∧ (a.val + b.val = 4 → 10 ≤ (mN a.val b.val).toNat) ∧ (3 ≤ a.val + b.val → a.val + b.val ≤ 4 → 6 ≤ (mN a.val b.val).toNat) := by decide +kernel
/-- places by powers -/
theorem pw5 {a b : Int} (h : 0 ≤ a ∧ 0 ≤ b ∧ a + b ≤ 4) : ∃ (x y : Fin 5), a = (x.val : Int) ∧ b = (y.val : Int) ∧ x.val + y.val ≤ 4 := ⟨⟨a.toNat, by omega⟩, ⟨b.toNat, by omega⟩, by show a = ((a.toNat : Nat) : Int); omega, by show b = ((b.toNat : Nat) : Int); omega, by show a.toNat + b.toNat ≤ 4; omega⟩
theorem pv_x {v : lV} {w : Int} (hw : w = 0 ∨ w = 1) (hz : ∀ j, 10 ≤ j → v j = 0) (a b : Int) : pv (xs w v) a b = if w = 0 then pv v (a - 1) b else pv v a (b - 1) := by
  have top : ∀ c d : Int, 0 ≤ c → 0 ≤ d → c + d = 4 → v (mN c d).toNat = 0 := fun c d c0 d0 cd => by
    obtain ⟨x, y, rfl, rfl, xy⟩ := pw5 (a := c) (b := d) (by omega)
    exact hz _ ((mN_t x y).2.1 (by omega))
  rcases Decidable.em (0 ≤ a ∧ 0 ≤ b ∧ a + b ≤ 4) with g | g
  · obtain ⟨x, y, rfl, rfl, xy⟩ := pw5 g
    have h15 := (mN_t x y).1 xy
    have hx : pv (xs w v) (x.val : Int) (y.val : Int) = xs w v (mN x.val y.val).toNat := by unfold pv; rw [if_pos (by omega)]
    rw [hx]
    unfold xs
    rcases hw with rfl | rfl
    · rw [if_pos rfl]
      rcases Nat.eq_zero_or_pos x.val with q | q
      · rw [(sh_p 0 x y xy).2.1 rfl q, if_neg (by omega)]
        unfold pv
        rw [if_neg (by omega)]
      · obtain ⟨h1, h2⟩ := (sh_p 0 x y xy).1 rfl q
        rw [h1, if_pos ⟨h15, h2⟩]
        unfold pv
        rw [if_pos (by omega)]
    · have e10 : (if (1 : Int) = 0 then pv v ((x.val : Int) - 1) y.val else pv v x.val ((y.val : Int) - 1)) = pv v x.val ((y.val : Int) - 1) := if_neg (by decide)
      rw [e10]
      rcases Nat.eq_zero_or_pos y.val with q | q
      · rw [(sh_p 1 x y xy).2.2.2 rfl q, if_neg (by omega)]
        unfold pv
        rw [if_neg (by omega)]
      · obtain ⟨h1, h2⟩ := (sh_p 1 x y xy).2.2.1 rfl q
        rw [h1, if_pos ⟨h15, h2⟩]
        unfold pv
        rw [if_pos (by omega)]
  · have h0 : pv (xs w v) a b = 0 := by unfold pv; rw [if_neg g]
    rw [h0]
    have z : ∀ c d : Int, 4 ≤ c + d ∨ c < 0 ∨ d < 0 → pv v c d = 0 := fun c d h => by
      unfold pv
      split
      · exact top c d (by omega) (by omega) (by omega)
      · rfl
    split
    · exact (z _ _ (by omega)).symm
    · exact (z _ _ (by omega)).symm
theorem mul1_clo (f : lV) : clo (mul1 f) := by
  refine ⟨mul1_lin f, ?_⟩
  rintro v w hw hz ⟨T, N, g, hT, hg, e⟩
  rcases hw with rfl | rfl
  · refine ⟨T, N + 1, fun a b => g (a - 1) b, hT, fun a b h => hg _ _ (by omega), fun a b => ?_⟩
    rw [pv_x (Or.inl rfl) hz, if_pos rfl, e]
    unfold cvl
    show _ = f 0 * g (a - 1) b + f 1 * g (a - 1) (b - 1) + f 2 * g (a - 1 - 1) b + f 3 * g (a - 1) (b - 2) + f 4 * g (a - 1 - 1) (b - 1) + f 5 * g (a - 2 - 1) b
    rw [show a - 2 - 1 = a - 1 - 2 by omega]
  · refine ⟨T, N + 1, fun a b => g a (b - 1), hT, fun a b h => hg _ _ (by omega), fun a b => ?_⟩
    rw [pv_x (Or.inr rfl) hz, if_neg (by decide), e]
    unfold cvl
    show _ = f 0 * g a (b - 1) + f 1 * g a (b - 1 - 1) + f 2 * g (a - 1) (b - 1) + f 3 * g a (b - 2 - 1) + f 4 * g (a - 1) (b - 1 - 1) + f 5 * g (a - 2) (b - 1)
    rw [show b - 2 - 1 = b - 1 - 2 by omega]
theorem mul1_s {f : lV} (h : ∀ j, 6 ≤ j → f j = 0) : mul1 f f := by
  refine ⟨1, 0, fun a b => if a = 0 ∧ b = 0 then 1 else 0, by decide, fun a b h => ?_, fun a b => ?_⟩
  · show (if a = 0 ∧ b = 0 then (1 : Int) else 0) = 0
    rw [if_neg (by omega)]
  · unfold cvl
    rcases Decidable.em (0 ≤ a ∧ 0 ≤ b ∧ a + b ≤ 2) with g | g
    · have hh : (a = 0 ∧ b = 0) ∨ (a = 0 ∧ b = 1) ∨ (a = 1 ∧ b = 0) ∨ (a = 0 ∧ b = 2) ∨ (a = 1 ∧ b = 1) ∨ (a = 2 ∧ b = 0) := by omega
      rcases hh with ⟨rfl, rfl⟩ | ⟨rfl, rfl⟩ | ⟨rfl, rfl⟩ | ⟨rfl, rfl⟩ | ⟨rfl, rfl⟩ | ⟨rfl, rfl⟩
      · rw [show pv f 0 0 = f 0 by unfold pv; rw [if_pos (by decide)]; rfl]
        simp
      · rw [show pv f 0 1 = f 1 by unfold pv; rw [if_pos (by decide)]; rfl]
        simp
      · rw [show pv f 1 0 = f 2 by unfold pv; rw [if_pos (by decide)]; rfl]
        simp
      · rw [show pv f 0 2 = f 3 by unfold pv; rw [if_pos (by decide)]; rfl]
        simp
      · rw [show pv f 1 1 = f 4 by unfold pv; rw [if_pos (by decide)]; rfl]
        simp
      · rw [show pv f 2 0 = f 5 by unfold pv; rw [if_pos (by decide)]; rfl]
        simp
    · have z : pv f a b = 0 := by
        unfold pv
        split
        · rename_i q
          obtain ⟨x, y, rfl, rfl, xy⟩ := pw5 q
          exact h _ ((mN_t x y).2.2 (by omega) xy)
        · rfl
      rw [z]
      dsimp only
      rw [if_neg (show ¬ (a = 0 ∧ b = 0) by omega), if_neg (show ¬ (a = 0 ∧ b - 1 = 0) by omega), if_neg (show ¬ (a - 1 = 0 ∧ b = 0) by omega), if_neg (show ¬ (a = 0 ∧ b - 2 = 0) by omega), if_neg (show ¬ (a - 1 = 0 ∧ b - 1 = 0) by omega), if_neg (show ¬ (a - 2 = 0 ∧ b = 0) by omega)]
      omega
theorem ex_max (P : Int → Prop) : ∀ (n : Nat) (N : Int), (∀ x, N < x → ¬ P x) → (∃ x, P x ∧ N - n ≤ x) → ∃ m, P m ∧ ∀ x, m < x → ¬ P x
  | 0, N, h, ⟨x, hx, hn⟩ => ⟨x, hx, fun y hy => h y (by omega)⟩
  | n + 1, N, h, ⟨x, hx, hn⟩ => by
    rcases Classical.em (P N) with g | g
    · exact ⟨N, g, h⟩
    · exact ex_max P n (N - 1) (fun y hy => by
        rcases Decidable.em (y = N) with q | q
        · rw [q]; exact g
        · exact h y (by omega)) ⟨x, hx, by omega⟩
def qM (l : Nat) : Nat := match l with | 0 => 32767 | 1 => 15834 | 2 => 31668 | 3 => 7368 | 4 => 14736 | _ => 29472
theorem qM_h : ∀ l : Fin 6, ∀ t : Fin 15, mX (l.val : Nat) ≤ mX (t.val : Nat) → mY (l.val : Nat) ≤ mY (t.val : Nat) → (qM l.val).testBit t.val = true := by decide +kernel
theorem mX_15 : ∀ t : Fin 15, 0 ≤ mX (t.val : Nat) ∧ 0 ≤ mY (t.val : Nat) ∧ mX (t.val : Nat) + mY (t.val : Nat) ≤ 4 ∧ mN (mX (t.val : Nat)) (mY (t.val : Nat)) = (t.val : Nat) := by decide +kernel
/-- order of places by degree and power of x -/
theorem ord15 : ∀ s t : Fin 15, mX (s.val : Nat) + mY (s.val : Nat) < mX (t.val : Nat) + mY (t.val : Nat) ∨ (mX (s.val : Nat) + mY (s.val : Nat) = mX (t.val : Nat) + mY (t.val : Nat) ∧ mX (s.val : Nat) < mX (t.val : Nat)) → s.val < t.val := by decide +kernel
theorem cvl_0 {f : lV} {g : Int → Int → Int} {a b : Int} (h0 : f 0 * g a b = 0) (h1 : f 1 * g a (b - 1) = 0) (h2 : f 2 * g (a - 1) b = 0) (h3 : f 3 * g a (b - 2) = 0) (h4 : f 4 * g (a - 1) (b - 1) = 0) (h5 : f 5 * g (a - 2) b = 0) : cvl f g a b = 0 := by
  unfold cvl
  rw [h0, h1, h2, h3, h4, h5]
  rfl
theorem mul1_Q {f : lV} {l0 : Nat} (hl : l0 < 6) (hf : f l0 ≠ 0) (hz : ∀ j, l0 < j → f j = 0) : jQ (mul1 f) (qM l0) := by
  rintro v t ⟨T, N, g, hT, hg, e⟩ ht hvt hab
  obtain ⟨m0, m1, m2, m3⟩ := mX_15 ⟨t, ht⟩
  obtain ⟨a, ha⟩ : ∃ a, mX (t : Int) = a := ⟨_, rfl⟩
  obtain ⟨b, hb⟩ : ∃ b, mY (t : Int) = b := ⟨_, rfl⟩
  have m0' : 0 ≤ a := by rw [← ha]; exact m0
  have m1' : 0 ≤ b := by rw [← hb]; exact m1
  have m2' : a + b ≤ 4 := by rw [← ha, ← hb]; exact m2
  have m3' : mN a b = t := by rw [← ha, ← hb]; exact m3
  have pt : pv v a b = v t := by
    unfold pv
    rw [if_pos ⟨m0', m1', m2'⟩, m3']
    rfl
  have et : cvl f g a b ≠ 0 := by
    rw [← e, pt]
    intro h
    rcases Int.mul_eq_zero.mp h with q | q
    · exact hT q
    · exact hvt q
  have mulz : ∀ x y : Int, y = 0 → x * y = 0 := fun x y h => by rw [h, Int.mul_zero]
  have fz : ∀ j (y : Int), l0 < j → f j * y = 0 := fun j y h => by rw [hz j h, Int.zero_mul]
  have gex : ∃ a b, g a b ≠ 0 := by
    rcases Classical.em (∃ a b, g a b ≠ 0) with h | h
    · exact h
    · have g0 : ∀ a b, g a b = 0 := fun a b => by
        rcases Decidable.em (g a b = 0) with q | q
        · exact q
        · exact absurd ⟨a, b, q⟩ h
      exact absurd (cvl_0 (mulz _ _ (g0 _ _)) (mulz _ _ (g0 _ _)) (mulz _ _ (g0 _ _)) (mulz _ _ (g0 _ _)) (mulz _ _ (g0 _ _)) (mulz _ _ (g0 _ _))) et
  have gp : ∀ x y, g x y ≠ 0 → 0 ≤ x ∧ 0 ≤ y ∧ x + y ≤ N := fun x y h => by
    have : ¬ (x < 0 ∨ y < 0 ∨ N < x + y) := fun q => h (hg x y q)
    omega
  obtain ⟨D, ⟨x0, y0, xy, hxy⟩, hD⟩ := ex_max (fun d => ∃ x y, x + y = d ∧ g x y ≠ 0) N.toNat N (fun d hd ⟨x, y, h1, h2⟩ => by have := gp x y h2; omega) (by
    obtain ⟨x, y, h⟩ := gex
    have := gp x y h
    exact ⟨x + y, ⟨x, y, rfl, h⟩, by omega⟩)
  have px := gp x0 y0 hxy
  obtain ⟨A, hA, hA2⟩ := ex_max (fun x => g x (D - x) ≠ 0) D.toNat D (fun x hx h => by have := gp _ _ h; omega) ⟨x0, by rw [show D - x0 = y0 by omega]; exact hxy, by omega⟩
  obtain ⟨B, hB⟩ : ∃ B, D - A = B := ⟨_, rfl⟩
  rw [hB] at hA
  have pA := gp A B hA
  have hZ : ∀ x y, (D < x + y ∨ (x + y = D ∧ A < x)) → g x y = 0 := fun x y h => by
    rcases Decidable.em (g x y = 0) with q | q
    · exact q
    · rcases h with h | ⟨h1, h2⟩
      · exact absurd ⟨x, y, rfl, q⟩ (hD (x + y) h)
      · exact absurd (show g x (D - x) ≠ 0 by rw [show D - x = y by omega]; exact q) (hA2 x h2)
  -- the top of the product
  have fin : ∀ i j : Int, mX (l0 : Int) = i → mY (l0 : Int) = j → cvl f g (A + i) (B + j) = f l0 * g A B → (((A + i) + (B + j) < a + b ∨ ((A + i) + (B + j) = a + b ∧ A + i < a)) → cvl f g a b = 0) → 0 ≤ i → 0 ≤ j → (qM l0).testBit t = true := by
    intro i j hi hj h1 h2 i0 j0
    have h3 : pv v (A + i) (B + j) ≠ 0 := by
      intro h
      have h4 := e (A + i) (B + j)
      rw [h, Int.mul_zero, h1] at h4
      rcases Int.mul_eq_zero.mp h4.symm with q | q
      · exact hf q
      · exact hA q
    have h5 : 0 ≤ A + i ∧ 0 ≤ B + j ∧ (A + i) + (B + j) ≤ 4 := by
      rcases Decidable.em (0 ≤ A + i ∧ 0 ≤ B + j ∧ (A + i) + (B + j) ≤ 4) with q | q
      · exact q
      · exact absurd (by unfold pv; rw [if_neg q]) h3
    have h6 := mN_X (a := A + i) (b := B + j) (by omega)
    have h7 := mN_15 h5
    obtain ⟨q, hq⟩ : ∃ q : Nat, mN (A + i) (B + j) = q := ⟨(mN (A + i) (B + j)).toNat, by omega⟩
    rw [hq] at h6 h7
    have h8 : v q ≠ 0 := by
      unfold pv at h3
      rw [if_pos h5, hq] at h3
      exact h3
    have h9 : q ≤ t := by
      rcases Nat.lt_or_ge t q with g1 | g1
      · exact absurd (hab q g1 (by omega)) h8
      · exact g1
    have h10 : ¬ (a + b < (A + i) + (B + j) ∨ (a + b = (A + i) + (B + j) ∧ a < A + i)) := fun g1 => by
      have := ord15 ⟨t, ht⟩ ⟨q, by omega⟩ (by
        show mX (t : Int) + mY (t : Int) < mX (q : Int) + mY (q : Int) ∨ (mX (t : Int) + mY (t : Int) = mX (q : Int) + mY (q : Int) ∧ mX (t : Int) < mX (q : Int))
        rw [ha, hb, h6.2.2.2.1, h6.2.2.2.2]
        exact g1)
      have : t < q := this
      omega
    have h11 : ¬ ((A + i) + (B + j) < a + b ∨ ((A + i) + (B + j) = a + b ∧ A + i < a)) := fun g1 => et (h2 g1)
    refine qM_h ⟨l0, hl⟩ ⟨t, ht⟩ ?_ ?_
    · show mX (l0 : Int) ≤ mX (t : Int)
      rw [hi, ha]
      omega
    · show mY (l0 : Int) ≤ mY (t : Int)
      rw [hj, hb]
      omega
  have hl' : l0 = 0 ∨ l0 = 1 ∨ l0 = 2 ∨ l0 = 3 ∨ l0 = 4 ∨ l0 = 5 := by omega
  rcases hl' with rfl | rfl | rfl | rfl | rfl | rfl
  · refine fin 0 0 (by decide) (by decide) ?_ (fun q => ?_) (by decide) (by decide)
    · unfold cvl
      rw [fz 1 (g (A + 0) (B + 0 - 1)) (by decide), fz 2 (g (A + 0 - 1) (B + 0)) (by decide), fz 3 (g (A + 0) (B + 0 - 2)) (by decide), fz 4 (g (A + 0 - 1) (B + 0 - 1)) (by decide), fz 5 (g (A + 0 - 2) (B + 0)) (by decide), show A + 0 = A by omega, show B + 0 = B by omega]
      omega
    · exact cvl_0 (mulz _ _ (hZ _ _ (by omega))) (fz 1 _ (by decide)) (fz 2 _ (by decide)) (fz 3 _ (by decide)) (fz 4 _ (by decide)) (fz 5 _ (by decide))
  · refine fin 0 1 (by decide) (by decide) ?_ (fun q => ?_) (by decide) (by decide)
    · unfold cvl
      rw [mulz (f 0) (g (A + 0) (B + 1)) (hZ _ _ (by omega)), fz 2 (g (A + 0 - 1) (B + 1)) (by decide), fz 3 (g (A + 0) (B + 1 - 2)) (by decide), fz 4 (g (A + 0 - 1) (B + 1 - 1)) (by decide), fz 5 (g (A + 0 - 2) (B + 1)) (by decide), show A + 0 = A by omega, show B + 1 - 1 = B by omega]
      omega
    · exact cvl_0 (mulz _ _ (hZ _ _ (by omega))) (mulz _ _ (hZ _ _ (by omega))) (fz 2 _ (by decide)) (fz 3 _ (by decide)) (fz 4 _ (by decide)) (fz 5 _ (by decide))
  · refine fin 1 0 (by decide) (by decide) ?_ (fun q => ?_) (by decide) (by decide)
    · unfold cvl
      rw [mulz (f 0) (g (A + 1) (B + 0)) (hZ _ _ (by omega)), mulz (f 1) (g (A + 1) (B + 0 - 1)) (hZ _ _ (by omega)), fz 3 (g (A + 1) (B + 0 - 2)) (by decide), fz 4 (g (A + 1 - 1) (B + 0 - 1)) (by decide), fz 5 (g (A + 1 - 2) (B + 0)) (by decide), show A + 1 - 1 = A by omega, show B + 0 = B by omega]
      omega
    · exact cvl_0 (mulz _ _ (hZ _ _ (by omega))) (mulz _ _ (hZ _ _ (by omega))) (mulz _ _ (hZ _ _ (by omega))) (fz 3 _ (by decide)) (fz 4 _ (by decide)) (fz 5 _ (by decide))
  · refine fin 0 2 (by decide) (by decide) ?_ (fun q => ?_) (by decide) (by decide)
    · unfold cvl
      rw [mulz (f 0) (g (A + 0) (B + 2)) (hZ _ _ (by omega)), mulz (f 1) (g (A + 0) (B + 2 - 1)) (hZ _ _ (by omega)), mulz (f 2) (g (A + 0 - 1) (B + 2)) (hZ _ _ (by omega)), fz 4 (g (A + 0 - 1) (B + 2 - 1)) (by decide), fz 5 (g (A + 0 - 2) (B + 2)) (by decide), show A + 0 = A by omega, show B + 2 - 2 = B by omega]
      omega
    · exact cvl_0 (mulz _ _ (hZ _ _ (by omega))) (mulz _ _ (hZ _ _ (by omega))) (mulz _ _ (hZ _ _ (by omega))) (mulz _ _ (hZ _ _ (by omega))) (fz 4 _ (by decide)) (fz 5 _ (by decide))
  · refine fin 1 1 (by decide) (by decide) ?_ (fun q => ?_) (by decide) (by decide)
    · unfold cvl
      rw [mulz (f 0) (g (A + 1) (B + 1)) (hZ _ _ (by omega)), mulz (f 1) (g (A + 1) (B + 1 - 1)) (hZ _ _ (by omega)), mulz (f 2) (g (A + 1 - 1) (B + 1)) (hZ _ _ (by omega)), mulz (f 3) (g (A + 1) (B + 1 - 2)) (hZ _ _ (by omega)), fz 5 (g (A + 1 - 2) (B + 1)) (by decide), show A + 1 - 1 = A by omega, show B + 1 - 1 = B by omega]
      omega
    · exact cvl_0 (mulz _ _ (hZ _ _ (by omega))) (mulz _ _ (hZ _ _ (by omega))) (mulz _ _ (hZ _ _ (by omega))) (mulz _ _ (hZ _ _ (by omega))) (mulz _ _ (hZ _ _ (by omega))) (fz 5 _ (by decide))
  · refine fin 2 0 (by decide) (by decide) ?_ (fun q => ?_) (by decide) (by decide)
    · unfold cvl
      rw [mulz (f 0) (g (A + 2) (B + 0)) (hZ _ _ (by omega)), mulz (f 1) (g (A + 2) (B + 0 - 1)) (hZ _ _ (by omega)), mulz (f 2) (g (A + 2 - 1) (B + 0)) (hZ _ _ (by omega)), mulz (f 3) (g (A + 2) (B + 0 - 2)) (hZ _ _ (by omega)), mulz (f 4) (g (A + 2 - 1) (B + 0 - 1)) (hZ _ _ (by omega)), show A + 2 - 2 = A by omega, show B + 0 = B by omega]
      omega
    · exact cvl_0 (mulz _ _ (hZ _ _ (by omega))) (mulz _ _ (hZ _ _ (by omega))) (mulz _ _ (hZ _ _ (by omega))) (mulz _ _ (hZ _ _ (by omega))) (mulz _ _ (hZ _ _ (by omega))) (mulz _ _ (hZ _ _ (by omega)))
