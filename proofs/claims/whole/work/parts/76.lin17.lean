/-! The span is closed; one lead under all others. -/
theorem xs_top {v : lV} {w : Int} {k : Nat} (hw : w = 0 ∨ w = 1) (hk : k < 10) (hz : ∀ j, k < j → j < 15 → v j = 0) : sh w k < 15 ∧ xs w v (sh w k) = v k ∧ ∀ j, sh w k < j → xs w v j = 0 := by
  obtain ⟨-, h15⟩ := sh_i (k := k) hw hk
  have at_ : ∀ j, j < 15 → ∀ i, i < 10 → (shP w j = i ↔ j = sh w i) := fun j hj i hi => shP_e hw hj hi
  refine ⟨h15, ?_, fun j j0 => ?_⟩
  · unfold xs
    rw [(at_ _ h15 k hk).mpr rfl, if_pos ⟨h15, hk⟩]
  · unfold xs
    rcases Nat.lt_or_ge j 15 with j1 | j1
    · rcases Nat.lt_or_ge (shP w j) 10 with g | g
      · rw [if_pos ⟨j1, g⟩]
        refine hz _ ?_ (by omega)
        have h1 := (at_ j j1 (shP w j) g).mp rfl
        rcases Nat.lt_or_ge k (shP w j) with q | q
        · exact q
        · have := sh_mo (i := shP w j) hw hk q
          omega
      · rw [if_neg (by omega)]
    · rw [if_neg (by omega)]
theorem xs_S {w : Int} {c : Nat → Int} {r : Nat → lV} (n j : Nat) : xs w (fun k => dS (fun l => c l * r l k) n) j = dS (fun l => c l * xs w (r l) j) n := by
  rcases Decidable.em (j < 15 ∧ shP w j < 10) with g | g
  · have xe : ∀ v : lV, xs w v j = v (shP w j) := fun v => if_pos g
    rw [xe]
    exact dS_c (fun l _ => by rw [xe])
  · have xe : ∀ v : lV, xs w v j = 0 := fun v => if_neg g
    rw [xe]
    exact (dS_0 (fun l _ => by rw [xe, Int.mul_zero])).symm
section
variable {hs0 s0 : Int → Int} {z : (Int → Int) × (Int → Int)}
theorem wsp_c (f : fin hs0 s0 z) : clo (wsp z.1 z.2) := by
  refine ⟨wsp_lin _ _, fun v w hw hz hv => ?_⟩
  have e : ech z.1 z.2 := by
    obtain ⟨⟨M, b, r, -⟩, -⟩ := f
    exact r.2.2.1
  obtain ⟨T, c, hT, c0, eq⟩ := hv
  have c10 : ∀ l, l < 15 → 10 ≤ l → c l = 0 := fun l hl h10 => by
    rcases Decidable.em (z.1 l = 0) with g | g
    · exact c0 l hl g
    · have e2 := eq l hl
      rw [hz l h10, Int.mul_zero, dS_1 (q := l) hl (fun m hm hn => ?_)] at e2
      · rcases Int.mul_eq_zero.mp e2.symm with q | q
        · exact q
        · have := (e l hl g).1
          omega
      · show c m * rv z.2 m l = 0
        rcases Decidable.em (z.1 m = 0) with g2 | g2
        · rw [c0 m hm g2, Int.zero_mul]
        · rw [(e m hm g2).2.2.1 l hl (fun g3 => hn g3.symm) g, Int.mul_zero]
  have hS : wsp z.1 z.2 (fun j => dS (fun l => c l * xs w (rv z.2 l) j) 15) := lin_S (wsp_lin _ _) (r := fun l => xs w (rv z.2 l)) (fun l hl hc => by
    rcases Nat.lt_or_ge l 10 with g | g
    · exact fin_x f hw g (fun q => hc (c0 l hl q))
    · exact absurd (c10 l hl g) hc)
  refine lin_d (wsp_lin _ _) hT hS (wsp_lin z.1 z.2).2.2 (a := 1) (b := 0) (fun k => ?_)
  rw [← xs_S]
  unfold xs
  split
  · rename_i g
    rw [eq _ (by omega)]
    dsimp only
    omega
  · omega
theorem chn_t : ∀ l : Fin 6, ∀ n : Fin 6, mX (l.val : Nat) ≤ mX (n.val : Nat) → mY (l.val : Nat) ≤ mY (n.val : Nat) → n.val = l.val ∨ n.val = sh 0 l.val ∨ n.val = sh 1 l.val ∨ (l.val = 0 ∧ (n.val = sh 0 (sh 0 0) ∨ n.val = sh 0 (sh 1 0) ∨ n.val = sh 1 (sh 1 0))) := by decide +kernel
theorem sh_00 : sh 0 0 = 2 ∧ sh 1 0 = 1 := by decide +kernel
/-- a multiple of f with its top at n -/
theorem mul_at {J : lV → Prop} (hc : clo J) {f : lV} {l0 : Nat} (hl : l0 < 6) (hf : f l0 ≠ 0) (hz : ∀ j, l0 < j → f j = 0) (hj : J f) {n : Nat} (hn : n < 6) (h1 : mX (l0 : Int) ≤ mX (n : Int)) (h2 : mY (l0 : Int) ≤ mY (n : Int)) : ∃ u, (∀ J, clo J → J f → J u) ∧ u n ≠ 0 ∧ ∀ j, n < j → u j = 0 := by
  have one : ∀ w : Int, (w = 0 ∨ w = 1) → ∃ u, (∀ J, clo J → J f → J u) ∧ u (sh w l0) ≠ 0 ∧ ∀ j, sh w l0 < j → u j = 0 := fun w hw => by
    obtain ⟨a, b, c⟩ := xs_top (v := f) hw (show l0 < 10 by omega) (fun j j0 _ => hz j j0)
    exact ⟨xs w f, fun J hJ h => hJ.2 f w hw (fun j hj => hz j (by omega)) h, by rw [b]; exact hf, c⟩
  have two : ∀ w w' : Int, (w = 0 ∨ w = 1) → (w' = 0 ∨ w' = 1) → l0 = 0 → ∃ u, (∀ J, clo J → J f → J u) ∧ u (sh w (sh w' 0)) ≠ 0 ∧ ∀ j, sh w (sh w' 0) < j → u j = 0 := fun w w' hw hw' h0 => by
    subst h0
    obtain ⟨a, b, c⟩ := xs_top (v := f) hw' (show 0 < 10 by decide) (fun j j0 _ => hz j j0)
    have s2 : sh w' 0 < 10 := by
      rcases hw' with rfl | rfl
      · rw [sh_00.1]; decide
      · rw [sh_00.2]; decide
    obtain ⟨a2, b2, c2⟩ := xs_top (v := xs w' f) hw s2 (fun j j0 _ => c j j0)
    exact ⟨xs w (xs w' f), fun J hJ h => hJ.2 _ w hw (fun j hj => c j (by omega)) (hJ.2 f w' hw' (fun j hj => hz j (by omega)) h), by rw [b2, b]; exact hf, c2⟩
  rcases chn_t ⟨l0, hl⟩ ⟨n, hn⟩ h1 h2 with g | g | g | ⟨g0, g | g | g⟩
  · have e : n = l0 := g
    rw [e]
    exact ⟨f, fun J _ h => h, hf, hz⟩
  · have e : n = sh 0 l0 := g
    rw [e]
    exact one 0 (Or.inl rfl)
  · have e : n = sh 1 l0 := g
    rw [e]
    exact one 1 (Or.inr rfl)
  · have e : n = sh 0 (sh 0 0) := g
    rw [e]
    exact two 0 0 (Or.inl rfl) (Or.inl rfl) g0
  · have e : n = sh 0 (sh 1 0) := g
    rw [e]
    exact two 0 1 (Or.inl rfl) (Or.inr rfl) g0
  · have e : n = sh 1 (sh 1 0) := g
    rw [e]
    exact two 1 1 (Or.inr rfl) (Or.inr rfl) g0
/-- one lead below 6 under all others below 6: all rows are multiples of its row -/
theorem one_h {sy : Int → Int} {P : Nat} (f : fin hs0 s0 z) (hsys : ∀ J, lin J → (jr J hs0 s0 ↔ ∀ q : Nat, q < P → J (sv sy (6 * q)))) {l0 : Nat} (hl : l0 < 6) (h : z.1 l0 ≠ 0) (hm : ∀ t : Nat, t < 6 → z.1 t ≠ 0 → mX (l0 : Int) ≤ mX (t : Int) ∧ mY (l0 : Int) ≤ mY (t : Int)) : ∀ t : Nat, t < 15 → z.1 t ≠ 0 → (qM l0).testBit t = true := by
  have e : ech z.1 z.2 := by
    obtain ⟨⟨M, b, r, -⟩, -⟩ := f
    exact r.2.2.1
  obtain ⟨r0, r1, -, -⟩ := e l0 (by omega) h
  obtain ⟨g, hg⟩ : ∃ g, rv z.2 l0 = g := ⟨_, rfl⟩
  rw [hg] at r0 r1
  have gz : ∀ j, l0 < j → g j = 0 := fun j hj => by
    rcases Nat.lt_or_ge j 15 with q | q
    · exact r1 j hj q
    · rw [← hg]; exact rv_o z.2 l0 q
  have gc := mul1_clo g
  have gw : wsp z.1 z.2 g := by rw [← hg]; exact wsp_r l0 (by omega) h
  have low : ∀ n, n ≤ 6 → ∀ v, wsp z.1 z.2 v → (∀ j, n ≤ j → v j = 0) → mul1 g v := by
    intro n
    induction n with
    | zero =>
      intro _ v _ hz
      have : v = fun _ => 0 := funext (fun j => hz j (Nat.zero_le j))
      rw [this]
      exact gc.1.2.2
    | succ n ih =>
      intro hn v hv hz
      rcases Decidable.em (v n = 0) with q | q
      · exact ih (by omega) v hv (fun j hj => by
          rcases Decidable.em (j = n) with q2 | q2
          · rw [q2]; exact q
          · exact hz j (by omega))
      · have hn' := wsp_t e hv (by omega) q (fun j j0 _ => hz j (by omega))
        obtain ⟨m1, m2⟩ := hm n (by omega) hn'
        obtain ⟨u, u1, u2, u3⟩ := mul_at (wsp_c f) hl (by omega) gz gw (show n < 6 by omega) m1 m2
        have hu1 := u1 _ (wsp_c f) gw
        have hu2 := u1 _ gc (mul1_s (fun j hj => gz j (by omega)))
        have hd := (wsp_lin z.1 z.2).1 v u (u n) (-v n) hv hu1
        have hi := ih (by omega) _ hd (fun j hj => by
          show u n * v j + -v n * u j = 0
          rcases Decidable.em (j = n) with q2 | q2
          · rw [q2]
            grind
          · rw [hz j (by omega), u3 j (by omega)]
            omega)
        refine lin_d gc.1 (T := u n) (a := 1) (b := v n) u2 hi hu2 (fun k => ?_)
        grind
  have hj : jr (mul1 g) hs0 s0 := by
    refine (hsys _ gc.1).mpr (fun q hq => ?_)
    have hw := (hsys _ (wsp_lin z.1 z.2)).mp (f.2.2.1 _ (wsp_lin _ _) wsp_r) q hq
    exact low 6 (Nat.le_refl 6) _ hw (fun j hj => by unfold sv; rw [if_neg (by omega)])
  exact fun t ht h2 => fin_Q f gc (mul1_Q hl (by omega) gz) hj ht h2
end
