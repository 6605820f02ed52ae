/-! Sylvester by signs: the inertia of a form is told by its characteristic polynomial. -/
def fO (n : Nat) : Int → Int := fun j => if 0 ≤ j ∧ j < n then 1 else 0
theorem fO_p (n : Nat) : opn (fO n) = ltn n := funext (fun a => propext (by
  unfold opn ltn fO
  rcases Nat.lt_or_ge a n with g | g
  · rw [if_pos ⟨by omega, by omega⟩]
    exact ⟨fun _ => g, fun _ => rfl⟩
  · rw [if_neg (by omega)]
    exact ⟨fun h => (by cases h), fun h => (by omega)⟩))
theorem fO_n {n : Nat} (n4 : n ≤ 4) : cnO (fO n) = n := by
  have hn : n = 0 ∨ n = 1 ∨ n = 2 ∨ n = 3 ∨ n = 4 := by omega
  rcases hn with rfl | rfl | rfl | rfl | rfl <;> decide
theorem ex_i {n : Nat} {F : mT} (n4 : n ≤ 4) (sy : syN n F) : ∃ p q, inr (ltn n) n F p q := by
  obtain ⟨br, ba, h⟩ := mz_ex 4 (fO n) F 1 0 0
  obtain ⟨p, q, i, -⟩ := mz_i 4 (fO n) F 1 0 0 br ba (fun i _ _ => by unfold fO; split; exact Or.inr rfl; exact Or.inl rfl) (fun a b ha hb oa ob => by
    have e := fO_p n
    exact sy a b (by have : opn (fO n) a := oa; rw [e] at this; exact this) (by have : opn (fO n) b := ob; rw [e] at this; exact this)) (by rw [fO_n n4]; omega) h
  rw [fO_p, fO_n n4] at i
  exact ⟨p, q, i⟩
/-- a line taken off -/
theorem hy_i {n p q p1 q1 : Nat} {F : mT} (n4 : n ≤ 4) (n0 : 0 < n) (h : inr (ltn n) n F p q) (h1 : inr (ltn (n - 1)) (n - 1) F p1 q1) : p1 ≤ p ∧ q1 ≤ q ∧ p ≤ p1 + 1 ∧ q ≤ q1 + 1 := by
  have up : ∀ {G : mT} {k : Nat}, pos (ltn (n - 1)) G k → pos (ltn n) G k := fun {G k} h => pos_i (fun a _ ha => by unfold ltn at ha ⊢; omega) (fun x _ hx => hx) h
  obtain ⟨dk, hdk⟩ : ∃ dk : Nat → Nat → Int, dk = fun a b => if a = b ∧ a ≠ n - 1 then 1 else 0 := ⟨_, rfl⟩
  have dke : ∀ x a, a < 4 → tM dk x a = if a = n - 1 then 0 else x a := fun x a ha => by
    show dS (fun b => dk a b * x b) 4 = _
    rw [hdk]
    rcases Decidable.em (a = n - 1) with e | e
    · rw [if_pos e]
      exact dS_0 (fun b _ => by dsimp only; rw [if_neg (fun q => q.2 e)]; omega)
    · rw [if_neg e, dS_1 (q := a) ha (fun b _ hn => by dsimp only; rw [if_neg (fun q => hn q.1.symm)]; omega)]
      show (if a = a ∧ a ≠ n - 1 then 1 else 0) * x a = x a
      rw [if_pos ⟨rfl, e⟩]
      omega
  have lnl : ∀ x, lnf (ek (n - 1)) x = x (n - 1) := fun x => by
    show dS (fun a => ek (n - 1) a * x a) 4 = _
    rw [dS_1 (q := n - 1) (by omega) (fun b _ hn => by unfold ek; rw [if_neg hn]; omega)]
    unfold ek
    rw [if_pos rfl]
    omega
  have dn : ∀ {G : mT} {k : Nat}, pos (ltn n) G (k + 1) → pos (ltn (n - 1)) G k := fun {G k} h => pos_l dk (ek (n - 1)) (fun x hx a ha hn => by
    rw [dke x a ha]
    split
    · rfl
    · exact hx a ha (by unfold ltn at hn ⊢; omega)) (fun x hx hl hx0 => by
    rw [lnl] at hl
    rw [bl_e (x' := x) (y' := x) (fun a ha => by rw [dke x a ha]; split; (rename_i e; rw [e, hl]); rfl) (fun a ha => by rw [dke x a ha]; split; (rename_i e; rw [e, hl]); rfl)]
    exact hx0) h
  obtain ⟨a, b, c, d, -⟩ := h
  obtain ⟨a1, b1, c1, d1, -⟩ := h1
  refine ⟨c _ (up a1), d _ (up b1), ?_, ?_⟩
  · rcases Nat.eq_zero_or_pos p with g | g
    · omega
    · have := c1 (p - 1) (dn (by rw [show p - 1 + 1 = p by omega]; exact a))
      omega
  · rcases Nat.eq_zero_or_pos q with g | g
    · omega
    · have := d1 (q - 1) (dn (by rw [show q - 1 + 1 = q by omega]; exact b))
      omega
theorem sy_1 {n : Nat} {F : mT} (sy : syN n F) : syN (n - 1) F := fun i j hi hj => sy i j (by omega) (by omega)
/-- a kernel's vector that reaches the last line: nothing is lost with that line -/
theorem kr_i {n p q p1 q1 : Nat} {F : mT} {v : Nat → Int} (n4 : n ≤ 4) (n0 : 0 < n) (sy : syN n F) (hv : spt (ltn n) v) (v0 : v (n - 1) ≠ 0) (hk : ∀ y, spt (ltn n) y → bl F v y = 0) (h : inr (ltn n) n F p q) (h1 : inr (ltn (n - 1)) (n - 1) F p1 q1) : p = p1 ∧ q = q1 := by
  obtain ⟨c1, c2, -, -⟩ := hy_i n4 n0 h h1
  obtain ⟨M, hM⟩ : ∃ M : Nat → Nat → Int, M = fun a b => (if a = b then v (n - 1) else 0) - (if b = n - 1 then v a else 0) := ⟨_, rfl⟩
  have Me : ∀ x a, a < 4 → tM M x a = v (n - 1) * x a + -(x (n - 1)) * v a := fun x a ha => by
    show dS (fun b => M a b * x b) 4 = _
    have e1 : dS (fun b => M a b * x b) 4 = 1 * dS (fun b => (if a = b then v (n - 1) else 0) * x b) 4 + -1 * dS (fun b => (if b = n - 1 then v a else 0) * x b) 4 := by
      rw [← dS_l]
      exact dS_c (fun b _ => by rw [hM]; grind)
    rw [e1, dS_1 (q := a) ha (fun b _ hn => by rw [if_neg (fun e => hn e.symm)]; omega), if_pos rfl, dS_1 (q := n - 1) (by omega) (fun b _ hn => by rw [if_neg hn]; omega), if_pos rfl]
    grind
  have Ms : ∀ x, spt (ltn n) x → spt (ltn (n - 1)) (tM M x) := fun x hx a ha hn => by
    rw [Me x a ha]
    rcases Decidable.em (a = n - 1) with e | e
    · rw [e]; grind
    · have : ¬ ltn n a := by unfold ltn at hn ⊢; omega
      rw [hx a ha this, hv a ha this]
      omega
  have sq : ∀ x, spt (ltn n) x → bl F (tM M x) (tM M x) = v (n - 1) * v (n - 1) * bl F x x := fun x hx => by
    rw [bl_e (x' := fun a => v (n - 1) * x a + -(x (n - 1)) * v a) (y' := fun a => v (n - 1) * x a + -(x (n - 1)) * v a) (fun a ha => Me x a ha) (fun a ha => Me x a ha), bl_q (bl_y n4 sy hx hv), bl_y n4 sy hx hv, hk x hx, hk v hv]
    omega
  have vv : 0 < v (n - 1) * v (n - 1) := by
    have := sq_nn (v (n - 1))
    have := mul_n v0 v0
    omega
  obtain ⟨a, b, -, -, -⟩ := h
  obtain ⟨-, -, d1, d2, -⟩ := h1
  have u1 := d1 p (pos_T M Ms (fun x hx hx0 => by rw [sq x hx]; exact Int.mul_pos vv hx0) a)
  have u2 := d2 q (pos_T M Ms (fun x hx hx0 => by
    rw [bl_n] at hx0 ⊢
    rw [sq x hx]
    have := Int.mul_pos vv hx0
    rw [Int.mul_neg] at this
    exact this) b)
  exact ⟨by omega, by omega⟩
theorem TT_0 : TT 0 := fun F _ p q h => by
  have z : ∀ {G : mT} {k : Nat}, pos (ltn 0) G k → k = 0 := fun {G k} h => pos_z (fun x hx => by
    have : bl G x x = 0 := dS_0 (fun a ha => dS_0 (fun b hb => by rw [hx a ha (Nat.not_lt_zero _)]; omega))
    rw [this]
    decide) h
  have hp := z h.1
  have hq := z h.2.1
  subst hp
  subst hq
  refine ⟨?_, ?_, ?_⟩
  · show (chF (cf 0 (lf [1])) 0 1).2 = 0
    decide
  · show (chF (cf 0 (lf [1])) 1 1).2 = 0
    decide
  · show rk 0 (lf [1]) = 0 + 0
    decide
theorem TT_s {n : Nat} (n0 : 0 < n) (n4 : n ≤ 4) (ih : TT (n - 1)) : TT n := by
  intro F sy p q h
  obtain ⟨k1, k2, k3, k4, k5, k6⟩ := cnc_n n4 n0 sy
  obtain ⟨r0, r1, r2, r3⟩ := rk_b (n := n) (e := ePm n F)
  obtain ⟨p1, q1, h1⟩ := ex_i (show n - 1 ≤ 4 by omega) (sy_1 sy)
  obtain ⟨i1, i2, i3⟩ := ih F (sy_1 sy) p1 q1 h1
  obtain ⟨c1, c2, c3, c4⟩ := hy_i n4 n0 h h1
  rcases Classical.em (krn (ltn n) F) with K | K
  · have e0 := wkr n4 n0 sy K
    obtain ⟨v, v1, ⟨i, i4, vi⟩, v3⟩ := K
    have hi : i < n := by
      rcases Nat.lt_or_ge i n with g | g
      · exact g
      · exact absurd (v1 i i4 (by unfold ltn; omega)) vi
    -- line i goes to the end
    have sy' := pm_sy hi sy
    have h' := pm_i n4 hi h
    obtain ⟨p2, q2, h2⟩ := ex_i (show n - 1 ≤ 4 by omega) (sy_1 sy')
    have s4 : ∀ a, a < 4 → sw i (n - 1) a < 4 := fun a ha => by
      unfold sw
      split
      · omega
      · split <;> omega
    have swl : sw i (n - 1) (n - 1) = i := by
      unfold sw
      split
      · omega
      · rw [if_pos rfl]
    have v' : spt (ltn n) (fun a => v (sw i (n - 1) a)) := fun a ha hn => v1 _ (s4 a ha) (fun g => hn ((sw_n hi).mp g))
    obtain ⟨ep, eq⟩ := kr_i (v := fun a => v (sw i (n - 1) a)) n4 n0 sy' v' (by rw [swl]; exact vi) (fun y hy => by
      rw [pm_b (by omega) (by omega)]
      have := v3 (fun a => y (sw i (n - 1) a)) (fun a ha hn => hy _ (s4 a ha) (fun g => hn ((sw_n hi).mp g)))
      rw [← this]
      exact bl_e (fun a _ => by rw [sw_i]) (fun _ _ => rfl)) h' h2
    obtain ⟨j1, j2, -⟩ := ih _ (sy_1 sy') p2 q2 h2
    obtain ⟨m1, m2, -⟩ := cnc_n n4 n0 sy'
    rw [pm_ee n4 hi, j1] at m1
    rw [pm_ee n4 hi, j2] at m2
    -- no minor is left beyond the rank
    have up := r3 (p + q) (by
      rcases h.2.2.2.2 with g | g
      · omega
      · rcases Nat.lt_or_ge n (p + q) with g2 | g2
        · have hb := (rk_b (n := n - 1) (e := ePm (n - 1) (pmF F i (n - 1)))).2.1
          have := (ih _ (sy_1 sy') p2 q2 h2).2.2
          omega
        · exact g2) (fun k hk1 hk2 => by
      rcases Decidable.em (k = n) with g | g
      · rw [g]; exact e0
      · have d := pm_d (F := F) n4 (show k < n by omega)
        rw [dS_0 (fun j hj => ?_)] at d
        · rcases Int.mul_eq_zero.mp d.symm with g2 | g2
          · omega
          · exact g2
        · have syj := pm_sy hj sy
          obtain ⟨pj, qj, hj2⟩ := ex_i (show n - 1 ≤ 4 by omega) (sy_1 syj)
          obtain ⟨a1, a2, -, -⟩ := hy_i n4 n0 (pm_i n4 hj h) hj2
          have b1 := (ih _ (sy_1 syj) pj qj hj2).2.2
          exact (rk_b (n := n - 1)).2.2.1 k (by omega) (by omega))
    omega
  · have pq : p + q = n := by
      rcases h.2.2.2.2 with g | g
      · exact g
      · exact absurd g K
    rcases Decidable.em (ePm (n - 1) F (n - 1) = 0) with s0 | s0
    · have n2 : 2 ≤ n := by
        rcases Nat.lt_or_ge n 2 with g | g
        · have : n = 1 := by omega
          subst this
          exact absurd s0 (by show (1 : Int) ≠ 0; decide)
        · exact g
      have rs := (rk_b (n := n - 1) (e := ePm (n - 1) F)).2.2.2 (n - 2) (by omega) (fun k hk1 hk2 => by rw [show k = n - 1 by omega]; exact s0)
      have s1 : ePm (n - 1) F (n - 2) ≠ 0 := fun z => by
        rcases Nat.lt_or_ge n 3 with g | g
        · have : n = 2 := by omega
          subst this
          exact absurd z (by show (1 : Int) ≠ 0; decide)
        · have := (rk_b (n := n - 1) (e := ePm (n - 1) F)).2.2.2 (n - 3) (by omega) (fun k hk1 hk2 => by
            rcases Decidable.em (k = n - 1) with g2 | g2
            · rw [g2]; exact s0
            · rw [show k = n - 2 by omega]; exact z)
          omega
      have kA : krn (ltn (n - 1)) F := by
        rcases h1.2.2.2.2 with g | g
        · omega
        · exact g
      have en := wn0 n4 n2 sy kA K s0 s1
      obtain ⟨a1, a2⟩ := k4 en s0
      omega
    · obtain ⟨w, w1, w2, w3⟩ := wsw n4 n0 sy
      have rs : rk (n - 1) (ePm (n - 1) F) = ((n - 1 : Nat) : Int) := by
        obtain ⟨-, b1, b2, -⟩ := rk_b (n := n - 1) (e := ePm (n - 1) F)
        rcases Int.lt_or_le (rk (n - 1) (ePm (n - 1) F)) ((n - 1 : Nat) : Int) with g | g
        · exact absurd (b2 (n - 1) (Nat.le_refl _) g) s0
        · omega
      have en : ePm n F n ≠ 0 := fun z => K ⟨w, w1, ⟨n - 1, by omega, by rw [w3]; exact s0⟩, fun y hy => by rw [w2 y hy, z]; omega⟩
      have ww := w2 w w1
      rw [w3] at ww
      have ox : ∀ x, spt (ltn (n - 1)) x → bl F x w = 0 ∧ bl F w x = 0 := fun x hx => by
        have hx' : spt (ltn n) x := fun a ha hn => hx a ha (by unfold ltn at hn ⊢; omega)
        have := w2 x hx'
        rw [hx (n - 1) (by omega) (by unfold ltn; omega), Int.mul_zero] at this
        exact ⟨by rw [bl_y n4 sy hx' w1]; exact this, this⟩
      have idn : ∀ x, bl F (tM idM x) (tM idM x) = bl F x x := fun x => bl_e (fun a ha => tM_I x ha) (fun a ha => tM_I x ha)
      have ids : ∀ x, spt (ltn (n - 1)) x → spt (ltn n) (tM idM x) := fun x hx a ha hn => by
        rw [tM_I x ha]
        exact hx a ha (by unfold ltn at hn ⊢; omega)
      have ido : ∀ x, spt (ltn (n - 1)) x → bl F (tM idM x) w = 0 ∧ bl F w (tM idM x) = 0 := fun x hx => by
        have := ox x hx
        exact ⟨by rw [← this.1]; exact bl_e (fun a ha => tM_I x ha) (fun _ _ => rfl), by rw [← this.2]; exact bl_e (fun _ _ => rfl) (fun a ha => tM_I x ha)⟩
      rcases Int.lt_trichotomy (ePm n F n * ePm (n - 1) F (n - 1)) 0 with g | g | g
      · have b := h.2.2.2.1 (q1 + 1) (pos_a idM w1 (by rw [bl_n, ww]; omega) ids (fun x hx hx0 => by rw [bl_n] at hx0 ⊢; rw [idn]; exact hx0) (fun x hx => by rw [bl_n, bl_n, (ido x hx).1, (ido x hx).2]; decide) h1.2.1)
        have := k6 g
        omega
      · rcases Int.mul_eq_zero.mp g with g2 | g2
        · exact absurd g2 en
        · exact absurd g2 s0
      · have a := h.2.2.1 (p1 + 1) (pos_a idM w1 (by rw [ww]; omega) ids (fun x hx hx0 => by rw [idn]; exact hx0) ido h1.1)
        have := k5 g
        omega
theorem TT_n : ∀ n, n ≤ 4 → TT n
  | 0, _ => TT_0
  | n + 1, h => TT_s (Nat.succ_pos n) h (TT_n n (by omega))
