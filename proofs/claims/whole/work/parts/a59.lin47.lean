/-! The class's rows: how large they grow while they are laid down. -/
theorem el_2 {v u : Nat → Int} {p a b : Nat} (hp : p < 10) (u0 : 0 < u p) (hv : ∀ i, i < 10 → zAbs (v i) ≤ 2 ^ a) (hu : ∀ i, i < 10 → zAbs (u i) ≤ 2 ^ b) (i : Nat) (hi : i < 10) : zAbs (el v u p i) ≤ 2 ^ (a + (b + 1)) := by
  have gp := gcd_p (y := v p) u0
  have q1 := zAbs_dv (u p) (m := (Int.gcd (u p) (v p) : Int)) (by omega)
  have q2 := zAbs_dv (v p) (m := (Int.gcd (u p) (v p) : Int)) (by omega)
  have h1 := hu p hp
  have h2 := hv p hp
  have a1 := two_le (x := v i) (y := u p / (Int.gcd (u p) (v p) : Int)) (hv i hi) (show zAbs _ ≤ 2 ^ b by omega)
  have a2 := two_le (x := v p / (Int.gcd (u p) (v p) : Int)) (y := u i) (show zAbs _ ≤ 2 ^ a by omega) (hu i hi)
  rw [Int.mul_comm] at a2
  unfold el
  have t := zAbs_tri (v i * (u p / (Int.gcd (u p) (v p) : Int))) (-(u i * (v p / (Int.gcd (u p) (v p) : Int))))
  rw [zAbs_ng] at t
  have e : (2 : Int) ^ (a + (b + 1)) = 2 ^ (a + b) * 2 := by rw [← Nat.add_assoc, Int.pow_succ]
  rw [show v i * (u p / (Int.gcd (u p) (v p) : Int)) - u i * (v p / (Int.gcd (u p) (v p) : Int)) = v i * (u p / (Int.gcd (u p) (v p) : Int)) + -(u i * (v p / (Int.gcd (u p) (v p) : Int))) by omega]
  omega
/-- the room of one step, by bits -/
theorem elB_2 {v u : Nat → Int} {p a b : Nat} (hp : p < 10) (u0 : 0 < u p) (hv : ∀ i, i < 10 → zAbs (v i) ≤ 2 ^ a) (hu : ∀ i, i < 10 → zAbs (u i) ≤ 2 ^ b) (h : a + b + 1 ≤ 990) : elB v u p :=
  ⟨⟨a / 31 + 1, b / 31 + 1, by omega, fun i hi => ⟨Int.lt_of_le_of_lt (hv i hi) (cB_2 a), Int.lt_of_le_of_lt (hu i hi) (cB_2 b)⟩⟩, fun i hi => Int.lt_of_le_of_lt (el_2 hp u0 hv hu i hi) (by rw [cB_b]; exact two_m (by omega))⟩
theorem sm_2 (v : Nat → Int) {i : Nat} (hi : i < 10) : zAbs (sm v i) ≤ zAbs (v i) := by
  rcases Decidable.em (v i = 0) with g | g
  · rw [sm_0 g, g]; exact Int.le_refl _
  · exact zAbs_dv (v i) (by have := (sm_n hi g).2.2.2; omega)
theorem rdF_s {R : Nat → Nat → Int} {L : Int → Int} {v : Nat → Int} {t : Int} (n : Nat) : ∀ m, (∀ j, n ≤ j → j < n + m → v j = 0) → rdF R L (n + m) v t = rdF R L n v t ∧ (rdB R L (n + m) v ↔ rdB R L n v)
  | 0, _ => ⟨rfl, Iff.rfl⟩
  | m + 1, h => by
    obtain ⟨a, b⟩ := rdF_s (R := R) (L := L) (v := v) (t := t) n m (fun j h1 h2 => h j h1 (by omega))
    have z := h (n + m) (by omega) (by omega)
    constructor
    · have q : rdF R L (n + m + 1) v t = rdF R L (n + m) v t := if_pos z
      exact q.trans a
    · have q : rdB R L (n + m + 1) v = rdB R L (n + m) v := if_pos z
      show rdB R L (n + m + 1) v ↔ _
      rw [q]
      exact b
theorem dS_bz {f : Nat → Int} {B : Int} : ∀ {n : Nat}, (∀ l, l < n → zAbs (f l) ≤ B) → zAbs (dS f n) ≤ n * B
  | 0, _ => by show zAbs 0 ≤ ((0 : Nat) : Int) * B; rw [show ((0 : Nat) : Int) = 0 from rfl, Int.zero_mul]; decide
  | n + 1, h => by
    have h1 := dS_bz (n := n) (fun l hl => h l (by omega))
    have h2 := h n (by omega)
    have h3 := zAbs_tri (dS f n) (f n)
    show zAbs (dS f n + f n) ≤ ((n + 1 : Nat) : Int) * B
    rw [show ((n + 1 : Nat) : Int) = (n : Int) + 1 by omega, Int.add_mul]
    omega
/-- a row on its way through fully reduced ones -/
def rdI (hs s : Int → Int) (N : Nat) (v0 : Nat → Int) (n : Nat) (v : Nat → Int) : Prop := (∃ (x α : Int) (c : Nat → Int), x ≠ 0 ∧ α ≠ 0 ∧ (∀ l : Nat, ¬ (n ≤ l ∧ l < N ∧ hs l ≠ 0) → c l = 0) ∧ ∀ j, j < 10 → x * v j = α * v0 j - dS (fun l => c l * rv s l j) 15) ∧ (∀ l : Nat, n ≤ l → l < N → hs l ≠ 0 → v l = 0) ∧ ((∀ j, j < 10 → v j = v0 j) ∨ pm v)
theorem rdI_b {hs s : Int → Int} {b : List Nat} {N n w : Nat} {v0 v : Nat → Int} (ec : ech hs s) (r : crB b hs s) (hN : N ≤ 10) (h : rdI hs s N v0 n v) (hv : ∀ j, j < 10 → zAbs (v0 j) ≤ 2 ^ w) : ∀ j, j < 10 → zAbs (v j) ≤ 2 ^ (w + (gt b 9 + 4)) := by
  obtain ⟨⟨x, α, c, hx, hα, c0, e⟩, hz, hp⟩ := h
  intro j hj
  rcases hp with g | g
  · rw [g j hj]
    exact Int.le_trans (hv j hj) (p2_m (by omega))
  obtain ⟨G, Lc, ct, nb⟩ := r.2 9 (by decide)
  obtain ⟨D, hD⟩ : ∃ D, dt G Lc = D := ⟨_, rfl⟩
  have D0 : D ≠ 0 := by rw [← hD]; exact ct.1
  have Db : zAbs D ≤ 2 ^ gt b 9 := by
    rw [← hD]
    exact nb Lc ct.2.1 (fun j hj => (ct.2.2.1 j hj).1)
  have row : ∀ l : Nat, l < N → hs l ≠ 0 → ∀ j, j < 15 → ∃ P, rv s l j * D = rv s l l * P ∧ zAbs P ≤ 2 ^ gt b 9 := fun l hl h2 j hj => by
    obtain ⟨P, p1, p2⟩ := ((rw_B nb ec ct (l := l) (by omega) (by omega) h2).2 j hj).2
    rw [hD] at p1
    exact ⟨P, p1, p2⟩
  -- the sum times D is α times a number of known size
  have cl : ∀ l : Nat, n ≤ l → l < N → hs l ≠ 0 → c l * rv s l l = α * v0 l := fun l h1 h2 h3 => by
    have := e l (by omega)
    rw [hz l h1 h2 h3, dS_1 (q := l) (by omega) (fun q hq hn => ?_)] at this
    · omega
    · show c q * rv s q l = 0
      rcases Decidable.em (n ≤ q ∧ q < N ∧ hs q ≠ 0) with g2 | g2
      · rw [(ec q hq g2.2.2).2.2.1 l (by omega) (fun h => hn h.symm) h3, Int.mul_zero]
      · rw [c0 q g2, Int.zero_mul]
  have term : ∀ j, j < 15 → ∀ l, l < 15 → ∃ y, c l * rv s l j * D = α * y ∧ zAbs y ≤ 2 ^ (w + gt b 9) := fun j hj l hl => by
    rcases Decidable.em (n ≤ l ∧ l < N ∧ hs l ≠ 0) with g2 | g2
    · obtain ⟨P, p1, p2⟩ := row l g2.2.1 g2.2.2 j hj
      refine ⟨v0 l * P, ?_, two_le (hv l (by omega)) p2⟩
      rw [Int.mul_assoc, p1, ← Int.mul_assoc, cl l g2.1 g2.2.1 g2.2.2]
      grind
    · refine ⟨0, ?_, ?_⟩
      · rw [c0 l g2]; omega
      · have := p2_pos (w + gt b 9)
        rw [show zAbs 0 = 0 from rfl]
        omega
  have sum : ∀ j, j < 15 → ∀ m, m ≤ 15 → ∃ y, dS (fun l => c l * rv s l j) m * D = α * y ∧ zAbs y ≤ m * 2 ^ (w + gt b 9) := fun j hj m => by
    induction m with
    | zero =>
      intro _
      refine ⟨0, ?_, ?_⟩
      · show 0 * D = α * 0
        omega
      · rw [show ((0 : Nat) : Int) = 0 from rfl, Int.zero_mul]; decide
    | succ m ih =>
      intro hm
      obtain ⟨y, y1, y2⟩ := ih (by omega)
      obtain ⟨z, z1, z2⟩ := term j hj m (by omega)
      refine ⟨y + z, ?_, ?_⟩
      · show (dS (fun l => c l * rv s l j) m + c m * rv s m j) * D = _
        rw [Int.add_mul, y1, z1]
        grind
      · have := zAbs_tri y z
        rw [show ((m + 1 : Nat) : Int) = (m : Int) + 1 by omega, Int.add_mul]
        omega
  have all : ∀ j, j < 10 → ∃ u, D * x * v j = α * u ∧ zAbs u ≤ 16 * 2 ^ (w + gt b 9) := fun j hj => by
    obtain ⟨y, y1, y2⟩ := sum j (by omega) 15 (Nat.le_refl _)
    refine ⟨D * v0 j - y, ?_, ?_⟩
    · have := e j hj
      have h2 : D * x * v j = D * (x * v j) := by grind
      rw [h2, this]
      grind
    · have t := zAbs_tri (D * v0 j) (-y)
      rw [zAbs_ng] at t
      have := two_le Db (hv j hj)
      rw [Nat.add_comm] at this
      rw [show D * v0 j - y = D * v0 j + -y by omega]
      have h15 : ((15 : Nat) : Int) = 15 := rfl
      rw [h15] at y2
      omega
  have dv : α ∣ D * x := prim_d (v := v) (n := 10) hα g (fun k hk => by
    obtain ⟨u, u1, -⟩ := all k hk
    exact ⟨u, by rw [← u1]; grind⟩)
  obtain ⟨y, hy⟩ := dv
  have y0 : y ≠ 0 := fun q => by
    rw [q, Int.mul_zero] at hy
    exact mul_n D0 hx hy
  obtain ⟨u, u1, u2⟩ := all j hj
  rw [hy, Int.mul_assoc] at u1
  have u3 := Int.eq_of_mul_eq_mul_left hα u1
  have h1 : 1 ≤ zAbs y := by unfold zAbs; split <;> omega
  have h2 := Int.mul_le_mul_of_nonneg_right h1 (zAbs_0 (v j))
  rw [← zAbs_x, u3] at h2
  have h3 : (2 : Int) ^ (w + (gt b 9 + 4)) = 16 * 2 ^ (w + gt b 9) := by rw [← Nat.add_assoc, Int.pow_add, Int.mul_comm]; rfl
  omega
theorem rdI_h {hs s : Int → Int} {b : List Nat} {R : Nat → Nat → Int} {L : Int → Int} {N w : Nat} {v0 : Nat → Int} (ec : ech hs s) (r : crB b hs s) (hN : N ≤ 10) (hL : ∀ l : Nat, l < 10 → (L l ≠ 0 ↔ hs l ≠ 0)) (hR : ∀ l : Nat, l < N → L l ≠ 0 → ∀ j, j < 10 → R l j = rv s l j) (hv : ∀ j, j < 10 → zAbs (v0 j) ≤ 2 ^ w) (hw : w + (gt b 9 + 4) + gt b 9 + 1 ≤ 990) : ∀ (n : Nat) (v : Nat → Int) (t : Int), n ≤ N → rdI hs s N v0 n v → rdB R L n v ∧ (rdI hs s N v0 0 (rdF R L n v t).1 ∨ ∀ j, j < 10 → (rdF R L n v t).1 j = 0)
  | 0, v, t, _, h => ⟨trivial, Or.inl h⟩
  | n + 1, v, t, hn, h => by
    have low : (v n = 0 ∨ L n = 0) → rdI hs s N v0 n v := fun q => by
      obtain ⟨⟨x, α, c, hx, hα, c0, e⟩, hz, hp⟩ := h
      refine ⟨⟨x, α, c, hx, hα, fun l hl => c0 l (fun g => hl ⟨by omega, g.2.1, g.2.2⟩), e⟩, fun l h1 h2 h3 => ?_, hp⟩
      rcases Decidable.em (l = n) with q2 | q2
      · subst q2
        rcases q with q | q
        · exact q
        · exact absurd q ((hL l (by omega)).mpr h3)
      · exact hz l (by omega) h2 h3
    unfold rdB rdF
    split
    · rename_i g
      exact rdI_h ec r hN hL hR hv hw n v t (by omega) (low (Or.inl g))
    · split
      · rename_i g
        exact rdI_h ec r hN hL hR hv hw n v _ (by omega) (low (Or.inr g))
      · rename_i g l
        have hb := rdI_b ec r hN h hv
        have hh := (hL n (by omega)).mp l
        obtain ⟨p0, pz, pl, -⟩ := ec n (by omega) hh
        have rn := hR n (by omega) l
        have bR : ∀ i, i < 10 → zAbs (R n i) ≤ 2 ^ gt b 9 := fun i hi => by
          rw [rn i hi]
          exact crB_r ec r (l := n) (p := 9) (by decide) (by omega) hh (by omega)
        have Rp : 0 < R n n := by rw [rn n (by omega)]; exact p0
        have room : elB v (R n) n := elB_2 (by omega) Rp hb bR hw
        rcases top_6 (el v (R n) n) 10 with ⟨k, k0, k1, -⟩ | z
        · have smn := sm_n k0 k1
          have nx : rdI hs s N v0 n (sm (el v (R n) n)) := by
            obtain ⟨⟨x, α, c, hx, hα, c0, e⟩, hz, hp⟩ := h
            obtain ⟨C, hC⟩ : ∃ C, R n n / (Int.gcd (R n n) (v n) : Int) = C := ⟨_, rfl⟩
            obtain ⟨D, hD⟩ : ∃ D, v n / (Int.gcd (R n n) (v n) : Int) = D := ⟨_, rfl⟩
            have C0 : 0 < C := by
              have gp := gcd_p (y := v n) Rp
              obtain ⟨a, ha⟩ := gp.2.1
              have e2 : R n n / (Int.gcd (R n n) (v n) : Int) = a := by
                have : R n n / (Int.gcd (R n n) (v n) : Int) = (Int.gcd (R n n) (v n) : Int) * a / (Int.gcd (R n n) (v n) : Int) := congrArg (fun z => z / (Int.gcd (R n n) (v n) : Int)) ha
                rw [this]
                exact Int.mul_ediv_cancel_left a (by omega)
              rw [← hC, e2]
              rcases Int.lt_or_le 0 a with g | g
              · exact g
              · have := Int.mul_nonneg (show 0 ≤ (Int.gcd (R n n) (v n) : Int) by omega) (show 0 ≤ -a by omega)
                rw [Int.mul_neg, ← ha] at this
                omega
            have ev : ∀ j, j < 10 → el v (R n) n j = C * v j - D * rv s n j := fun j hj => by
              unfold el
              rw [hC, hD, rn j hj]
              grind
            refine ⟨⟨x * (cG (el v (R n) n) 10 : Int), C * α, fun q => C * c q + (if q = n then x * D else 0), mul_n hx (by omega), mul_n (by omega) hα, fun q hq => ?_, fun j hj => ?_⟩, fun q h1 h2 h3 => ?_, Or.inr (sm_p k0 k1)⟩
            · have qn : q ≠ n := fun g => hq ⟨by omega, by omega, by rw [g]; exact hh⟩
              show C * c q + (if q = n then x * D else 0) = 0
              rw [if_neg qn, c0 q (fun g => hq ⟨by omega, g.2.1, g.2.2⟩)]
              omega
            · have e3 : dS (fun q => (C * c q + (if q = n then x * D else 0)) * rv s q j) 15 = C * dS (fun q => c q * rv s q j) 15 + 1 * dS (fun q => if q = n then x * D * rv s n j else 0) 15 := by
                rw [← dS_l]
                refine dS_c (fun q _ => ?_)
                rcases Decidable.em (q = n) with g | g
                · subst g
                  rw [if_pos rfl, if_pos rfl]
                  grind
                · rw [if_neg g, if_neg g]
                  grind
              have e4 : dS (fun q => if q = n then x * D * rv s n j else 0) 15 = x * D * rv s n j := by
                rw [dS_1 (q := n) (by omega) (fun q _ hn => if_neg hn), if_pos rfl]
              have e5 := sm_c (el v (R n) n) hj
              have e6 := e j hj
              have e7 := ev j hj
              rw [e3, e4, Int.mul_assoc, e5, e7]
              grind
            · rcases Decidable.em (q = n) with g2 | g2
              · rw [g2]; exact sm_0 el_p
              · refine sm_0 ?_
                rw [ev q (by omega), hz q (by omega) h2 h3, pl q (by omega) g2 h3]
                omega
          obtain ⟨a1, a2⟩ := rdI_h ec r hN hL hR hv hw n _ t (by omega) nx
          exact ⟨⟨room, a1⟩, a2⟩
        · have z' : ∀ j, 0 ≤ j → j < 0 + n → sm (el v (R n) n) j = 0 := fun j _ hj => sm_0 (z j (by omega))
          obtain ⟨a1, a2⟩ := rdF_s (R := R) (L := L) (v := sm (el v (R n) n)) (t := t) 0 n z'
          rw [Nat.zero_add] at a1 a2
          refine ⟨⟨room, a2.mpr trivial⟩, Or.inr (fun j hj => ?_)⟩
          rw [a1]
          exact sm_0 (z j hj)
theorem rdI_0 {hs s : Int → Int} {N : Nat} (v : Nat → Int) : rdI hs s N v N v := ⟨⟨1, 1, fun _ => 0, by decide, by decide, fun _ _ => rfl, fun j _ => by rw [dS_0 (fun l _ => by show 0 * rv s l j = 0; omega)]; omega⟩, fun l h1 h2 => by omega, Or.inl (fun _ _ => rfl)⟩
theorem rel_w {M : Nat} {b b' : List Nat} {hs s : Int → Int} (h : rel M b hs s) (hl : b'.length = 15) (hb : ∀ k, gt b k ≤ gt b' k) : rel M b' hs s := by
  obtain ⟨h0, h1, h2, h3⟩ := h
  refine ⟨hl, h1, h2, fun p hp => ?_⟩
  obtain ⟨G, L, c, n⟩ := h3 p hp
  have := hb p
  rw [gt_e, gt_e] at this
  exact ⟨G, L, c, Int.le_trans n (p2_m this)⟩
/-- the certificates go on over a step -/
theorem crB_n {M : Nat} {b : List Nat} {hs s s' : Int → Int} {v : Nat → Int} {p w t : Nat} (e : ech hs s) (e' : ech (uI hs t 1) s') (hM : ∀ l : Nat, l < 15 → (uI hs t 1 l ≠ 0 ↔ (M ||| 2 ^ t).testBit l = true)) (hp : p < 10) (t0 : t ≤ p) (ht : hs t = 0) (hv : ∀ j, p < j → j < 10 → v j = 0) (hw : nS (pd v) 15 ≤ 2 ^ w) (sA : stA hs (lay s (pd v)) s' t) (sB : stB hs (lay s (pd v)) s' t) (sC : stC (lay s (pd v)) s' t) (d : crB b hs s) : crB (abI M b p w t).2 (uI hs t 1) s' := by
  obtain ⟨h0, h3⟩ := d
  have t15 : t < 15 := by omega
  have cl : ∀ {q : Nat} {G : List lV} {L : List Nat}, crt hs s q G L → crt hs (lay s (pd v)) q G L := fun ⟨c0, c1, c2, c3⟩ => ⟨c0, c1, c2, fun l a b' c => by rw [lay_r s (pd v) b']; exact c3 l a b' c⟩
  have e2 : ech hs (lay s (pd v)) := fun l l0 l1 => by
    rw [lay_r s (pd v) l0]
    exact e l l0 l1
  have wz : ∀ j, p < j → j < 15 → wv (lay s (pd v)) j = 0 := fun j j0 j1 => by
    rw [lay_w]
    rcases Nat.lt_or_ge j 10 with g | g
    · rw [pd_i g]; exact hv j j0 g
    · exact pd_o g
  refine ⟨by show (nrL _ 0 (upL t p w _ 0 b)).length = 15; rw [nrL_n, upL_n]; exact h0, fun q hq => ?_⟩
  show ∃ G L, crt (uI hs t 1) s' q G L ∧ dB 15 G (2 ^ gt (nrL (M ||| 2 ^ t) 0 (upL t p w (b.getD p 0 + w) 0 b)) q)
  rw [gt_e]
  rcases nrL_g (M ||| 2 ^ t) (upL t p w (b.getD p 0 + w) 0 b) 0 q (by rw [upL_n, h0]; exact hq) with ⟨g1, g2⟩ | g1
  · rw [g1]
    refine ⟨_, _, crt_u hq e' (fun j hj => (hM j (by omega)).mpr (g2 j (Nat.zero_le j) (by omega))), ?_⟩
    rw [Int.pow_zero]
    exact dB_m (dB_n 15 _) (unG_p _)
  · rw [g1, upL_g _ _ _ _ b 0 q (by rw [h0]; exact hq), Nat.zero_add]
    have up : ∀ (G : List lV) (x : Nat), dB 15 G (2 ^ x) → dB 15 (wv (lay s (pd v)) :: G) (2 ^ (x + w)) := fun G x hG => by
      rw [Nat.add_comm, Int.pow_add]
      exact dB_c hG (by rw [lay_w]; exact hw)
    rcases Nat.lt_or_ge q p with g3 | g3
    · rw [if_neg (by omega)]
      rcases Nat.lt_or_ge q t with g4 | g4
      · rw [if_neg (by omega)]
        obtain ⟨G', L', c', n'⟩ := h3 q hq
        rw [gt_e] at n'
        exact ⟨G', L', crt_l g4 ht sC (cl c'), n'⟩
      · rw [if_pos g4]
        obtain ⟨G, L, c, n⟩ := h3 p (by omega)
        rw [gt_e] at n
        exact ⟨_, _, crt_m (by omega) (crt_n e2 e' (Nat.le_refl p) t15 t0 ht wz sA sB (cl c)), up G _ n⟩
    · rw [if_pos g3]
      obtain ⟨G', L', c', n'⟩ := h3 q hq
      rw [gt_e] at n'
      exact ⟨_, _, crt_n e2 e' g3 t15 t0 ht wz sA sB (cl c'), up G' _ n'⟩
-- the table's functions
abbrev cbT : Type := List (Nat × Nat × List Nat × List Nat)
def lbB : List Nat → List Nat → Bool
  | [], [] => true
  | x :: a, y :: b => Nat.ble x y && lbB a b
  | _, _ => false
theorem lbB_h : ∀ {a b : List Nat}, lbB a b = true → a.length = b.length ∧ ∀ k, gt a k ≤ gt b k
  | [], [], _ => ⟨rfl, fun _ => Nat.le_refl _⟩
  | [], _ :: _, h => by cases h
  | _ :: _, [], h => by cases h
  | x :: a, y :: b, h => by
    have h' := (Bool.and_eq_true _ _).mp h
    obtain ⟨l, g⟩ := lbB_h h'.2
    refine ⟨by rw [List.length_cons, List.length_cons, l], fun k => ?_⟩
    cases k with
    | zero => exact Nat.le_of_ble_eq_true h'.1
    | succ k => exact g k
def cbC (M g : Nat) (b β : List Nat) : cbT → Bool
  | [] => false
  | e :: r => (Nat.beq M e.1 && Nat.beq g e.2.1 && lbB b e.2.2.1 && lbB β e.2.2.2) || cbC M g b β r
theorem cbC_h {M g : Nat} {b β : List Nat} : ∀ {T : cbT}, cbC M g b β T = true → ∃ b' β', (M, g, b', β') ∈ T ∧ b'.length = b.length ∧ β'.length = β.length ∧ (∀ k, gt b k ≤ gt b' k) ∧ ∀ k, gt β k ≤ gt β' k
  | [], h => by cases h
  | e :: r, h => by
    rcases (Bool.or_eq_true _ _).mp h with q | q
    · simp only [Bool.and_eq_true] at q
      obtain ⟨⟨⟨q1, q2⟩, q3⟩, q4⟩ := q
      obtain ⟨l3, g3⟩ := lbB_h q3
      obtain ⟨l4, g4⟩ := lbB_h q4
      have e1 := Nat.eq_of_beq_eq_true q1
      have e2 := Nat.eq_of_beq_eq_true q2
      refine ⟨e.2.2.1, e.2.2.2, ?_, l3.symm, l4.symm, g3, g4⟩
      rw [e1, e2]
      exact List.mem_cons_self
    · obtain ⟨b', β', h1, h2⟩ := cbC_h q
      exact ⟨b', β', List.mem_cons_of_mem _ h1, h2⟩
abbrev cbF : Type := Nat → List Nat → List Nat → Bool
def opN (F : cbF) (M : Nat) (b c : List Nat) (p w t : Nat) : Bool := (fun c' => Nat.ble (gt c 9 + gt c' t + 1) 990 && F (M ||| 2 ^ t) (nrB (M ||| 2 ^ t) 0 (upB t p w (gt b p + w) 0 b)) c') (nrB (M ||| 2 ^ t) 0 (upB t p w (gt c p + w) 0 c))
def opA (F : cbF) (M : Nat) (b c : List Nat) (p w : Nat) : Nat → Bool
  | 0 => true
  | n + 1 => (bt M n || opN F M b c p w n) && opA F M b c p w n
def opB (F : cbF) (M : Nat) (b c : List Nat) (p w : Nat) : Bool := Nat.ble (w + (gt c 9 + 4) + gt c 9 + 1) 990 && (Nat.ble (gt b p) 5000 && Nat.ble (gt b 14) 5000) && bif bt M p then F M b c && opA F M b c p w p else opN F M b c p w p
theorem opA_h {F : cbF} {M : Nat} {b c : List Nat} {p w : Nat} : ∀ {n : Nat}, opA F M b c p w n = true → ∀ t, t < n → M.testBit t = false → opN F M b c p w t = true
  | 0, _, t, ht, _ => absurd ht (Nat.not_lt_zero _)
  | n + 1, h, t, ht, hM => by
    have h' := (Bool.and_eq_true _ _).mp h
    rcases Nat.lt_or_ge t n with q | q
    · exact opA_h h'.2 t q hM
    · have : t = n := by omega
      subst this
      rcases (Bool.or_eq_true _ _).mp h'.1 with g | g
      · rw [bt_e, hM] at g
        cases g
      · exact g
/-- one step of the rows -/
def stp (hs s hs' s' : Int → Int) : Prop := (hs' = hs ∧ s' = s) ∨ ∃ t : Nat, t < 15 ∧ hs t = 0 ∧ hs' = uI hs t 1 ∧ stB hs s s' t ∧ stC s s' t
/-- the room of an insertion -/
theorem insB_h {R : Nat → Nat → Int} {L hs s : Int → Int} {b : List Nat} {w : Nat} (e : ech hs s) (c : cmp R L hs s) (d : crB b hs s) (hv : ∀ i, i < 10 → zAbs (R 10 i) ≤ 2 ^ w) (h1 : w + (gt b 9 + 4) + gt b 9 + 1 ≤ 990) (h2 : ∀ t : Nat, (rdF R L 10 (R 10) (-1)).2 = t → t < 10 ∧ ∃ y, gt b 9 + y + 1 ≤ 990 ∧ 0 < sgv (sm (rdF R L 10 (R 10) (-1)).1) t t ∧ ∀ i, i < 10 → zAbs (sgv (sm (rdF R L 10 (R 10) (-1)).1) t i) ≤ 2 ^ y) : insB R L := by
  obtain ⟨ra, -⟩ := rdI_h (R := R) (L := L) (N := 10) (w := w) e d (Nat.le_refl _) c.2.1 (fun l hl h2 => c.2.2.2 l hl h2) hv h1 10 (R 10) (-1) (Nat.le_refl _) (rdI_0 _)
  refine ⟨ra, fun t ht k tk k10 hk _ => ?_⟩
  obtain ⟨t10, y, y1, y2, y3⟩ := h2 t ht
  exact elB_2 t10 y2 (fun i hi => by rw [c.2.2.2 k k10 hk i hi]; exact crB_r e d (p := 9) (by decide) (by omega) ((c.2.1 k k10).mp hk) (by omega)) y3 y1
theorem opB_h {F : cbF} {M : Nat} {b c : List Nat} {R : Nat → Nat → Int} {L hs s : Int → Int} {p w : Nat} (h : opB F M b c p w = true) (cm : cmp R L hs s) (r : rel M b hs s) (d : crB c hs s) (hp : p < 10) (hv : ∀ j, p < j → j < 10 → R 10 j = 0) (hvp : R 10 p ≠ 0) (hw : nS (pd (R 10)) 15 ≤ 2 ^ w) :
    insB R L ∧ ∃ (M' : Nat) (b' c' : List Nat) (hs' s' : Int → Int), F M' b' c' = true ∧ rel M' b' hs' s' ∧ crB c' hs' s' ∧ cmp (insF R L).1 (insF R L).2 hs' s' ∧ (∀ J, lin J → (jr J hs' s' ↔ jr J hs s ∧ J (pd (R 10)))) ∧ stp hs s hs' s' := by
  unfold opB at h
  simp only [Bool.and_eq_true] at h
  obtain ⟨⟨h1, h2, h3⟩, h6⟩ := h
  have h1 := Nat.le_of_ble_eq_true h1
  have h2 := Nat.le_of_ble_eq_true h2
  have h3 := Nat.le_of_ble_eq_true h3
  rw [gt_e] at h2 h3
  have e := r.2.2.1
  have hvi : ∀ i, i < 10 → zAbs (R 10 i) ≤ 2 ^ w := fun i hi => by
    have := nS_1 (g := pd (R 10)) (n := 15) (j := i) (by omega)
    rw [pd_i hi] at this
    omega
  rcases ins_h cm r hp hv hw (by omega) (by omega) with ⟨a1, a2, a3, a4, a5⟩ | ⟨t, s', t0, t1, t2, a1, a2, a3, a4, a5, a6, a7, a8, a9, a10⟩
  · have hMp : M.testBit p = true := by
      cases q : M.testBit p
      · exact absurd ⟨hvp, q⟩ a5
      · rfl
    rw [bt_e, hMp] at h6
    have h6' : F M b c = true := ((Bool.and_eq_true _ _).mp h6).1
    refine ⟨insB_h e cm d hvi h1 (fun t ht => absurd (a3.symm.trans ht) (by omega)), M, b, c, hs, s, h6', r, d, by rw [a2]; exact a1, fun J hJ => ⟨fun q => ⟨q, a4 J hJ q⟩, fun q => q.1⟩, Or.inl ⟨rfl, rfl⟩⟩
  · have t10 : t < 10 := by omega
    have h7 : opN F M b c p w t = true := by
      cases q : M.testBit p
      · rw [bt_e, q] at h6
        rw [a10 hvp q]
        exact h6
      · rw [bt_e, q] at h6
        have h6' := ((Bool.and_eq_true _ _).mp h6).2
        have tp : t < p := by
          rcases Nat.lt_or_ge t p with g | g
          · exact g
          · rw [show t = p by omega, q] at t1; cases t1
        exact opA_h h6' t tp t1
    have hM2 : ∀ l : Nat, l < 15 → (uI hs t 1 l ≠ 0 ↔ (M ||| 2 ^ t).testBit l = true) := a1.2.1
    have dn := crB_n (M := M) e a1.2.2.1 hM2 hp t0 t2 hv hw a6 a7 a8 d
    rw [abI_e] at a1 dn
    unfold opN at h7
    obtain ⟨h8, h9⟩ := (Bool.and_eq_true _ _).mp h7
    have h8 := Nat.le_of_ble_eq_true h8
    obtain ⟨p0, -, -, -⟩ := a1.2.2.1 t (by omega) (by rw [uI_s]; decide)
    refine ⟨insB_h e cm d hvi h1 (fun t' ht' => ?_), _, _, _, _, s', h9, a1, dn, by rw [a3]; exact a2, a9, Or.inr ⟨t, by omega, t2, rfl, stB_l a7, stC_l (by omega) a8⟩⟩
    have : t' = t := by omega
    subst this
    exact ⟨t10, _, h8, by rw [a5 t' t10]; exact p0, fun i hi => by rw [a5 i hi]; exact crB_r a1.2.2.1 dn (by omega) (Nat.le_refl _) (by rw [uI_s]; decide) (by omega)⟩
