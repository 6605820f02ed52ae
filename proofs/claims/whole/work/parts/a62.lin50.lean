/-! The class's ideal: its room, and its rows in the end. -/
theorem dS_bz {f : Nat → Int} {B : Int} : ∀ {n : Nat}, (∀ l, l < n → zAbs (f l) ≤ B) → zAbs (dS f n) ≤ n * B
  | 0, _ => by show zAbs 0 ≤ ((0 : Nat) : Int) * B; rw [show ((0 : Nat) : Int) = 0 from rfl, Int.zero_mul]; decide
  | n + 1, h => by
    have h1 := dS_bz (n := n) (fun l hl => h l (by omega))
    have h2 := h n (by omega)
    have h3 := zAbs_tri (dS f n) (f n)
    show zAbs (dS f n + f n) ≤ ((n + 1 : Nat) : Int) * B
    rw [show ((n + 1 : Nat) : Int) = (n : Int) + 1 by omega, Int.add_mul]
    omega
/-- a row on its way through fully reduced ones -/
def rdI (hs s : Int → Int) (N : Nat) (v0 : Nat → Int) (n : Nat) (v : Nat → Int) : Prop := (∃ (x α : Int) (c : Nat → Int), x ≠ 0 ∧ α ≠ 0 ∧ (∀ l : Nat, ¬ (n ≤ l ∧ l < N ∧ hs l ≠ 0) → c l = 0) ∧ ∀ j, j < 10 → x * v j = α * v0 j - dS (fun l => c l * rv s l j) 15) ∧ (∀ l : Nat, n ≤ l → l < N → hs l ≠ 0 → v l = 0) ∧ ((∀ j, j < 10 → v j = v0 j) ∨ pm v)
theorem rdI_b {hs s : Int → Int} {M : Nat} {b : List Nat} {N n w : Nat} {v0 v : Nat → Int} (r : rel M b hs s) (hN : N ≤ 10) (h : rdI hs s N v0 n v) (hv : ∀ j, j < 10 → zAbs (v0 j) ≤ 2 ^ w) : ∀ j, j < 10 → zAbs (v j) ≤ 2 ^ (w + (gt b 9 + 4)) := by
  obtain ⟨⟨x, α, c, hx, hα, c0, e⟩, hz, hp⟩ := h
  intro j hj
  rcases hp with g | g
  · rw [g j hj]
    exact Int.le_trans (hv j hj) (p2_m (by omega))
  have ec := r.2.2.1
  obtain ⟨G, Lc, ct, nb⟩ := r.2.2.2 9 (by decide)
  rw [← gt_e] at nb
  obtain ⟨D, hD⟩ : ∃ D, dt G Lc = D := ⟨_, rfl⟩
  have D0 : D ≠ 0 := by rw [← hD]; exact ct.1
  have Db : zAbs D ≤ 2 ^ gt b 9 := by
    rw [← hD]
    exact Int.le_trans (dt_b ct.2.1 (fun j hj => (ct.2.2.1 j hj).1)) nb
  have row : ∀ l : Nat, l < N → hs l ≠ 0 → ∀ j, j < 15 → ∃ P, rv s l j * D = rv s l l * P ∧ zAbs P ≤ 2 ^ gt b 9 := fun l hl h2 j hj => by
    obtain ⟨P, p1, p2⟩ := ((row_b ec ct (l := l) (by omega) (by omega) h2).2 j hj).2
    rw [hD] at p1
    exact ⟨P, p1, Int.le_trans p2 nb⟩
  -- the sum times D is α times a number of known size
  have cl : ∀ l : Nat, n ≤ l → l < N → hs l ≠ 0 → c l * rv s l l = α * v0 l := fun l h1 h2 h3 => by
    have := e l (by omega)
    rw [hz l h1 h2 h3, dS_1 (q := l) (by omega) (fun q hq hn => ?_)] at this
    · omega
    · show c q * rv s q l = 0
      rcases Decidable.em (n ≤ q ∧ q < N ∧ hs q ≠ 0) with g2 | g2
      · rw [(ec q hq g2.2.2).2.2.1 l (by omega) (fun h => hn h.symm) h3, Int.mul_zero]
      · rw [c0 q g2, Int.zero_mul]
  have term : ∀ j, j < 15 → ∀ l, l < 15 → ∃ y, c l * rv s l j * D = α * y ∧ zAbs y ≤ 2 ^ (w + gt b 9) := fun j hj l hl => by
    rcases Decidable.em (n ≤ l ∧ l < N ∧ hs l ≠ 0) with g2 | g2
    · obtain ⟨P, p1, p2⟩ := row l g2.2.1 g2.2.2 j hj
      refine ⟨v0 l * P, ?_, two_le (hv l (by omega)) p2⟩
      rw [Int.mul_assoc, p1, ← Int.mul_assoc, cl l g2.1 g2.2.1 g2.2.2]
      grind
    · refine ⟨0, ?_, ?_⟩
      · rw [c0 l g2]; omega
      · have := p2_pos (w + gt b 9)
        rw [show zAbs 0 = 0 from rfl]
        omega
  have sum : ∀ j, j < 15 → ∀ m, m ≤ 15 → ∃ y, dS (fun l => c l * rv s l j) m * D = α * y ∧ zAbs y ≤ m * 2 ^ (w + gt b 9) := fun j hj m => by
    induction m with
    | zero =>
      intro _
      refine ⟨0, ?_, ?_⟩
      · show 0 * D = α * 0
        omega
      · rw [show ((0 : Nat) : Int) = 0 from rfl, Int.zero_mul]; decide
    | succ m ih =>
      intro hm
      obtain ⟨y, y1, y2⟩ := ih (by omega)
      obtain ⟨z, z1, z2⟩ := term j hj m (by omega)
      refine ⟨y + z, ?_, ?_⟩
      · show (dS (fun l => c l * rv s l j) m + c m * rv s m j) * D = _
        rw [Int.add_mul, y1, z1]
        grind
      · have := zAbs_tri y z
        rw [show ((m + 1 : Nat) : Int) = (m : Int) + 1 by omega, Int.add_mul]
        omega
  have all : ∀ j, j < 10 → ∃ u, D * x * v j = α * u ∧ zAbs u ≤ 16 * 2 ^ (w + gt b 9) := fun j hj => by
    obtain ⟨y, y1, y2⟩ := sum j (by omega) 15 (Nat.le_refl _)
    refine ⟨D * v0 j - y, ?_, ?_⟩
    · have := e j hj
      have h2 : D * x * v j = D * (x * v j) := by grind
      rw [h2, this]
      grind
    · have t := zAbs_tri (D * v0 j) (-y)
      rw [zAbs_ng] at t
      have := two_le Db (hv j hj)
      rw [Nat.add_comm] at this
      rw [show D * v0 j - y = D * v0 j + -y by omega]
      have h15 : ((15 : Nat) : Int) = 15 := rfl
      rw [h15] at y2
      omega
  have dv : α ∣ D * x := prim_d (v := v) (n := 10) hα g (fun k hk => by
    obtain ⟨u, u1, -⟩ := all k hk
    exact ⟨u, by rw [← u1]; grind⟩)
  obtain ⟨y, hy⟩ := dv
  have y0 : y ≠ 0 := fun q => by
    rw [q, Int.mul_zero] at hy
    exact mul_n D0 hx hy
  obtain ⟨u, u1, u2⟩ := all j hj
  rw [hy, Int.mul_assoc] at u1
  have u3 := Int.eq_of_mul_eq_mul_left hα u1
  have h1 : 1 ≤ zAbs y := by unfold zAbs; split <;> omega
  have h2 := Int.mul_le_mul_of_nonneg_right h1 (zAbs_0 (v j))
  rw [← zAbs_x, u3] at h2
  have h3 : (2 : Int) ^ (w + (gt b 9 + 4)) = 16 * 2 ^ (w + gt b 9) := by rw [← Nat.add_assoc, Int.pow_add, Int.mul_comm]; rfl
  omega
theorem rdI_h {hs s : Int → Int} {M : Nat} {b : List Nat} {R : Nat → Nat → Int} {L : Int → Int} {N w : Nat} {v0 : Nat → Int} (r : rel M b hs s) (hN : N ≤ 10) (hL : ∀ l : Nat, l < 10 → (L l ≠ 0 ↔ hs l ≠ 0)) (hR : ∀ l : Nat, l < N → L l ≠ 0 → ∀ j, j < 10 → R l j = rv s l j) (hv : ∀ j, j < 10 → zAbs (v0 j) ≤ 2 ^ w) (hw : w + (gt b 9 + 4) + gt b 9 ≤ 2300) : ∀ (n : Nat) (v : Nat → Int) (t : Int), n ≤ N → rdI hs s N v0 n v → rdB R L n v ∧ (rdI hs s N v0 0 (rdF R L n v t).1 ∨ ∀ j, j < 10 → (rdF R L n v t).1 j = 0)
  | 0, v, t, _, h => ⟨trivial, Or.inl h⟩
  | n + 1, v, t, hn, h => by
    have ec := r.2.2.1
    have low : (v n = 0 ∨ L n = 0) → rdI hs s N v0 n v := fun q => by
      obtain ⟨⟨x, α, c, hx, hα, c0, e⟩, hz, hp⟩ := h
      refine ⟨⟨x, α, c, hx, hα, fun l hl => c0 l (fun g => hl ⟨by omega, g.2.1, g.2.2⟩), e⟩, fun l h1 h2 h3 => ?_, hp⟩
      rcases Decidable.em (l = n) with q2 | q2
      · subst q2
        rcases q with q | q
        · exact q
        · exact absurd q ((hL l (by omega)).mpr h3)
      · exact hz l (by omega) h2 h3
    unfold rdB rdF
    split
    · rename_i g
      exact rdI_h r hN hL hR hv hw n v t (by omega) (low (Or.inl g))
    · split
      · rename_i g
        exact rdI_h r hN hL hR hv hw n v _ (by omega) (low (Or.inr g))
      · rename_i g l
        have hb := rdI_b r hN h hv
        have hh := (hL n (by omega)).mp l
        obtain ⟨p0, pz, pl, -⟩ := ec n (by omega) hh
        have rn := hR n (by omega) l
        have bR : ∀ i, i < 10 → zAbs (R n i) ≤ 2 ^ gt b 9 := fun i hi => by
          rw [rn i hi, gt_e]
          exact rel_r r (l := n) (p := 9) (by omega) hh (by omega) (by decide) i (by omega)
        have Rp : 0 < R n n := by rw [rn n (by omega)]; exact p0
        have room : ∃ a b', a + b' ≤ 77 ∧ ∀ i, i < 10 → zAbs (v i) < cB ^ a ∧ zAbs (R n i) < cB ^ b' := ⟨(w + (gt b 9 + 4)) / 31 + 1, gt b 9 / 31 + 1, by omega, fun i hi => ⟨Int.lt_of_le_of_lt (hb i hi) (cB_2 _), Int.lt_of_le_of_lt (bR i hi) (cB_2 _)⟩⟩
        rcases top_6 (el v (R n) n) 10 with ⟨k, k0, k1, -⟩ | z
        · have smn := sm_n k0 k1
          have nx : rdI hs s N v0 n (sm (el v (R n) n)) := by
            obtain ⟨⟨x, α, c, hx, hα, c0, e⟩, hz, hp⟩ := h
            obtain ⟨C, hC⟩ : ∃ C, R n n / (Int.gcd (R n n) (v n) : Int) = C := ⟨_, rfl⟩
            obtain ⟨D, hD⟩ : ∃ D, v n / (Int.gcd (R n n) (v n) : Int) = D := ⟨_, rfl⟩
            have C0 : 0 < C := by
              have gp := gcd_p (y := v n) Rp
              obtain ⟨a, ha⟩ := gp.2.1
              have e2 : R n n / (Int.gcd (R n n) (v n) : Int) = a := by
                have : R n n / (Int.gcd (R n n) (v n) : Int) = (Int.gcd (R n n) (v n) : Int) * a / (Int.gcd (R n n) (v n) : Int) := congrArg (fun z => z / (Int.gcd (R n n) (v n) : Int)) ha
                rw [this]
                exact Int.mul_ediv_cancel_left a (by omega)
              rw [← hC, e2]
              rcases Int.lt_or_le 0 a with g | g
              · exact g
              · have := Int.mul_nonneg (show 0 ≤ (Int.gcd (R n n) (v n) : Int) by omega) (show 0 ≤ -a by omega)
                rw [Int.mul_neg, ← ha] at this
                omega
            have ev : ∀ j, j < 10 → el v (R n) n j = C * v j - D * rv s n j := fun j hj => by
              unfold el
              rw [hC, hD, rn j hj]
              grind
            refine ⟨⟨x * (cG (el v (R n) n) 10 : Int), C * α, fun q => C * c q + (if q = n then x * D else 0), mul_n hx (by omega), mul_n (by omega) hα, fun q hq => ?_, fun j hj => ?_⟩, fun q h1 h2 h3 => ?_, Or.inr (sm_p k0 k1)⟩
            · have qn : q ≠ n := fun g => hq ⟨by omega, by omega, by rw [g]; exact hh⟩
              show C * c q + (if q = n then x * D else 0) = 0
              rw [if_neg qn, c0 q (fun g => hq ⟨by omega, g.2.1, g.2.2⟩)]
              omega
            · have e3 : dS (fun q => (C * c q + (if q = n then x * D else 0)) * rv s q j) 15 = C * dS (fun q => c q * rv s q j) 15 + 1 * dS (fun q => if q = n then x * D * rv s n j else 0) 15 := by
                rw [← dS_l]
                refine dS_c (fun q _ => ?_)
                rcases Decidable.em (q = n) with g | g
                · subst g
                  rw [if_pos rfl, if_pos rfl]
                  grind
                · rw [if_neg g, if_neg g]
                  grind
              have e4 : dS (fun q => if q = n then x * D * rv s n j else 0) 15 = x * D * rv s n j := by
                rw [dS_1 (q := n) (by omega) (fun q _ hn => if_neg hn), if_pos rfl]
              have e5 := sm_c (el v (R n) n) hj
              have e6 := e j hj
              have e7 := ev j hj
              rw [e3, e4, Int.mul_assoc, e5, e7]
              grind
            · rcases Decidable.em (q = n) with g2 | g2
              · rw [g2]; exact sm_0 el_p
              · refine sm_0 ?_
                rw [ev q (by omega), hz q (by omega) h2 h3, pl q (by omega) g2 h3]
                omega
          obtain ⟨a1, a2⟩ := rdI_h r hN hL hR hv hw n _ t (by omega) nx
          exact ⟨⟨room, a1⟩, a2⟩
        · have z' : ∀ j, 0 ≤ j → j < 0 + n → sm (el v (R n) n) j = 0 := fun j _ hj => sm_0 (z j (by omega))
          obtain ⟨a1, a2⟩ := rdF_s (R := R) (L := L) (v := sm (el v (R n) n)) (t := t) 0 n z'
          rw [Nat.zero_add] at a1 a2
          refine ⟨⟨room, a2.mpr trivial⟩, Or.inr (fun j hj => ?_)⟩
          rw [a1]
          exact sm_0 (z j hj)
theorem rdI_0 {hs s : Int → Int} {N : Nat} (v : Nat → Int) : rdI hs s N v N v := ⟨⟨1, 1, fun _ => 0, by decide, by decide, fun _ _ => rfl, fun j _ => by rw [dS_0 (fun l _ => by show 0 * rv s l j = 0; omega)]; omega⟩, fun l h1 h2 => by omega, Or.inl (fun _ _ => rfl)⟩
/-- the rows, settled: the fully reduced ones -/
theorem se_h {M : Nat} {b β : List Nat} {R : Nat → Nat → Int} {L hs s : Int → Int} (r : rel M b hs s) (c : cmp R L hs s) (hb : bnd β R L) (b7 : ∀ k, gt b k ≤ 760) (β7 : ∀ k, gt β k ≤ 760) : seB R L ∧ ∀ l : Nat, l < 10 → L l ≠ 0 → ∀ j, j < 10 → seF R L 10 l j = rv s l j := by
  obtain ⟨hS, hL, hH, hJ, hP⟩ := c
  have ec := r.2.2.1
  have go : ∀ k, k ≤ 10 → (∀ l : Nat, l < k → L l ≠ 0 → ∀ j, j < 10 → seF R L k l j = rv s l j) ∧ (∀ l, k ≤ l → seF R L k l = R l) ∧ ∀ l : Nat, l < k → L l ≠ 0 → rdB (seF R L l) L l (seF R L l l) := by
    intro k
    induction k with
    | zero => exact fun _ => ⟨fun l hl => absurd hl (Nat.not_lt_zero _), fun l _ => rfl, fun l hl => absurd hl (Nat.not_lt_zero _)⟩
    | succ k ih =>
      intro hk
      obtain ⟨i1, i2, i3⟩ := ih (by omega)
      rcases Decidable.em (L k = 0) with g | g
      · have e : seF R L (k + 1) = seF R L k := if_pos g
        rw [e]
        refine ⟨fun l hl h2 => ?_, fun l hl => i2 l (by omega), fun l hl h2 => ?_⟩
        · rcases Decidable.em (l = k) with q | q
          · rw [q] at h2; exact absurd g h2
          · exact i1 l (by omega) h2
        · rcases Decidable.em (l = k) with q | q
          · rw [q] at h2; exact absurd g h2
          · exact i3 l (by omega) h2
      · have e : seF R L (k + 1) = uR (seF R L k) k (rdF (seF R L k) L k (seF R L k k) (-1)).1 := if_neg g
        have rk := i2 k (Nat.le_refl _)
        obtain ⟨p0, pz⟩ := hS k (by omega) g
        have hSk := seF_S hS k (by omega)
        have hk2 := (hL k (by omega)).mp g
        obtain ⟨a1, a2⟩ := rdI_h (R := seF R L k) (L := L) (N := k) (w := gt β k) r (by omega) hL i1 (hb k (by omega) g) (by have := b7 9; have := β7 k; omega) k (R k) (-1) (Nat.le_refl _) (rdI_0 (R k))
        obtain ⟨z, hz⟩ : ∃ z, (rdF (seF R L k) L k (R k) (-1)).1 = z := ⟨_, rfl⟩
        have zk := rdF_k hSk (k := k) (by omega) k (R k) (-1) (Nat.le_refl _) p0 pz
        have zp := rdF_p hSk (k := k) (by omega) k (R k) (-1) (Nat.le_refl _) p0 pz (hP k (by omega) g)
        have zJ := rdF_J (wsp_lin hs s) hSk k (R k) (-1) (by omega) (fun l hl h2 => by
          have : pd (seF R L k l) = rv s l := funext (fun j => by
            rcases Nat.lt_or_ge j 10 with q | q
            · rw [pd_i q]; exact i1 l hl h2 j q
            · rw [pd_o q]
              rcases Nat.lt_or_ge j 15 with q2 | q2
              · exact ((ec l (by omega) ((hL l (by omega)).mp h2)).2.1 j (by omega) q2).symm
              · exact (rv_o s l q2).symm)
          rw [this]
          exact wsp_r l (by omega) ((hL l (by omega)).mp h2))
        rw [hz] at a2 zk zp zJ
        have zw := zJ.mp ((hJ _ (wsp_lin hs s)).mp wsp_r k (by omega) g)
        have zl : ∀ l : Nat, l < k → hs l ≠ 0 → z l = 0 := fun l hl h2 => by
          rcases a2 with q | q
          · exact q.2.1 l (Nat.zero_le _) hl h2
          · exact q l (by omega)
        obtain ⟨q0, qz, ql, qp⟩ := ec k (by omega) hk2
        have dz := wsp_z ec ((wsp_lin hs s).1 (rv s k) (pd z) (z k) (-(rv s k k)) (wsp_r k (by omega) hk2) zw) 15 (Nat.le_refl _) (fun j h1 h2 => by omega) (fun j hj h2 => by
          show z k * rv s k j + -(rv s k k) * pd z j = 0
          rcases Nat.lt_trichotomy j k with q | q | q
          · rw [ql j hj (by omega) h2, pd_i (by omega), zl j q h2]; omega
          · rw [q, pd_i (by omega)]; grind
          · rw [qz j q hj]
            rcases Nat.lt_or_ge j 10 with q2 | q2
            · rw [pd_i q2, zk.2 j q q2]; omega
            · rw [pd_o q2]; omega)
        have zρ : ∀ j, j < 10 → z j = rv s k j := pm_e zp (fun d hd => qp d (fun j hj => by
          rcases Nat.lt_or_ge j 10 with q | q
          · exact hd j q
          · rw [qz j (by omega) hj]; exact ⟨0, by omega⟩)) (show rv s k k ≠ 0 by omega) (show z k ≠ 0 by omega) (by omega) zk.1 q0 (fun j hj => by
          have := dz j (by omega)
          have h3 : z k * rv s k j + -(rv s k k) * pd z j = 0 := this
          rw [pd_i hj] at h3
          grind)
        rw [e, rk, hz]
        refine ⟨fun l hl h2 j hj => ?_, fun l hl => ?_, fun l hl h2 => ?_⟩
        · rcases Decidable.em (l = k) with q | q
          · rw [q, uR_s]; exact zρ j hj
          · rw [uR_n _ _ q]; exact i1 l (by omega) h2 j hj
        · rw [uR_n _ _ (by omega)]; exact i2 l (by omega)
        · rcases Decidable.em (l = k) with q | q
          · rw [q, rk]; exact a1
          · exact i3 l (by omega) h2
  obtain ⟨g1, -, g3⟩ := go 10 (Nat.le_refl _)
  exact ⟨g3, g1⟩
