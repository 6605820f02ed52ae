/-! The room of the algebra's build. -/
/-- the sizes that are asked: the scale and the tables of x and y -/
def szB (n : Nat) (X Y : mT) (D : Int) (β : Nat) : Prop := 0 < D ∧ D ≤ 2 ^ β ∧ (∀ i j, i < n → j < n → zAbs (X i j) ≤ 2 ^ β ∧ zAbs (Y i j) ≤ 2 ^ β) ∧ β ≤ 93 ∧ okS n (8 * β + 28)
theorem mM_z {n : Nat} {A B : mT} {a b : Nat} (n4 : n ≤ 4) (hA : ∀ i j, i < n → j < n → zAbs (A i j) ≤ 2 ^ a) (hB : ∀ i j, i < n → j < n → zAbs (B i j) ≤ 2 ^ b) : ∀ i j, i < n → j < n → zAbs (mM n A B i j) ≤ 2 ^ (a + b + 2) := fun i j hi hj => dS_le n4 (fun k hk => two_le (hA i k hi hk) (hB k j hk hj))
theorem zm_1 {n : Nat} {A : mT} {a : Nat} (h : ∀ i j, i < n → j < n → zAbs (A i j) ≤ 2 ^ a) : ∀ i j, i < n → j < n → zAbs (mM n A mI i j) ≤ 2 ^ a := fun i j hi hj => by rw [(mM_I A hi hj).1]; exact h i j hi hj
theorem nQ_z {n : Nat} {X Y : mT} {D : Int} {β : Nat} (n4 : n ≤ 4) (h : szB n X Y D β) {q : Nat} (hq : q < 6) : ∀ i j, i < n → j < n → zAbs (nQ n X Y D q i j) ≤ 2 ^ (2 * β + 2) := by
  obtain ⟨D0, Db, hXY, -⟩ := h
  obtain ⟨t0, t1, t2, t3, t4, t5, t6, t7, t8, t9, t10, t11⟩ := nQ_t
  have Dz : zAbs D ≤ 2 ^ β := by rw [zAbs_nn (by omega)]; exact Db
  have hX : ∀ i j, i < n → j < n → zAbs (X i j) ≤ 2 ^ β := fun i j hi hj => (hXY i j hi hj).1
  have hY : ∀ i j, i < n → j < n → zAbs (Y i j) ≤ 2 ^ β := fun i j hi hj => (hXY i j hi hj).2
  have D1 : D ^ 1 = D := by rw [Int.pow_succ, Int.pow_zero, Int.one_mul]
  have D2 : D ^ 2 = D * D := by rw [Int.pow_succ, D1]
  have D0' : D ^ 0 = 1 := Int.pow_zero D
  intro i j hi hj
  have e1 : β + β ≤ 2 * β + 2 := by omega
  have e2 : β + β + 2 ≤ 2 * β + 2 := by omega
  have hq' : q = 0 ∨ q = 1 ∨ q = 2 ∨ q = 3 ∨ q = 4 ∨ q = 5 := by omega
  unfold nQ
  rcases hq' with rfl | rfl | rfl | rfl | rfl | rfl
  · rw [t0, t1]
    show zAbs (D ^ 2 * mI i j) ≤ _
    rw [D2]
    have h1 : zAbs (D * D * mI i j) ≤ 2 ^ (β + β + 0) := two_le (two_le Dz Dz) (by unfold mI; split <;> decide)
    exact Int.le_trans h1 (p2_m (by omega))
  · rw [t2, t3]
    show zAbs (D ^ 1 * mM n Y mI i j) ≤ _
    rw [D1]
    exact Int.le_trans (two_le Dz (zm_1 hY i j hi hj)) (p2_m e1)
  · rw [t4, t5]
    show zAbs (D ^ 1 * mM n X mI i j) ≤ _
    rw [D1]
    exact Int.le_trans (two_le Dz (zm_1 hX i j hi hj)) (p2_m e1)
  · rw [t6, t7]
    show zAbs (D ^ 0 * mM n Y (mM n Y mI) i j) ≤ _
    rw [D0', Int.one_mul]
    exact Int.le_trans (mM_z n4 hY (zm_1 hY) i j hi hj) (p2_m e2)
  · rw [t8, t9]
    show zAbs (D ^ 0 * mM n Y (mM n X mI) i j) ≤ _
    rw [D0', Int.one_mul]
    exact Int.le_trans (mM_z n4 hY (zm_1 hX) i j hi hj) (p2_m e2)
  · rw [t10, t11]
    show zAbs (D ^ 0 * mM n X (mM n X mI) i j) ≤ _
    rw [D0', Int.one_mul]
    exact Int.le_trans (mM_z n4 hX (zm_1 hX) i j hi hj) (p2_m e2)
theorem hQ_z {n : Nat} {X Y : mT} {D : Int} {β : Nat} {f : Nat → Int} (n4 : n ≤ 4) (h : szB n X Y D β) (hf : ∀ q, q < 6 → -5 ≤ f q ∧ f q ≤ 5) : ∀ i j, i < n → j < n → zAbs (hQ n X Y D f i j) ≤ 2 ^ (2 * β + 8) := fun i j hi hj => by
  have h1 := dS_b (f := fun q => nQ n X Y D q i j * f q) (W := 2 ^ (2 * β + 2 + 3)) (n := 6) (fun q hq => two_le (nQ_z n4 h hq i j hi hj) (by
    have := hf q hq
    have h3 : (2 : Int) ^ 3 = 8 := rfl
    rw [h3]
    unfold zAbs
    split <;> omega))
  have p := p2_pos (2 * β + 2 + 3)
  have e : (2 : Int) ^ (2 * β + 8) = 2 ^ (2 * β + 2 + 3) * 8 := by rw [show 2 * β + 8 = 2 * β + 2 + 3 + 3 by omega, Int.pow_add]; rfl
  have h2 : ((6 : Nat) : Int) = 6 := rfl
  rw [h2] at h1
  rw [e]
  show zAbs (dS (fun q => nQ n X Y D q i j * f q) 6) ≤ _
  omega
theorem wQ_z {n : Nat} {N : Nat → mT} {H : mT} {β : Nat} (n4 : n ≤ 4) (hN : ∀ k i j, k < n → i < n → j < n → zAbs (N k i j) ≤ 2 ^ (2 * β + 2)) (hH : ∀ i j, i < n → j < n → zAbs (H i j) ≤ 2 ^ (2 * β + 8)) : ∀ e k, k < n → zAbs (wQ n N H e k) ≤ 2 ^ (2 * β + 4 + e * (2 * β + 10))
  | 0, k, hk => by
    have := dS_le n4 (f := fun j => N k j j) (m := 2 * β + 2) (fun j hj => hN k j j hk hj hj)
    exact Int.le_trans this (p2_m (by omega))
  | e + 1, k, hk => by
    have := dS_le n4 (f := fun i => wQ n N H e i * H i k) (m := 2 * β + 4 + e * (2 * β + 10) + (2 * β + 8)) (fun i hi => two_le (wQ_z n4 hN hH e i hi) (hH i k hi hk))
    refine Int.le_trans this (p2_m ?_)
    rw [Nat.add_mul]
    omega
theorem fQ_z {n : Nat} {N : Nat → mT} {H : mT} {β : Nat} (n4 : n ≤ 4) (hN : ∀ k i j, k < n → i < n → j < n → zAbs (N k i j) ≤ 2 ^ (2 * β + 2)) (hH : ∀ i j, i < n → j < n → zAbs (H i j) ≤ 2 ^ (2 * β + 8)) {e : Nat} (he : e < 3) {i j : Nat} (hi : i < n) (hj : j < n) : zAbs (fQ n N H e i j) ≤ 2 ^ (8 * β + 28) := by
  have := dS_le n4 (f := fun k => wQ n N H e k * N i k j) (m := 2 * β + 4 + e * (2 * β + 10) + (2 * β + 2)) (fun k hk => two_le (wQ_z n4 hN hH e k hk) (hN i k j hi hk hj))
  refine Int.le_trans this (p2_m ?_)
  have he' : e = 0 ∨ e = 1 ∨ e = 2 := by omega
  rcases he' with rfl | rfl | rfl <;> omega
theorem ed_le (x : Int) (g : Nat) : zAbs (x / (g : Int)) ≤ zAbs x := by
  rcases Nat.eq_zero_or_pos g with q | q
  · rw [q, show ((0 : Nat) : Int) = 0 from rfl, Int.ediv_zero]
    exact zAbs_0 x
  · exact zAbs_dv x (by omega)
theorem bd_h2 {V : Nat → Int} {L st hs s : Int → Int} {n β : Nat} {f : Nat → Int} (h : lkV V L st hs s n) (n4 : n ≤ 4) (hD : scl V L st n = dnF hs s st n) (hl : ∀ j : Nat, j < n → ∀ w : Int, (w = 0 ∨ w = 1) → hs (mv st j w) ≠ 0 → s (45 * mv st j w + mv st j w) ∣ dnF hs s st n) (hz : szB n (xT hs s st (dnF hs s st n) 0) (xT hs s st (dnF hs s st n) 1) (dnF hs s st n) β) (hf : ∀ q, q < 6 → -5 ≤ f q ∧ f q ≤ 5) : bdQ V L st f n := by
  obtain ⟨D, eD⟩ : ∃ D, dnF hs s st n = D := ⟨_, rfl⟩
  rw [eD] at hD hl hz
  have hz' := hz
  obtain ⟨D0, Db, hXY, hβ, ok⟩ := hz'
  have Dz : zAbs D ≤ 2 ^ β := by rw [zAbs_nn (by omega)]; exact Db
  have w01 : ∀ of : Nat, of < 2 → ((of : Int) = 0 ∨ (of : Int) = 1) := fun of ho => by omega
  have ld : ∀ of : Nat, of < 2 → ∀ j : Nat, j < n → ldb L (prP (st j) of) = true → ∃ k : Nat, k < 10 ∧ prP (st j) of = k ∧ mv st j of = k ∧ hs k ≠ 0 ∧ 0 < s (45 * (k : Int) + k) ∧ s (45 * (k : Int) + k) ∣ D ∧ rb k + k < 120 ∧ V (rb k + k) = s (45 * (k : Int) + k) := fun of ho j hj g => by
    obtain ⟨k, k0, k1, k2, k3⟩ := lk_p h hj ho
    have hh := k3.mp g
    have d := hl j hj of (w01 of ho) hh
    rw [k2] at hh d
    have r10 := rb_11 (show k < 11 by omega)
    exact ⟨k, k0, k1, k2, hh, (h.2.2 k k0 hh).1, d, by omega, (h.2.2 k k0 hh).2 k k0⟩
  have tn : ∀ k : Nat, ((k : Nat) : Int).toNat = k := fun k => rfl
  obtain ⟨N, eN⟩ : ∃ N : Nat → mT, N = fun k : Nat => nQ n (xT hs s st D 0) (xT hs s st D 1) D (st k).toNat := ⟨_, rfl⟩
  obtain ⟨H, eH⟩ : ∃ H : mT, H = hQ n (xT hs s st D 0) (xT hs s st D 1) D f := ⟨_, rfl⟩
  have hN : ∀ k i j, k < n → i < n → j < n → zAbs (N k i j) ≤ 2 ^ (2 * β + 2) := fun k i j hk hi hj => by
    rw [eN]
    exact nQ_z n4 hz (by have := h.1 k hk; omega) i j hi hj
  have hH : ∀ i j, i < n → j < n → zAbs (H i j) ≤ 2 ^ (2 * β + 8) := fun i j hi hj => by rw [eH]; exact hQ_z n4 hz hf i j hi hj
  obtain ⟨c1, c2, c3, -⟩ := bv2_e h n4 hD
  obtain ⟨d1, -, d3, -⟩ := bv4_e (f := f) h n4 hD
  have DD : zAbs (D * D) ≤ 2 ^ (2 * β) := by
    have := two_le Dz Dz
    rw [show β + β = 2 * β by omega] at this
    exact this
  refine ⟨⟨D, ⟨D0, Int.le_trans Db (p2_m (by omega))⟩, fun of ho j hj g => ?_⟩, fun of ho j hj g => ?_, ?_, ⟨β, ⟨fun g hg i j hi hj => ?_, by rw [c2]; exact Dz, by rw [c3]; exact DD, by omega⟩, by omega⟩, ⟨2 * β + 2, 2 * β + 8, fun k j hk hj => ?_, fun i j hi hj => ?_, by omega⟩, fun e he => ?_, fun e he => ?_⟩
  · obtain ⟨k, k0, k1, k2, k3, k4, k5, k6, k7⟩ := ld of ho j hj g
    unfold ldC
    rw [k1, tn, k7]
    exact ⟨k4, k5⟩
  · obtain ⟨k, k0, k1, k2, k3, k4, k5, k6, k7⟩ := ld of ho j hj g
    unfold ldC
    rw [k1, tn, k7, hD]
    refine ⟨k6, k5, fun i hi => ?_⟩
    have hi6 := h.1 i hi
    have r10 := rb_11 (show k < 11 by omega)
    refine ⟨by omega, ?_⟩
    rw [(h.2.2 k k0 k3).2 (st i).toNat (by omega), show (((st i).toNat : Nat) : Int) = st i by omega]
    have b : zAbs (xT hs s st D of i j) ≤ 2 ^ β := by
      have ho' : of = 0 ∨ of = 1 := by omega
      rcases ho' with rfl | rfl
      · exact (hXY i j hi hj).1
      · exact (hXY i j hi hj).2
    have xe : xT hs s st D of i j = -(s (45 * (k : Int) + st i) * (D / s (45 * (k : Int) + k))) := by
      unfold xT
      rw [k2, if_neg k3]
    rw [xe, zAbs_ng, zAbs_x] at b
    obtain ⟨u, hu⟩ := k5
    have du : D / s (45 * (k : Int) + k) = u := by rw [hu]; exact Int.mul_ediv_cancel_left u (by omega)
    rw [du] at b
    have u1 : 1 ≤ zAbs u := by
      have u0 : u ≠ 0 := fun q => by rw [q, Int.mul_zero] at hu; omega
      unfold zAbs
      split <;> omega
    have := Int.mul_le_mul_of_nonneg_left u1 (zAbs_0 (s (45 * (k : Int) + st i)))
    have p := p2_m (show β ≤ 400 by omega)
    omega
  · rw [hD]
    exact Int.le_trans Dz (p2_m (by omega))
  · have hg' : g = 0 ∨ g = 1 := by omega
    rcases hg' with rfl | rfl
    · rw [c1 0 (by decide) i j hi hj]
      exact (hXY i j hi hj).1
    · rw [c1 1 (by decide) i j hi hj]
      exact (hXY i j hi hj).2
  · rw [d1 k j j hk hj hj]
    have := hN k j j hk hj hj
    rw [eN] at this
    exact this
  · rw [d3 i j hi hj]
    have := hH i j hi hj
    rw [eH] at this
    exact this
  · obtain ⟨a, -, -, d, -, -, w⟩ := bv6_e (f := f) h n4 hD eN eH e (by omega)
    have he' : e * (2 * β + 10) ≤ 2 * (2 * β + 10) := Nat.mul_le_mul_right _ (by omega)
    refine ⟨2 * β + 4 + e * (2 * β + 10), 2 * β + 2, 2 * β, fun k hk => ?_, fun i k j hi hk hj => ?_, by omega, by rw [d]; exact DD, by omega⟩
    · rw [w e k he hk]
      exact wQ_z n4 hN hH e k hk
    · rw [a i k j hi hk hj]
      exact hN i k j hi hk hj
  · obtain ⟨x, y, -⟩ := bv6_f (f := f) h n4 hD eN eH he (e + 1) (by omega) (by omega)
    have all : ∀ c, c < 16 → zAbs (bv6 V L st f n (e + 1) (gb (7 + e) + c)) ≤ 2 ^ (8 * β + 28) := fun c hc => by
      rcases Decidable.em (c / 4 < n ∧ c % 4 < n) with q | q
      · have := x (c / 4) (c % 4) q.1 q.2
        rw [show 4 * (c / 4) + c % 4 = c by omega] at this
        rw [this]
        split
        · exact fQ_z n4 hN hH he q.1 q.2
        · exact fQ_z n4 hN hH he q.2 q.1
      · rw [y c hc q]
        have := p2_pos (8 * β + 28)
        rw [show zAbs 0 = 0 from rfl]
        omega
    refine ⟨fun i hi => Int.le_trans (all i hi) (p2_m (by omega)), 8 * β + 28, ok, fun a b ha hb => ?_⟩
    unfold msS
    exact Int.le_trans (ed_le _ _) (all (4 * a + b) (by omega))
