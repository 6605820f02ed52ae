/-! The tables of x and y commute; what they make of 1. -/
def ev (k : Nat) : lV := fun c => if c = k then 1 else 0
/-- the standard monomials, in order, all of them -/
def stO (z : (Int → Int) × (Int → Int)) (st : Int → Int) (n : Nat) : Prop := (∀ j : Nat, j < n → 0 ≤ st j ∧ st j < 6 ∧ z.1 (st j) = 0) ∧ (∀ i j : Nat, i < j → j < n → st i < st j) ∧ ∀ k : Nat, k < 15 → z.1 k = 0 → ∃ i : Nat, i < n ∧ st i = k
theorem stO_i {z : (Int → Int) × (Int → Int)} {st : Int → Int} {n : Nat} (h : stO z st n) {i j : Nat} (hi : i < n) (hj : j < n) (e : st i = st j) : i = j := by
  rcases Nat.lt_trichotomy i j with q | q | q
  · have := h.2.1 i j q hj; omega
  · exact q
  · have := h.2.1 j i q hi; omega
theorem ev_xs {w : Int} {k : Nat} (hw : w = 0 ∨ w = 1) (hk : k < 10) (c : Nat) : xs w (ev k) c = ev (sh w k) c := by
  obtain ⟨-, h15⟩ := sh_i (k := k) hw hk
  unfold xs ev
  rcases Nat.lt_or_ge c 15 with g | g
  · have := shP_e hw g hk
    rcases Nat.lt_or_ge (shP w c) 10 with q | q
    · rw [if_pos ⟨g, q⟩]
      rcases Decidable.em (shP w c = k) with e | e
      · rw [if_pos e, if_pos (this.mp e)]
      · rw [if_neg e, if_neg (fun e2 => e (this.mpr e2))]
    · rw [if_neg (by omega), if_neg (fun e => by have := this.mpr e; omega)]
  · rw [if_neg (by omega), if_neg (by omega)]
theorem dS_ev {st : Int → Int} {n : Nat} {g : Nat → Int} {c : Nat} : (∀ i : Nat, i < n → (st i).toNat ≠ c) → dS (fun i => g i * ev (st i).toNat c) n = 0 := fun h => dS_0 (fun i hi => by unfold ev; rw [if_neg (fun e => h i hi e.symm)]; omega)
section
variable {hs0 s0 st : Int → Int} {z : (Int → Int) × (Int → Int)} {n : Nat} {D : Int}
theorem dS_e1 (h : stO z st n) {g : Nat → Int} {k : Nat} (hk : k < n) : dS (fun i => g i * ev (st i).toNat (st k).toNat) n = g k := by
  rw [dS_1 (q := k) hk (fun l hl hn => ?_)]
  · unfold ev; rw [if_pos rfl]; omega
  · unfold ev
    rw [if_neg (fun e => hn (stO_i h hl hk (by have := h.1 l hl; have := h.1 k hk; omega)))]
    omega
theorem mv_sh (h : stO z st n) {j : Nat} (hj : j < n) {w : Int} (hw : w = 0 ∨ w = 1) : mv st j w = sh w (st j).toNat ∧ sh w (st j).toNat < 10 := by
  have hj6 := h.1 j hj
  obtain ⟨k, hk⟩ : ∃ k : Nat, st j = k := ⟨(st j).toNat, by omega⟩
  rw [hk, show ((k : Nat) : Int).toNat = k from rfl]
  unfold mv
  rw [hk]
  refine ⟨(sh_i (k := k) hw (by omega)).1, ?_⟩
  rcases hw with rfl | rfl
  · exact (sh_10 0 ⟨k, by omega⟩).1
  · exact (sh_10 1 ⟨k, by omega⟩).1
theorem xt_W (F : fin hs0 s0 z) (h : stO z st n) {w : Int} (hw : w = 0 ∨ w = 1) (hD : ∀ j : Nat, j < n → z.1 (mv st j w) ≠ 0 → z.2 (45 * mv st j w + mv st j w) ∣ D) {j : Nat} (hj : j < n) : wW z (fun c => D * xs w (ev (st j).toNat) c + -1 * dS (fun i => xT z.1 z.2 st D w i j * ev (st i).toNat c) n) := by
  have e := fin_e F
  have wc := wW_c F
  have hj6 := h.1 j hj
  obtain ⟨m1, m2⟩ := mv_sh h hj hw
  obtain ⟨q, hq⟩ : ∃ q, sh w (st j).toNat = q := ⟨_, rfl⟩
  have x1 : ∀ c, xs w (ev (st j).toNat) c = ev q c := fun c => by rw [ev_xs hw (by omega), hq]
  rw [hq] at m1 m2
  rcases Decidable.em (z.1 q = 0) with g | g
  · refine lin_0 wc.1 (fun c => ?_)
    obtain ⟨i0, hi0, e0⟩ := h.2.2 q (by omega) g
    have xe : ∀ i : Nat, xT z.1 z.2 st D w i j = if st i = q then D else 0 := fun i => by unfold xT; rw [m1, if_pos g]
    rw [x1]
    have q0 : (st i0).toNat = q := by omega
    rcases Decidable.em (c = q) with ec | ec
    · rw [ec, ← q0, dS_e1 h hi0, xe, if_pos e0, q0]
      unfold ev
      rw [if_pos rfl]
      omega
    · have : dS (fun i => xT z.1 z.2 st D w i j * ev (st i).toNat c) n = 0 := dS_0 (fun i hi => by
        rw [xe]
        unfold ev
        have := h.1 i hi
        rcases Decidable.em (st i = q) with e2 | e2
        · rw [if_neg (show ¬ c = (st i).toNat by omega)]; omega
        · rw [if_neg e2]; omega)
      rw [this]
      unfold ev
      rw [if_neg ec]
      omega
  · obtain ⟨p0, pz, pl, -⟩ := e q (by omega) g
    have dq := hD j hj (by rw [m1]; exact g)
    rw [m1] at dq
    have rq : z.2 (45 * (q : Int) + q) = rv z.2 q q := (rv_in (by omega)).symm
    rw [rq] at dq
    obtain ⟨u, hu⟩ := dq
    have du : D / rv z.2 q q = u := by rw [hu]; exact Int.mul_ediv_cancel_left u (by omega)
    have xe : ∀ i : Nat, i < n → xT z.1 z.2 st D w i j = -(rv z.2 q (st i).toNat * u) := fun i hi => by
      have := h.1 i hi
      unfold xT
      rw [m1, if_neg g, rq, du]
      rw [rv_in (show (st i).toNat < 15 by omega), show (((st i).toNat : Nat) : Int) = st i by omega]
    refine lin_c wc.1 u (wW_r (by omega) g) (fun c => ?_)
    rw [x1]
    have s1 : dS (fun i => xT z.1 z.2 st D w i j * ev (st i).toNat c) n = -u * dS (fun i => rv z.2 q (st i).toNat * ev (st i).toNat c) n := by
      rw [← dS_sc]
      exact dS_c (fun i hi => by rw [xe i hi]; grind)
    rw [s1]
    have s2 : dS (fun i => rv z.2 q (st i).toNat * ev (st i).toNat c) n = rv z.2 q c - rv z.2 q q * ev q c := by
      rcases Nat.lt_or_ge c 15 with c15 | c15
      · rcases Decidable.em (z.1 c = 0) with gc | gc
        · obtain ⟨i0, hi0, e0⟩ := h.2.2 c c15 gc
          have q0 : (st i0).toNat = c := by omega
          have := dS_e1 h (g := fun i => rv z.2 q (st i).toNat) hi0
          rw [q0] at this
          rw [this]
          have cq : c ≠ q := fun e2 => by rw [e2] at gc; exact g gc
          unfold ev
          rw [if_neg cq]
          omega
        · rw [dS_ev (g := fun i => rv z.2 q (st i).toNat) (fun i hi e2 => by
            have := h.1 i hi
            rw [← e2, show (((st i).toNat : Nat) : Int) = st i by omega] at gc
            exact gc this.2.2)]
          unfold ev
          rcases Decidable.em (c = q) with cq | cq
          · rw [if_pos cq, cq]; omega
          · rw [if_neg cq, pl c c15 cq gc]; omega
      · rw [dS_ev (g := fun i => rv z.2 q (st i).toNat) (fun i hi e2 => by have := h.1 i hi; omega), rv_o z.2 q c15]
        unfold ev
        rw [if_neg (by omega)]
        omega
    rw [s2, hu]
    grind
/-- THE TABLES OF x AND y COMMUTE -/
theorem xy_c (F : fin hs0 s0 z) (h : stO z st n) (hD : ∀ j : Nat, j < n → ∀ w : Int, (w = 0 ∨ w = 1) → z.1 (mv st j w) ≠ 0 → z.2 (45 * mv st j w + mv st j w) ∣ D) : cm n (xT z.1 z.2 st D 0) (xT z.1 z.2 st D 1) := by
  have e := fin_e F
  have wc := wW_c F
  have l01 := lr_01
  -- one order
  have one : ∀ (w w' : Int), (w = 0 ∨ w = 1) → (w' = 0 ∨ w' = 1) → ∀ j, j < n → wW z (fun c => D * D * xs w (xs w' (ev (st j).toNat)) c + -1 * dS (fun k => mM n (xT z.1 z.2 st D w) (xT z.1 z.2 st D w') k j * ev (st k).toNat c) n) := fun w w' hw hw' j hj => by
    have hj6 := h.1 j hj
    have m2 := (mv_sh h hj hw').2
    have a := xt_W F h hw' (fun j hj => hD j hj w' hw') hj
    have a10 : ∀ c, 10 ≤ c → D * xs w' (ev (st j).toNat) c + -1 * dS (fun i => xT z.1 z.2 st D w' i j * ev (st i).toNat c) n = 0 := fun c hc => by
      rw [ev_xs hw' (by omega), dS_ev (g := fun i => xT z.1 z.2 st D w' i j) (fun i hi e2 => by have := h.1 i hi; omega)]
      unfold ev
      rw [if_neg (by omega)]
      omega
    have b := wc.2 _ w hw a10 a
    have bs' : ∀ c, xs w (fun c => D * xs w' (ev (st j).toNat) c + -1 * dS (fun i => xT z.1 z.2 st D w' i j * ev (st i).toNat c) n) c = D * xs w (xs w' (ev (st j).toNat)) c - dS (fun i => xT z.1 z.2 st D w' i j * xs w (ev (st i).toNat) c) n := fun c => by
      rw [xs_l, xs_S]
      omega
    have cS : wW z (fun c => dS (fun i => xT z.1 z.2 st D w' i j * (D * xs w (ev (st i).toNat) c + -1 * dS (fun k => xT z.1 z.2 st D w k i * ev (st k).toNat c) n)) n) := lin_S wc.1 (c := fun i => xT z.1 z.2 st D w' i j) (r := fun i c => D * xs w (ev (st i).toNat) c + -1 * dS (fun k => xT z.1 z.2 st D w k i * ev (st k).toNat c) n) (fun i hi _ => xt_W F h hw (fun j hj => hD j hj w hw) hi)
    refine lin_d wc.1 (T := 1) (a := D) (b := 1) (by decide) b cS (fun c => ?_)
    rw [bs']
    have s1 : dS (fun i => xT z.1 z.2 st D w' i j * (D * xs w (ev (st i).toNat) c + -1 * dS (fun k => xT z.1 z.2 st D w k i * ev (st k).toNat c) n)) n = D * dS (fun i => xT z.1 z.2 st D w' i j * xs w (ev (st i).toNat) c) n + -1 * dS (fun i => xT z.1 z.2 st D w' i j * dS (fun k => xT z.1 z.2 st D w k i * ev (st k).toNat c) n) n := by
      rw [← dS_l]
      exact dS_c (fun i _ => by grind)
    have s2 : dS (fun i => xT z.1 z.2 st D w' i j * dS (fun k => xT z.1 z.2 st D w k i * ev (st k).toNat c) n) n = dS (fun k => mM n (xT z.1 z.2 st D w) (xT z.1 z.2 st D w') k j * ev (st k).toNat c) n := by
      have e1 : dS (fun i => xT z.1 z.2 st D w' i j * dS (fun k => xT z.1 z.2 st D w k i * ev (st k).toNat c) n) n = dS (fun i => dS (fun k => xT z.1 z.2 st D w k i * xT z.1 z.2 st D w' i j * ev (st k).toNat c) n) n := dS_c (fun i _ => by
        rw [← dS_sc]
        exact dS_c (fun k _ => by grind))
      rw [e1, dS_sw]
      exact dS_c (fun k _ => dS_sr _ _ _)
    rw [s1, s2]
    grind
  intro i j hi hj
  have a := one 0 1 l01.1 l01.2 j hj
  have b := one 1 0 l01.2 l01.1 j hj
  have d := wc.1.1 _ _ 1 (-1) b a
  have ed : ∀ c, 1 * (D * D * xs 1 (xs 0 (ev (st j).toNat)) c + -1 * dS (fun k => mM n (xT z.1 z.2 st D 1) (xT z.1 z.2 st D 0) k j * ev (st k).toNat c) n) + -1 * (D * D * xs 0 (xs 1 (ev (st j).toNat)) c + -1 * dS (fun k => mM n (xT z.1 z.2 st D 0) (xT z.1 z.2 st D 1) k j * ev (st k).toNat c) n) = dS (fun k => mM n (xT z.1 z.2 st D 0) (xT z.1 z.2 st D 1) k j * ev (st k).toNat c) n - dS (fun k => mM n (xT z.1 z.2 st D 1) (xT z.1 z.2 st D 0) k j * ev (st k).toNat c) n := fun c => by
    rw [xs_cc]
    omega
  have zz := wsp_z e d.1 15 (Nat.le_refl _) (fun c h1 h2 => by omega) (fun c hc hl => by
    rw [ed c, dS_ev (g := fun k => mM n (xT z.1 z.2 st D 0) (xT z.1 z.2 st D 1) k j) (fun i hi e2 => ?_), dS_ev (g := fun k => mM n (xT z.1 z.2 st D 1) (xT z.1 z.2 st D 0) k j) (fun i hi e2 => ?_)]
    · rfl
    · have := h.1 i hi
      rw [← e2, show (((st i).toNat : Nat) : Int) = st i by omega] at hl
      exact hl this.2.2
    · have := h.1 i hi
      rw [← e2, show (((st i).toNat : Nat) : Int) = st i by omega] at hl
      exact hl this.2.2) (st i).toNat (by have := h.1 i hi; omega)
  rw [ed, dS_e1 h (g := fun k => mM n (xT z.1 z.2 st D 0) (xT z.1 z.2 st D 1) k j) hi, dS_e1 h (g := fun k => mM n (xT z.1 z.2 st D 1) (xT z.1 z.2 st D 0) k j) hi] at zz
  omega
/-- a product that is standard -/
theorem xt_1 (h : stO z st n) {w : Int} {j k : Nat} (hk : k < n) (e : mv st j w = st k) {i : Nat} (hi : i < n) : xT z.1 z.2 st D w i j = if i = k then D else 0 := by
  unfold xT
  rw [e, if_pos (h.1 k hk).2.2]
  rcases Decidable.em (i = k) with q | q
  · rw [if_pos q, if_pos (by rw [q])]
  · rw [if_neg q, if_neg (fun e2 => q (stO_i h hi hk e2))]
theorem st_0 (F : fin hs0 s0 z) (h : stO z st n) (n0 : 0 < n) : st (0 : Nat) = 0 ∧ z.1 (0 : Nat) = 0 := by
  have z0 : z.1 (0 : Nat) = 0 := by
    rcases Decidable.em (z.1 (0 : Nat) = 0) with q | q
    · exact q
    · have h0 := h.1 0 n0
      have := lead_dv F (k := (st (0 : Nat)).toNat) (by omega) 15 0 (by omega) (by decide) q (by
        have : ∀ k : Fin 15, dvb 0 k.val = true := by decide +kernel
        exact this ⟨(st (0 : Nat)).toNat, by omega⟩)
      rw [show (((st (0 : Nat)).toNat : Nat) : Int) = st (0 : Nat) by omega] at this
      exact absurd h0.2.2 this
  obtain ⟨i, i0, i1⟩ := h.2.2 0 (by decide) z0
  rcases Nat.eq_zero_or_pos i with q | q
  · rw [q] at i1; exact ⟨i1, z0⟩
  · have := h.2.1 0 i q i0
    have := h.1 0 n0
    omega
theorem nq_0 (F : fin hs0 s0 z) (h : stO z st n) {k : Nat} (hk : k < n) {i : Nat} (hi : i < n) : nQ n (xT z.1 z.2 st D 0) (xT z.1 z.2 st D 1) D (st k).toNat i 0 = if i = k then D * D else 0 := by
  obtain ⟨t0, t1, t2, t3, t4, t5, t6, t7, t8, t9, t10, t11⟩ := nQ_t
  have n0 : 0 < n := by omega
  obtain ⟨s00, z00⟩ := st_0 F h n0
  have hk6 := h.1 k hk
  -- a table on a column c e_j
  have cl : ∀ (w : Int) (Z : mT) (c : Int) (j m : Nat), j < n → m < n → (∀ l, l < n → Z l 0 = if l = j then c else 0) → mv st j w = st m → ∀ l, l < n → mM n (xT z.1 z.2 st D w) Z l 0 = if l = m then D * c else 0 := fun w Z c j m hj hm hZ e l hl => by
    show dS (fun q => xT z.1 z.2 st D w l q * Z q 0) n = _
    rw [dS_1 (q := j) hj (fun q hq hn => by rw [hZ q hq, if_neg hn]; omega), hZ j hj, if_pos rfl, xt_1 h hm e hl]
    split
    · rfl
    · omega
  have I0 : ∀ l, l < n → mI l 0 = if l = 0 then 1 else 0 := fun l _ => rfl
  -- the divisors of a standard monomial are standard
  have dn : ∀ a : Nat, a < 6 → dvb a (st k).toNat = true → ∃ i : Nat, i < n ∧ st i = a := fun a ha hd => h.2.2 a (by omega) (by
    rcases Decidable.em (z.1 a = 0) with q | q
    · exact q
    · have := lead_dv F (k := (st k).toNat) (by omega) 15 a (by omega) (by omega) q hd
      rw [show (((st k).toNat : Nat) : Int) = st k by omega] at this
      exact absurd hk6.2.2 this)
  have mvc : ∀ (j : Nat) (w : Int) (a b : Int), st j = a → mN (mX a + 1 - w) (mY a + w) = b → mv st j w = b := fun j w a b e1 e2 => by
    unfold mv
    rw [e1]
    exact e2
  obtain ⟨q, hq⟩ : ∃ q : Nat, (st k).toNat = q := ⟨_, rfl⟩
  have sk : st k = q := by omega
  have q6 : q < 6 := by omega
  rw [hq] at dn ⊢
  have D1 : D ^ 1 = D := by rw [Int.pow_succ, Int.pow_zero, Int.one_mul]
  have D2 : D ^ 2 = D * D := by rw [Int.pow_succ, D1]
  have D0 : D ^ 0 = 1 := Int.pow_zero D
  have hq' : q = 0 ∨ q = 1 ∨ q = 2 ∨ q = 3 ∨ q = 4 ∨ q = 5 := by omega
  unfold nQ
  rcases hq' with rfl | rfl | rfl | rfl | rfl | rfl
  · rw [t0, t1]
    have k0 : k = 0 := stO_i h hk n0 (by rw [sk, s00]; rfl)
    show D ^ 2 * mI i 0 = _
    rw [I0 i hi, D2, k0]
    split <;> omega
  · rw [t2, t3]
    have a := cl 1 mI 1 0 k n0 hk I0 (mvc 0 1 0 (st k) s00 (by rw [sk]; decide)) i hi
    show D ^ 1 * mM n (xT z.1 z.2 st D 1) mI i 0 = _
    rw [a, D1]
    split
    · grind
    · grind
  · rw [t4, t5]
    have a := cl 0 mI 1 0 k n0 hk I0 (mvc 0 0 0 (st k) s00 (by rw [sk]; decide)) i hi
    show D ^ 1 * mM n (xT z.1 z.2 st D 0) mI i 0 = _
    rw [a, D1]
    split
    · grind
    · grind
  · rw [t6, t7]
    obtain ⟨p, p0, p1⟩ := dn 1 (by decide) (by decide +kernel)
    have a := cl 1 mI 1 0 p n0 p0 I0 (mvc 0 1 0 (st p) s00 (by rw [p1]; decide))
    have b := cl 1 _ _ p k p0 hk a (mvc p 1 1 (st k) p1 (by rw [sk]; decide)) i hi
    show D ^ 0 * mM n (xT z.1 z.2 st D 1) (mM n (xT z.1 z.2 st D 1) mI) i 0 = _
    rw [b, D0]
    split
    · grind
    · grind
  · rw [t8, t9]
    obtain ⟨p, p0, p1⟩ := dn 2 (by decide) (by decide +kernel)
    have a := cl 0 mI 1 0 p n0 p0 I0 (mvc 0 0 0 (st p) s00 (by rw [p1]; decide))
    have b := cl 1 _ _ p k p0 hk a (mvc p 1 2 (st k) p1 (by rw [sk]; decide)) i hi
    show D ^ 0 * mM n (xT z.1 z.2 st D 1) (mM n (xT z.1 z.2 st D 0) mI) i 0 = _
    rw [b, D0]
    split
    · grind
    · grind
  · rw [t10, t11]
    obtain ⟨p, p0, p1⟩ := dn 2 (by decide) (by decide +kernel)
    have a := cl 0 mI 1 0 p n0 p0 I0 (mvc 0 0 0 (st p) s00 (by rw [p1]; decide))
    have b := cl 0 _ _ p k p0 hk a (mvc p 0 2 (st k) p1 (by rw [sk]; decide)) i hi
    show D ^ 0 * mM n (xT z.1 z.2 st D 0) (mM n (xT z.1 z.2 st D 0) mI) i 0 = _
    rw [b, D0]
    split
    · grind
    · grind
end
