/-! tables. -/
def mv (st : Int → Int) (j : Nat) (w : Int) : Int := mN (mX (st j) + 1 - w) (mY (st j) + w)
theorem mD_6 {u : Int} (h : 0 ≤ u ∧ u < 6) : mD u ≤ 2 := by
  unfold mD
  repeat' split
  all_goals omega
theorem mv_h {st : Int → Int} {j : Nat} (h : 0 ≤ st j ∧ st j < 6) : 0 ≤ mX (st j) ∧ 0 ≤ mY (st j) ∧ mX (st j) + mY (st j) = mD (st j) ∧ mD (st j) ≤ 2 ∧ ∀ w : Int, 0 ≤ w → w ≤ 1 → 0 ≤ mv st j w ∧ mv st j w < 45 := by
  have h1 := mX_h (u := st j) (by omega)
  have h2 := mY_h (u := st j) (by omega)
  have h3 := mD_6 h
  refine ⟨h1.1, h2.1, h2.2, h3, fun w w0 w1 => ?_⟩
  have h4 := mN_X (a := mX (st j) + 1 - w) (b := mY (st j) + w) (by omega)
  exact ⟨h4.1, h4.2.1⟩
def dnS (hs s : Int → Int) (k D : Int) : Int := if hs k = 0 then D else D / (Int.gcd D (s (45 * k + k)) : Int) * s (45 * k + k)
def dnF (hs s st : Int → Int) : Nat → Int
  | 0 => 1
  | j + 1 => dnS hs s (mv st j 1) (dnS hs s (mv st j 0) (dnF hs s st j))
theorem lcm_h {D r Δ : Int} (h0 : 0 < D) (h1 : 0 < r) (h2 : D ∣ Δ) (h3 : r ∣ Δ) : 0 < D / (Int.gcd D r : Int) * r ∧ D / (Int.gcd D r : Int) * r ∣ Δ ∧ D ∣ D / (Int.gcd D r : Int) * r ∧ r ∣ D / (Int.gcd D r : Int) * r := by
  obtain ⟨d, rfl⟩ : ∃ d : Nat, D = d := ⟨D.toNat, by omega⟩
  obtain ⟨e, rfl⟩ : ∃ e : Nat, r = e := ⟨r.toNat, by omega⟩
  have hg : Int.gcd (d : Int) (e : Int) = Nat.gcd d e := rfl
  have e1 : (d : Int) / ((Nat.gcd d e : Nat) : Int) * (e : Int) = ((Nat.lcm d e : Nat) : Int) := by
    rw [← Int.natCast_ediv, ← Int.natCast_mul]
    congr 1
    obtain ⟨c, hc⟩ := Nat.gcd_dvd_left d e
    have g0 : 0 < Nat.gcd d e := Nat.gcd_pos_of_pos_left _ (by omega)
    unfold Nat.lcm
    have e2 : d / Nat.gcd d e = c := Nat.div_eq_of_eq_mul_right g0 hc
    rw [e2]
    have e3 : d * e = Nat.gcd d e * (c * e) := by
      rw [← Nat.mul_assoc, ← hc]
    rw [e3, Nat.mul_div_cancel_left _ g0]
  rw [hg, e1]
  have p0 : 0 < Nat.lcm d e := Nat.lcm_pos (by omega) (by omega)
  refine ⟨by omega, ?_, ?_, ?_⟩
  · obtain ⟨a, ha⟩ : ∃ a : Nat, Δ.natAbs = a := ⟨_, rfl⟩
    apply Int.natAbs_dvd_natAbs.mp
    rw [Int.natAbs_natCast]
    exact Nat.lcm_dvd (by have := Int.natAbs_dvd_natAbs.mpr h2; rwa [Int.natAbs_natCast] at this) (by have := Int.natAbs_dvd_natAbs.mpr h3; rwa [Int.natAbs_natCast] at this)
  · exact Int.natCast_dvd_natCast.mpr (Nat.dvd_lcm_left d e)
  · exact Int.natCast_dvd_natCast.mpr (Nat.dvd_lcm_right d e)
theorem dnS_h {hs s : Int → Int} {k D Δ : Int} (h0 : 0 < D) (h2 : D ∣ Δ) (h : hs k ≠ 0 → 0 < s (45 * k + k) ∧ s (45 * k + k) ∣ Δ) : 0 < dnS hs s k D ∧ dnS hs s k D ∣ Δ ∧ D ∣ dnS hs s k D ∧ (hs k ≠ 0 → s (45 * k + k) ∣ dnS hs s k D) := by
  unfold dnS
  split
  · rename_i e
    exact ⟨h0, h2, Int.dvd_refl _, fun g => absurd e g⟩
  · rename_i e
    have := lcm_h h0 (h e).1 h2 (h e).2
    exact ⟨this.1, this.2.1, this.2.2.1, fun _ => this.2.2.2⟩
theorem dnF_h {hs s st : Int → Int} {Δ : Int} : ∀ {n : Nat}, (∀ j : Nat, j < n → ∀ w : Int, (w = 0 ∨ w = 1) → hs (mv st j w) ≠ 0 → 0 < s (45 * mv st j w + mv st j w) ∧ s (45 * mv st j w + mv st j w) ∣ Δ) → 0 < dnF hs s st n ∧ dnF hs s st n ∣ Δ ∧ ∀ j : Nat, j < n → ∀ w : Int, (w = 0 ∨ w = 1) → hs (mv st j w) ≠ 0 → s (45 * mv st j w + mv st j w) ∣ dnF hs s st n
  | 0, _ => ⟨by show (0 : Int) < 1; decide, Int.one_dvd _, fun j hj => by omega⟩
  | n + 1, h => by
    obtain ⟨a1, a2, a3⟩ := dnF_h (n := n) (fun j hj => h j (by omega))
    obtain ⟨b1, b2, b3, b4⟩ := dnS_h (k := mv st n 0) a1 a2 (h n (by omega) 0 (Or.inl rfl))
    obtain ⟨c1, c2, c3, c4⟩ := dnS_h (k := mv st n 1) b1 b2 (h n (by omega) 1 (Or.inr rfl))
    refine ⟨c1, c2, fun j hj w hw hk => ?_⟩
    rcases Nat.lt_or_ge j n with g | g
    · exact Int.dvd_trans (a3 j g w hw hk) (Int.dvd_trans b3 c3)
    · have e : j = n := by omega
      subst e
      rcases hw with rfl | rfl
      · exact Int.dvd_trans (b4 hk) c3
      · exact c4 hk
def xT (hs s st : Int → Int) (D w : Int) : mT := fun i j => if hs (mv st j w) = 0 then (if st i = mv st j w then D else 0) else -(s (45 * mv st j w + st i) * (D / s (45 * mv st j w + mv st j w)))
theorem xT_c {hs s s' st : Int → Int} {D w : Int} {i j : Nat} (h : ∀ p, p < 2070 → s' p = s p) (h2 : s' 2076 = D) (h3 : 0 ≤ mv st j w ∧ mv st j w < 45) (h4 : 0 ≤ st i ∧ st i < 45) : cV s' hs st (mv st j w) (D / s (45 * mv st j w + mv st j w)) i = xT hs s st D w i j := by
  unfold cV xT
  rw [h2, h _ (by omega)]
def hT (n : Nat) (X Y : mT) (D : Int) (q : Int → Int) : Nat → mT
  | 0 => fun _ _ => 0
  | k + 1 => fun i j => hT n X Y D q k i j + (if q k = 0 then 0 else pQ n X Y (mX k).toNat (mD k).toNat i j * (q k * D ^ (2 - (mD k).toNat)))
theorem mM_b {n : Nat} {A B : mT} {U V : Int} (hn : n ≤ 6) (hU : 0 ≤ U) (hV : 0 ≤ V) (h : mB n A U) (h2 : mB n B V) : mB n (mM n A B) (6 * (U * V)) := by
  intro i j hi hj
  have t1 := dS_b (f := fun k => A i k * B k j) (W := U * V) (n := n) (fun k hk => by
    rw [zAbs_x]
    exact Int.mul_le_mul (h i k hi hk) (h2 k j hk hj) (zAbs_p _) hU)
  have t2 : (n : Int) * (U * V) ≤ 6 * (U * V) := Int.mul_le_mul_of_nonneg_right (by omega) (Int.mul_nonneg hU hV)
  exact Int.le_trans t1 t2
theorem mI_b (n : Nat) : mB n mI 1 := by
  intro i j _ _
  unfold mI
  split <;> decide
theorem pQ_b {n : Nat} {X Y : mT} {U : Int} {a : Nat} (hn : n ≤ 6) (hU : 1 ≤ U) (hX : mB n X U) (hY : mB n Y U) : mB n (pQ n X Y a 0) 1 ∧ mB n (pQ n X Y a 1) (6 * U) ∧ mB n (pQ n X Y a 2) (36 * (U * U)) := by
  have h0 := mI_b n
  have hz : ∀ k, mB n (if k < a then X else Y) U := fun k => by split <;> assumption
  have h1 := mM_b hn (by omega) (by decide) (hz 0) h0
  rw [Int.mul_one] at h1
  have h2 := mM_b hn (by omega) (by omega) (hz 1) h1
  refine ⟨h0, h1, ?_⟩
  have e : 6 * (U * (6 * U)) = 36 * (U * U) := by grind
  rw [e] at h2
  exact h2
/-- what the tables must stand in for -/
def tOk (hs s st q : Int → Int) (n : Nat) (s' : Int → Int) : Prop :=
  (∀ p, p < 2070 → s' p = s p) ∧ s' 2076 = dnF hs s st n ∧ mQ n (tb s' 2080) (xT hs s st (dnF hs s st n) 0) ∧ mQ n (tb s' 2116) (xT hs s st (dnF hs s st n) 1) ∧ (∀ i : Nat, i < n → mQ n (tb s' (2440 + 36 * i)) (pQ n (xT hs s st (dnF hs s st n) 0) (xT hs s st (dnF hs s st n) 1) (mX (st i)).toNat (mD (st i)).toNat)) ∧ mQ n (tb s' 2152) (hT n (xT hs s st (dnF hs s st n) 0) (xT hs s st (dnF hs s st n) 1) (dnF hs s st n) q 6)
/-- the room that tables needs -/
def tRm (hs s st q : Int → Int) (n : Nat) (Δ U : Int) : Prop :=
  (∀ j : Nat, j < n → ∀ w : Int, (w = 0 ∨ w = 1) → hs (mv st j w) ≠ 0 → 0 < s (45 * mv st j w + mv st j w) ∧ s (45 * mv st j w + mv st j w) ∣ Δ) ∧ 0 < Δ ∧ Δ ≤ U ∧ 1 ≤ U ∧ mB n (xT hs s st (dnF hs s st n) 0) U ∧ mB n (xT hs s st (dnF hs s st n) 1) U ∧ (∀ k : Nat, k < 6 → -5 ≤ q k ∧ q k ≤ 5) ∧ 1080 * (U * U) < bB ^ 598
def SX10_tables : eSp := fun as M rt => ∃ (F : Nat → Int) (A : Nat → Int → Int) (s : Int → Int) (n : Nat) (Δ U : Int), as = [eRR] ∧ M = cR F A ∧ rn (A 0) s ∧ F 19 = n ∧ n ≤ 6 ∧ (∀ k, A 15 k = 0 ∨ A 15 k = 1) ∧ (∀ j : Nat, j < n → 0 ≤ A 18 j ∧ A 18 j < 6) ∧ tRm (A 15) s (A 18) (A 8) n Δ U ∧ ∀ (A' : Nat → Int → Int) (s' : Int → Int), sN A A' → rn (A' 0) s' → tOk (A 15) s (A 18) (A 8) n s' → rt none (cR F A')
theorem SX10_tables_i {F : Nat → Int} {A : Nat → Int → Int} {s : Int → Int} {n : Nat} (Δ U : Int) {rt : Option eV → eM → Prop} (hr : rn (A 0) s) (h0 : F 19 = n) (h1 : n ≤ 6) (h2 : ∀ k, A 15 k = 0 ∨ A 15 k = 1) (h3 : ∀ j : Nat, j < n → 0 ≤ A 18 j ∧ A 18 j < 6) (h4 : tRm (A 15) s (A 18) (A 8) n Δ U) (h : ∀ (A' : Nat → Int → Int) (s' : Int → Int), sN A A' → rn (A' 0) s' → tOk (A 15) s (A 18) (A 8) n s' → rt none (cR F A')) : SX10_tables [eRR] (cR F A) rt := ⟨F, A, s, n, Δ, U, rfl, rfl, hr, h0, h1, h2, h3, h4, h⟩
theorem SX10_tables_r : ∀ as M rt, SX10_tables as M rt → ∃ a r fs, as = eR a :: r ∧ M a = some (.inl (9, fs)) := by
  rintro as M rt ⟨F, A, s, n, Δ, U, rfl, rfl, -⟩
  exact ⟨_, _, _, rfl, rfl⟩
theorem zAbs_nn {x : Int} (h : 0 ≤ x) : zAbs x = x := by unfold zAbs; rw [if_neg (by omega)]
theorem hT_b {n : Nat} {X Y : mT} {D U : Int} {q : Int → Int} (hn : n ≤ 6) (hU : 1 ≤ U) (hX : mB n X U) (hY : mB n Y U) (hD : 0 < D ∧ D ≤ U) (hq : ∀ k : Nat, k < 6 → -5 ≤ q k ∧ q k ≤ 5) (k : Nat) (hk : k < 6) : zAbs (q k * D ^ (2 - (mD k).toNat)) ≤ 5 * (U * U) ∧ mB n (fun i j => pQ n X Y (mX k).toNat (mD k).toNat i j * (q k * D ^ (2 - (mD k).toNat))) (180 * (U * U)) := by
  have hz : zAbs (q k) ≤ 5 := by have := hq k hk; unfold zAbs; split <;> omega
  have hUU : U ≤ U * U := by have := Int.mul_le_mul_of_nonneg_left hU (show 0 ≤ U by omega); rw [Int.mul_one] at this; exact this
  have hDD : D * D ≤ U * U := Int.mul_le_mul hD.2 hD.2 (by omega) (by omega)
  obtain ⟨p0, p1, p2⟩ := pQ_b (a := (mX k).toNat) hn hU hX hY
  have hd : (mD k).toNat = 0 ∨ (mD k).toNat = 1 ∨ (mD k).toNat = 2 := by
    have := mD_6 (u := (k : Int)) (by omega)
    omega
  have comb : ∀ (x y : Int) (V W : Int), zAbs x ≤ V → zAbs y ≤ W → 0 ≤ V → zAbs (x * y) ≤ V * W := fun x y V W hx hy hV => by
    rw [zAbs_x]
    exact Int.mul_le_mul hx hy (zAbs_p _) hV
  rcases hd with e | e | e
  · rw [e]
    have a1 : zAbs (D ^ (2 - 0)) ≤ U * U := by
      rw [show D ^ (2 - 0) = D * D by grind, zAbs_nn (Int.mul_nonneg (by omega) (by omega))]
      exact hDD
    have a2 := comb (q k) _ 5 (U * U) hz a1 (by decide)
    refine ⟨a2, fun i j hi hj => ?_⟩
    have := comb _ _ 1 (5 * (U * U)) (p0 i j hi hj) a2 (by decide)
    refine Int.le_trans this ?_
    omega
  · rw [e]
    have a1 : zAbs (D ^ (2 - 1)) ≤ U := by
      rw [show D ^ (2 - 1) = D by grind, zAbs_nn (by omega)]
      exact hD.2
    have a2 := comb (q k) _ 5 U hz a1 (by decide)
    refine ⟨by omega, fun i j hi hj => ?_⟩
    have := comb _ _ (6 * U) (5 * U) (p1 i j hi hj) a2 (by omega)
    refine Int.le_trans this ?_
    rw [show 6 * U * (5 * U) = 30 * (U * U) by grind]
    omega
  · rw [e]
    have a1 : zAbs (D ^ (2 - 2)) ≤ 1 := by
      rw [show D ^ (2 - 2) = 1 by grind]
      decide
    have a2 := comb (q k) _ 5 1 hz a1 (by decide)
    refine ⟨by omega, fun i j hi hj => ?_⟩
    have := comb _ _ (36 * (U * U)) (5 * 1) (p2 i j hi hj) a2 (by omega)
    refine Int.le_trans this ?_
    omega
theorem hT_B {n : Nat} {X Y : mT} {D W : Int} {q : Int → Int} (hW : 0 ≤ W) (h : ∀ k, k < 6 → mB n (fun i j => pQ n X Y (mX (k : Nat)).toNat (mD (k : Nat)).toNat i j * (q (k : Nat) * D ^ (2 - (mD (k : Nat)).toNat))) W) : ∀ k, k ≤ 6 → mB n (hT n X Y D q k) (k * W)
  | 0, _, i, j, _, _ => by
    show zAbs 0 ≤ _
    rw [show ((0 : Nat) : Int) = 0 from rfl, Int.zero_mul]
    decide
  | k + 1, hk, i, j, hi, hj => by
    have h1 := hT_B hW h k (by omega) i j hi hj
    have h2 : zAbs (if q k = 0 then 0 else pQ n X Y (mX k).toNat (mD k).toNat i j * (q k * D ^ (2 - (mD k).toNat))) ≤ W := by
      split
      · exact hW
      · exact h k (by omega) i j hi hj
    have h3 := zAbs_tri (hT n X Y D q k i j) (if q k = 0 then 0 else pQ n X Y (mX k).toNat (mD k).toNat i j * (q k * D ^ (2 - (mD k).toNat)))
    rw [show ((k + 1 : Nat) : Int) = (k : Int) + 1 by omega, Int.add_mul, Int.one_mul]
    show zAbs (_ + _) ≤ _
    omega
