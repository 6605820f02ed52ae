/-! The class's rows beside fully reduced ones: reduce and insert. -/
def pd (v : Nat → Int) : lV := fun j => if j < 10 then v j else 0
theorem pd_i {v : Nat → Int} {j : Nat} (h : j < 10) : pd v j = v j := if_pos h
theorem pd_o {v : Nat → Int} {j : Nat} (h : 10 ≤ j) : pd v j = 0 := if_neg (by omega)
theorem pd_e {u v : Nat → Int} (h : ∀ j, j < 10 → u j = v j) : pd u = pd v := funext (fun j => by
  unfold pd
  split
  · rename_i q
    exact h j q
  · rfl)
/-- all rows with leads are in a set -/
def rj (J : lV → Prop) (R : Nat → Nat → Int) (L : Int → Int) : Prop := ∀ l : Nat, l < 10 → L l ≠ 0 → J (pd (R l))
theorem sm_c (v : Nat → Int) {i : Nat} (hi : i < 10) : (cG v 10 : Int) * sm v i = v i := Int.mul_ediv_cancel' (cG_d v 10 i hi)
theorem cG_m {V : Nat → Int} {c : Int} : ∀ {n : Nat}, (∀ k, k < n → c ∣ V k) → c ∣ (cG V n : Int)
  | 0, _ => ⟨0, by show (0 : Int) = _; omega⟩
  | n + 1, h => Int.dvd_coe_gcd (cG_m (fun k hk => h k (by omega))) (h n (by omega))
/-- nothing divides all numbers of a simplified row -/
def pm (v : Nat → Int) : Prop := ∀ c : Int, (∀ k, k < 10 → c ∣ v k) → c ∣ 1
theorem sm_p {v : Nat → Int} {i : Nat} (hi : i < 10) (h : v i ≠ 0) : pm (sm v) := fun c hc => by
  have g0 := (sm_n hi h).2.2.2
  have d : (cG v 10 : Int) * c ∣ (cG v 10 : Int) := cG_m (fun k hk => by
    rw [← sm_c v hk]
    exact Int.mul_dvd_mul (Int.dvd_refl _) (hc k hk))
  obtain ⟨x, hx⟩ := d
  refine ⟨x, ?_⟩
  have : (cG v 10 : Int) * 1 = (cG v 10 : Int) * (c * x) := by rw [Int.mul_one, ← Int.mul_assoc]; exact hx
  exact Int.eq_of_mul_eq_mul_left (by omega) this
theorem sm_J {J : lV → Prop} (h : lin J) (v : Nat → Int) : J (pd v) ↔ J (pd (sm v)) := by
  rcases Decidable.em ((cG v 10 : Int) = 0) with g | g
  · have z : ∀ i, i < 10 → v i = 0 := fun i hi => by rw [← sm_c v hi, g, Int.zero_mul]
    have e : pd (sm v) = pd v := pd_e (fun j hj => by rw [z j hj, sm_0 (z j hj)])
    rw [e]
  · constructor
    · intro hv
      refine lin_d h g hv h.2.2 (a := 1) (b := 0) (fun k => ?_)
      rcases Nat.lt_or_ge k 10 with q | q
      · rw [pd_i q, pd_i q, sm_c v q]; omega
      · rw [pd_o q, pd_o q]; omega
    · intro hv
      refine lin_c h (cG v 10 : Int) hv (fun k => ?_)
      rcases Nat.lt_or_ge k 10 with q | q
      · rw [pd_i q, pd_i q, sm_c v q]
      · rw [pd_o q, pd_o q]; omega
theorem el_J {J : lV → Prop} (h : lin J) {v u : Nat → Int} {p : Nat} (u0 : 0 < u p) (hu : J (pd u)) : J (pd v) ↔ J (pd (el v u p)) := by
  have gp := gcd_p (y := v p) u0
  obtain ⟨C, hC⟩ : ∃ C, u p / (Int.gcd (u p) (v p) : Int) = C := ⟨_, rfl⟩
  obtain ⟨D, hD⟩ : ∃ D, v p / (Int.gcd (u p) (v p) : Int) = D := ⟨_, rfl⟩
  have C0 : C ≠ 0 := by
    intro q
    obtain ⟨a, ha⟩ := gp.2.1
    have e : u p / (Int.gcd (u p) (v p) : Int) = a := by
      have : u p / (Int.gcd (u p) (v p) : Int) = (Int.gcd (u p) (v p) : Int) * a / (Int.gcd (u p) (v p) : Int) := congrArg (fun z => z / (Int.gcd (u p) (v p) : Int)) ha
      rw [this]
      exact Int.mul_ediv_cancel_left a (by omega)
    rw [← hC, e] at q
    rw [q] at ha
    omega
  have ek : ∀ k, pd (el v u p) k = C * pd v k + -D * pd u k := fun k => by
    rcases Nat.lt_or_ge k 10 with q | q
    · rw [pd_i q, pd_i q, pd_i q]
      unfold el
      rw [hC, hD]
      grind
    · rw [pd_o q, pd_o q, pd_o q]; omega
  constructor
  · intro hv
    exact lin_d h (T := 1) (a := C) (b := -D) (by decide) hv hu (fun k => by rw [ek k]; omega)
  · intro hv
    exact lin_d h C0 hv hu (a := 1) (b := D) (fun k => by have := ek k; grind)
/-- reduce: the same span -/
theorem rdF_J {J : lV → Prop} (h : lin J) {R : Nat → Nat → Int} {L : Int → Int} (hS : rwS R L) : ∀ (n : Nat) (v : Nat → Int) (t : Int), n ≤ 10 → (∀ l : Nat, l < n → L l ≠ 0 → J (pd (R l))) → (J (pd v) ↔ J (pd (rdF R L n v t).1))
  | 0, v, t, _, _ => Iff.rfl
  | n + 1, v, t, hn, hj => by
    have hj' : ∀ l : Nat, l < n → L l ≠ 0 → J (pd (R l)) := fun l hl h2 => hj l (by omega) h2
    unfold rdF
    split
    · exact rdF_J h hS n v t (by omega) hj'
    · split
      · exact rdF_J h hS n v _ (by omega) hj'
      · rename_i l
        rw [el_J h (v := v) (p := n) (hS n (by omega) l).1 (hj n (by omega) l), sm_J h]
        exact rdF_J h hS n _ t (by omega) hj'
/-- it stays without a common divisor -/
theorem rdF_p {R : Nat → Nat → Int} {L : Int → Int} (hS : rwS R L) {k : Nat} (hk : k < 10) : ∀ (n : Nat) (v : Nat → Int) (t : Int), n ≤ k → 0 < v k → (∀ i, k < i → i < 10 → v i = 0) → pm v → pm (rdF R L n v t).1
  | 0, v, t, _, h0, hz, hp => hp
  | n + 1, v, t, hn, h0, hz, hp => by
    unfold rdF
    split
    · exact rdF_p hS hk n v t (by omega) h0 hz hp
    · split
      · exact rdF_p hS hk n v _ (by omega) h0 hz hp
      · rename_i l
        obtain ⟨r0, rz⟩ := hS n (by omega) l
        have en := el_n (v := v) (p := n) (i := k) r0 (rz k (by omega) hk)
        have pos : 0 < el v (R n) n k := by rw [en.1]; exact Int.mul_pos h0 en.2
        exact rdF_p hS hk n _ t (by omega) ((sm_n hk (by omega)).2.1 pos) (fun i h1 h2 => sm_0 (el_0 (hz i h1 h2) (rz i (by omega) h2))) (sm_p hk (show el v (R n) n k ≠ 0 by omega))
/-- the span of a set and one vector more -/
def ad (J : lV → Prop) (ρ : lV) (u : lV) : Prop := ∃ (T a : Int) (w : lV), T ≠ 0 ∧ J w ∧ ∀ k, T * u k = a * ρ k + w k
theorem ad_lin {J : lV → Prop} (h : lin J) (ρ : lV) : lin (ad J ρ) := by
  refine ⟨?_, ?_, ?_⟩
  · rintro u v x y ⟨T, a, w, hT, hw, e⟩ ⟨T', a', w', hT', hw', e'⟩
    refine ⟨T * T', x * T' * a + y * T * a', fun k => x * T' * w k + y * T * w' k, mul_n hT hT', h.1 _ _ _ _ hw hw', fun k => ?_⟩
    have e1 := e k
    have e2 := e' k
    show T * T' * (x * u k + y * v k) = _
    grind
  · rintro v x hx ⟨T, a, w, hT, hw, e⟩
    refine ⟨T * x, a, w, mul_n hT hx, hw, fun k => ?_⟩
    have e1 := e k
    dsimp only at e1
    grind
  · exact ⟨1, 0, _, by decide, h.2.2, fun k => by show 1 * 0 = 0 * ρ k + 0; omega⟩
theorem ad_m {J : lV → Prop} {ρ u : lV} (h : J u) : ad J ρ u := ⟨1, 0, u, by decide, h, fun k => by omega⟩
theorem ad_r {J : lV → Prop} (h : lin J) (ρ : lV) : ad J ρ ρ := ⟨1, 1, _, by decide, h.2.2, fun k => by omega⟩
/-- two rows without common divisors, one a multiple of the other -/
theorem pm_e {u v : Nat → Int} {a b : Int} {k : Nat} (hu : pm u) (hv : pm v) (ha : a ≠ 0) (hb : b ≠ 0) (hk : k < 10) (u0 : 0 < u k) (v0 : 0 < v k) (e : ∀ j, j < 10 → a * u j = b * v j) : ∀ j, j < 10 → u j = v j := by
  have d1 : a ∣ b := prim_d (v := v) (n := 10) ha hv (fun j hj => ⟨u j, by rw [Int.mul_comm, ← e j hj]⟩)
  have d2 : b ∣ a := prim_d (v := u) (n := 10) hb hu (fun j hj => ⟨v j, by rw [Int.mul_comm, e j hj]⟩)
  obtain ⟨x, hx⟩ := d1
  obtain ⟨y, hy⟩ := d2
  have xy : x * y = 1 := by
    have : b * (x * y) = b * 1 := by
      rw [Int.mul_one, ← Int.mul_assoc, Int.mul_comm b x, Int.mul_assoc, ← hy, Int.mul_comm]
      exact hx.symm
    exact Int.eq_of_mul_eq_mul_left hb this
  have e' : ∀ j, j < 10 → u j = x * v j := fun j hj => by
    have := e j hj
    rw [hx, Int.mul_assoc] at this
    exact Int.eq_of_mul_eq_mul_left ha this
  have x1 : x = 1 := by
    have h1 := e' k hk
    have x0 : 0 < x := by
      rcases Int.lt_or_le 0 x with g | g
      · exact g
      · have := Int.mul_nonneg (show 0 ≤ -x by omega) (show 0 ≤ v k by omega)
        rw [Int.neg_mul] at this
        omega
    have y0 : 0 < y := by
      rcases Int.lt_or_le 0 y with g | g
      · exact g
      · have := Int.mul_nonneg (show 0 ≤ x by omega) (show 0 ≤ -y by omega)
        rw [Int.mul_neg] at this
        omega
    have := Int.mul_le_mul_of_nonneg_left (show 1 ≤ y by omega) (show 0 ≤ x by omega)
    omega
  intro j hj
  rw [e' j hj, x1]
  omega
/-- the class's rows are the fully reduced ones -/
def cmp (R : Nat → Nat → Int) (L hs s : Int → Int) : Prop := rwS R L ∧ (∀ l : Nat, l < 10 → (L l ≠ 0 ↔ hs l ≠ 0)) ∧ (∀ l : Nat, 10 ≤ l → l < 15 → hs l = 0) ∧ ∀ l : Nat, l < 10 → L l ≠ 0 → ∀ j, j < 10 → R l j = rv s l j
theorem cmp_d {R : Nat → Nat → Int} {L hs s : Int → Int} (e : ech hs s) (c : cmp R L hs s) {l : Nat} (hl : l < 10) (h2 : L l ≠ 0) : pd (R l) = rv s l := funext (fun j => by
  rcases Nat.lt_or_ge j 10 with q | q
  · rw [pd_i q]; exact c.2.2.2 l hl h2 j q
  · rw [pd_o q]
    rcases Nat.lt_or_ge j 15 with q2 | q2
    · exact ((e l (by omega) ((c.2.1 l hl).mp h2)).2.1 j (by omega) q2).symm
    · exact (rv_o s l q2).symm)
theorem cmp_J {R : Nat → Nat → Int} {L hs s : Int → Int} (e : ech hs s) (c : cmp R L hs s) (J : lV → Prop) : jr J hs s ↔ rj J R L := by
  constructor
  · intro h l hl h2
    rw [cmp_d e c hl h2]
    exact h l (by omega) ((c.2.1 l hl).mp h2)
  · intro h l hl h2
    have l10 : l < 10 := by
      rcases Nat.lt_or_ge l 10 with q | q
      · exact q
      · exact absurd (c.2.2.1 l q hl) h2
    have h3 := (c.2.1 l l10).mpr h2
    rw [← cmp_d e c l10 h3]
    exact h l l10 h3
theorem cmp_P {R : Nat → Nat → Int} {L hs s : Int → Int} (e : ech hs s) (c : cmp R L hs s) {l : Nat} (hl : l < 10) (h2 : L l ≠ 0) : pm (R l) := fun d hd => by
  have h3 := (c.2.1 l hl).mp h2
  obtain ⟨-, ez, -, ep⟩ := e l (by omega) h3
  refine ep d (fun k hk => ?_)
  rcases Nat.lt_or_ge k 10 with q | q
  · rw [← c.2.2.2 l hl h2 k q]; exact hd k q
  · rw [ez k (by omega) hk]; exact ⟨0, by omega⟩
/-- the memory with the row at hand laid down -/
def lay (s : Int → Int) (v : lV) : Int → Int := fun q => if 2025 ≤ q ∧ q < 2040 then v (q - 2025).toNat else s q
theorem lay_w (s : Int → Int) (v : Nat → Int) : wv (lay s (pd v)) = pd v := funext (fun j => by
  rcases Nat.lt_or_ge j 15 with g | g
  · rw [wv_in g]
    unfold lay
    rw [if_pos (by omega), show ((2025 : Int) + j - 2025).toNat = j by omega]
  · rw [wv_o _ g, pd_o (by omega)])
theorem lay_o (s : Int → Int) (v : lV) {q : Int} (h : q < 2025) : lay s v q = s q := if_neg (by omega)
theorem lay_r (s : Int → Int) (v : lV) {l : Nat} (h : l < 15) : rv (lay s v) l = rv s l := funext (fun j => by
  rcases Nat.lt_or_ge j 15 with g | g
  · rw [rv_in g, rv_in g, lay_o _ _ (by omega)]
  · rw [rv_o _ l g, rv_o _ l g])
theorem rj_c {R R' : Nat → Nat → Int} {L : Int → Int} {J : lV → Prop} (h : ∀ l, l < 10 → L (l : Nat) ≠ 0 → R' l = R l) : rj J R' L ↔ rj J R L :=
  ⟨fun q l hl h2 => by rw [← h l hl h2]; exact q l hl h2, fun q l hl h2 => by rw [h l hl h2]; exact q l hl h2⟩
theorem stB_l {hs s s' : Int → Int} {v : lV} {t : Nat} (b : stB hs (lay s v) s' t) : stB hs s s' t := fun l hl h2 => by
  obtain ⟨C, h, D, h1, h3, h4⟩ := b l hl h2
  exact ⟨C, h, D, h1, h3, fun j hj => by rw [h4 j hj, lay_r s v hl]⟩
theorem stC_l {s s' : Int → Int} {v : lV} {t : Nat} (ht : t < 15) (b : stC (lay s v) s' t) : stC s s' t := fun l hl j => by rw [b l hl j, lay_r s v (by omega)]
/-- one row above loses the new lead: again the fully reduced one -/
theorem up_e {u z ρ r r' : Nat → Int} {l t : Nat} (tl : t < l) (hl : l < 10) (hz : ∀ j, j < 10 → z j = ρ j) (hu : ∀ j, j < 10 → u j = r j) (z0 : 0 < z t) (zz : ∀ i, t < i → i < 10 → z i = 0) (u0 : 0 < u l) (uz : ∀ i, l < i → i < 10 → u i = 0) {C h D : Int} (C0 : 0 < C) (h0 : h ≠ 0) (er : ∀ j, j < 10 → h * r' j = C * r j - D * ρ j) (rt : r' t = 0) (r0 : 0 < r' l) (rp : pm r') : ∀ j, j < 10 → sm (el u z t) j = r' j := by
  obtain ⟨X, hX⟩ : ∃ X, z t / (Int.gcd (z t) (u t) : Int) = X := ⟨_, rfl⟩
  obtain ⟨Y, hY⟩ : ∃ Y, u t / (Int.gcd (z t) (u t) : Int) = Y := ⟨_, rfl⟩
  have ee : ∀ j, el u z t j = u j * X - z j * Y := fun j => by unfold el; rw [hX, hY]
  have en := el_n (v := u) (p := t) (i := l) z0 (zz l tl hl)
  rw [hX] at en
  have pos : 0 < el u z t l := by rw [en.1]; exact Int.mul_pos u0 en.2
  have sn := sm_n hl (show el u z t l ≠ 0 by omega)
  have et : el u z t t = 0 := el_p
  rw [ee] at et
  have e1 := er t (by omega)
  rw [rt, Int.mul_zero, ← hu t (by omega), ← hz t (by omega)] at e1
  refine pm_e (sm_p hl (show el u z t l ≠ 0 by omega)) rp (a := C * (cG (el u z t) 10 : Int)) (b := X * h) (mul_n (by omega) (by omega)) (mul_n (by omega) h0) hl (sn.2.1 pos) r0 (fun j hj => ?_)
  have e2 := sm_c (el u z t) hj
  rw [Int.mul_assoc, e2, ee, Int.mul_assoc, er j hj, ← hu j hj, ← hz j hj]
  -- C (u j X - z j Y) = X (C u j - D z j), for C u t = D z t and u t X = z t Y
  have k : C * Y = X * D := by
    have : z t * (C * Y) = z t * (X * D) := by grind
    exact Int.eq_of_mul_eq_mul_left (by omega) this
  have : C * (z j * Y) = z j * (C * Y) := by grind
  rw [Int.mul_sub, this, k]
  grind
/-- insert beside the fully reduced rows -/
theorem ins_h {M : Nat} {b : List Nat} {R : Nat → Nat → Int} {L hs s : Int → Int} {p w : Nat} (c : cmp R L hs s) (r : rel M b hs s) (hp : p < 10) (hv : ∀ j, p < j → j < 10 → R 10 j = 0) (hw : nS (pd (R 10)) 15 ≤ 2 ^ w) (k1 : 1 + 2 * b.getD p 0 + w < 16744) (k2 : 2 + b.getD 14 0 + b.getD p 0 + w < 16744) :
    (cmp (insF R L).1 L hs s ∧ (insF R L).2 = L ∧ (rdF R L 10 (R 10) (-1)).2 = -1 ∧ (∀ J, lin J → jr J hs s → J (pd (R 10))) ∧ ¬ (R 10 p ≠ 0 ∧ M.testBit p = false)) ∨
    ∃ (t : Nat) (s' : Int → Int), t ≤ p ∧ M.testBit t = false ∧ hs t = 0 ∧ rel (abI M b p w t).1 (abI M b p w t).2 (uI hs t 1) s' ∧ cmp (insF R L).1 (uI L t 1) (uI hs t 1) s' ∧ (insF R L).2 = uI L t 1 ∧ (rdF R L 10 (R 10) (-1)).2 = t ∧ (∀ i, i < 10 → sgv (sm (rdF R L 10 (R 10) (-1)).1) t i = rv s' t i) ∧ stA hs (lay s (pd (R 10))) s' t ∧ stB hs (lay s (pd (R 10))) s' t ∧ stC (lay s (pd (R 10))) s' t ∧ (∀ J, lin J → (jr J (uI hs t 1) s' ↔ jr J hs s ∧ J (pd (R 10)))) ∧ (R 10 p ≠ 0 → M.testBit p = false → t = p) := by
  have ec := r.2.2.1
  have hJ := fun J (_ : lin J) => cmp_J ec c J
  have c' := c
  obtain ⟨hS, hL, hH, hE⟩ := c'
  obtain ⟨v, hv0⟩ : ∃ v, R 10 = v := ⟨_, rfl⟩
  rw [hv0] at hv hw
  have r1 : rel M b hs (lay s (pd v)) := rel_s r (fun q hq => lay_o _ _ hq)
  have e : ech hs s := r.2.2.1
  have wz : ∀ j, p < j → j < 15 → wv (lay s (pd v)) j = 0 := fun j j0 j1 => by
    rw [lay_w]
    rcases Nat.lt_or_ge j 10 with g | g
    · rw [pd_i g]; exact hv j j0 g
    · exact pd_o g
  obtain ⟨-, z2, z3⟩ := rel_en (p := p) (w := w) r1 (by omega) wz (by rw [lay_w]; exact hw) k1 k2
  rw [lay_w] at z2 z3
  -- what the class's reduce leaves
  have hh := rdF_h hS 10 v (-1) (Nat.le_refl _) (fun i a b _ => by omega) (Or.inl ⟨rfl, fun i a b => by omega⟩)
  obtain ⟨g, hg⟩ : ∃ g, rdF R L 10 v (-1) = g := ⟨_, rfl⟩
  have sp : ∀ J, lin J → jr J hs s → (J (pd v) ↔ J (pd g.1)) := fun J h hj => by
    have := rdF_J h hS 10 v (-1) (Nat.le_refl _) (fun l hl h2 => (hJ J h).mp hj l hl h2)
    rw [hg] at this
    exact this
  rw [hg] at hh
  have jl : ∀ J, jr J hs (lay s (pd v)) ↔ jr J hs s := fun J => ⟨fun q l hl h2 => by rw [← lay_r s (pd v) hl]; exact q l hl h2, fun q l hl h2 => by rw [lay_r s (pd v) hl]; exact q l hl h2⟩
  have wl := wsp_lin hs s
  have gz : ∀ j : Nat, j < 15 → hs j ≠ 0 → pd g.1 j = 0 := fun j hj h2 => by
    rcases Nat.lt_or_ge j 10 with q | q
    · rw [pd_i q]; exact hh.1 j q ((hL j q).mpr h2)
    · exact pd_o q
  have wz0 : ∀ u, wsp hs s u → (∀ j : Nat, j < 15 → hs j ≠ 0 → u j = 0) → ∀ j : Nat, j < 15 → u j = 0 := fun u hu hz => wsp_z e hu 15 (Nat.le_refl _) (fun j h1 h2 => by omega) hz
  rcases z2 with ⟨a1, a2, a3, a4, a5⟩ | ⟨t, t0, t1, a1, a2, a3, a4, a5, a6⟩
  · left
    have inJ : ∀ J, lin J → jr J hs s → J (pd v) := fun J h hj => by
      have := spn_J (hs := hs) (s := lay s (pd v)) h (by rw [lay_w]; exact a5) ((jl J).mpr hj)
      rw [lay_w] at this
      exact this
    have g0 : ∀ j, j < 10 → g.1 j = 0 := fun j hj => by
      have := wz0 _ ((sp _ wl wsp_r).mp (inJ _ wl wsp_r)) gz j (by omega)
      rw [pd_i hj] at this
      exact this
    have g2 : g.2 = -1 := by
      rcases hh.2 with q | ⟨k, -, q1, -, q2, -⟩
      · exact q.1
      · exact absurd (g0 k q1) q2
    have ei : insF R L = (uR R 10 g.1, L) := by
      unfold insF
      rw [hv0, hg, if_pos (by omega)]
    have rr : ∀ l, l < 10 → uR R 10 g.1 l = R l := fun l hl => uR_n _ _ (by omega)
    rw [ei]
    refine ⟨⟨uR_S hS, hL, hH, fun l hl h2 => ?_⟩, rfl, by rw [hv0, hg]; exact g2, ?_, ?_⟩
    · show ∀ j, j < 10 → uR R 10 g.1 l j = rv s l j
      rw [rr l hl]
      exact hE l hl h2
    · rw [hv0]; exact inJ
    · rintro ⟨q1, q2⟩
      rw [hv0] at q1
      have := z3 (by rw [pd_i hp]; exact q1) q2
      rw [a2] at this
      have h1 : hs p ≠ 0 := by rw [this, uI_s]; decide
      rw [(r.2.1 p (by omega)).mp h1] at q2
      cases q2
  · right
    obtain ⟨s', hs'⟩ : ∃ s', (en hs (lay s (pd v)) 15).2.1 = s' := ⟨_, rfl⟩
    rw [hs'] at a3 a4 a5 a6
    rw [a2] at a3
    have t15 : t < 15 := by omega
    have ht0 : hs t = 0 := by
      rcases Decidable.em (hs t = 0) with q | q
      · exact q
      · rw [(r.2.1 t t15).mp q] at t1
        cases t1
    have e' : ech (uI hs t 1) s' := a3.2.2.1
    obtain ⟨p0, pz, pl, pp⟩ := e' t t15 (by rw [uI_s]; decide)
    have u1 : ∀ l : Nat, l ≠ t → uI hs t 1 l = hs l := fun l hl => uI_n _ _ (by omega)
    obtain ⟨ρ, hρ⟩ : ∃ ρ, rv s' t = ρ := ⟨_, rfl⟩
    rw [hρ] at p0 pz pl pp
    have ρo : ∀ j, 15 ≤ j → ρ j = 0 := fun j hj => by rw [← hρ]; exact rv_o s' t hj
    have ρz : ∀ j : Nat, j < 15 → hs j ≠ 0 → ρ j = 0 := fun j hj h2 => by
      rcases Decidable.em (j = t) with q | q
      · rw [q] at h2; exact absurd ht0 h2
      · exact pl j hj q (by rw [u1 j q]; exact h2)
    -- the vector at hand lies in the old span and the new row
    have a4' := a4
    obtain ⟨T, h, cc, T0, hn, c0, c1, ee⟩ := a4'
    rw [hρ, lay_w] at ee
    have eS : ∀ k, T * pd v k = h * ρ k + 1 * dS (fun l => cc l * rv s l k) 15 := fun k => by
      rcases Nat.lt_or_ge k 15 with q | q
      · have := ee k q
        rw [dS_c (g := fun l => cc l * rv s l k) (fun l hl => by rw [lay_r s (pd v) hl])] at this
        omega
      · rw [pd_o (by omega), ρo k q, dS_0 (fun l _ => by rw [rv_o s l q]; omega)]
        omega
    have sumJ : ∀ J, lin J → jr J hs s → J (fun j => dS (fun l => cc l * rv s l j) 15) := fun J h hj => lin_S h (fun l hl hc => hj l hl (fun q => hc (c0 l hl q)))
    have ρJ : ∀ J, lin J → jr J hs s → (J (pd v) ↔ J ρ) := fun J hJl hj => by
      have h1 := sumJ J hJl hj
      constructor
      · intro q
        exact lin_d hJl hn q h1 (a := T) (b := -1) (fun k => by have := eS k; omega)
      · intro q
        exact lin_d hJl (show T ≠ 0 by omega) q h1 (a := h) (b := 1) (fun k => by have := eS k; omega)
    have Ad := ad_lin wl ρ
    have jAd : jr (ad (wsp hs s) ρ) hs s := fun l hl h2 => ad_m (wsp_r l hl h2)
    obtain ⟨x, α, y, hx, hy, ey⟩ := (sp _ Ad jAd).mp ((ρJ _ Ad jAd).mpr (ad_r wl ρ))
    have y0 : ∀ j, j < 15 → y j = 0 := wz0 y hy (fun j hj h2 => by
      have := ey j
      rw [gz j hj h2, ρz j hj h2] at this
      omega)
    have eg : ∀ j, j < 10 → x * g.1 j = α * ρ j := fun j hj => by
      have := ey j
      rw [y0 j (by omega), pd_i hj] at this
      omega
    have α0 : α ≠ 0 := fun q => by
      have z0 : ∀ k, pd g.1 k = 0 := fun k => by
        rcases Nat.lt_or_ge k 10 with q2 | q2
        · rw [pd_i q2]
          refine mul_z hx ?_
          rw [eg k q2, q, Int.zero_mul]
        · exact pd_o q2
      have h1 := (ρJ _ wl wsp_r).mp ((sp _ wl wsp_r).mpr (lin_0 wl z0))
      have := wz0 ρ h1 ρz t t15
      omega
    have t10 : t < 10 := by omega
    have gt0 : g.1 t ≠ 0 := fun q => by
      have := eg t t10
      rw [q, Int.mul_zero] at this
      rcases Int.mul_eq_zero.mp this.symm with q2 | q2
      · exact α0 q2
      · omega
    have gz0 : ∀ i, t < i → i < 10 → g.1 i = 0 := fun i hi hi2 => mul_z hx (by rw [eg i hi2, pz i hi (by omega), Int.mul_zero])
    have g2 : g.2 = t := by
      rcases hh.2 with q | ⟨k, q0, q1, -, q2, q3⟩
      · exact absurd (q.2 t t10) gt0
      · rcases Nat.lt_trichotomy k t with q | q | q
        · exact absurd (q3 t q t10) gt0
        · rw [q0, q]
        · exact absurd (gz0 k q q1) q2
    obtain ⟨z, hz⟩ : ∃ z, sgv (sm g.1) t = z := ⟨_, rfl⟩
    have ei : insF R L = (upF (inR R g.1 t) L t 10, uI L t 1) := by
      unfold insF
      rw [hv0, hg, if_neg (by omega), g2, show (t : Int).toNat = t from rfl]
    have sn := sm_n t10 gt0
    have smp := sm_p t10 gt0
    have zp : 0 < z t ∧ pm z ∧ ∃ β : Int, β ≠ 0 ∧ ∀ j, j < 10 → β * z j = g.1 j := by
      rw [← hz]
      unfold sgv
      split
      · refine ⟨by show 0 < -sm g.1 t; omega, fun d hd => smp d (fun k hk => ?_), -(cG g.1 10 : Int), by omega, fun j hj => ?_⟩
        · have := hd k hk
          exact Int.dvd_neg.mp this
        · show -(cG g.1 10 : Int) * -sm g.1 j = _
          rw [Int.neg_mul_neg]
          exact sm_c g.1 hj
      · exact ⟨by omega, smp, (cG g.1 10 : Int), by omega, fun j hj => sm_c g.1 hj⟩
    obtain ⟨z0, zpm, β, hβ, zβ⟩ := zp
    have ρp : pm ρ := fun d hd => pp d (fun k hk => by
      rcases Nat.lt_or_ge k 10 with q | q
      · exact hd k q
      · rw [pz k (by omega) hk]; exact ⟨0, by omega⟩)
    have zρ : ∀ j, j < 10 → z j = ρ j := pm_e zpm ρp (mul_n hx hβ) α0 t10 z0 p0 (fun j hj => by
      rw [Int.mul_assoc, zβ j hj]
      exact eg j hj)
    have nS' : rwS (insF R L).1 (insF R L).2 := insF_S hS
    rw [ei] at nS' ⊢
    have stJ : ∀ J, lin J → (jr J (uI hs t 1) s' ↔ jr J hs s ∧ J (pd v)) := fun J hJl => by
      have st := st_J (J := J) hJl t15 ht0 ⟨T, h, cc, T0, hn, c0, c1, by rw [hρ, lay_w]; exact ee⟩ a5
      rw [lay_w, jl] at st
      exact ⟨st.2, fun q => st.1 q.1 q.2⟩
    have stB' := stB_l a5
    have Lt : L t = 0 := by
      rcases Decidable.em (L t = 0) with q | q
      · exact q
      · exact absurd ht0 ((hL t t10).mp q)
    have uv : ∀ l : Nat, l ≠ t → uI L t 1 l = L l := fun l hl => uI_n _ _ (by omega)
    refine ⟨t, s', t0, t1, ht0, a3, ⟨nS', fun l hl => ?_, fun l h1 h2 => ?_, fun l hl h2 j hj => ?_⟩, rfl, by rw [hv0, hg]; exact g2, fun i hi => by rw [hv0, hg, hz, hρ]; exact zρ i hi, by rw [hv0]; exact a4, by rw [hv0]; exact a5, by rw [hv0]; exact a6, fun J hJl => by rw [hv0]; exact stJ J hJl, fun q1 q2 => ?_⟩
    · rcases Decidable.em (l = t) with q | q
      · rw [q, uI_s, uI_s]
      · rw [uI_n _ _ (by omega), uI_n _ _ (by omega)]
        exact hL l hl
    · rw [uI_n _ _ (by omega)]
      exact hH l h1 h2
    · show upF (inR R g.1 t) L t 10 l j = rv s' l j
      rcases Decidable.em (l = t) with q | q
      · subst q
        rw [upF_n (fun g => by omega), inR_t, hz, hρ]
        exact zρ j hj
      · have h3 : L l ≠ 0 := by rw [← uv l q]; exact h2
        have h4 := (hL l hl).mp h3
        have e2 : uI hs t 1 l ≠ 0 := by rw [u1 l q]; exact h4
        obtain ⟨l0, lz, ll, lp⟩ := e' l (by omega) e2
        have lt_ : rv s' l t = 0 := ll t t15 (fun g => q g.symm) (by rw [uI_s]; decide)
        rcases Nat.lt_or_ge l t with q2 | q2
        · rw [upF_n (fun g => by omega), inR_n _ _ q (by omega), hE l hl h3 j hj]
          exact (stC_l t15 a6 l q2 j).symm
        · obtain ⟨C, h', D, C0, h0', er⟩ := stB' l (by omega) h4
          by_cases g9 : R l t = 0
          · rw [upF_n (fun g => g.2.2.2 (by rw [inR_n _ _ q (by omega)]; exact g9)), inR_n _ _ q (by omega)]
            have D0 : D = 0 := by
              have := er t t15
              rw [lt_, Int.mul_zero, ← hE l hl h3 t t10, g9, Int.mul_zero, hρ] at this
              exact mul_z (h := ρ t) (by omega) (by rw [Int.mul_comm]; omega)
            obtain ⟨l0', lz', ll', lp'⟩ := ec l (by omega) h4
            have pmR := cmp_P ec c hl h3
            obtain ⟨r0', rz'⟩ := hS l hl h3
            refine pm_e pmR (fun d hd => lp d (fun k hk => by
              rcases Nat.lt_or_ge k 10 with q3 | q3
              · exact hd k q3
              · rw [lz k (by omega) hk]; exact ⟨0, by omega⟩)) (a := C) (b := h') (by omega) h0' hl r0' l0 (fun k hk => ?_) j hj
            rw [er k (by omega), D0, hE l hl h3 k hk]
            omega
          · rw [upF_y ⟨by omega, hl, h3, by rw [inR_n _ _ q (by omega)]; exact g9⟩, inR_t, inR_n _ _ q (by omega), hz]
            obtain ⟨r0', rz'⟩ := hS l hl h3
            exact up_e (ρ := ρ) (r := rv s l) (r' := rv s' l) (by omega) hl zρ (fun k hk => hE l hl h3 k hk) z0 (fun i h1 h2 => by rw [zρ i h2]; exact pz i h1 (by omega)) r0' rz' C0 h0' (fun k hk => by rw [er k (by omega), hρ]) lt_ l0 (fun d hd => lp d (fun k hk => by
              rcases Nat.lt_or_ge k 10 with q3 | q3
              · exact hd k q3
              · rw [lz k (by omega) hk]; exact ⟨0, by omega⟩)) j hj
    · rw [hv0] at q1
      have := z3 (by rw [pd_i hp]; exact q1) q2
      rw [a2] at this
      rcases Decidable.em (t = p) with q | q
      · exact q
      · have h1 : hs p ≠ 0 := by
          have h2 := congrFun this p
          rw [uI_s, uI_n _ _ (by omega)] at h2
          rw [h2]
          decide
        rw [(r.2.1 p (by omega)).mp h1] at q2
        cases q2
