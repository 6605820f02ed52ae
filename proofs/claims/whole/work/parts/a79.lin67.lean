/-! Signs of characteristic polynomials. -/
/-- the coefficients by the sums of the principal minors -/
def cf (n : Nat) (e : Nat → Int) (k : Nat) : Int := if (n - k) % 2 = 0 then e (n - k) else -e (n - k)
def Vp (n : Nat) (e : Nat → Int) : Int := (chF (cf n e) 0 (n + 1)).2
def Vn (n : Nat) (e : Nat → Int) : Int := (chF (cf n e) 1 (n + 1)).2
def rk (n : Nat) (e : Nat → Int) : Int := (n : Int) - lz (cf n e) n 0
def sg (e : Nat → Int) : Nat → Int := fun k => zSgn (e k)
theorem zSgn_n (x : Int) : zSgn (-x) = -zSgn x := by
  unfold zSgn
  split <;> split <;> (try split) <;> (try split) <;> omega
theorem zSgn_z (x : Int) : zSgn (zSgn x) = zSgn x := by
  rcases zSgn_3 x with h | h | h <;> (rw [h]; decide)
theorem zSgn_zz (x : Int) : zSgn x = 0 ↔ x = 0 := by
  unfold zSgn
  split
  · omega
  · split <;> omega
theorem zSgn_m (x y : Int) : zSgn (x * y) = zSgn x * zSgn y := by
  have pp : ∀ x y : Int, 0 < x → 0 < y → zSgn (x * y) = 1 := fun x y hx hy => by
    have := Int.mul_pos hx hy
    unfold zSgn
    rw [if_neg (by omega), if_neg (by omega)]
  have ps : ∀ x : Int, 0 < x → zSgn x = 1 := fun x hx => by
    unfold zSgn
    rw [if_neg (by omega), if_neg (by omega)]
  have ns : ∀ x : Int, x < 0 → zSgn x = -1 := fun x hx => by
    unfold zSgn
    rw [if_pos hx]
  rcases Int.lt_trichotomy x 0 with hx | hx | hx
  · rcases Int.lt_trichotomy y 0 with hy | hy | hy
    · have := pp (-x) (-y) (by omega) (by omega)
      rw [Int.neg_mul_neg] at this
      rw [this, ns x hx, ns y hy]
      rfl
    · rw [hy, Int.mul_zero, (zSgn_zz 0).mpr rfl, Int.mul_zero]
    · have := pp (-x) y (by omega) hy
      rw [Int.neg_mul, zSgn_n] at this
      rw [ns x hx, ps y hy]
      omega
  · rw [hx, Int.zero_mul, (zSgn_zz 0).mpr rfl, Int.zero_mul]
  · rcases Int.lt_trichotomy y 0 with hy | hy | hy
    · have := pp x (-y) hx (by omega)
      rw [Int.mul_neg, zSgn_n] at this
      rw [ps x hx, ns y hy]
      omega
    · rw [hy, Int.mul_zero, (zSgn_zz 0).mpr rfl, Int.mul_zero]
    · rw [pp x y hx hy, ps x hx, ps y hy]
      rfl
theorem zSgn_le {x y : Int} (h : x ≤ y) : zSgn x ≤ zSgn y := by
  unfold zSgn
  split <;> split <;> (try split) <;> (try split) <;> omega
theorem cf_s (n : Nat) (e : Nat → Int) (k : Nat) : zSgn (cf n (sg e) k) = zSgn (cf n e k) := by
  unfold cf sg
  split
  · exact zSgn_z _
  · rw [zSgn_n, zSgn_n, zSgn_z]
theorem chF_s {c d : Nat → Int} (h : ∀ k, zSgn (c k) = zSgn (d k)) (t : Int) : ∀ n, chF c t n = chF d t n
  | 0 => rfl
  | n + 1 => by
    have e : chS c t n = chS d t n := by unfold chS; rw [h n]
    unfold chF
    rw [e, chF_s h t n]
theorem lz_s {c d : Nat → Int} (h : ∀ k, zSgn (c k) = zSgn (d k)) : ∀ m l, lz c m l = lz d m l
  | 0, _ => rfl
  | m + 1, l => by
    have e : c l = 0 ↔ d l = 0 := by rw [← zSgn_zz (c l), ← zSgn_zz (d l), h l]
    unfold lz
    rcases Decidable.em (c l = 0) with q | q
    · rw [if_pos q, if_pos (e.mp q)]
      exact lz_s h m (l + 1)
    · rw [if_neg q, if_neg (fun g => q (e.mpr g))]
theorem V_s (n : Nat) (e : Nat → Int) : Vp n (sg e) = Vp n e ∧ Vn n (sg e) = Vn n e ∧ rk n (sg e) = rk n e := by
  unfold Vp Vn rk
  rw [chF_s (cf_s n e), chF_s (cf_s n e), lz_s (cf_s n e)]
  exact ⟨rfl, rfl, rfl⟩
/-- what is concluded of a form e and its part s -/
def cnc (n : Nat) (e s : Nat → Int) : Prop := Vp (n - 1) s ≤ Vp n e ∧ Vn (n - 1) s ≤ Vn n e ∧ Vp n e + Vn n e ≤ rk n e ∧ (e n ≠ 0 → s (n - 1) = 0 → Vp (n - 1) s + 1 ≤ Vp n e ∧ Vn (n - 1) s + 1 ≤ Vn n e) ∧ (0 < e n * s (n - 1) → Vp (n - 1) s + 1 ≤ Vp n e) ∧ (e n * s (n - 1) < 0 → Vn (n - 1) s + 1 ≤ Vn n e)
theorem cnc_s {n : Nat} {e s : Nat → Int} (h : cnc n (sg e) (sg s)) : cnc n e s := by
  obtain ⟨a, b, c⟩ := V_s n e
  obtain ⟨a', b', -⟩ := V_s (n - 1) s
  unfold cnc at h
  rw [a, b, c, a', b'] at h
  obtain ⟨h1, h2, h3, h4, h5, h6⟩ := h
  refine ⟨h1, h2, h3, fun q1 q2 => h4 (fun g => q1 ((zSgn_zz _).mp g)) ((zSgn_zz _).mpr q2), fun q => h5 ?_, fun q => h6 ?_⟩
  · show 0 < zSgn (e n) * zSgn (s (n - 1))
    rw [← zSgn_m]
    unfold zSgn
    rw [if_neg (by omega), if_neg (by omega)]
    decide
  · show zSgn (e n) * zSgn (s (n - 1)) < 0
    rw [← zSgn_m]
    unfold zSgn
    rw [if_pos q]
    decide
/-- a list as a function -/
def lf (l : List Int) (k : Nat) : Int := match l, k with
  | [], _ => 0
  | x :: _, 0 => x
  | _ :: r, k + 1 => lf r k
def g3 (x : Fin 3) : Int := match x with
  | 0 => -1
  | 1 => 0
  | 2 => 1
theorem g3_s (x : Int) : ∃ y : Fin 3, zSgn x = g3 y := by
  rcases zSgn_3 x with h | h | h
  · exact ⟨0, h⟩
  · exact ⟨1, h⟩
  · exact ⟨2, h⟩
def cncB (n : Nat) (e s : Nat → Int) : Bool := decide (Vp (n - 1) s ≤ Vp n e) && decide (Vn (n - 1) s ≤ Vn n e) && decide (Vp n e + Vn n e ≤ rk n e) && (decide (e n = 0) || !decide (s (n - 1) = 0) || (decide (Vp (n - 1) s + 1 ≤ Vp n e) && decide (Vn (n - 1) s + 1 ≤ Vn n e))) && (decide (e n * s (n - 1) ≤ 0) || decide (Vp (n - 1) s + 1 ≤ Vp n e)) && (decide (0 ≤ e n * s (n - 1)) || decide (Vn (n - 1) s + 1 ≤ Vn n e))
theorem cncB_h {n : Nat} {e s : Nat → Int} (h : cncB n e s = true) : cnc n e s := by
  unfold cncB at h
  simp only [Bool.and_eq_true, Bool.or_eq_true, Bool.not_eq_true', decide_eq_true_eq, decide_eq_false_iff_not] at h
  obtain ⟨⟨⟨⟨⟨h1, h2⟩, h3⟩, h4⟩, h5⟩, h6⟩ := h
  refine ⟨h1, h2, h3, fun q1 q2 => ?_, fun q => ?_, fun q => ?_⟩
  · rcases h4 with (g | g) | g
    · exact absurd g q1
    · exact absurd q2 g
    · exact g
  · rcases h5 with g | g
    · omega
    · exact g
  · rcases h6 with g | g
    · omega
    · exact g
/-- what signs there are: of a form of 2, 3, 4 lines and its part -/
def ok2 (e1 e2 s1 : Int) : Bool := decide (e2 ≤ e1 * s1) && (!(decide (e1 = 0)) || decide (e2 ≤ 0)) && (!(decide (e1 = 0) && decide (e2 = 0)) || decide (s1 = 0))
def ok3 (e1 e2 e3 s1 s2 : Int) : Bool := decide (e2 ≤ e1 * s1) && decide (e3 * s1 ≤ e2 * s2) && (!(decide (e1 = 0)) || decide (e2 ≤ 0)) && (!(decide (e2 = 0)) || decide (e1 * e3 ≤ 0)) && (!(decide (e1 = 0) && decide (e2 = 0)) || (decide (e3 = 0) && decide (s1 = 0) && decide (s2 = 0))) && (!(decide (e2 = 0) && decide (e3 = 0)) || decide (s2 = 0))
def ok4 (e1 e2 e3 e4 s1 s2 s3 : Int) : Bool := decide (e2 ≤ e1 * s1) && decide (e3 * s1 ≤ e2 * s2) && decide (e4 * s2 ≤ e3 * s3) && (!(decide (e1 = 0)) || decide (e2 ≤ 0)) && (!(decide (e2 = 0)) || decide (e1 * e3 ≤ 0)) && (!(decide (e3 = 0)) || decide (e2 * e4 ≤ 0)) && (!(decide (e1 = 0) && decide (e2 = 0)) || (decide (e3 = 0) && decide (e4 = 0) && decide (s1 = 0) && decide (s2 = 0) && decide (s3 = 0))) && (!(decide (e2 = 0) && decide (e3 = 0)) || decide (e4 = 0)) && (!(decide (e3 = 0) && decide (e4 = 0)) || decide (s3 = 0)) && (!(decide (e2 = 0) && decide (e3 = 0) && decide (e4 = 0)) || (decide (s2 = 0) && decide (s3 = 0))) && (!(decide (s1 = 0) && decide (s2 = 0)) || decide (s3 = 0))
theorem sg_1 : ∀ a : Fin 3, cncB 1 (lf [1, g3 a]) (lf [1]) = true := by decide +kernel
theorem sg_2 : ∀ a b x : Fin 3, (!(ok2 (g3 a) (g3 b) (g3 x)) || cncB 2 (lf [1, g3 a, g3 b]) (lf [1, g3 x])) = true := by decide +kernel
theorem sg_3 : ∀ a b c x y : Fin 3, (!(ok3 (g3 a) (g3 b) (g3 c) (g3 x) (g3 y)) || cncB 3 (lf [1, g3 a, g3 b, g3 c]) (lf [1, g3 x, g3 y])) = true := by decide +kernel
theorem sg_4 : ∀ a b c d x y z : Fin 3, (!(ok4 (g3 a) (g3 b) (g3 c) (g3 d) (g3 x) (g3 y) (g3 z)) || cncB 4 (lf [1, g3 a, g3 b, g3 c, g3 d]) (lf [1, g3 x, g3 y, g3 z])) = true := by decide +kernel
