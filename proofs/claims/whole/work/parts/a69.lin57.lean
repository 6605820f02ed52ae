/-! Tables that commute. -/
theorem dS_ad (f g : Nat → Int) : ∀ n, dS (fun i => f i + g i) n = dS f n + dS g n
  | 0 => rfl
  | n + 1 => by
    show dS (fun i => f i + g i) n + (f n + g n) = dS f n + f n + (dS g n + g n)
    rw [dS_ad f g n]
    omega
theorem dS_sc (c : Int) (f : Nat → Int) : ∀ n, dS (fun i => c * f i) n = c * dS f n
  | 0 => by show (0 : Int) = c * 0; omega
  | n + 1 => by
    show dS (fun i => c * f i) n + c * f n = c * (dS f n + f n)
    rw [dS_sc c f n, Int.mul_add]
theorem dS_sr (c : Int) (f : Nat → Int) (n : Nat) : dS (fun i => f i * c) n = dS f n * c := by
  rw [Int.mul_comm, ← dS_sc]
  exact dS_c (fun i _ => Int.mul_comm _ _)
theorem dS_sw (g : Nat → Nat → Int) (m : Nat) : ∀ n, dS (fun i => dS (fun k => g i k) m) n = dS (fun k => dS (fun i => g i k) n) m
  | 0 => (dS_0 (fun _ _ => rfl)).symm
  | n + 1 => by
    show dS (fun i => dS (fun k => g i k) m) n + dS (fun k => g n k) m = dS (fun k => dS (fun i => g i k) n + g n k) m
    rw [dS_sw g m n, ← dS_ad]
theorem mM_as {n : Nat} (A B C : mT) (i j : Nat) : mM n (mM n A B) C i j = mM n A (mM n B C) i j := by
  show dS (fun k => dS (fun l => A i l * B l k) n * C k j) n = dS (fun l => A i l * dS (fun k => B l k * C k j) n) n
  have e1 : dS (fun k => dS (fun l => A i l * B l k) n * C k j) n = dS (fun k => dS (fun l => A i l * B l k * C k j) n) n := dS_c (fun k _ => (dS_sr (C k j) (fun l => A i l * B l k) n).symm)
  have e2 : dS (fun l => A i l * dS (fun k => B l k * C k j) n) n = dS (fun l => dS (fun k => A i l * B l k * C k j) n) n := dS_c (fun l _ => by
    rw [← dS_sc]
    exact dS_c (fun k _ => (Int.mul_assoc _ _ _).symm))
  rw [e1, e2]
  exact dS_sw (fun k l => A i l * B l k * C k j) n n
theorem mM_I {n : Nat} (A : mT) {i j : Nat} (hi : i < n) (hj : j < n) : mM n A mI i j = A i j ∧ mM n mI A i j = A i j := by
  constructor
  · show dS (fun k => A i k * mI k j) n = _
    rw [dS_1 (q := j) hj (fun l _ hn => by unfold mI; rw [if_neg hn]; omega)]
    unfold mI
    rw [if_pos rfl]
    omega
  · show dS (fun k => mI i k * A k j) n = _
    rw [dS_1 (q := i) hi (fun l _ hn => by unfold mI; rw [if_neg (fun e => hn e.symm)]; omega)]
    unfold mI
    rw [if_pos rfl]
    omega
/-- tables that commute -/
def cm (n : Nat) (A B : mT) : Prop := mQ n (mM n A B) (mM n B A)
section
variable {n : Nat} {A B C : mT}
theorem cm_s (h : cm n A B) : cm n B A := mQ_sy h
theorem cm_r (A : mT) : cm n A A := fun _ _ _ _ => rfl
theorem cm_I (A : mT) : cm n A mI := fun i j hi hj => by rw [(mM_I A hi hj).1, (mM_I A hi hj).2]
theorem cm_m (h : cm n A B) (h2 : cm n A C) : cm n A (mM n B C) := fun i j hi hj => by
  rw [← mM_as, mM_q h (mQ_rf n C) i j hi hj, mM_as, mM_q (mQ_rf n B) h2 i j hi hj, ← mM_as]
theorem cm_q (e : mQ n B C) (h : cm n A B) : cm n A C := fun i j hi hj => by
  rw [← mM_q (mQ_rf n A) e i j hi hj, h i j hi hj, mM_q e (mQ_rf n A) i j hi hj]
theorem mM_cl (c : Int) (A B : mT) (i j : Nat) : mM n (fun i j => c * A i j) B i j = c * mM n A B i j := by
  show dS (fun k => c * A i k * B k j) n = c * dS (fun k => A i k * B k j) n
  rw [← dS_sc]
  exact dS_c (fun k _ => Int.mul_assoc _ _ _)
theorem mM_cr (c : Int) (A B : mT) (i j : Nat) : mM n A (fun i j => c * B i j) i j = c * mM n A B i j := by
  show dS (fun k => A i k * (c * B k j)) n = c * dS (fun k => A i k * B k j) n
  rw [← dS_sc]
  exact dS_c (fun k _ => by grind)
theorem cm_c (c : Int) (h : cm n A B) : cm n A (fun i j => c * B i j) := fun i j hi hj => by
  rw [mM_cr, mM_cl, h i j hi hj]
theorem cm_S {m : Nat} {N : Nat → mT} (h : ∀ q, q < m → cm n A (N q)) : cm n A (fun i j => dS (fun q => N q i j) m) := fun i j hi hj => by
  show dS (fun k => A i k * dS (fun q => N q k j) m) n = dS (fun k => dS (fun q => N q i k) m * A k j) n
  have e1 : dS (fun k => A i k * dS (fun q => N q k j) m) n = dS (fun k => dS (fun q => A i k * N q k j) m) n := dS_c (fun k _ => (dS_sc _ _ _).symm)
  have e2 : dS (fun k => dS (fun q => N q i k) m * A k j) n = dS (fun k => dS (fun q => N q i k * A k j) m) n := dS_c (fun k _ => (dS_sr _ _ _).symm)
  rw [e1, e2, dS_sw (fun k q => A i k * N q k j) m n, dS_sw (fun k q => N q i k * A k j) m n]
  exact dS_c (fun q hq => h q hq i j hi hj)
/-- what commutes with the tables of x and y commutes with all that is made of them -/
theorem cm_p {X Y : mT} (hX : cm n A X) (hY : cm n A Y) (a : Nat) : ∀ k, cm n A (pQ n X Y a k)
  | 0 => cm_I A
  | k + 1 => by
    show cm n A (mM n (if k < a then X else Y) (pQ n X Y a k))
    refine cm_m ?_ (cm_p hX hY a k)
    split
    · exact hX
    · exact hY
theorem cm_n {X Y : mT} {D : Int} (hX : cm n A X) (hY : cm n A Y) (q : Nat) : cm n A (nQ n X Y D q) := cm_c (D ^ (2 - (mD q).toNat)) (cm_p hX hY (mX q).toNat (mD q).toNat)
theorem cm_h {X Y : mT} {D : Int} {f : Nat → Int} (hX : cm n A X) (hY : cm n A Y) : cm n A (hQ n X Y D f) := cm_S (N := fun q i j => nQ n X Y D q i j * f q) (fun q _ => by
  have := cm_c (f q) (cm_n (D := D) hX hY q)
  refine cm_q (fun i j _ _ => ?_) this
  exact Int.mul_comm _ _)
/-- the trace -/
def tQ (n : Nat) (A : mT) : Int := dS (fun k => A k k) n
theorem tQ_q (h : mQ n A B) : tQ n A = tQ n B := dS_c (fun k hk => h k k hk hk)
theorem tQ_S {m : Nat} {N : Nat → mT} (U : mT) (c : Nat → Int) : tQ n (mM n U (fun i j => dS (fun q => c q * N q i j) m)) = dS (fun q => c q * tQ n (mM n U (N q))) m := by
  show dS (fun k => dS (fun l => U k l * dS (fun q => c q * N q l k) m) n) n = dS (fun q => c q * dS (fun k => dS (fun l => U k l * N q l k) n) n) m
  have e1 : dS (fun k => dS (fun l => U k l * dS (fun q => c q * N q l k) m) n) n = dS (fun k => dS (fun q => c q * dS (fun l => U k l * N q l k) n) m) n := dS_c (fun k _ => by
    have : dS (fun l => U k l * dS (fun q => c q * N q l k) m) n = dS (fun l => dS (fun q => c q * (U k l * N q l k)) m) n := dS_c (fun l _ => by
      rw [← dS_sc]
      exact dS_c (fun q _ => by grind))
    rw [this, dS_sw]
    exact dS_c (fun q _ => dS_sc _ _ _))
  rw [e1, dS_sw]
  exact dS_c (fun q _ => dS_sc _ _ _)
end
/-- THE KEY: what commutes with the monomials' tables is known by what it makes of 1 -/
theorem ky {n : Nat} {N : Nat → mT} {A : mT} {E : Int} (hE : E ≠ 0) (n0 : 0 < n) (h0 : ∀ k, k < n → ∀ i, i < n → N k i 0 = if i = k then E else 0) (hN : ∀ k l, k < n → l < n → cm n (N k) (N l)) (hA : ∀ k, k < n → cm n A (N k)) {j : Nat} (hj : j < n) : mQ n (mM n A (N j)) (fun i l => dS (fun k => A k j * N k i l) n) := by
  have col : ∀ (B : mT) (k : Nat), k < n → ∀ i, i < n → mM n B (N k) i 0 = E * B i k := fun B k hk i hi => by
    show dS (fun l => B i l * N k l 0) n = _
    rw [dS_1 (q := k) hk (fun l hl hn => by rw [h0 k hk l hl, if_neg hn]; omega), h0 k hk k hk, if_pos rfl, Int.mul_comm]
  -- N_l e_k = N_k e_l
  have sy : ∀ k l, k < n → l < n → ∀ i, i < n → N l i k = N k i l := fun k l hk hl i hi => by
    have a := col (N l) k hk i hi
    have b := col (N k) l hl i hi
    have c := hN l k hl hk i 0 hi n0
    rw [a, b] at c
    exact Int.eq_of_mul_eq_mul_left hE c
  intro i l hi hl
  have a := col (mM n A (N j)) l hl i hi
  rw [mM_as, mM_q (mQ_rf n A) (hN j l hj hl) i 0 hi n0, ← mM_as, mM_q (hA l hl) (mQ_rf n (N j)) i 0 hi n0, mM_as] at a
  have b : mM n (N l) (mM n A (N j)) i 0 = E * dS (fun k => A k j * N k i l) n := by
    show dS (fun k => N l i k * mM n A (N j) k 0) n = _
    rw [← dS_sc]
    exact dS_c (fun k hk => by rw [col A j hj k hk, sy k l hk hl i hi]; grind)
  rw [b] at a
  exact (Int.eq_of_mul_eq_mul_left hE a).symm
