/-! The algebra's numbers by the tables of x and y. -/
theorem prP_v : ∀ p : Fin 6, prP (p.val : Nat) 0 = mN (mX (p.val : Nat) + 1 - 0) (mY (p.val : Nat) + 0) ∧ prP (p.val : Nat) 1 = mN (mX (p.val : Nat) + 1 - 1) (mY (p.val : Nat) + 1) := by decide +kernel
theorem prP_m {st : Int → Int} {j of : Nat} (h : 0 ≤ st j ∧ st j < 6) (ho : of < 2) : prP (st j) of = mv st j of := by
  obtain ⟨p, hp⟩ : ∃ p : Nat, st j = p := ⟨(st j).toNat, by omega⟩
  obtain ⟨a, b⟩ := prP_v ⟨p, by omega⟩
  unfold mv
  rw [hp]
  have ho' : of = 0 ∨ of = 1 := by omega
  rcases ho' with rfl | rfl
  · exact a
  · exact b
/-- the class's rows are the reference's -/
def lkV (V : Nat → Int) (L st hs s : Int → Int) (n : Nat) : Prop := (∀ j : Nat, j < n → 0 ≤ st j ∧ st j < 6) ∧ (∀ k : Nat, k < 10 → (ldb L k = true ↔ hs k ≠ 0)) ∧ ∀ k : Nat, k < 10 → hs k ≠ 0 → 0 < s (45 * (k : Int) + k) ∧ ∀ j : Nat, j < 10 → V (rb k + j) = s (45 * (k : Int) + j)
section
variable {V : Nat → Int} {L st hs s : Int → Int} {n : Nat}
theorem lk_p (h : lkV V L st hs s n) {j of : Nat} (hj : j < n) (ho : of < 2) : ∃ k : Nat, k < 10 ∧ prP (st j) of = k ∧ mv st j of = k ∧ (ldb L (prP (st j) of) = true ↔ hs (mv st j of) ≠ 0) := by
  have r := prP_n ho (h.1 j hj)
  have e := prP_m (h.1 j hj) ho
  obtain ⟨k, hk⟩ : ∃ k : Nat, prP (st j) of = k := ⟨(prP (st j) of).toNat, by omega⟩
  refine ⟨k, by omega, hk, by rw [← e]; exact hk, ?_⟩
  rw [← e, hk]
  exact h.2.1 k (by omega)
/-- each leading number divides what the scale becomes -/
theorem fsS_d {V : Nat → Int} {L : Int → Int} {p x : Int} (x0 : 0 < x) (hp : ldb L p = true → 0 < V (rb p.toNat + p.toNat)) : 0 < fsS V L p x ∧ x ∣ fsS V L p x ∧ (ldb L p = true → V (rb p.toNat + p.toNat) ∣ fsS V L p x) := by
  unfold fsS
  split
  · rename_i g
    have q := lcm_h (Δ := x * V (rb p.toNat + p.toNat)) x0 (hp g) (Int.dvd_mul_right ..) (Int.dvd_mul_left ..)
    exact ⟨q.1, q.2.2.1, fun _ => q.2.2.2⟩
  · rename_i g
    exact ⟨x0, Int.dvd_refl _, fun h => absurd h g⟩
theorem fsJ_d {of : Nat} {x : Int} (x0 : 0 < x) (hp : ∀ j : Nat, j < n → ldb L (prP (st j) of) = true → 0 < V (rb (prP (st j) of).toNat + (prP (st j) of).toNat)) : ∀ m, m ≤ n → 0 < fsJ V L st of x m ∧ x ∣ fsJ V L st of x m ∧ ∀ j : Nat, j < m → ldb L (prP (st j) of) = true → V (rb (prP (st j) of).toNat + (prP (st j) of).toNat) ∣ fsJ V L st of x m
  | 0, _ => ⟨x0, Int.dvd_refl _, fun j hj => absurd hj (Nat.not_lt_zero _)⟩
  | m + 1, hm => by
    obtain ⟨a, b, c⟩ := fsJ_d x0 hp m (by omega)
    obtain ⟨d, e, f⟩ := fsS_d (V := V) (L := L) (p := prP (st m) of) a (hp m (by omega))
    refine ⟨d, Int.dvd_trans b e, fun j hj g => ?_⟩
    rcases Decidable.em (j = m) with q | q
    · rw [q] at g ⊢; exact f g
    · exact Int.dvd_trans (c j (by omega) g) e
theorem scl_e (h : lkV V L st hs s n) {Δ : Int} (hΔ : ∀ j : Nat, j < n → ∀ w : Int, (w = 0 ∨ w = 1) → hs (mv st j w) ≠ 0 → s (45 * mv st j w + mv st j w) ∣ Δ) : scl V L st n = dnF hs s st n ∧ 0 < dnF hs s st n ∧ dnF hs s st n ∣ Δ ∧ ∀ j : Nat, j < n → ∀ w : Int, (w = 0 ∨ w = 1) → hs (mv st j w) ≠ 0 → s (45 * mv st j w + mv st j w) ∣ dnF hs s st n := by
  have pos : ∀ j : Nat, j < n → ∀ w : Int, (w = 0 ∨ w = 1) → hs (mv st j w) ≠ 0 → 0 < s (45 * mv st j w + mv st j w) := fun j hj w hw hh => by
    rcases hw with rfl | rfl
    · obtain ⟨k, k0, k1, k2, k3⟩ := lk_p h hj (show 0 < 2 by decide)
      have k2' : mv st j 0 = k := k2
      rw [k2'] at hh ⊢
      exact (h.2.2 k k0 hh).1
    · obtain ⟨k, k0, k1, k2, k3⟩ := lk_p h hj (show 1 < 2 by decide)
      have k2' : mv st j 1 = k := k2
      rw [k2'] at hh ⊢
      exact (h.2.2 k k0 hh).1
  obtain ⟨D0, DΔ, Dl⟩ := dnF_h (hs := hs) (s := s) (st := st) (Δ := Δ) (n := n) (fun j hj w hw hh => ⟨pos j hj w hw hh, hΔ j hj w hw hh⟩)
  refine ⟨?_, D0, DΔ, Dl⟩
  have rd : ∀ of : Nat, of < 2 → ∀ j : Nat, j < n → ldb L (prP (st j) of) = true → V (rb (prP (st j) of).toNat + (prP (st j) of).toNat) = s (45 * mv st j of + mv st j of) ∧ hs (mv st j of) ≠ 0 := fun of ho j hj g => by
    obtain ⟨k, k0, k1, k2, k3⟩ := lk_p h hj ho
    have hh := k3.mp g
    rw [k1, k2] at *
    exact ⟨(h.2.2 k k0 hh).2 k k0, hh⟩
  have w01 : ∀ of : Nat, of < 2 → ((of : Int) = 0 ∨ (of : Int) = 1) := fun of ho => by omega
  have hp : ∀ of : Nat, of < 2 → ∀ j : Nat, j < n → ldb L (prP (st j) of) = true → 0 < V (rb (prP (st j) of).toNat + (prP (st j) of).toNat) := fun of ho j hj g => by
    obtain ⟨a, b⟩ := rd of ho j hj g
    rw [a]
    exact pos j hj of (w01 of ho) b
  have hd : ∀ of : Nat, of < 2 → ∀ j : Nat, j < n → ldb L (prP (st j) of) = true → 0 < V (rb (prP (st j) of).toNat + (prP (st j) of).toNat) ∧ V (rb (prP (st j) of).toNat + (prP (st j) of).toNat) ∣ dnF hs s st n := fun of ho j hj g => by
    refine ⟨hp of ho j hj g, ?_⟩
    obtain ⟨a, b⟩ := rd of ho j hj g
    rw [a]
    exact Dl j hj of (w01 of ho) b
  obtain ⟨a1, a2⟩ := fsJ_h (st := st) (of := 0) (n := n) (show (0 : Int) < 1 by decide) (Int.one_dvd _) (hd 0 (by decide)) n (Nat.le_refl _)
  obtain ⟨b1, b2⟩ := fsJ_h (st := st) (of := 1) (n := n) a1 a2 (hd 1 (by decide)) n (Nat.le_refl _)
  obtain ⟨c1, -, c3⟩ := fsJ_d (V := V) (L := L) (st := st) (of := 0) (n := n) (show (0 : Int) < 1 by decide) (hp 0 (by decide)) n (Nat.le_refl _)
  obtain ⟨d1, d2, d3⟩ := fsJ_d (V := V) (L := L) (st := st) (of := 1) (n := n) c1 (hp 1 (by decide)) n (Nat.le_refl _)
  have back := (dnF_h (hs := hs) (s := s) (st := st) (Δ := scl V L st n) (n := n) (fun j hj w hw hh => ⟨pos j hj w hw hh, by
    rcases hw with rfl | rfl
    · obtain ⟨k, k0, k1, k2, k3⟩ := lk_p h hj (show 0 < 2 by decide)
      have g := k3.mpr hh
      have e := (rd 0 (by decide) j hj g).1
      have := Int.dvd_trans (c3 j hj g) d2
      rw [e] at this
      exact this
    · obtain ⟨k, k0, k1, k2, k3⟩ := lk_p h hj (show 1 < 2 by decide)
      have g := k3.mpr hh
      have e := (rd 1 (by decide) j hj g).1
      have := d3 j hj g
      rw [e] at this
      exact this⟩)).2.1
  have l1 := Int.le_of_dvd D0 b2
  have l2 := Int.le_of_dvd d1 back
  have l1' : scl V L st n ≤ dnF hs s st n := l1
  have l2' : dnF hs s st n ≤ scl V L st n := l2
  omega
theorem mvF_e (h : lkV V L st hs s n) {V' : Nat → Int} (hV : ∀ t, t < 120 → V' t = V t) {D : Int} (h8 : V' 328 = D) {of i j : Nat} (ho : of < 2) (hi : i < n) (hj : j < n) : mvF V' L st of i j = xT hs s st D of i j := by
  obtain ⟨k, k0, k1, k2, k3⟩ := lk_p h hj ho
  have r10 := rb_11 (show k < 11 by omega)
  unfold mvF xT
  rw [h8]
  have hi6 := h.1 i hi
  obtain ⟨m, hm⟩ : ∃ m : Nat, st i = m := ⟨(st i).toNat, by omega⟩
  rcases Decidable.em (ldb L (prP (st j) of) = true) with g | g
  · have hh := k3.mp g
    rw [if_pos g, if_neg hh]
    rw [k2] at hh ⊢
    rw [k1, hm, show ((k : Nat) : Int).toNat = k from rfl, show ((m : Nat) : Int).toNat = m from rfl, hV _ (by omega), hV _ (by omega), (h.2.2 k k0 hh).2 m (by omega), (h.2.2 k k0 hh).2 k k0]
  · have hh : hs (mv st j of) = 0 := Decidable.not_not.mp (fun q => g (k3.mpr q))
    rw [if_neg g, if_pos hh, k1, k2]
    rcases Decidable.em ((k : Int) = st i) with q | q
    · rw [if_pos q, if_pos q.symm]
    · rw [if_neg q, if_neg (fun q2 => q q2.symm)]
theorem mvV_g {V' : Nat → Int} {of i j : Nat} (n4 : n ≤ 4) (hi : i < n) (hj : j < n) : mvV V' L st of n (gb of + (4 * i + j)) = mvF V' L st of i j := by
  unfold mvV
  rw [vU_n _ _ (by omega), vG8_i _ _ (by omega)]
  rw [show (4 * i + j) / 4 = i by omega, show (4 * i + j) % 4 = j by omega, if_pos ⟨hi, hj⟩]
theorem mvV_o {V' : Nat → Int} {of t : Nat} (ht : t < gb of ∨ gb of + 17 ≤ t) : mvV V' L st of n t = V' t := by
  unfold mvV
  rw [vU_n _ _ (by omega), vG8_o _ _ (by omega)]
/-- what stands once both tables are laid down -/
theorem bv2_e (h : lkV V L st hs s n) (n4 : n ≤ 4) {D : Int} (hD : scl V L st n = D) : (∀ of : Nat, of < 2 → ∀ i j, i < n → j < n → bv2 V L st n (gb of + (4 * i + j)) = xT hs s st D of i j) ∧ bv2 V L st n 328 = D ∧ bv2 V L st n 329 = D * D ∧ ∀ of : Nat, of < 2 → bv2 V L st n (gb of + 16) = D := by
  have g0 : gb 0 = 141 := rfl
  have g1 : gb 1 = 158 := rfl
  have o0 : ∀ t, t < 120 → bv0 V L st n t = V t := fun t ht => (bv_o V L st n ht).1
  have o1 : ∀ t, t < 120 → bv1 V L st n t = V t := fun t ht => (bv_o V L st n ht).2
  have e0 := bv_8 V L st n
  rw [hD] at e0
  have e09 : bv0 V L st n 329 = D * D := by unfold bv0; rw [vU_s, hD]
  refine ⟨fun of ho i j hi hj => ?_, ?_, ?_, fun of ho => ?_⟩
  · have ho' : of = 0 ∨ of = 1 := by omega
    rcases ho' with rfl | rfl
    · show mvV (bv1 V L st n) L st 1 n (gb 0 + (4 * i + j)) = _
      rw [mvV_o (by omega)]
      show mvV (bv0 V L st n) L st 0 n (gb 0 + (4 * i + j)) = _
      rw [mvV_g n4 hi hj]
      exact mvF_e h o0 e0.1 (by decide) hi hj
    · show mvV (bv1 V L st n) L st 1 n (gb 1 + (4 * i + j)) = _
      rw [mvV_g n4 hi hj]
      exact mvF_e h o1 e0.2 (by decide) hi hj
  · show mvV (bv1 V L st n) L st 1 n 328 = _
    rw [mvV_o (by omega)]
    exact e0.2
  · show mvV (bv1 V L st n) L st 1 n 329 = _
    rw [mvV_o (by omega)]
    show mvV (bv0 V L st n) L st 0 n 329 = _
    rw [mvV_o (by omega)]
    exact e09
  · have ho' : of = 0 ∨ of = 1 := by omega
    rcases ho' with rfl | rfl
    · show mvV (bv1 V L st n) L st 1 n (gb 0 + 16) = _
      rw [mvV_o (by omega)]
      show mvV (bv0 V L st n) L st 0 n (gb 0 + 16) = _
      unfold mvV
      rw [vU_s]
      exact e0.1
    · show mvV (bv1 V L st n) L st 1 n (gb 1 + 16) = _
      unfold mvV
      rw [vU_s]
      exact e0.2
end
/-- a monomial's table over the square of the scale -/
def nQ (n : Nat) (X Y : mT) (D : Int) (q : Nat) : mT := fun i j => D ^ (2 - (mD q).toNat) * pQ n X Y (mX q).toNat (mD q).toNat i j
theorem nQ_t : (mX ((0 : Nat) : Int)).toNat = 0 ∧ (mD ((0 : Nat) : Int)).toNat = 0 ∧ (mX ((1 : Nat) : Int)).toNat = 0 ∧ (mD ((1 : Nat) : Int)).toNat = 1 ∧ (mX ((2 : Nat) : Int)).toNat = 1 ∧ (mD ((2 : Nat) : Int)).toNat = 1 ∧ (mX ((3 : Nat) : Int)).toNat = 0 ∧ (mD ((3 : Nat) : Int)).toNat = 2 ∧ (mX ((4 : Nat) : Int)).toNat = 1 ∧ (mD ((4 : Nat) : Int)).toNat = 2 ∧ (mX ((5 : Nat) : Int)).toNat = 2 ∧ (mD ((5 : Nat) : Int)).toNat = 2 := by decide +kernel
theorem tm_e {V : Nat → Int} {g n j : Nat} {T Z : mT} {c : Int} {v : Nat → Int} (hT : ∀ i k, i < n → k < n → V (gb g + (4 * i + k)) = T i k) (hv : ∀ k, k < n → v k = c * Z k j) (i : Nat) (hi : i < n) : tmF V g n v i = c * mM n T Z i j := by
  unfold tmF mM
  rw [if_pos hi]
  have : dS (fun k => V (gb g + (4 * i + k)) * v k) n = dS (fun k => c * (T i k * Z k j) + 0 * 0) n := dS_c (fun k hk => by rw [hT i k hi hk, hv k hk]; grind)
  rw [this, dS_l, dS_0z]
  omega
theorem cy_n {V : Nat → Int} {n : Nat} {X Y : mT} {D : Int} (hX : ∀ i k, i < n → k < n → V (gb 0 + (4 * i + k)) = X i k) (hY : ∀ i k, i < n → k < n → V (gb 1 + (4 * i + k)) = Y i k) (h8 : V 328 = D) (h9 : V 329 = D * D) {q i j : Nat} (hq : q < 6) (hi : i < n) (hj : j < n) : cyF V n q j i = nQ n X Y D q i j := by
  obtain ⟨t0, t1, t2, t3, t4, t5, t6, t7, t8, t9, t10, t11⟩ := nQ_t
  have c0 : ∀ c : Int, (∀ k, k < n → cy0 V q j k = if k = j then c else 0) → ∀ k, k < n → cy0 V q j k = c * mI k j := fun c h k hk => by
    rw [h k hk]
    unfold mI
    split <;> omega
  have hq' : q = 0 ∨ q = 1 ∨ q = 2 ∨ q = 3 ∨ q = 4 ∨ q = 5 := by omega
  unfold nQ
  rcases hq' with rfl | rfl | rfl | rfl | rfl | rfl
  · rw [t0, t1]
    have e := c0 (D * D) (fun k _ => by unfold cy0; rw [h9]; rfl) i hi
    show cy0 V 0 j i = D ^ 2 * mI i j
    rw [e, Int.pow_succ, Int.pow_succ, Int.pow_zero, Int.one_mul]
  · rw [t2, t3]
    have e := c0 D (fun k _ => by unfold cy0; rw [h8]; rfl)
    have := tm_e hY e i hi
    show tmF V 1 n (cy0 V 1 j) i = D ^ 1 * mM n Y mI i j
    rw [this, Int.pow_succ, Int.pow_zero, Int.one_mul]
  · rw [t4, t5]
    have e := c0 D (fun k _ => by unfold cy0; rw [h8]; rfl)
    have := tm_e hX e i hi
    show tmF V 0 n (cy0 V 2 j) i = D ^ 1 * mM n X mI i j
    rw [this, Int.pow_succ, Int.pow_zero, Int.one_mul]
  · rw [t6, t7]
    have e := c0 1 (fun k _ => by unfold cy0; rfl)
    have := tm_e hY (tm_e hY e) i hi
    show tmF V 1 n (tmF V 1 n (cy0 V 3 j)) i = D ^ 0 * mM n Y (mM n Y mI) i j
    rw [this, Int.pow_zero]
  · rw [t8, t9]
    have e := c0 1 (fun k _ => by unfold cy0; rfl)
    have := tm_e hY (tm_e hX e) i hi
    show tmF V 1 n (tmF V 0 n (cy0 V 4 j)) i = D ^ 0 * mM n Y (mM n X mI) i j
    rw [this, Int.pow_zero]
  · rw [t10, t11]
    have e := c0 1 (fun k _ => by unfold cy0; rfl)
    have := tm_e hX (tm_e hX e) i hi
    show tmF V 0 n (tmF V 0 n (cy0 V 5 j)) i = D ^ 0 * mM n X (mM n X mI) i j
    rw [this, Int.pow_zero]
