/-! What squares computes: the coefficients are the sums of the principal minors, signed. Printed by gen_84.py. -/
theorem dS_0z : ∀ n, dS (fun _ => 0) n = 0
  | 0 => rfl
  | n + 1 => by
    show dS (fun _ => 0) n + 0 = 0
    rw [dS_0z n]
    rfl
theorem sq_p1 (n : Nat) (f : mT) (i j : Nat) : (sqP n f 1).1 i j = if i = j then 1 else 0 := by
  have h : mM n f (sqP n f 0).1 i j = 0 := by
    show dS (fun k => f i k * 0) n = 0
    rw [show (fun k => f i k * 0) = (fun _ => (0 : Int)) from funext fun k => Int.mul_zero _]
    exact dS_0z n
  rw [sqP_1, h]
  show 0 + (if i = j then 1 else 0) = _
  omega
theorem sq_t0 (n : Nat) (f : mT) (i j : Nat) : ∀ m, dS (fun k => f i k * (if k = j then 1 else 0)) m = if j < m then f i j else 0
  | 0 => by
    rw [if_neg (by omega)]
    rfl
  | m + 1 => by
    show dS (fun k => f i k * (if k = j then 1 else 0)) m + f i m * (if m = j then 1 else 0) = _
    rw [sq_t0 n f i j m]
    rcases Nat.lt_trichotomy j m with q | q | q
    · rw [if_pos q, if_pos (show j < m + 1 by omega), if_neg (show ¬ m = j by omega), Int.mul_zero, Int.add_zero]
    · subst q
      rw [if_neg (show ¬ j < j by omega), if_pos rfl, if_pos (show j < j + 1 by omega), Int.mul_one, Int.zero_add]
    · rw [if_neg (show ¬ j < m by omega), if_neg (show ¬ j < m + 1 by omega), if_neg (show ¬ m = j by omega), Int.mul_zero]
      rfl
theorem sq_m1 {n : Nat} (f : mT) {i j : Nat} (hj : j < n) : mM n f (sqP n f 1).1 i j = f i j := by
  have : mM n f (sqP n f 1).1 i j = dS (fun k => f i k * (if k = j then 1 else 0)) n := dS_c fun k _ => by
    show f i k * (sqP n f 1).1 k j = _
    rw [sq_p1]
  rw [this, sq_t0 n f, if_pos hj]
theorem sq_c1 (n : Nat) (f : mT) : (sqP n f 1).2 = -(dS (fun i => f i i) n) := by
  have h := sqP_2 n f 0
  have h2 : dS (fun i => mM n f (sqP n f 1).1 i i) n = dS (fun i => f i i) n := dS_c fun k hk => sq_m1 f hk
  rw [h2] at h
  rw [show (sqP n f 1).2 = (sqP n f (0 + 1)).2 from rfl, h]
  show -(dS (fun i => f i i) n) / 1 = _
  exact Int.ediv_one _
theorem sq_p2 {n : Nat} (f : mT) {i j : Nat} (hj : j < n) : (sqP n f 2).1 i j = f i j + (if i = j then -(dS (fun i => f i i) n) else 0) := by
  rw [show (2 : Nat) = 1 + 1 from rfl, sqP_1, sq_m1 f hj, sq_c1]
theorem sq_dv {a b c : Int} (hc : c ≠ 0) (h : a = c * b) : -a / c = -b := by
  rw [h, show -(c * b) = c * (-b) by grind]
  exact Int.mul_ediv_cancel_left _ hc
theorem sq_dn {a b c : Int} (hc : c ≠ 0) (h : a = -(c * b)) : -a / c = b := by
  rw [h, Int.neg_neg]
  exact Int.mul_ediv_cancel_left _ hc
theorem sq2_p2 (f : mT) : ∀ i j, i < 2 → j < 2 → (sqP 2 f 2).1 i j = f i j + (if i = j then -sE21 f else 0) := fun i j hi hj => by
  rw [sq_p2 f hj, dS_2]
  rfl
theorem sq2_c1 (f : mT) : (sqP 2 f 1).2 = -sE21 f := by
  rw [sq_c1, dS_2]
  rfl
theorem sq2_c2 (f : mT) : (sqP 2 f 2).2 = sE22 f := by
  rw [show (sqP 2 f 2).2 = (sqP 2 f (1 + 1)).2 from rfl, sqP_2]
  exact sq_dn (c := 2) (by decide) (fl2_2 f _ (sq2_p2 f))
theorem sq3_p2 (f : mT) : ∀ i j, i < 3 → j < 3 → (sqP 3 f 2).1 i j = f i j + (if i = j then -sE31 f else 0) := fun i j hi hj => by
  rw [sq_p2 f hj, dS_3]
  rfl
theorem sq3_c1 (f : mT) : (sqP 3 f 1).2 = -sE31 f := by
  rw [sq_c1, dS_3]
  rfl
theorem sq3_c2 (f : mT) : (sqP 3 f 2).2 = sE32 f := by
  rw [show (sqP 3 f 2).2 = (sqP 3 f (1 + 1)).2 from rfl, sqP_2]
  exact sq_dn (c := 2) (by decide) (fl3_2 f _ (sq3_p2 f))
theorem sq3_p3 (f : mT) : ∀ i j, i < 3 → j < 3 → (sqP 3 f 3).1 i j = sA3 f i j := fun i j hi hj => by
  rw [show (3 : Nat) = 2 + 1 from rfl, sqP_1, sq3_c2]
  exact fl3_a f _ (sq3_p2 f) i j hi hj
theorem sq3_c3 (f : mT) : (sqP 3 f 3).2 = -sE33 f := by
  rw [show (sqP 3 f 3).2 = (sqP 3 f (2 + 1)).2 from rfl, sqP_2]
  exact sq_dv (c := 3) (by decide) (fl3_3 f _ (sq3_p3 f))
theorem sq4_p2 (f : mT) : ∀ i j, i < 4 → j < 4 → (sqP 4 f 2).1 i j = f i j + (if i = j then -sE41 f else 0) := fun i j hi hj => by
  rw [sq_p2 f hj, dS_4]
  rfl
theorem sq4_c1 (f : mT) : (sqP 4 f 1).2 = -sE41 f := by
  rw [sq_c1, dS_4]
  rfl
theorem sq4_c2 (f : mT) : (sqP 4 f 2).2 = sE42 f := by
  rw [show (sqP 4 f 2).2 = (sqP 4 f (1 + 1)).2 from rfl, sqP_2]
  exact sq_dn (c := 2) (by decide) (fl4_2 f _ (sq4_p2 f))
theorem sq4_p3 (f : mT) : ∀ i j, i < 4 → j < 4 → (sqP 4 f 3).1 i j = f i 0 * f 0 j + f i 1 * f 1 j + f i 2 * f 2 j + f i 3 * f 3 j - sE41 f * f i j + (if i = j then sE42 f else 0) := fun i j hi hj => by
  rw [show (3 : Nat) = 2 + 1 from rfl, sqP_1, sq4_c2, fl4_b f _ (sq4_p2 f) i j hi hj]
theorem sq4_c3 (f : mT) : (sqP 4 f 3).2 = -sE43 f := by
  rw [show (sqP 4 f 3).2 = (sqP 4 f (2 + 1)).2 from rfl, sqP_2]
  exact sq_dv (c := 3) (by decide) (fl4_3 f _ (sq4_p3 f))
theorem sq4_p4 (f : mT) : ∀ i j, i < 4 → j < 4 → (sqP 4 f 4).1 i j = sB4 f i j := fun i j hi hj => by
  rw [show (sqP 4 f 4).1 i j = (sqP 4 f (3 + 1)).1 i j from rfl, sqP_1, sq4_c3]
  exact fl4_a f _ (sq4_p3 f) i j hi hj
theorem sq4_c4 (f : mT) : (sqP 4 f 4).2 = sE44 f := by
  rw [show (sqP 4 f 4).2 = (sqP 4 f (3 + 1)).2 from rfl, sqP_2]
  exact sq_dn (c := 4) (by decide) (fl4_4 f _ (sq4_p4 f))
/-- k + 1 divides the trace -/
theorem sq_d {n : Nat} (f : mT) (hn : n ≤ 4) : ∀ k : Nat, k < n → ((k : Int) + 1) ∣ dS (fun i => mM n f (sqP n f (k + 1)).1 i i) n := by
  intro k hk
  match n, k, hn, hk with
  | n + 1, 0, _, _ => exact ⟨_, (Int.one_mul _).symm⟩
  | 2, 1, _, _ => exact ⟨-sE22 f, by rw [fl2_2 f _ (sq2_p2 f)]; show -(2 * sE22 f) = 2 * -sE22 f; omega⟩
  | 3, 1, _, _ => exact ⟨-sE32 f, by rw [fl3_2 f _ (sq3_p2 f)]; show -(2 * sE32 f) = 2 * -sE32 f; omega⟩
  | 3, 2, _, _ => exact ⟨sE33 f, fl3_3 f _ (sq3_p3 f)⟩
  | 4, 1, _, _ => exact ⟨-sE42 f, by rw [fl4_2 f _ (sq4_p2 f)]; show -(2 * sE42 f) = 2 * -sE42 f; omega⟩
  | 4, 2, _, _ => exact ⟨sE43 f, fl4_3 f _ (sq4_p3 f)⟩
  | 4, 3, _, _ => exact ⟨-sE44 f, by rw [fl4_4 f _ (sq4_p4 f)]; show -(4 * sE44 f) = 4 * -sE44 f; omega⟩
  | 1, k + 1, _, h => omega
  | 2, k + 2, _, h => omega
  | 3, k + 3, _, h => omega
  | 4, k + 4, _, h => omega
  | n + 5, _, h, _ => omega
