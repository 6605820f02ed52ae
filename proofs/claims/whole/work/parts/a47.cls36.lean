/-! The algebra: build. -/
def bv0 (V : Nat → Int) (L st : Int → Int) (n : Nat) : Nat → Int := vU (vU V 328 (scl V L st n)) 329 (scl V L st n * scl V L st n)
def bv1 (V : Nat → Int) (L st : Int → Int) (n : Nat) : Nat → Int := mvV (bv0 V L st n) L st 0 n
def bv2 (V : Nat → Int) (L st : Int → Int) (n : Nat) : Nat → Int := mvV (bv1 V L st n) L st 1 n
def bv3 (V : Nat → Int) (L st : Int → Int) (n : Nat) : Nat → Int := msF (bv2 V L st n) st n n
def bv4 (V : Nat → Int) (L st : Int → Int) (f : Nat → Int) (n : Nat) : Nat → Int := mqV (bv3 V L st n) f n
def bv6 (V : Nat → Int) (L st : Int → Int) (f : Nat → Int) (n : Nat) : Nat → Nat → Int
  | 0 => wgV (bv4 V L st f n) n
  | e + 1 => ftX (bv6 V L st f n e) e n
/-- what the algebra keeps: all but the rows 14 and 15 and the inertia's numbers -/
def kp (t : Nat) : Prop := t < 133 ∨ (141 ≤ t ∧ t < 311) ∨ t = 328 ∨ t = 329
def kpE (V V' : Nat → Int) : Prop := ∀ t, kp t → V' t = V t
/-- what is measured of a grid -/
def mzT (n : Nat) (V : Nat → Int) (g : Nat) (br ba : Int) : Prop := ∃ (O : Int → Int) (V1 : Nat → Int), (∀ i, i < 17 → V1 (gb g + i) = V (gb g + i)) ∧ mzR 4 (mzO n 4 O) (msS V1 g) 1 0 0 br ba
theorem wu2_kp (V w u : Nat → Int) {t : Nat} (h : kp t) : wu2 V w u t = V t := by
  unfold kp at h
  have e14 : rb 14 = 133 := rfl
  have e15 : rb 15 = 137 := rfl
  unfold wu2
  rw [vG8_o _ _ (by omega), vG8_o _ _ (by omega)]
theorem dS_x {f g : Nat → Int} : ∀ {n : Nat}, (∀ k, k < n → f k = g k) → dS f n = dS g n
  | 0, _ => rfl
  | n + 1, h => by
    unfold dS
    rw [dS_x (fun k hk => h k (by omega)), h n (by omega)]
theorem wg_k {V V' : Nat → Int} (h : kpE V V') {n : Nat} (n4 : n ≤ 4) : kpE (wgV V n) (wgV V' n) := by
  have e0 : w0F V' n = w0F V n := by
    funext k
    unfold w0F
    split
    · exact dS_x (fun j hj => h _ (by unfold kp gb; omega))
    · rfl
  have e1 : ∀ v, w1F V' n v = w1F V n v := fun v => by
    funext j
    unfold w1F
    split
    · exact dS_x (fun i hi => by rw [h (gb 2 + (4 * i + j)) (by unfold kp gb; omega)])
    · rfl
  intro t ht
  unfold wgV
  rw [e0, e1, e1]
  unfold vG8
  split
  · rfl
  · split
    · rfl
    · split
      · rfl
      · exact h t ht
theorem ft_k {V V' : Nat → Int} (h : kpE V V') {n e : Nat} (n4 : n ≤ 4) (he : e < 3) : kpE (ftX V e n) (ftX V' e n) := by
  have e9 : V' 329 = V 329 := h _ (by unfold kp; omega)
  have eG : ∀ i j, i < n → j < n → ftG V' e n i j n = ftG V e n i j n := fun i j hi hj => by
    unfold ftG
    refine dS_x (fun k hk => ?_)
    have he' : e = 0 ∨ e = 1 ∨ e = 2 := by omega
    have r1 : rb (11 + e) = 121 + 4 * e := by rcases he' with rfl | rfl | rfl <;> rfl
    rw [h (rb (11 + e) + k) (by unfold kp; omega), h (gb (3 + i) + (4 * k + j)) (by unfold kp gb; omega)]
  have eF : ∀ i j, i < n → j < n → ftF V' e n i j = ftF V e n i j := fun i j hi hj => by
    unfold ftF
    split
    · exact eG i j hi hj
    · exact eG j i hj hi
  intro t ht
  unfold ftX
  rw [e9]
  by_cases c : t = gb (7 + e) + 16
  · rw [c, vU_s, vU_s]
  · rw [vU_n _ _ c, vU_n _ _ c]
    by_cases r : gb (7 + e) ≤ t ∧ t < gb (7 + e) + 16
    · obtain ⟨i, rfl⟩ : ∃ i, t = gb (7 + e) + i := ⟨t - gb (7 + e), by omega⟩
      rw [vG8_i _ _ (by omega), vG8_i _ _ (by omega)]
      split
      · rename_i q
        exact eF _ _ q.1 q.2
      · rfl
    · rw [vG8_o _ _ (by omega), vG8_o _ _ (by omega)]
      exact h t ht
