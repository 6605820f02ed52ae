/-! Rank and signature by the signs of the sums of principal minors. -/
def ltn (n a : Nat) : Prop := a < n
def TT (n : Nat) : Prop := ∀ F, syN n F → ∀ p q : Nat, inr (ltn n) n F p q → Vp n (ePm n F) = p ∧ Vn n (ePm n F) = q ∧ rk n (ePm n F) = p + q
theorem bl_c (F : mT) (x y : Nat → Int) : bl F x y = dS (fun b => dS (fun a => x a * F a b) 4 * y b) 4 := by
  unfold bl
  rw [dS_sw (fun a b => x a * F a b * y b) 4 4]
  exact dS_c (fun b _ => dS_sr (y b) (fun a => x a * F a b) 4)
theorem dS_n4 {f : Nat → Int} : ∀ (d n : Nat), (∀ a, n ≤ a → a < n + d → f a = 0) → dS f (n + d) = dS f n
  | 0, _, _ => rfl
  | d + 1, n, h => by
    show dS f (n + d) + f (n + d) = dS f n
    rw [dS_n4 d n (fun a h1 h2 => h a h1 (by omega)), h (n + d) (by omega) (by omega)]
    omega
theorem row_n {F : mT} {x : Nat → Int} {n : Nat} (n4 : n ≤ 4) (hx : spt (ltn n) x) (b : Nat) : dS (fun a => x a * F a b) 4 = dS (fun a => x a * F a b) n := by
  have := dS_n4 (f := fun a => x a * F a b) (4 - n) n (fun a h1 h2 => by
    show x a * F a b = 0
    rw [hx a (by omega) (by unfold ltn; omega)]
    omega)
  rw [show n + (4 - n) = 4 by omega] at this
  exact this
theorem ek_s {n k : Nat} (h : k < n) : spt (ltn n) (ek k) := fun a _ hn => by
  unfold ek
  rw [if_neg (fun e => hn (by rw [e]; exact h))]
theorem kr_row {F : mT} {x : Nat → Int} {n : Nat} (n4 : n ≤ 4) (hx : spt (ltn n) x) (h : ∀ y, spt (ltn n) y → bl F x y = 0) : ∀ b, b < n → dS (fun a => x a * F a b) n = 0 := fun b hb => by
  have := h (ek b) (ek_s hb)
  rw [(bl_ek (by omega) x).1, row_n n4 hx] at this
  exact this
theorem wkr {n : Nat} {F : mT} (n4 : n ≤ 4) (n0 : 0 < n) (sy : syN n F) (h : krn (ltn n) F) : ePm n F n = 0 := by
  obtain ⟨x, x1, ⟨i, i4, xi⟩, x3⟩ := h
  have r := kr_row n4 x1 x3
  have hi : i < n := by
    rcases Nat.lt_or_ge i n with q | q
    · exact q
    · exact absurd (x1 i i4 (by unfold ltn; omega)) xi
  have hn : n = 1 ∨ n = 2 ∨ n = 3 ∨ n = 4 := by omega
  have fin : ∀ d : Int, d * x i = 0 → d = 0 := fun d hd => by
    rcases Int.mul_eq_zero.mp hd with g | g
    · exact g
    · exact absurd g xi
  rcases hn with rfl | rfl | rfl | rfl
  · have a := kr_1 sy r
    have : i = 0 := by omega
    subst this
    exact fin _ a
  · obtain ⟨a, b⟩ := kr_2 sy r
    have : i = 0 ∨ i = 1 := by omega
    rcases this with rfl | rfl
    · exact fin _ a
    · exact fin _ b
  · obtain ⟨a, b, c⟩ := kr_3 sy r
    have : i = 0 ∨ i = 1 ∨ i = 2 := by omega
    rcases this with rfl | rfl | rfl
    · exact fin _ a
    · exact fin _ b
    · exact fin _ c
  · obtain ⟨a, b, c, d⟩ := kr_4 sy r
    have : i = 0 ∨ i = 1 ∨ i = 2 ∨ i = 3 := by omega
    rcases this with rfl | rfl | rfl | rfl
    · exact fin _ a
    · exact fin _ b
    · exact fin _ c
    · exact fin _ d
theorem bl_y {F : mT} {x y : Nat → Int} {n : Nat} (n4 : n ≤ 4) (sy : syN n F) (hx : spt (ltn n) x) (hy : spt (ltn n) y) : bl F x y = bl F y x := bl_s (fun a b ha hb => by
  rcases Nat.lt_or_ge a n with ga | ga
  · rcases Nat.lt_or_ge b n with gb | gb
    · rw [sy a b ga gb]; grind
    · rw [hy b hb (by unfold ltn; omega)]; omega
  · rw [hx a ha (by unfold ltn; omega)]; omega)
theorem wsw {n : Nat} {F : mT} (n4 : n ≤ 4) (n0 : 0 < n) (sy : syN n F) : ∃ w : Nat → Int, spt (ltn n) w ∧ (∀ y, spt (ltn n) y → bl F w y = ePm n F n * y (n - 1)) ∧ w (n - 1) = ePm (n - 1) F (n - 1) := by
  have gen : (∃ w : Nat → Int, (∀ a, n ≤ a → w a = 0) ∧ (∀ b, b < n - 1 → dS (fun a => w a * F a b) n = 0) ∧ dS (fun a => w a * F a (n - 1)) n = ePm n F n ∧ w (n - 1) = ePm (n - 1) F (n - 1)) → ∃ w : Nat → Int, spt (ltn n) w ∧ (∀ y, spt (ltn n) y → bl F w y = ePm n F n * y (n - 1)) ∧ w (n - 1) = ePm (n - 1) F (n - 1) := by
    rintro ⟨w, w1, w2, w3, w4⟩
    have ws : spt (ltn n) w := fun a _ hn => w1 a (by unfold ltn at hn; omega)
    refine ⟨w, ws, fun y hy => ?_, w4⟩
    rw [bl_c, dS_1 (q := n - 1) (by omega) (fun b hb hn => ?_), row_n n4 ws, w3]
    rcases Nat.lt_or_ge b n with g | g
    · rw [row_n n4 ws, w2 b (by omega)]; omega
    · rw [hy b hb (by unfold ltn; omega)]; omega
  have hn : n = 1 ∨ n = 2 ∨ n = 3 ∨ n = 4 := by omega
  rcases hn with rfl | rfl | rfl | rfl
  · exact gen (sw_1 sy)
  · exact gen (sw_2 sy)
  · exact gen (sw_3 sy)
  · exact gen (sw_4 sy)
theorem wn0 {n : Nat} {F : mT} (n4 : n ≤ 4) (n2 : 2 ≤ n) (sy : syN n F) (hk : krn (ltn (n - 1)) F) (hF : ¬ krn (ltn n) F) (s1 : ePm (n - 1) F (n - 1) = 0) (s2 : ePm (n - 1) F (n - 2) ≠ 0) : ePm n F n ≠ 0 := by
  obtain ⟨x, x1, ⟨i, i4, xi⟩, x3⟩ := hk
  have r := kr_row (show n - 1 ≤ 4 by omega) x1 x3
  have x1' : spt (ltn n) x := fun a ha hn => x1 a ha (by unfold ltn at hn ⊢; omega)
  intro e0
  have gen : ∀ c : Int, ePm n F n * dS (fun a => x a * x a) (n - 1) = c * ePm (n - 1) F (n - 1) * dS (fun a => x a * x a) (n - 1) - ePm (n - 1) F (n - 2) * (dS (fun a => x a * F a (n - 1)) (n - 1) * dS (fun a => x a * F a (n - 1)) (n - 1)) → False := fun c h => by
    rw [e0, s1, Int.zero_mul, Int.mul_zero, Int.zero_mul] at h
    have β0 : dS (fun a => x a * F a (n - 1)) (n - 1) = 0 := by
      have h2 : ePm (n - 1) F (n - 2) * (dS (fun a => x a * F a (n - 1)) (n - 1) * dS (fun a => x a * F a (n - 1)) (n - 1)) = 0 := by omega
      have := mul_z s2 h2
      rcases Int.mul_eq_zero.mp this with g | g <;> exact g
    refine hF ⟨x, x1', ⟨i, i4, xi⟩, fun y hy => ?_⟩
    rw [bl_c]
    refine dS_0 (fun b hb => ?_)
    rcases Nat.lt_or_ge b n with g | g
    · rw [row_n (show n - 1 ≤ 4 by omega) x1]
      rcases Nat.lt_or_ge b (n - 1) with g2 | g2
      · rw [r b g2]; omega
      · rw [show b = n - 1 by omega, β0]; omega
    · rw [hy b hb (by unfold ltn; omega)]; omega
  have hn : n = 2 ∨ n = 3 ∨ n = 4 := by omega
  rcases hn with rfl | rfl | rfl
  · exact gen _ (n0_2 sy r)
  · exact gen _ (n0_3 sy r)
  · exact gen _ (n0_4 sy r)
-- lines changed about
theorem sw_i {i m a : Nat} : sw i m (sw i m a) = a := by
  unfold sw
  split <;> (try split) <;> (try split) <;> omega
theorem sw_n {n i a : Nat} (hi : i < n) : sw i (n - 1) a < n ↔ a < n := by
  unfold sw
  split
  · omega
  · split <;> omega
theorem dS_w {f : Nat → Int} {i m : Nat} (hi : i < 4) (hm : m < 4) : dS (fun a => f (sw i m a)) 4 = dS f 4 := by
  have hi' : i = 0 ∨ i = 1 ∨ i = 2 ∨ i = 3 := by omega
  have hm' : m = 0 ∨ m = 1 ∨ m = 2 ∨ m = 3 := by omega
  rcases hi' with rfl | rfl | rfl | rfl <;> rcases hm' with rfl | rfl | rfl | rfl <;> (rw [dS_4, dS_4]; simp [sw]) <;> omega
theorem pm_b {F : mT} {i m : Nat} (hi : i < 4) (hm : m < 4) (x y : Nat → Int) : bl (pmF F i m) x y = bl F (fun a => x (sw i m a)) (fun a => y (sw i m a)) := by
  show dS (fun a => dS (fun b => x a * F (sw i m a) (sw i m b) * y b) 4) 4 = dS (fun a => dS (fun b => x (sw i m a) * F a b * y (sw i m b)) 4) 4
  rw [← dS_w (f := fun a => dS (fun b => x (sw i m a) * F a b * y (sw i m b)) 4) hi hm]
  refine dS_c (fun a _ => ?_)
  show dS (fun b => x a * F (sw i m a) (sw i m b) * y b) 4 = dS (fun b => x (sw i m (sw i m a)) * F (sw i m a) b * y (sw i m b)) 4
  rw [← dS_w (f := fun b => x (sw i m (sw i m a)) * F (sw i m a) b * y (sw i m b)) hi hm]
  exact dS_c (fun b _ => by rw [sw_i, sw_i])
theorem pm_i {F : mT} {n i p q : Nat} (n4 : n ≤ 4) (hi : i < n) (h : inr (ltn n) n F p q) : inr (ltn n) n (pmF F i (n - 1)) p q := by
  obtain ⟨M, hM⟩ : ∃ M : Nat → Nat → Int, M = fun a b => idM (sw i (n - 1) a) b := ⟨_, rfl⟩
  have s4 : ∀ a, a < 4 → sw i (n - 1) a < 4 := fun a ha => by
    unfold sw
    split
    · omega
    · split <;> omega
  have Me : ∀ x a, a < 4 → tM M x a = x (sw i (n - 1) a) := fun x a ha => by
    rw [hM]
    exact tM_I x (s4 a ha)
  have Ms : ∀ x, spt (ltn n) x → spt (ltn n) (tM M x) := fun x hx a ha hn => by
    rw [Me x a ha]
    exact hx _ (s4 a ha) (fun g => hn ((sw_n hi).mp g))
  have b1 : ∀ x y, bl F (tM M x) (tM M y) = bl (pmF F i (n - 1)) x y := fun x y => by
    rw [pm_b (by omega) (by omega)]
    exact bl_e (fun a ha => Me x a ha) (fun a ha => Me y a ha)
  have b2 : ∀ x y, bl (pmF F i (n - 1)) (tM M x) (tM M y) = bl F x y := fun x y => by
    rw [← b1]
    exact bl_e (fun a ha => by rw [Me _ a ha, Me x _ (s4 a ha), sw_i]) (fun a ha => by rw [Me _ a ha, Me y _ (s4 a ha), sw_i])
  refine inr_T M M Ms Ms (fun x hx => ⟨1, by decide, by rw [b1]; omega⟩) (fun x hx => ⟨1, by decide, by rw [b2]; omega⟩) (fun ⟨x, x1, ⟨a, a4, xa⟩, x3⟩ => ?_) h
  refine ⟨tM M x, Ms x x1, ⟨sw i (n - 1) a, s4 a a4, by rw [Me x _ (s4 a a4), sw_i]; exact xa⟩, fun y hy => ?_⟩
  have := x3 _ (Ms y hy)
  rw [← b2] at this
  rw [← this]
  exact bl_e (fun _ _ => rfl) (fun a ha => by rw [Me _ a ha, Me y _ (s4 a ha), sw_i])
theorem pm_sy {F : mT} {n i : Nat} (hi : i < n) (sy : syN n F) : syN n (pmF F i (n - 1)) := fun a b ha hb => sy _ _ ((sw_n hi).mpr ha) ((sw_n hi).mpr hb)
theorem pm_id (F : mT) (m : Nat) : pmF F m m = F := funext (fun a => funext (fun b => by
  have : ∀ a, sw m m a = a := fun a => by
    unfold sw
    split
    · omega
    · rfl
  unfold pmF
  rw [this, this]))
theorem pm_ee {F : mT} {n i : Nat} (n4 : n ≤ 4) (hi : i < n) : ePm n (pmF F i (n - 1)) = ePm n F := by
  rcases Decidable.em (i = n - 1) with g | g
  · rw [g, pm_id]
  have hn : n = 2 ∨ n = 3 ∨ n = 4 := by omega
  rcases hn with rfl | rfl | rfl
  · have : i = 0 := by omega
    subst this
    obtain ⟨a, b⟩ := pm_20 F
    show lf [1, sE21 (pmF F 0 1), sE22 (pmF F 0 1)] = _
    rw [a, b]
    rfl
  · have : i = 0 ∨ i = 1 := by omega
    rcases this with rfl | rfl
    · obtain ⟨a, b, c⟩ := pm_30 F
      show lf [1, sE31 (pmF F 0 2), sE32 (pmF F 0 2), sE33 (pmF F 0 2)] = _
      rw [a, b, c]
      rfl
    · obtain ⟨a, b, c⟩ := pm_31 F
      show lf [1, sE31 (pmF F 1 2), sE32 (pmF F 1 2), sE33 (pmF F 1 2)] = _
      rw [a, b, c]
      rfl
  · have : i = 0 ∨ i = 1 ∨ i = 2 := by omega
    rcases this with rfl | rfl | rfl
    · obtain ⟨a, b, c, d⟩ := pm_40 F
      show lf [1, sE41 (pmF F 0 3), sE42 (pmF F 0 3), sE43 (pmF F 0 3), sE44 (pmF F 0 3)] = _
      rw [a, b, c, d]
      rfl
    · obtain ⟨a, b, c, d⟩ := pm_41 F
      show lf [1, sE41 (pmF F 1 3), sE42 (pmF F 1 3), sE43 (pmF F 1 3), sE44 (pmF F 1 3)] = _
      rw [a, b, c, d]
      rfl
    · obtain ⟨a, b, c, d⟩ := pm_42 F
      show lf [1, sE41 (pmF F 2 3), sE42 (pmF F 2 3), sE43 (pmF F 2 3), sE44 (pmF F 2 3)] = _
      rw [a, b, c, d]
      rfl
theorem pm_d {F : mT} {n : Nat} (n4 : n ≤ 4) {k : Nat} (hk : k < n) : dS (fun i => ePm (n - 1) (pmF F i (n - 1)) k) n = ((n : Int) - k) * ePm n F k := by
  have hn : n = 1 ∨ n = 2 ∨ n = 3 ∨ n = 4 := by omega
  rcases hn with rfl | rfl | rfl | rfl
  · have : k = 0 := by omega
    subst this
    show (0 + 1 : Int) = (1 - 0) * 1
    decide
  · rw [dS_2]
    have : k = 0 ∨ k = 1 := by omega
    rcases this with rfl | rfl
    · show (1 + 1 : Int) = (2 - 0) * 1; decide
    · exact pd_2 F
  · rw [dS_3]
    obtain ⟨a, b⟩ := pd_3 F
    have : k = 0 ∨ k = 1 ∨ k = 2 := by omega
    rcases this with rfl | rfl | rfl
    · show (1 + 1 + 1 : Int) = (3 - 0) * 1; decide
    · exact a
    · exact b
  · rw [dS_4]
    obtain ⟨a, b, c⟩ := pd_4 F
    have : k = 0 ∨ k = 1 ∨ k = 2 ∨ k = 3 := by omega
    rcases this with rfl | rfl | rfl | rfl
    · show (1 + 1 + 1 + 1 : Int) = (4 - 0) * 1; decide
    · exact a
    · exact b
    · exact c
-- rank by signs
theorem lz_h {c : Nat → Int} : ∀ d l, l ≤ lz c d l ∧ lz c d l ≤ l + d ∧ (∀ k, l ≤ k → k < lz c d l → c k = 0) ∧ (lz c d l < l + d → c (lz c d l) ≠ 0)
  | 0, l => ⟨Nat.le_refl _, Nat.le_refl _, fun k h1 h2 => absurd h1 (by have : k < l := h2; omega), fun h => absurd h (Nat.lt_irrefl _)⟩
  | d + 1, l => by
    obtain ⟨a, b, e, f⟩ := lz_h (c := c) d (l + 1)
    unfold lz
    split
    · rename_i g
      refine ⟨by omega, by omega, fun k h1 h2 => ?_, fun h => f (by omega)⟩
      rcases Decidable.em (k = l) with q | q
      · rw [q]; exact g
      · exact e k (by omega) h2
    · rename_i g
      exact ⟨Nat.le_refl _, by omega, fun k h1 h2 => by omega, fun _ => g⟩
theorem cf_z {n : Nat} {e : Nat → Int} {k : Nat} (h : k ≤ n) : cf n e (n - k) = 0 ↔ e k = 0 := by
  unfold cf
  rw [show n - (n - k) = k by omega]
  split <;> omega
theorem rk_b {n : Nat} {e : Nat → Int} : 0 ≤ rk n e ∧ rk n e ≤ n ∧ (∀ k : Nat, k ≤ n → rk n e < k → e k = 0) ∧ ∀ m : Nat, m ≤ n → (∀ k : Nat, m < k → k ≤ n → e k = 0) → rk n e ≤ m := by
  obtain ⟨a, b, c, d⟩ := lz_h (c := cf n e) n 0
  unfold rk
  refine ⟨by omega, by omega, fun k hk h => (cf_z hk).mp (c (n - k) (Nat.zero_le _) (by omega)), fun m hm h => ?_⟩
  rcases Nat.lt_or_ge (lz (cf n e) n 0) (n - m) with g | g
  · exfalso
    refine d (by omega) ?_
    have := (cf_z (n := n) (e := e) (k := n - lz (cf n e) n 0) (by omega)).mpr (h _ (by omega) (by omega))
    rw [show n - (n - lz (cf n e) n 0) = lz (cf n e) n 0 by omega] at this
    exact this
  · omega
