/-! What the class's measure counts: the inertia. -/
def krn (O : Nat → Prop) (F : Nat → Nat → Int) : Prop := ∃ x, spt O x ∧ (∃ a, a < 4 ∧ x a ≠ 0) ∧ ∀ y, spt O y → bl F x y = 0
theorem ng_ng (F : Nat → Nat → Int) : ngF (ngF F) = F := funext (fun a => funext (fun b => by unfold ngF; omega))
theorem inr_n {O : Nat → Prop} {N : Nat} {F : Nat → Nat → Int} {p q : Nat} (h : inr O N (ngF F) p q) : inr O N F q p := by
  obtain ⟨a, b, c, d, e⟩ := h
  rw [ng_ng] at b d
  refine ⟨b, a, d, c, ?_⟩
  rcases e with e | ⟨x, x1, x2, x3⟩
  · exact Or.inl (by omega)
  · exact Or.inr ⟨x, x1, x2, fun y hy => by have := x3 y hy; rw [bl_n] at this; omega⟩
theorem inr_T {O O' : Nat → Prop} {N : Nat} {F F' : Nat → Nat → Int} {p q : Nat} (M M' : Nat → Nat → Int) (hM : ∀ x, spt O x → spt O' (tM M x)) (hM' : ∀ x, spt O' x → spt O (tM M' x)) (h1 : ∀ x, spt O x → ∃ w : Int, 0 < w ∧ bl F' (tM M x) (tM M x) = w * bl F x x) (h2 : ∀ x, spt O' x → ∃ w : Int, 0 < w ∧ bl F (tM M' x) (tM M' x) = w * bl F' x x) (hk : krn O' F' → krn O F) (h : inr O' N F' p q) : inr O N F p q := by
  obtain ⟨a, b, c, d, e⟩ := h
  have pu : ∀ {u w x : Int}, 0 < w → u = w * x → (0 < x ↔ 0 < u) := fun {u w x} w0 e => by
    rw [e]
    constructor
    · exact fun h => Int.mul_pos w0 h
    · intro h
      rcases Int.lt_or_le 0 x with g | g
      · exact g
      · have := Int.mul_nonneg (show 0 ≤ w by omega) (show 0 ≤ -x by omega)
        rw [Int.mul_neg] at this
        omega
  have up1 : ∀ x, spt O x → 0 < bl F x x → 0 < bl F' (tM M x) (tM M x) := fun x hx h => by
    obtain ⟨w, w0, w1⟩ := h1 x hx
    exact (pu w0 w1).mp h
  have dn1 : ∀ x, spt O' x → 0 < bl F' x x → 0 < bl F (tM M' x) (tM M' x) := fun x hx h => by
    obtain ⟨w, w0, w1⟩ := h2 x hx
    exact (pu w0 w1).mp h
  have up2 : ∀ x, spt O x → 0 < bl (ngF F) x x → 0 < bl (ngF F') (tM M x) (tM M x) := fun x hx h => by
    obtain ⟨w, w0, w1⟩ := h1 x hx
    rw [bl_n] at h ⊢
    exact (pu (u := -bl F' (tM M x) (tM M x)) (x := -bl F x x) w0 (by rw [w1, Int.mul_neg])).mp h
  have dn2 : ∀ x, spt O' x → 0 < bl (ngF F') x x → 0 < bl (ngF F) (tM M' x) (tM M' x) := fun x hx h => by
    obtain ⟨w, w0, w1⟩ := h2 x hx
    rw [bl_n] at h ⊢
    exact (pu (u := -bl F (tM M' x) (tM M' x)) (x := -bl F' x x) w0 (by rw [w1, Int.mul_neg])).mp h
  exact ⟨pos_T M' hM' dn1 a, pos_T M' hM' dn2 b, fun k hp => c k (pos_T M hM up1 hp), fun k hp => d k (pos_T M hM up2 hp), by
    rcases e with e | e
    · exact Or.inl e
    · exact Or.inr (hk e)⟩
def ek (k : Nat) : Nat → Int := fun a => if a = k then 1 else 0
theorem bl_ek {F : Nat → Nat → Int} {k : Nat} (hk : k < 4) (x : Nat → Int) : bl F x (ek k) = dS (fun a => x a * F a k) 4 ∧ bl F (ek k) x = dS (fun b => F k b * x b) 4 := by
  constructor
  · refine dS_c (fun a _ => ?_)
    rw [dS_1 (q := k) hk (fun l _ hn => by unfold ek; rw [if_neg hn]; omega)]
    unfold ek
    rw [if_pos rfl]
    omega
  · show dS (fun a => dS (fun b => ek k a * F a b * x b) 4) 4 = _
    rw [dS_1 (q := k) hk (fun l _ hn => dS_0 (fun b _ => by unfold ek; rw [if_neg hn]; omega))]
    refine dS_c (fun b _ => ?_)
    unfold ek
    rw [if_pos rfl, Int.one_mul]
/-- one square split off, the pivot above 0 -/
theorem sp_i {O O' : Nat → Prop} {N k p q : Nat} {T S' : Nat → Nat → Int} (hk : k < 4) (hO : O k) (hO' : ∀ a, a < 4 → (O' a ↔ O a ∧ a ≠ k)) (sy : ∀ a b, a < 4 → b < 4 → O a → O b → T a b = T b a) (p0 : 0 < T k k) (hS : ∀ a b, a < 4 → b < 4 → O' a → O' b → S' a b = T k k * T a b - T a k * T k b) (h : inr O' N S' p q) : inr O (N + 1) T (p + 1) q := by
  obtain ⟨v, hv⟩ : ∃ v, T k k = v := ⟨_, rfl⟩
  obtain ⟨l, hl⟩ : ∃ l : Nat → Int, l = fun b => T k b := ⟨_, rfl⟩
  rw [hv] at p0 hS
  have bsy : ∀ x y, spt O x → spt O y → bl T x y = bl T y x := fun x y hx hy => bl_s (fun a b ha hb => by
    rcases Classical.em (O a) with ga | ga
    · rcases Classical.em (O b) with gb | gb
      · rw [sy a b ha hb ga gb]; grind
      · rw [hy b hb gb]; omega
    · rw [hx a ha ga]; omega)
  have sek : spt O (ek k) := fun a ha hn => by
    unfold ek
    rw [if_neg (fun e => hn (by rw [e]; exact hO))]
  have lx : ∀ x, bl T (ek k) x = lnf l x := fun x => by rw [(bl_ek hk x).2, hl]; rfl
  have lx' : ∀ x, spt O x → bl T x (ek k) = lnf l x := fun x hx => by rw [bsy x _ hx sek, lx]
  -- without line k
  obtain ⟨dk, hdk⟩ : ∃ dk : Nat → Nat → Int, dk = fun a b => if a = b ∧ a ≠ k then 1 else 0 := ⟨_, rfl⟩
  have dke : ∀ x a, a < 4 → tM dk x a = if a = k then 0 else x a := fun x a ha => by
    show dS (fun b => dk a b * x b) 4 = _
    rw [hdk]
    rcases Decidable.em (a = k) with e | e
    · rw [if_pos e]
      exact dS_0 (fun b _ => by dsimp only; rw [if_neg (fun q => q.2 e)]; omega)
    · rw [if_neg e, dS_1 (q := a) ha (fun b _ hn => by dsimp only; rw [if_neg (fun q => hn q.1.symm)]; omega)]
      show (if a = a ∧ a ≠ k then 1 else 0) * x a = x a
      rw [if_pos ⟨rfl, e⟩]
      omega
  have dks : ∀ x, spt O x → spt O' (tM dk x) := fun x hx a ha hn => by
    rw [dke x a ha]
    split
    · rfl
    · rename_i e
      exact hx a ha (fun g => hn ((hO' a ha).mpr ⟨g, e⟩))
  -- the key identity
  have K1 : ∀ x y, spt O x → spt O y → bl S' (tM dk x) (tM dk y) = v * bl T x y - lnf l x * lnf l y := fun x y hx hy => by
    have e1 : bl S' (tM dk x) (tM dk y) = bl (fun a b => v * T a b - T a k * T k b) x y := dS_c (fun a ha => dS_c (fun b hb => by
      rw [dke x a ha, dke y b hb]
      show (if a = k then 0 else x a) * S' a b * (if b = k then 0 else y b) = x a * (v * T a b - T a k * T k b) * y b
      rcases Decidable.em (a = k) with ea | ea
      · rw [if_pos ea, ea, hv]
        grind
      · rcases Decidable.em (b = k) with eb | eb
        · rw [if_pos eb, eb, hv]
          grind
        · rw [if_neg ea, if_neg eb]
          rcases Classical.em (O a) with ga | ga
          · rcases Classical.em (O b) with gb | gb
            · rw [hS a b ha hb ((hO' a ha).mpr ⟨ga, ea⟩) ((hO' b hb).mpr ⟨gb, eb⟩)]
            · rw [hy b hb gb]; omega
          · rw [hx a ha ga]; omega))
    have e2 : bl (fun a b => v * T a b - T a k * T k b) x y = v * bl T x y + -1 * (dS (fun a => x a * T a k) 4 * lnf l y) := by
      have e3 : dS (fun a => x a * T a k) 4 * lnf l y = dS (fun a => dS (fun b => x a * T a k * (T k b * y b)) 4) 4 := by
        rw [← dS_sr]
        refine dS_c (fun a _ => ?_)
        rw [hl]
        show x a * T a k * dS (fun b => T k b * y b) 4 = _
        rw [← dS_sc]
      rw [e3]
      unfold bl
      rw [← dS_l]
      refine dS_c (fun a _ => ?_)
      rw [← dS_l]
      exact dS_c (fun b _ => by grind)
    rw [e1, e2, ← (bl_ek hk x).1, lx' x hx]
    omega
  -- the lift
  obtain ⟨hM, hhM⟩ : ∃ hM : Nat → Nat → Int, hM = fun a b => (if a = b then v else 0) - (if a = k then T k b else 0) := ⟨_, rfl⟩
  have hMe : ∀ x a, a < 4 → tM hM x a = v * x a + -(lnf l x) * ek k a := fun x a ha => by
    show dS (fun b => hM a b * x b) 4 = _
    have e1 : dS (fun b => hM a b * x b) 4 = 1 * dS (fun b => (if a = b then v else 0) * x b) 4 + -1 * dS (fun b => (if a = k then T k b else 0) * x b) 4 := by
      rw [← dS_l]
      exact dS_c (fun b _ => by rw [hhM]; grind)
    rw [e1, dS_1 (q := a) ha (fun b _ hn => by rw [if_neg (fun e => hn e.symm)]; omega), if_pos rfl]
    unfold ek
    rcases Decidable.em (a = k) with e | e
    · rw [if_pos e, dS_c (g := fun b => l b * x b) (fun b _ => by rw [if_pos e, hl])]
      show 1 * (v * x a) + -1 * lnf l x = _
      omega
    · rw [if_neg e, dS_0 (fun b _ => by rw [if_neg e]; omega)]
      omega
  have O'O : ∀ x, spt O' x → spt O x := fun x hx a ha hn => hx a ha (fun g => hn ((hO' a ha).mp g).1)
  have xk : ∀ x, spt O' x → x k = 0 := fun x hx => hx k hk (fun g => ((hO' k hk).mp g).2 rfl)
  have hMs : ∀ x, spt O' x → spt O (tM hM x) := fun x hx a ha hn => by
    rw [hMe x a ha, O'O x hx a ha hn, sek a ha hn]
    omega
  have lek : lnf l (ek k) = v := by
    rw [← lx, (bl_ek hk (ek k)).2, dS_1 (q := k) hk (fun b _ hn => by unfold ek; rw [if_neg hn]; omega)]
    unfold ek
    rw [if_pos rfl]
    omega
  have lT : ∀ x, spt O' x → lnf l (tM hM x) = 0 := fun x hx => by
    have e1 : lnf l (tM hM x) = v * lnf l x + -(lnf l x) * lnf l (ek k) := by
      unfold lnf
      rw [← dS_l]
      exact dS_c (fun a ha => by rw [hMe x a ha]; unfold lnf; grind)
    rw [e1, lek]
    grind
  have dT : ∀ x, spt O' x → ∀ a, a < 4 → tM dk (tM hM x) a = v * x a := fun x hx a ha => by
    rw [dke _ a ha]
    rcases Decidable.em (a = k) with e | e
    · rw [if_pos e, e, xk x hx]; omega
    · rw [if_neg e, hMe x a ha]
      unfold ek
      rw [if_neg e]
      omega
  have K2 : ∀ x y, spt O' x → spt O y → v * bl T (tM hM x) y = v * bl S' x (tM dk y) := fun x y hx hy => by
    have := K1 (tM hM x) y (hMs x hx) hy
    rw [lT x hx, bl_e (x' := fun a => v * x a + 0 * x a) (y' := tM dk y) (fun a ha => by rw [dT x hx a ha]; omega) (fun _ _ => rfl), bl_1] at this
    omega
  have K3 : ∀ x, spt O' x → bl T (tM hM x) (tM hM x) = v * bl S' x x := fun x hx => by
    have := K2 x (tM hM x) hx (hMs x hx)
    rw [bl_e (F := S') (x' := x) (y' := fun a => v * x a + 0 * x a) (fun _ _ => rfl) (fun a ha => by rw [dT x hx a ha]; omega), bl_2] at this
    have e := Int.eq_of_mul_eq_mul_left (show v ≠ 0 by omega) this
    omega
  have vp : ∀ x : Int, 0 < x → 0 < v * x := fun x hx => Int.mul_pos p0 hx
  obtain ⟨a, b, c, d, e⟩ := h
  refine ⟨pos_a hM sek ?_ hMs (fun x hx hx0 => ?_) (fun x hx => ?_) a, pos_T hM hMs (fun x hx hx0 => ?_) b, fun m hm => ?_, fun m hm => ?_, ?_⟩
  · rw [lx, lek]; exact p0
  · rw [K3 x hx]; exact vp _ hx0
  · rw [lx, lx' _ (hMs x hx), lT x hx]
    exact ⟨rfl, rfl⟩
  · rw [bl_n] at hx0 ⊢
    rw [K3 x hx]
    have := vp _ hx0
    rw [Int.mul_neg] at this
    exact this
  · rcases Nat.eq_zero_or_pos m with g | g
    · omega
    · obtain ⟨m', rfl⟩ : ∃ m', m = m' + 1 := ⟨m - 1, by omega⟩
      have := c m' (pos_l dk l dks (fun x hx hl0 hx0 => by
        rw [K1 x x hx hx, hl0]
        have := vp _ hx0
        omega) hm)
      omega
  · exact d m (pos_T dk dks (fun x hx hx0 => by
      rw [bl_n] at hx0 ⊢
      rw [K1 x x hx hx]
      have h1 := vp _ hx0
      have h2 := sq_nn (lnf l x)
      rw [Int.mul_neg] at h1
      omega) hm)
  · rcases e with e | ⟨x, x1, ⟨i, i4, xi⟩, x3⟩
    · exact Or.inl (by omega)
    · refine Or.inr ⟨tM hM x, hMs x x1, ⟨i, i4, ?_⟩, fun y hy => ?_⟩
      · have ik : i ≠ k := fun g => xi (by rw [g]; exact xk x x1)
        rw [hMe x i i4]
        unfold ek
        rw [if_neg ik]
        have := mul_n (show v ≠ 0 by omega) xi
        omega
      · have := K2 x y x1 hy
        rw [x3 _ (dks y hy), Int.mul_zero] at this
        exact mul_z (show v ≠ 0 by omega) this
