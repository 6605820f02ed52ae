/-! Forms: spaces on which they are above 0. -/
def bl (F : Nat → Nat → Int) (x y : Nat → Int) : Int := dS (fun a => dS (fun b => x a * F a b * y b) 4) 4
def tM (M : Nat → Nat → Int) (x : Nat → Int) : Nat → Int := fun a => dS (fun b => M a b * x b) 4
def cb (k : Nat) (c : Nat → Int) (v : Nat → Nat → Int) : Nat → Int := fun a => dS (fun i => c i * v i a) k
/-- what lives on the open lines alone -/
def spt (O : Nat → Prop) (x : Nat → Int) : Prop := ∀ a, a < 4 → ¬ O a → x a = 0
def pos (O : Nat → Prop) (F : Nat → Nat → Int) (k : Nat) : Prop := ∃ v : Nat → Nat → Int, (∀ i, i < k → spt O (v i)) ∧ ∀ c : Nat → Int, (∃ i, i < k ∧ c i ≠ 0) → 0 < bl F (cb k c v) (cb k c v)
def ngF (F : Nat → Nat → Int) : Nat → Nat → Int := fun a b => -F a b
theorem bl_e {F : Nat → Nat → Int} {x x' y y' : Nat → Int} (hx : ∀ a, a < 4 → x a = x' a) (hy : ∀ a, a < 4 → y a = y' a) : bl F x y = bl F x' y' := dS_c (fun a ha => dS_c (fun b hb => by rw [hx a ha, hy b hb]))
theorem bl_1 (F : Nat → Nat → Int) (p q : Int) (x x' y : Nat → Int) : bl F (fun a => p * x a + q * x' a) y = p * bl F x y + q * bl F x' y := by
  unfold bl
  rw [← dS_l]
  refine dS_c (fun a _ => ?_)
  rw [← dS_l]
  exact dS_c (fun b _ => by grind)
theorem bl_2 (F : Nat → Nat → Int) (p q : Int) (x y y' : Nat → Int) : bl F x (fun a => p * y a + q * y' a) = p * bl F x y + q * bl F x y' := by
  unfold bl
  rw [← dS_l]
  refine dS_c (fun a _ => ?_)
  rw [← dS_l]
  exact dS_c (fun b _ => by grind)
theorem bl_s {F : Nat → Nat → Int} {x y : Nat → Int} (h : ∀ a b, a < 4 → b < 4 → x a * F a b * y b = y b * F b a * x a) : bl F x y = bl F y x := by
  unfold bl
  rw [dS_sw (fun a b => y a * F a b * x b) 4 4]
  exact dS_c (fun a ha => dS_c (fun b hb => h a b ha hb))
theorem bl_n (F : Nat → Nat → Int) (x y : Nat → Int) : bl (ngF F) x y = -bl F x y := by
  have h : bl (ngF F) x y = -1 * bl F x y := by
    unfold bl
    rw [← dS_sc]
    refine dS_c (fun a _ => ?_)
    rw [← dS_sc]
    exact dS_c (fun b _ => by unfold ngF; grind)
  omega
theorem bl_q {F : Nat → Nat → Int} {p q : Int} {x y : Nat → Int} (hs : bl F x y = bl F y x) : bl F (fun a => p * x a + q * y a) (fun a => p * x a + q * y a) = p * p * bl F x x + 2 * (p * q) * bl F x y + q * q * bl F y y := by
  rw [bl_1, bl_2, bl_2, hs]
  grind
theorem cb_s {O : Nat → Prop} {k : Nat} {c : Nat → Int} {v : Nat → Nat → Int} (h : ∀ i, i < k → spt O (v i)) : spt O (cb k c v) := fun a ha hO => dS_0 (fun i hi => by rw [h i hi a ha hO]; omega)
theorem tM_cb (M : Nat → Nat → Int) (k : Nat) (c : Nat → Int) (v : Nat → Nat → Int) (a : Nat) : tM M (cb k c v) a = cb k c (fun i => tM M (v i)) a := by
  show dS (fun b => M a b * dS (fun i => c i * v i b) k) 4 = dS (fun i => c i * dS (fun b => M a b * v i b) 4) k
  have e1 : dS (fun b => M a b * dS (fun i => c i * v i b) k) 4 = dS (fun b => dS (fun i => c i * (M a b * v i b)) k) 4 := dS_c (fun b _ => by
    rw [← dS_sc]
    exact dS_c (fun i _ => by grind))
  rw [e1, dS_sw]
  exact dS_c (fun i _ => dS_sc _ _ _)
/-- a map that keeps what is above 0 -/
theorem pos_T {O O' : Nat → Prop} {F F' : Nat → Nat → Int} {k : Nat} (M : Nat → Nat → Int) (hS : ∀ x, spt O x → spt O' (tM M x)) (hP : ∀ x, spt O x → 0 < bl F x x → 0 < bl F' (tM M x) (tM M x)) (h : pos O F k) : pos O' F' k := by
  obtain ⟨v, v1, v2⟩ := h
  refine ⟨fun i => tM M (v i), fun i hi => hS _ (v1 i hi), fun c hc => ?_⟩
  have := hP _ (cb_s v1) (v2 c hc)
  rw [bl_e (x' := cb k c (fun i => tM M (v i))) (y' := cb k c (fun i => tM M (v i))) (fun a _ => tM_cb M k c v a) (fun a _ => tM_cb M k c v a)] at this
  exact this
def idM (a b : Nat) : Int := if a = b then 1 else 0
theorem tM_I (x : Nat → Int) {a : Nat} (ha : a < 4) : tM idM x a = x a := by
  show dS (fun b => idM a b * x b) 4 = _
  rw [dS_1 (q := a) ha (fun l _ hn => by unfold idM; rw [if_neg (fun e => hn e.symm)]; omega)]
  unfold idM
  rw [if_pos rfl]
  omega
theorem pos_i {O O' : Nat → Prop} {F F' : Nat → Nat → Int} {k : Nat} (hO : ∀ a, a < 4 → O a → O' a) (hP : ∀ x, spt O x → 0 < bl F x x → 0 < bl F' x x) (h : pos O F k) : pos O' F' k :=
  pos_T idM (fun x hx a ha hn => by rw [tM_I x ha]; exact hx a ha (fun q => hn (hO a ha q))) (fun x hx hx0 => by rw [bl_e (x' := x) (y' := x) (fun a ha => tM_I x ha) (fun a ha => tM_I x ha)]; exact hP x hx hx0) h
theorem pos_0 (O : Nat → Prop) (F : Nat → Nat → Int) : pos O F 0 := ⟨fun _ _ => 0, fun i hi => absurd hi (Nat.not_lt_zero _), fun c ⟨i, hi, _⟩ => absurd hi (Nat.not_lt_zero _)⟩
theorem pos_z {O : Nat → Prop} {F : Nat → Nat → Int} {k : Nat} (hz : ∀ x, spt O x → ¬ 0 < bl F x x) (h : pos O F k) : k = 0 := by
  rcases Nat.eq_zero_or_pos k with q | q
  · exact q
  · obtain ⟨v, v1, v2⟩ := h
    exact absurd (v2 (fun _ => 1) ⟨0, q, by decide⟩) (hz _ (cb_s v1))
theorem sq_nn (x : Int) : 0 ≤ x * x := by
  rcases Int.le_total 0 x with g | g
  · exact Int.mul_nonneg g g
  · have := Int.mul_nonneg (show 0 ≤ -x by omega) (show 0 ≤ -x by omega)
    rw [Int.neg_mul_neg] at this
    exact this
/-- one vector more, at right angles -/
theorem pos_a {O O' : Nat → Prop} {F F' : Nat → Nat → Int} {k : Nat} {e : Nat → Int} (M : Nat → Nat → Int) (he : spt O e) (e0 : 0 < bl F e e) (hS : ∀ x, spt O' x → spt O (tM M x)) (hP : ∀ x, spt O' x → 0 < bl F' x x → 0 < bl F (tM M x) (tM M x)) (ho : ∀ x, spt O' x → bl F (tM M x) e = 0 ∧ bl F e (tM M x) = 0) (h : pos O' F' k) : pos O F (k + 1) := by
  obtain ⟨v, v1, v2⟩ := h
  refine ⟨fun i => if i < k then tM M (v i) else e, fun i hi => ?_, fun c hc => ?_⟩
  · dsimp only
    split
    · rename_i q
      exact hS _ (v1 i q)
    · exact he
  · have ec : ∀ a, cb (k + 1) c (fun i => if i < k then tM M (v i) else e) a = 1 * tM M (cb k c v) a + c k * e a := fun a => by
      rw [tM_cb]
      show dS (fun i => c i * (if i < k then tM M (v i) else e) a) k + c k * (if k < k then tM M (v k) else e) a = 1 * dS (fun i => c i * tM M (v i) a) k + c k * e a
      rw [if_neg (Nat.lt_irrefl k), dS_c (g := fun i => c i * tM M (v i) a) (fun i hi => by rw [if_pos hi])]
      omega
    rw [bl_e (x' := fun a => 1 * tM M (cb k c v) a + c k * e a) (y' := fun a => 1 * tM M (cb k c v) a + c k * e a) (fun a _ => ec a) (fun a _ => ec a)]
    have hs := cb_s (c := c) v1
    obtain ⟨o1, o2⟩ := ho _ hs
    rw [bl_q (by rw [o1, o2]), o1]
    have sq : 0 ≤ c k * c k := sq_nn (c k)
    have l0 : 0 ≤ c k * c k * bl F e e := Int.mul_nonneg sq (by omega)
    rcases Classical.em (∃ i, i < k ∧ c i ≠ 0) with q | q
    · have := hP _ hs (v2 c q)
      omega
    · have z : ∀ a, a < 4 → tM M (cb k c v) a = 0 := fun a ha => by
        rw [tM_cb]
        exact dS_0 (fun i hi => by
          have : c i = 0 := Decidable.not_not.mp (fun g => q ⟨i, hi, g⟩)
          rw [this]; omega)
      have b0 : bl F (tM M (cb k c v)) (tM M (cb k c v)) = 0 := dS_0 (fun a ha => dS_0 (fun b hb => by rw [z a ha]; omega))
      obtain ⟨i, hi, hc0⟩ := hc
      have ck : c k ≠ 0 := by
        rcases Nat.lt_or_ge i k with g | g
        · exact absurd ⟨i, g, hc0⟩ q
        · rw [show k = i by omega]; exact hc0
      have sp : 0 < c k * c k := by
        have := mul_n ck ck
        omega
      have := Int.mul_pos sp e0
      rw [b0]
      omega
theorem dS_k (f : Nat → Int) (i : Nat) : ∀ k, i ≤ k → dS f (k + 1) = dS (fun j => f (if j < i then j else j + 1)) k + f i
  | 0, h => by
    have : i = 0 := by omega
    subst this
    rfl
  | k + 1, h => by
    rcases Nat.lt_or_ge k i with q | q
    · have : i = k + 1 := by omega
      subst this
      show dS f (k + 1) + f (k + 1) = dS (fun j => f (if j < k + 1 then j else j + 1)) (k + 1) + f (k + 1)
      exact congrArg (fun x => x + f (k + 1)) (dS_c (fun j hj => by show f j = f (if j < k + 1 then j else j + 1); rw [if_pos hj]))
    · show dS f (k + 1) + f (k + 1) = dS (fun j => f (if j < i then j else j + 1)) k + f (if k < i then k else k + 1) + f i
      rw [dS_k f i k q, if_neg (by omega)]
      omega
def lnf (l x : Nat → Int) : Int := dS (fun a => l a * x a) 4
theorem lnf_cb (l : Nat → Int) (k : Nat) (c : Nat → Int) (v : Nat → Nat → Int) : lnf l (cb k c v) = dS (fun i => c i * lnf l (v i)) k := tM_cb (fun _ b => l b) k c v 0
/-- one condition costs one vector -/
theorem pos_l {O O' : Nat → Prop} {F F' : Nat → Nat → Int} {k : Nat} (M : Nat → Nat → Int) (l : Nat → Int) (hS : ∀ x, spt O x → spt O' (tM M x)) (hP : ∀ x, spt O x → lnf l x = 0 → 0 < bl F x x → 0 < bl F' (tM M x) (tM M x)) (h : pos O F (k + 1)) : pos O' F' k := by
  obtain ⟨v, v1, v2⟩ := h
  rcases Classical.em (∃ i, i < k + 1 ∧ lnf l (v i) ≠ 0) with ⟨i, hi, hl⟩ | q
  · obtain ⟨w, hw⟩ : ∃ w : Nat → Nat → Int, w = fun j a => lnf l (v i) * v (if j < i then j else j + 1) a - lnf l (v (if j < i then j else j + 1)) * v i a := ⟨_, rfl⟩
    refine ⟨fun j => tM M (w j), fun j hj => hS _ (fun a ha hn => ?_), fun c hc => ?_⟩
    · rw [hw]
      dsimp only
      rw [v1 _ (by split <;> omega) a ha hn, v1 i hi a ha hn]
      omega
    · -- the same sum of the old vectors
      obtain ⟨c', hc'⟩ : ∃ c' : Nat → Int, c' = fun m => if m = i then -(dS (fun j => c j * lnf l (v (if j < i then j else j + 1))) k) else lnf l (v i) * c (if m < i then m else m - 1) := ⟨_, rfl⟩
      have cj : ∀ j, c' (if j < i then j else j + 1) = lnf l (v i) * c j := fun j => by
        rw [hc']
        dsimp only
        rcases Nat.lt_or_ge j i with g | g
        · rw [if_pos g, if_neg (show ¬ j = i by omega), if_pos g]
        · rw [if_neg (show ¬ j < i by omega), if_neg (show ¬ j + 1 = i by omega), if_neg (show ¬ j + 1 < i by omega), show j + 1 - 1 = j by omega]
      have ci : c' i = -(dS (fun j => c j * lnf l (v (if j < i then j else j + 1))) k) := by rw [hc']; exact if_pos rfl
      have ex : ∀ a, cb (k + 1) c' v a = cb k c w a := fun a => by
        show dS (fun m => c' m * v m a) (k + 1) = dS (fun j => c j * w j a) k
        rw [dS_k (fun m => c' m * v m a) i k (by omega), ci, hw]
        have e1 : dS (fun j => c' (if j < i then j else j + 1) * v (if j < i then j else j + 1) a) k = dS (fun j => c j * (lnf l (v i) * v (if j < i then j else j + 1) a)) k := dS_c (fun j _ => by rw [cj j]; grind)
        have e2 : dS (fun j => c j * (lnf l (v i) * v (if j < i then j else j + 1) a - lnf l (v (if j < i then j else j + 1)) * v i a)) k = 1 * dS (fun j => c j * (lnf l (v i) * v (if j < i then j else j + 1) a)) k + -1 * dS (fun j => c j * lnf l (v (if j < i then j else j + 1)) * v i a) k := by
          rw [← dS_l]
          exact dS_c (fun j _ => by grind)
        have e3 : dS (fun j => c j * lnf l (v (if j < i then j else j + 1)) * v i a) k = dS (fun j => c j * lnf l (v (if j < i then j else j + 1))) k * v i a := dS_sr _ _ _
        rw [e1, e2, e3]
        grind
      have nz : ∃ m, m < k + 1 ∧ c' m ≠ 0 := by
        obtain ⟨j, hj, hcj⟩ := hc
        refine ⟨if j < i then j else j + 1, by split <;> omega, ?_⟩
        rw [cj j]
        exact mul_n hl hcj
      have h1 := v2 c' nz
      have l0 : lnf l (cb (k + 1) c' v) = 0 := by
        rw [lnf_cb, dS_k (fun m => c' m * lnf l (v m)) i k (by omega), ci]
        have e1 : dS (fun j => c' (if j < i then j else j + 1) * lnf l (v (if j < i then j else j + 1))) k = lnf l (v i) * dS (fun j => c j * lnf l (v (if j < i then j else j + 1))) k := by
          rw [← dS_sc]
          exact dS_c (fun j _ => by rw [cj j]; grind)
        rw [e1]
        grind
      have h2 := hP _ (cb_s v1) l0 h1
      have et : ∀ a, tM M (cb (k + 1) c' v) a = cb k c (fun j => tM M (w j)) a := fun a => by
        rw [← tM_cb]
        exact dS_c (fun b _ => by rw [ex b])
      rw [bl_e (x' := cb k c (fun j => tM M (w j))) (y' := cb k c (fun j => tM M (w j))) (fun a _ => et a) (fun a _ => et a)] at h2
      exact h2
  · have lz : ∀ i, i < k + 1 → lnf l (v i) = 0 := fun i hi => Decidable.not_not.mp (fun g => q ⟨i, hi, g⟩)
    refine ⟨fun j => tM M (v j), fun j hj => hS _ (v1 j (by omega)), fun c hc => ?_⟩
    obtain ⟨j, hj, hcj⟩ := hc
    obtain ⟨c', hc'⟩ : ∃ c' : Nat → Int, c' = fun m => if m < k then c m else 0 := ⟨_, rfl⟩
    have ex : ∀ a, cb (k + 1) c' v a = cb k c v a := fun a => by
      show dS (fun m => c' m * v m a) k + c' k * v k a = dS (fun m => c m * v m a) k
      rw [hc']
      dsimp only
      rw [if_neg (Nat.lt_irrefl k), dS_c (g := fun m => c m * v m a) (fun m hm => by rw [if_pos hm])]
      omega
    have h1 := v2 c' ⟨j, by omega, by rw [hc']; dsimp only; rw [if_pos hj]; exact hcj⟩
    have l0 : lnf l (cb (k + 1) c' v) = 0 := by rw [lnf_cb]; exact dS_0 (fun i hi => by rw [lz i hi]; omega)
    have h2 := hP _ (cb_s v1) l0 h1
    have et : ∀ a, tM M (cb (k + 1) c' v) a = cb k c (fun j => tM M (v j)) a := fun a => by
      rw [← tM_cb]
      exact dS_c (fun b _ => by rw [ex b])
    rw [bl_e (x' := cb k c (fun j => tM M (v j))) (y' := cb k c (fun j => tM M (v j))) (fun a _ => et a) (fun a _ => et a)] at h2
    exact h2
/-- the inertia on the open lines: N of them -/
def inr (O : Nat → Prop) (N : Nat) (F : Nat → Nat → Int) (p q : Nat) : Prop := pos O F p ∧ pos O (ngF F) q ∧ (∀ k, pos O F k → k ≤ p) ∧ (∀ k, pos O (ngF F) k → k ≤ q) ∧ (p + q = N ∨ ∃ x, spt O x ∧ (∃ a, a < 4 ∧ x a ≠ 0) ∧ ∀ y, spt O y → bl F x y = 0)
