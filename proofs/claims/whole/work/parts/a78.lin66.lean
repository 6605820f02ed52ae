/-! The class's measure counts the inertia. -/
def opn (O : Int → Int) (a : Nat) : Prop := O a = 1
def syO (O : Int → Int) (S : Nat → Nat → Int) : Prop := ∀ a b : Nat, a < 4 → b < 4 → O a = 1 → O b = 1 → S a b = S b a
theorem bl_ad (F G : Nat → Nat → Int) (x y : Nat → Int) : bl (fun a b => F a b + G a b) x y = bl F x y + bl G x y := by
  unfold bl
  rw [← dS_ad]
  refine dS_c (fun a _ => ?_)
  rw [← dS_ad]
  exact dS_c (fun b _ => by grind)
/-- row and column j onto row and column i -/
theorem jo_b {S : Nat → Nat → Int} {i j : Nat} (hi : i < 4) (hj : j < 4) (ij : i ≠ j) (x y : Nat → Int) : bl (joF S i j) x y = bl S (fun a => x a + x i * ek j a) (fun a => y a + y i * ek j a) := by
  have e1 : bl (joF S i j) x y = bl (fun a b => S a b + ((if b = i then S a j else 0) + ((if a = i then S j b else 0) + (if a = i ∧ b = i then S j j else 0)))) x y := dS_c (fun a ha => dS_c (fun b hb => by
    unfold joF jo2 jo1
    rcases Decidable.em (a = i) with ea | ea <;> rcases Decidable.em (b = i) with eb | eb
    · rw [if_pos ⟨eb, ha⟩, if_pos ⟨ea, hi⟩, if_pos ⟨ea, hj⟩]
      dsimp only
      rw [if_pos eb, if_pos ea, if_pos ⟨ea, eb⟩, ea, eb]
      grind
    · rw [if_neg (fun q => eb q.1), if_pos ⟨ea, hb⟩]
      dsimp only
      rw [if_neg eb, if_pos ea, if_neg (fun q => eb q.2), ea]
      grind
    · rw [if_pos ⟨eb, ha⟩, if_neg (fun q => ea q.1), if_neg (fun q => ea q.1)]
      dsimp only
      rw [if_pos eb, if_neg ea, if_neg (fun q => ea q.1), eb]
      grind
    · rw [if_neg (fun q => eb q.1), if_neg (fun q => ea q.1)]
      dsimp only
      rw [if_neg eb, if_neg ea, if_neg (fun q => ea q.1)]
      grind))
  rw [e1, bl_ad, bl_ad, bl_ad]
  have b1 : bl (fun a b => if b = i then S a j else 0) x y = bl S x (ek j) * y i := by
    rw [(bl_ek hj x).1, ← dS_sr]
    refine dS_c (fun a _ => ?_)
    show dS (fun b => x a * (if b = i then S a j else 0) * y b) 4 = _
    rw [dS_1 (q := i) hi (fun b _ hn => by rw [if_neg hn]; omega), if_pos rfl]
  have b2 : bl (fun a b => if a = i then S j b else 0) x y = x i * bl S (ek j) y := by
    rw [(bl_ek hj y).2, ← dS_sc]
    show dS (fun a => dS (fun b => x a * (if a = i then S j b else 0) * y b) 4) 4 = _
    rw [dS_1 (q := i) hi (fun a _ hn => dS_0 (fun b _ => by rw [if_neg hn]; omega))]
    exact dS_c (fun b _ => by rw [if_pos rfl]; grind)
  have b3 : bl (fun a b => if a = i ∧ b = i then S j j else 0) x y = x i * y i * S j j := by
    show dS (fun a => dS (fun b => x a * (if a = i ∧ b = i then S j j else 0) * y b) 4) 4 = _
    rw [dS_1 (q := i) hi (fun a _ hn => dS_0 (fun b _ => by rw [if_neg (fun q => hn q.1)]; omega)), dS_1 (q := i) hi (fun b _ hn => by rw [if_neg (fun q => hn q.2)]; omega), if_pos ⟨rfl, rfl⟩]
    grind
  have bjj : bl S (ek j) (ek j) = S j j := by
    rw [(bl_ek hj (ek j)).2, dS_1 (q := j) hj (fun b _ hn => by unfold ek; rw [if_neg hn]; omega)]
    unfold ek
    rw [if_pos rfl]
    omega
  have e2 : bl S (fun a => x a + x i * ek j a) (fun a => y a + y i * ek j a) = bl S x y + y i * bl S x (ek j) + (x i * bl S (ek j) y + x i * y i * S j j) := by
    rw [bl_e (x' := fun a => 1 * x a + x i * ek j a) (y' := fun a => 1 * y a + y i * ek j a) (fun a _ => by rw [Int.one_mul]) (fun a _ => by rw [Int.one_mul]), bl_1, bl_2, bl_2, bjj]
    grind
  rw [b1, b2, b3, e2]
  grind
theorem jo_i {O : Int → Int} {N p q : Nat} {S : Nat → Nat → Int} {i j : Nat} (hi : i < 4) (hj : j < 4) (ij : i ≠ j) (oi : O i = 1) (oj : O j = 1) (h : inr (opn O) N (joF S i j) p q) : inr (opn O) N S p q := by
  -- x less x_i at j, and x and x_i at j
  obtain ⟨M, hM⟩ : ∃ M : Int → Nat → Nat → Int, M = fun t a b => idM a b + (if a = j ∧ b = i then t else 0) := ⟨_, rfl⟩
  have Me : ∀ t x a, a < 4 → tM (M t) x a = x a + t * x i * ek j a := fun t x a ha => by
    have e1 : tM (M t) x a = tM idM x a + dS (fun b => (if a = j ∧ b = i then t else 0) * x b) 4 := by
      show dS (fun b => M t a b * x b) 4 = dS (fun b => idM a b * x b) 4 + _
      rw [← dS_ad]
      exact dS_c (fun b _ => by rw [hM]; grind)
    rw [e1, tM_I x ha, dS_1 (q := i) hi (fun b _ hn => by rw [if_neg (fun q => hn q.2)]; omega)]
    unfold ek
    rcases Decidable.em (a = j) with e | e
    · rw [if_pos ⟨e, rfl⟩, if_pos e]; omega
    · rw [if_neg (fun q => e q.1), if_neg e]; omega
  have Ms : ∀ t x, spt (opn O) x → spt (opn O) (tM (M t) x) := fun t x hx a ha hn => by
    rw [Me t x a ha, hx a ha hn]
    unfold ek
    rw [if_neg (fun e => hn (by rw [e]; exact oj))]
    omega
  have bM : ∀ x y, bl S (tM (M 1) x) (tM (M 1) y) = bl (joF S i j) x y := fun x y => by
    rw [jo_b hi hj ij]
    exact bl_e (fun a ha => by rw [Me 1 x a ha, Int.one_mul]) (fun a ha => by rw [Me 1 y a ha, Int.one_mul])
  have inv : ∀ x a, a < 4 → tM (M 1) (tM (M (-1)) x) a = x a := fun x a ha => by
    rw [Me 1 _ a ha, Me (-1) x a ha, Me (-1) x i hi]
    have : ek j i = 0 := if_neg ij
    rw [this]
    grind
  refine inr_T (M (-1)) (M 1) (Ms _) (Ms _) (fun x hx => ⟨1, by decide, ?_⟩) (fun x hx => ⟨1, by decide, ?_⟩) (fun ⟨x, x1, ⟨a, a4, xa⟩, x3⟩ => ?_) h
  · rw [← bM, Int.one_mul]
    exact bl_e (fun a ha => inv x a ha) (fun a ha => inv x a ha)
  · rw [bM, Int.one_mul]
  · refine ⟨tM (M 1) x, Ms 1 x x1, ?_, fun y hy => ?_⟩
    · rcases Decidable.em (a = j) with e | e
      · rcases Decidable.em (x i = 0) with g | g
        · refine ⟨a, a4, ?_⟩
          rw [Me 1 x a a4, g]
          omega
        · refine ⟨i, hi, ?_⟩
          have : ek j i = 0 := if_neg ij
          rw [Me 1 x i hi, this]
          omega
      · refine ⟨a, a4, ?_⟩
        have : ek j a = 0 := if_neg e
        rw [Me 1 x a a4, this]
        omega
    · have := x3 _ (Ms (-1) y hy)
      rw [← bM] at this
      rw [← this]
      exact bl_e (fun _ _ => rfl) (fun a ha => (inv y a ha).symm)
theorem jo_s {O : Int → Int} {S : Nat → Nat → Int} {i j : Nat} (hi : i < 4) (hj : j < 4) (ij : i ≠ j) (oi : O i = 1) (oj : O j = 1) (h : syO O S) : syO O (joF S i j) ∧ joF S i j i i = S i i + S j j + 2 * S i j := by
  have e1 : ∀ a b, a < 4 → b < 4 → joF S i j a b = S a b + ((if b = i then S a j else 0) + ((if a = i then S j b else 0) + (if a = i ∧ b = i then S j j else 0))) := fun a b ha hb => by
    unfold joF jo2 jo1
    rcases Decidable.em (a = i) with ea | ea <;> rcases Decidable.em (b = i) with eb | eb
    · rw [if_pos ⟨eb, ha⟩, if_pos ⟨ea, hi⟩, if_pos ⟨ea, hj⟩]
      rw [if_pos eb, if_pos ea, if_pos ⟨ea, eb⟩, ea, eb]
      grind
    · rw [if_neg (fun q => eb q.1), if_pos ⟨ea, hb⟩]
      rw [if_neg eb, if_pos ea, if_neg (fun q => eb q.2), ea]
      grind
    · rw [if_pos ⟨eb, ha⟩, if_neg (fun q => ea q.1), if_neg (fun q => ea q.1)]
      rw [if_pos eb, if_neg ea, if_neg (fun q => ea q.1), eb]
      grind
    · rw [if_neg (fun q => eb q.1), if_neg (fun q => ea q.1)]
      rw [if_neg eb, if_neg ea, if_neg (fun q => ea q.1)]
      grind
  constructor
  · intro a b ha hb oa ob
    rw [e1 a b ha hb, e1 b a hb ha, h a b ha hb oa ob, h a j ha hj oa oj, h b j hb hj ob oj]
    rcases Decidable.em (a = i) with ea | ea <;> rcases Decidable.em (b = i) with eb | eb
    · rw [if_pos eb, if_pos ea, if_pos ⟨ea, eb⟩, if_pos ⟨eb, ea⟩]; omega
    · rw [if_neg eb, if_pos ea, if_neg (fun q => eb q.2), if_neg (fun q => eb q.1)]; omega
    · rw [if_pos eb, if_neg ea, if_neg (fun q => ea q.1), if_neg (fun q => ea q.2)]; omega
    · rw [if_neg eb, if_neg ea, if_neg (fun q => ea q.1), if_neg (fun q => ea q.2)]
  · rw [e1 i i hi hi, if_pos rfl, if_pos rfl, if_pos ⟨rfl, rfl⟩, h j i hj hi oj oi]
    omega
theorem cnO_0 {O : Int → Int} (h : ∀ i : Int, 0 ≤ i → i < 4 → O i = 0 ∨ O i = 1) : 0 ≤ cnO O ∧ ((∃ a : Nat, a < 4 ∧ O a = 1) ∨ cnO O = 0) := by
  have h0 := h 0 (by decide) (by decide)
  have h1 := h 1 (by decide) (by decide)
  have h2 := h 2 (by decide) (by decide)
  have h3 := h 3 (by decide) (by decide)
  unfold cnO
  refine ⟨by omega, ?_⟩
  rcases h0 with a | a
  · rcases h1 with b | b
    · rcases h2 with c | c
      · rcases h3 with d | d
        · exact Or.inr (by omega)
        · exact Or.inl ⟨3, by decide, d⟩
      · exact Or.inl ⟨2, by decide, c⟩
    · exact Or.inl ⟨1, by decide, b⟩
  · exact Or.inl ⟨0, by decide, a⟩
/-- no square at all -/
theorem no_i {O : Int → Int} {S : Nat → Nat → Int} (h : ∀ i : Int, 0 ≤ i → i < 4 → O i = 0 ∨ O i = 1) (hz : ∀ a b : Nat, a < 4 → b < 4 → O a = 1 → O b = 1 → S a b = 0) : inr (opn O) (cnO O).toNat S 0 0 := by
  have z : ∀ x y, spt (opn O) x → spt (opn O) y → bl S x y = 0 := fun x y hx hy => dS_0 (fun a ha => dS_0 (fun b hb => by
    rcases Decidable.em (O a = 1) with ga | ga
    · rcases Decidable.em (O b = 1) with gb | gb
      · rw [hz a b ha hb ga gb]; omega
      · rw [hy b hb gb]; omega
    · rw [hx a ha ga]; omega))
  refine ⟨pos_0 _ _, pos_0 _ _, fun k hk => ?_, fun k hk => ?_, ?_⟩
  · rw [pos_z (fun x hx => by rw [z x x hx hx]; decide) hk]
    exact Nat.le_refl _
  · rw [pos_z (fun x hx => by rw [bl_n, z x x hx hx]; decide) hk]
    exact Nat.le_refl _
  · obtain ⟨c0, c1⟩ := cnO_0 h
    rcases c1 with ⟨a, a4, oa⟩ | c
    · refine Or.inr ⟨ek a, fun b hb hn => ?_, ⟨a, a4, ?_⟩, fun y hy => ?_⟩
      · unfold ek
        rw [if_neg (fun e => hn (by rw [e]; exact oa))]
      · unfold ek
        rw [if_pos rfl]
        decide
      · refine z _ _ (fun b hb hn => ?_) hy
        unfold ek
        rw [if_neg (fun e => hn (by rw [e]; exact oa))]
    · exact Or.inl (by omega)
theorem mz_i : ∀ (n : Nat) (O : Int → Int) (S : Nat → Nat → Int) (t br ba br' ba' : Int), (∀ i : Int, 0 ≤ i → i < 4 → O i = 0 ∨ O i = 1) → syO O S → cnO O ≤ n → mzR n O S t br ba br' ba' → ∃ p q : Nat, inr (opn O) (cnO O).toNat S p q ∧ br' = br + (p + q) ∧ ba' = ba + t * (p - q)
  | 0, O, S, t, br, ba, br', ba', h01, _, hn, h => by
    obtain ⟨h1, h2⟩ := h
    obtain ⟨c0, c1⟩ := cnO_0 h01
    refine ⟨0, 0, no_i h01 (fun a b ha hb oa _ => ?_), by rw [h1]; omega, by rw [h2]; show ba = ba + t * (0 - 0); omega⟩
    have := (cn_k h01 ha oa).2.1
    omega
  | n + 1, O, S, t, br, ba, br', ba', h01, sy, hn, h => by
    obtain ⟨r, S1, hf, hh⟩ := h
    rcases hh with ⟨r1, e1, e2⟩ | ⟨k, rk, k4, hm⟩
    · have hz : ∀ a b : Nat, a < 4 → b < 4 → O a = 1 → O b = 1 → S a b = 0 := by
        rcases hf with ⟨i, _, a, _⟩ | ⟨i, j, _, _, a, _⟩ | ⟨_, _, d0, d1⟩
        · omega
        · omega
        · intro a b ha hb oa ob
          rcases Nat.lt_trichotomy a b with g | g | g
          · exact d1 a b g hb oa ob
          · rw [g]; exact d0 b hb ob
          · rw [sy a b ha hb oa ob]; exact d1 b a g ha ob oa
      refine ⟨0, 0, no_i h01 hz, by rw [e1]; omega, by rw [e2]; show ba = ba + t * (0 - 0); omega⟩
    · -- the pivot's line is open, the pivot not 0, the form symmetric, its inertia the old one's
      have pv : O k = 1 ∧ S1 k k ≠ 0 ∧ syO O S1 ∧ ∀ N p q, inr (opn O) N S1 p q → inr (opn O) N S p q := by
        rcases hf with ⟨i, i4, a, b, c, d⟩ | ⟨i, j, ij, j4, a, b, c, d, e, f⟩ | ⟨a, _⟩
        · have : k = i := by omega
          subst this
          rw [d]
          exact ⟨b, c, sy, fun _ _ _ h => h⟩
        · have : k = i := by omega
          subst this
          obtain ⟨s1, s2⟩ := jo_s k4 j4 (by omega) b c sy
          rw [f]
          refine ⟨b, ?_, s1, fun N p q h => jo_i k4 j4 (by omega) b c h⟩
          rw [s2, e k k4 b, e j j4 c]
          omega
        · omega
      obtain ⟨ok, pz, sy1, tr⟩ := pv
      obtain ⟨c1, c2, -⟩ := cn_k h01 k4 ok
      have h01' : ∀ i : Int, 0 ≤ i → i < 4 → uI O k 0 i = 0 ∨ uI O k 0 i = 1 := fun i i0 i1 => by
        rcases Decidable.em (i = k) with e | e
        · rw [e, uI_s]; exact Or.inl rfl
        · rw [uI_n _ _ e]; exact h01 i i0 i1
      have oO : ∀ a : Nat, a < 4 → (opn (uI O k 0) a ↔ opn O a ∧ a ≠ k) := fun a ha => by
        unfold opn
        rcases Decidable.em (a = k) with e | e
        · rw [e, uI_s]
          exact ⟨fun h => (by cases h), fun h => absurd rfl h.2⟩
        · rw [uI_n _ _ (by omega)]
          exact ⟨fun h => ⟨h, e⟩, fun h => h.1⟩
      have spv : ∀ a b : Nat, a < 4 → b < 4 → opn (uI O k 0) a → opn (uI O k 0) b → spF S1 (uI O k 0) k a b = S1 k k * S1 a b - S1 a k * S1 k b := fun a b ha hb oa ob => by
        have ga := ((oO a ha).mp oa).1
        have gb := ((oO b hb).mp ob).1
        unfold spF
        rw [if_pos ⟨ha, hb, oa, ob⟩]
        unfold spM spE
        split
        · rfl
        · rw [sy1 b a hb ha gb ga, sy1 b k hb k4 gb ok, sy1 k a k4 ha ok ga]
          grind
      have sy' : syO (uI O k 0) (spF S1 (uI O k 0) k) := fun a b ha hb oa ob => by
        have ga := ((oO a ha).mp oa).1
        have gb := ((oO b hb).mp ob).1
        rw [spv a b ha hb oa ob, spv b a hb ha ob oa, sy1 b a hb ha gb ga, sy1 b k hb k4 gb ok, sy1 k a k4 ha ok ga]
        grind
      obtain ⟨p, q, i1, b1, b2⟩ := mz_i n (uI O k 0) _ _ _ _ br' ba' h01' sy' (by omega) hm
      have cN : (cnO O).toNat = (cnO (uI O k 0)).toNat + 1 := by
        have := (cnO_0 h01').1
        omega
      rw [cN]
      rcases zSg_c (S1 k k) with g | g | g
      · -- below 0
        have sg : zSg (S1 k k) = -1 := g.2.1
        have i2 := sp_i (T := ngF S1) k4 (show opn O k from ok) oO (fun a b ha hb oa ob => by unfold ngF; rw [sy1 a b ha hb oa ob]) (show 0 < ngF S1 k k by unfold ngF; omega) (fun a b ha hb oa ob => by
          rw [spv a b ha hb oa ob]
          unfold ngF
          grind) i1
        refine ⟨q, p + 1, tr _ _ _ (inr_n i2), by rw [b1]; omega, ?_⟩
        rw [b2, sg]
        have : ((p + 1 : Nat) : Int) = (p : Int) + 1 := by omega
        rw [this]
        grind
      · exact absurd g.1 pz
      · have sg : zSg (S1 k k) = 1 := g.2.1
        have i2 := sp_i (T := S1) k4 (show opn O k from ok) oO sy1 (show 0 < S1 k k by omega) spv i1
        refine ⟨p + 1, q, tr _ _ _ i2, by rw [b1]; omega, ?_⟩
        rw [b2, sg]
        have : ((p + 1 : Nat) : Int) = (p : Int) + 1 := by omega
        rw [this]
        grind
/-- each form has an inertia -/
theorem mz_ex : ∀ (n : Nat) (O : Int → Int) (S : Nat → Nat → Int) (t br ba : Int), ∃ br' ba', mzR n O S t br ba br' ba'
  | 0, _, _, _, br, ba => ⟨br, ba, rfl, rfl⟩
  | n + 1, O, S, t, br, ba => by
    have ex : ∃ r S1, fsR O S r S1 ∧ (r = -1 ∨ ∃ k : Nat, r = k ∧ k < 4) := by
      rcases Classical.em (∃ i : Nat, i < 4 ∧ O i = 1 ∧ S i i ≠ 0) with ⟨i, i4, oi, si⟩ | g
      · exact ⟨i, S, Or.inl ⟨i, i4, rfl, oi, si, rfl⟩, Or.inr ⟨i, rfl, i4⟩⟩
      · have d0 : ∀ a : Nat, a < 4 → O a = 1 → S a a = 0 := fun a ha oa => Decidable.not_not.mp (fun q => g ⟨a, ha, oa, q⟩)
        rcases Classical.em (∃ i j : Nat, i < j ∧ j < 4 ∧ O i = 1 ∧ O j = 1 ∧ S i j ≠ 0) with ⟨i, j, ij, j4, oi, oj, sij⟩ | g2
        · exact ⟨i, joF S i j, Or.inr (Or.inl ⟨i, j, ij, j4, rfl, oi, oj, sij, d0, rfl⟩), Or.inr ⟨i, rfl, by omega⟩⟩
        · exact ⟨-1, S, Or.inr (Or.inr ⟨rfl, rfl, d0, fun a b ab hb oa ob => Decidable.not_not.mp (fun q => g2 ⟨a, b, ab, hb, oa, ob, q⟩)⟩), Or.inl rfl⟩
    obtain ⟨r, S1, hf, hr⟩ := ex
    rcases hr with hr | ⟨k, hr, k4⟩
    · exact ⟨br, ba, r, S1, hf, Or.inl ⟨hr, rfl, rfl⟩⟩
    · obtain ⟨br', ba', h⟩ := mz_ex n (uI O k 0) (spF S1 (uI O k 0) k) (t * zSg (S1 k k)) (br + 1) (ba + t * zSg (S1 k k))
      exact ⟨br', ba', r, S1, hf, Or.inr ⟨k, hr, k4, h⟩⟩
