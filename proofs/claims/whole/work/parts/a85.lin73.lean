/-! The class's measure and the reference's squares tell the same. -/
theorem inr_c {O O' : Nat → Prop} {N : Nat} {F : Nat → Nat → Int} {p q : Nat} (hO : ∀ a, a < 4 → (O a ↔ O' a)) (h : inr O N F p q) : inr O' N F p q := by
  have s1 : ∀ x, spt O' x → spt O x := fun x hx a ha hn => hx a ha (fun g => hn ((hO a ha).mpr g))
  have s2 : ∀ x, spt O x → spt O' x := fun x hx a ha hn => hx a ha (fun g => hn ((hO a ha).mp g))
  have idn : ∀ x, bl F (tM idM x) (tM idM x) = bl F x x := fun x => bl_e (fun a ha => tM_I x ha) (fun a ha => tM_I x ha)
  refine inr_T idM idM (fun x hx a ha hn => by rw [tM_I x ha]; exact s1 x hx a ha hn) (fun x hx a ha hn => by rw [tM_I x ha]; exact s2 x hx a ha hn) (fun x _ => ⟨1, by decide, by rw [idn]; omega⟩) (fun x _ => ⟨1, by decide, by rw [idn]; omega⟩) (fun ⟨x, x1, x2, x3⟩ => ⟨x, s2 x x1, x2, fun y hy => x3 y (s1 y hy)⟩) h
def dg (c : Nat → Int) (a b : Nat) : Int := if a = b then c a else 0
theorem tM_d (c x : Nat → Int) {a : Nat} (ha : a < 4) : tM (dg c) x a = c a * x a := by
  show dS (fun b => dg c a b * x b) 4 = _
  rw [dS_1 (q := a) ha (fun l _ hn => by unfold dg; rw [if_neg (fun e => hn e.symm)]; omega)]
  unfold dg
  rw [if_pos rfl]
theorem bl_t {F G : Nat → Nat → Int} {x y u v : Nat → Int} {w : Int} (h : ∀ a b, a < 4 → b < 4 → u a * G a b * v b = w * (x a * F a b * y b)) : bl G u v = w * bl F x y := by
  unfold bl
  rw [← dS_sc]
  refine dS_c (fun a ha => ?_)
  rw [← dS_sc]
  exact dS_c (fun b hb => h a b ha hb)
/-- scaled lines -/
theorem inr_g {n p q : Nat} {S F : Nat → Nat → Int} {c d : Nat → Int} {g C : Int} (n4 : n ≤ 4) (g0 : 0 < g) (C0 : 0 < C) (c0 : ∀ a, a < n → 0 < c a) (cd : ∀ a, a < n → c a * d a = C) (h : ∀ a b, a < n → b < n → g * S a b = c a * (c b * F a b)) (i : inr (ltn n) n S p q) : inr (ltn n) n F p q := by
  have z : ∀ {x : Nat → Int} {a : Nat}, spt (ltn n) x → a < 4 → ¬ a < n → x a = 0 := fun {x a} hx ha hn => hx a ha (by unfold ltn; exact hn)
  have sp : ∀ (k : Nat → Int) x, spt (ltn n) x → spt (ltn n) (tM (dg k) x) := fun k x hx a ha hn => by rw [tM_d k x ha, hx a ha hn]; omega
  have e1 : ∀ x y, spt (ltn n) x → spt (ltn n) y → bl F (tM (dg c) x) (tM (dg c) y) = g * bl S x y := fun x y hx hy => bl_t (fun a b ha hb => by
    rw [tM_d c x ha, tM_d c y hb]
    rcases Nat.lt_or_ge a n with ga | ga
    · rcases Nat.lt_or_ge b n with gb | gb
      · have := h a b ga gb
        have e : c a * x a * F a b * (c b * y b) = x a * (c a * (c b * F a b)) * y b := by grind
        rw [e, ← this]
        grind
      · rw [z hy hb (by omega)]; grind
    · rw [z hx ha (by omega)]; grind)
  have CC : ∀ x a, a < 4 → spt (ltn n) x → c a * (d a * x a) = C * x a := fun x a ha hx => by
    rcases Nat.lt_or_ge a n with ga | ga
    · rw [← cd a ga]; grind
    · rw [z hx ha (by omega)]; grind
  have e2 : ∀ x, spt (ltn n) x → bl S (tM (dg (fun a => g * d a)) x) (tM (dg (fun a => g * d a)) x) = g * (C * C) * bl F x x := fun x hx => by
    have e3 := e1 (tM (dg (fun a => g * d a)) x) (tM (dg (fun a => g * d a)) x) (sp _ x hx) (sp _ x hx)
    have e4 : bl F (tM (dg c) (tM (dg (fun a => g * d a)) x)) (tM (dg c) (tM (dg (fun a => g * d a)) x)) = g * g * (C * C) * bl F x x := bl_t (fun a b ha hb => by
      rw [tM_d c _ ha, tM_d c _ hb, tM_d _ x ha, tM_d _ x hb]
      have h1 := CC x a ha hx
      have h2 := CC x b hb hx
      have e5 : c a * (g * d a * x a) * F a b * (c b * (g * d b * x b)) = g * g * ((c a * (d a * x a)) * F a b * (c b * (d b * x b))) := by grind
      rw [e5, h1, h2]
      grind)
    rw [e4] at e3
    exact (Int.eq_of_mul_eq_mul_left (show g ≠ 0 by omega) (by rw [← e3]; grind))
  refine inr_T (dg (fun a => g * d a)) (dg c) (sp _) (sp _) (fun x hx => ⟨g * (C * C), Int.mul_pos g0 (Int.mul_pos C0 C0), e2 x hx⟩) (fun x hx => ⟨g, g0, e1 x x hx hx⟩) (fun ⟨x, x1, ⟨a, a4, xa⟩, x3⟩ => ?_) i
  refine ⟨tM (dg c) x, sp _ x x1, ⟨a, a4, ?_⟩, fun y hy => ?_⟩
  · rw [tM_d c x a4]
    rcases Nat.lt_or_ge a n with ga | ga
    · have := c0 a ga
      exact mul_n (by omega) xa
    · exact absurd (z x1 a4 (by omega)) xa
  · have e3 := e1 x (tM (dg d) y) x1 (sp _ y hy)
    rw [x3 _ (sp _ y hy), Int.mul_zero] at e3
    have e4 : bl F (tM (dg c) x) (tM (dg c) (tM (dg d) y)) = C * bl F (tM (dg c) x) y := bl_t (fun a b ha hb => by
      rw [tM_d c (tM (dg d) y) hb, tM_d d y hb, CC y b hb hy]
      grind)
    rw [e4] at e3
    exact mul_z (by omega) e3
theorem mz_e {n : Nat} {V : Nat → Int} {g : Nat} {br ba D : Int} {F : mT} {t : Nat → Nat} (n4 : n ≤ 4) (D0 : 0 < D) (ht : ∀ i, i < n → t i ≤ 2) (hV : ∀ i j : Nat, i < n → j < n → V (gb g + (4 * i + j)) = D ^ (2 - t i) * (D ^ (2 - t j) * F i j) ∧ V (gb g + (4 * i + j)) = V (gb g + (4 * j + i))) (h : mzT n V g br ba) : br = sqR n F ∧ ba = sqS n F := by
  obtain ⟨O, V1, hV1, hm⟩ := h
  have pw : ∀ k : Nat, 0 < D ^ k := fun k => Int.pow_pos D0
  obtain ⟨G, hG⟩ : ∃ G : Nat, G = cG (fun i => V1 (gb g + i)) 16 := ⟨_, rfl⟩
  have Se : ∀ a b, a < 4 → b < 4 → msS V1 g a b = V (gb g + (4 * a + b)) / (G : Int) := fun a b ha hb => by
    unfold msS
    rw [hV1 (4 * a + b) (by omega), hG]
  have Gd : ∀ a b, a < 4 → b < 4 → (G : Int) ∣ V (gb g + (4 * a + b)) := fun a b ha hb => by
    have := cG_d (fun i => V1 (gb g + i)) 16 (4 * a + b) (by omega)
    rw [← hG] at this
    rw [hV1 (4 * a + b) (by omega)] at this
    exact this
  have ex : ∃ w : Int, 0 < w ∧ ∀ a b, a < n → b < n → w * msS V1 g a b = D ^ (2 - t a) * (D ^ (2 - t b) * F a b) := by
    rcases Nat.eq_zero_or_pos G with q | q
    · refine ⟨1, by decide, fun a b ha hb => ?_⟩
      have d := Gd a b (by omega) (by omega)
      rw [q] at d
      have v0 := Int.zero_dvd.mp d
      rw [Se a b (by omega) (by omega), v0, Int.zero_ediv, ← (hV a b ha hb).1, v0]
      rfl
    · refine ⟨G, by omega, fun a b ha hb => ?_⟩
      rw [Se a b (by omega) (by omega), Int.mul_ediv_cancel' (Gd a b (by omega) (by omega)), (hV a b ha hb).1]
  obtain ⟨w, w0, hw⟩ := ex
  have Fs : syN n F := fun i j hi hj => by
    have h1 := (hV i j hi hj).1
    rw [(hV i j hi hj).2, (hV j i hj hi).1] at h1
    have p1 := pw (2 - t i)
    have p2 := pw (2 - t j)
    generalize D ^ (2 - t i) = x at *
    generalize D ^ (2 - t j) = y at *
    have e1 : x * (y * F i j) = x * (y * F j i) := by rw [← h1]; grind
    exact Int.eq_of_mul_eq_mul_left (by omega) (Int.eq_of_mul_eq_mul_left (by omega) e1)
  have on : ∀ a : Nat, a < 4 → (opn (mzO n 4 O) a ↔ ltn n a) := fun a ha => by
    unfold opn mzO ltn
    rw [if_pos ⟨by omega, by omega⟩]
    rcases Nat.lt_or_ge a n with q | q
    · rw [if_pos (by omega)]
      exact ⟨fun _ => q, fun _ => rfl⟩
    · rw [if_neg (by omega)]
      exact ⟨fun h => (by cases h), fun h => (by omega)⟩
  have cn : cnO (mzO n 4 O) = n := by
    have e : cnO (mzO n 4 O) = cnO (fO n) := by unfold cnO mzO fO; simp
    rw [e, fO_n n4]
  obtain ⟨p, q, i, b1, b2⟩ := mz_i 4 (mzO n 4 O) (msS V1 g) 1 0 0 br ba (fun i i0 i1 => by
    unfold mzO
    rw [if_pos ⟨i0, i1⟩]
    split
    · exact Or.inr rfl
    · exact Or.inl rfl) (fun a b ha hb oa ob => by
    have la : a < n := (on a ha).mp oa
    have lb : b < n := (on b hb).mp ob
    rw [Se a b ha hb, Se b a hb ha, (hV a b la lb).2]) (by rw [cn]; omega) hm
  rw [cn] at i
  have i2 := inr_c on i
  have i3 := inr_g (S := msS V1 g) (F := F) (c := fun a => D ^ (2 - t a)) (d := fun a => D ^ t a) (g := w) (C := D ^ 2) n4 w0 (pw 2) (fun a _ => pw _) (fun a ha => by
    have := ht a ha
    rw [← Int.pow_add, show 2 - t a + t a = 2 by omega]) hw i2
  obtain ⟨v1, v2, v3⟩ := TT_n n n4 F Fs p q i3
  obtain ⟨r1, r2⟩ := sqR_e (F := F) n4
  rw [r1, r2]
  refine ⟨?_, ?_⟩
  · omega
  · omega
