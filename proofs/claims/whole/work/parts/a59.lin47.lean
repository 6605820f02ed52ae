/-! The class's rows: how large they grow while they are laid down. -/
theorem el_2 {v u : Nat → Int} {p a b : Nat} (hp : p < 10) (u0 : 0 < u p) (hv : ∀ i, i < 10 → zAbs (v i) ≤ 2 ^ a) (hu : ∀ i, i < 10 → zAbs (u i) ≤ 2 ^ b) (i : Nat) (hi : i < 10) : zAbs (el v u p i) ≤ 2 ^ (a + (b + 1)) := by
  have gp := gcd_p (y := v p) u0
  have q1 := zAbs_dv (u p) (m := (Int.gcd (u p) (v p) : Int)) (by omega)
  have q2 := zAbs_dv (v p) (m := (Int.gcd (u p) (v p) : Int)) (by omega)
  have h1 := hu p hp
  have h2 := hv p hp
  have a1 := two_le (x := v i) (y := u p / (Int.gcd (u p) (v p) : Int)) (hv i hi) (show zAbs _ ≤ 2 ^ b by omega)
  have a2 := two_le (x := v p / (Int.gcd (u p) (v p) : Int)) (y := u i) (show zAbs _ ≤ 2 ^ a by omega) (hu i hi)
  rw [Int.mul_comm] at a2
  unfold el
  have t := zAbs_tri (v i * (u p / (Int.gcd (u p) (v p) : Int))) (-(u i * (v p / (Int.gcd (u p) (v p) : Int))))
  rw [zAbs_ng] at t
  have e : (2 : Int) ^ (a + (b + 1)) = 2 ^ (a + b) * 2 := by rw [← Nat.add_assoc, Int.pow_succ]
  rw [show v i * (u p / (Int.gcd (u p) (v p) : Int)) - u i * (v p / (Int.gcd (u p) (v p) : Int)) = v i * (u p / (Int.gcd (u p) (v p) : Int)) + -(u i * (v p / (Int.gcd (u p) (v p) : Int))) by omega]
  omega
theorem sm_2 (v : Nat → Int) {i : Nat} (hi : i < 10) : zAbs (sm v i) ≤ zAbs (v i) := by
  rcases Decidable.em (v i = 0) with g | g
  · rw [sm_0 g, g]; exact Int.le_refl _
  · exact zAbs_dv (v i) (by have := (sm_n hi g).2.2.2; omega)
def sbB (β : List Nat) (M : Nat) : Nat → Nat
  | 0 => 0
  | n + 1 => sbB β M n + (bif bt M n then gt β n + 1 else 0)
/-- the bits of the rows -/
def bnd (β : List Nat) (R : Nat → Nat → Int) (L : Int → Int) : Prop := ∀ l : Nat, l < 10 → L l ≠ 0 → ∀ i, i < 10 → zAbs (R l i) ≤ 2 ^ gt β l
theorem rdB_u {R : Nat → Nat → Int} {L : Int → Int} {M : Nat} {β : List Nat} (hS : rwS R L) (hM : ∀ l : Nat, l < 10 → (L l ≠ 0 ↔ M.testBit l = true)) (hb : bnd β R L) : ∀ (n : Nat) (v : Nat → Int) (t : Int) (w : Nat), n ≤ 10 → (∀ i, i < 10 → zAbs (v i) ≤ 2 ^ w) → w + sbB β M n ≤ 2300 → rdB R L n v ∧ ∀ i, i < 10 → zAbs ((rdF R L n v t).1 i) ≤ 2 ^ (w + sbB β M n)
  | 0, v, t, w, _, hv, _ => ⟨trivial, hv⟩
  | n + 1, v, t, w, hn, hv, h => by
    have e : sbB β M (n + 1) = sbB β M n + (bif bt M n then gt β n + 1 else 0) := rfl
    rw [e] at h ⊢
    have skip : ∀ t, rdB R L n v ∧ ∀ i, i < 10 → zAbs ((rdF R L n v t).1 i) ≤ 2 ^ (w + (sbB β M n + (bif bt M n then gt β n + 1 else 0))) := fun t => by
      obtain ⟨a, b⟩ := rdB_u hS hM hb n v t w (by omega) hv (by omega)
      refine ⟨a, fun i hi => Int.le_trans (b i hi) (p2_m (by omega))⟩
    unfold rdB rdF
    split
    · exact skip t
    · split
      · exact skip _
      · rename_i l
        have hbt : bt M n = true := by rw [bt_e]; exact (hM n (by omega)).mp l
        rw [hbt] at h ⊢
        have h' : w + (sbB β M n + (gt β n + 1)) ≤ 2300 := h
        have hv2 : ∀ i, i < 10 → zAbs (sm (el v (R n) n) i) ≤ 2 ^ (w + (gt β n + 1)) := fun i hi => Int.le_trans (sm_2 _ hi) (el_2 (by omega) (hS n (by omega) l).1 hv (hb n (by omega) l) i hi)
        obtain ⟨a, b⟩ := rdB_u hS hM hb n (sm (el v (R n) n)) t (w + (gt β n + 1)) (by omega) hv2 (by omega)
        refine ⟨⟨⟨w / 31 + 1, gt β n / 31 + 1, by omega, fun i hi => ⟨Int.lt_of_le_of_lt (hv i hi) (cB_2 w), Int.lt_of_le_of_lt (hb n (by omega) l i hi) (cB_2 _)⟩⟩, a⟩, fun i hi => ?_⟩
        have := b i hi
        rw [show w + (sbB β M n + (bif true then gt β n + 1 else 0)) = w + (gt β n + 1) + sbB β M n by show w + (sbB β M n + (gt β n + 1)) = _; omega]
        exact this
theorem rdF_s {R : Nat → Nat → Int} {L : Int → Int} {v : Nat → Int} {t : Int} (n : Nat) : ∀ m, (∀ j, n ≤ j → j < n + m → v j = 0) → rdF R L (n + m) v t = rdF R L n v t ∧ (rdB R L (n + m) v ↔ rdB R L n v)
  | 0, _ => ⟨rfl, Iff.rfl⟩
  | m + 1, h => by
    obtain ⟨a, b⟩ := rdF_s (R := R) (L := L) (v := v) (t := t) n m (fun j h1 h2 => h j h1 (by omega))
    have z := h (n + m) (by omega) (by omega)
    constructor
    · have q : rdF R L (n + m + 1) v t = rdF R L (n + m) v t := if_pos z
      exact q.trans a
    · have q : rdB R L (n + m + 1) v = rdB R L (n + m) v := if_pos z
      show rdB R L (n + m + 1) v ↔ _
      rw [q]
      exact b
theorem insB_u {R : Nat → Nat → Int} {L : Int → Int} {M p w : Nat} {β : List Nat} (hS : rwS R L) (hM : ∀ l : Nat, l < 10 → (L l ≠ 0 ↔ M.testBit l = true)) (hb : bnd β R L) (hp : p < 10) (hz : ∀ j, p < j → j < 10 → R 10 j = 0) (hv : ∀ i, i < 10 → zAbs (R 10 i) ≤ 2 ^ w) (h : w + sbB β M (p + 1) ≤ 2300) : insB R L := by
  obtain ⟨a, b⟩ := rdB_u hS hM hb (p + 1) (R 10) (-1) w (by omega) hv h
  obtain ⟨c, d⟩ := rdF_s (R := R) (L := L) (v := R 10) (t := -1) (p + 1) (9 - p) (fun j h1 h2 => hz j (by omega) (by omega))
  rw [show p + 1 + (9 - p) = 10 by omega] at c d
  refine ⟨d.mpr a, fun i hi => ?_⟩
  rw [c, c2418]
  exact Int.lt_of_le_of_lt (b i hi) (two_m (by omega))
theorem rel_w {M : Nat} {b b' : List Nat} {hs s : Int → Int} (h : rel M b hs s) (hl : b'.length = 15) (hb : ∀ k, gt b k ≤ gt b' k) : rel M b' hs s := by
  obtain ⟨h0, h1, h2, h3⟩ := h
  refine ⟨hl, h1, h2, fun p hp => ?_⟩
  obtain ⟨G, L, c, n⟩ := h3 p hp
  have := hb p
  rw [gt_e, gt_e] at this
  exact ⟨G, L, c, Int.le_trans n (p2_m this)⟩
theorem bnd_w {β β' : List Nat} {R : Nat → Nat → Int} {L : Int → Int} (h : bnd β R L) (hb : ∀ k, gt β k ≤ gt β' k) : bnd β' R L := fun l hl h2 i hi => Int.le_trans (h l hl h2 i hi) (p2_m (hb l))
-- the table's functions
abbrev cbT : Type := List (Nat × Nat × List Nat × List Nat)
def lbB : List Nat → List Nat → Bool
  | [], [] => true
  | x :: a, y :: b => Nat.ble x y && lbB a b
  | _, _ => false
theorem lbB_h : ∀ {a b : List Nat}, lbB a b = true → a.length = b.length ∧ ∀ k, gt a k ≤ gt b k
  | [], [], _ => ⟨rfl, fun _ => Nat.le_refl _⟩
  | [], _ :: _, h => by cases h
  | _ :: _, [], h => by cases h
  | x :: a, y :: b, h => by
    have h' := (Bool.and_eq_true _ _).mp h
    obtain ⟨l, g⟩ := lbB_h h'.2
    refine ⟨by rw [List.length_cons, List.length_cons, l], fun k => ?_⟩
    cases k with
    | zero => exact Nat.le_of_ble_eq_true h'.1
    | succ k => exact g k
def cbC (M g : Nat) (b β : List Nat) : cbT → Bool
  | [] => false
  | e :: r => (Nat.beq M e.1 && Nat.beq g e.2.1 && lbB b e.2.2.1 && lbB β e.2.2.2) || cbC M g b β r
theorem cbC_h {M g : Nat} {b β : List Nat} : ∀ {T : cbT}, cbC M g b β T = true → ∃ b' β', (M, g, b', β') ∈ T ∧ b'.length = b.length ∧ (∀ k, gt b k ≤ gt b' k) ∧ ∀ k, gt β k ≤ gt β' k
  | [], h => by cases h
  | e :: r, h => by
    rcases (Bool.or_eq_true _ _).mp h with q | q
    · simp only [Bool.and_eq_true] at q
      obtain ⟨⟨⟨q1, q2⟩, q3⟩, q4⟩ := q
      obtain ⟨l3, g3⟩ := lbB_h q3
      obtain ⟨l4, g4⟩ := lbB_h q4
      have e1 := Nat.eq_of_beq_eq_true q1
      have e2 := Nat.eq_of_beq_eq_true q2
      refine ⟨e.2.2.1, e.2.2.2, ?_, l3.symm, g3, g4⟩
      rw [e1, e2]
      exact List.mem_cons_self
    · obtain ⟨b', β', h1, h2⟩ := cbC_h q
      exact ⟨b', β', List.mem_cons_of_mem _ h1, h2⟩
def slB9 : List Nat → Nat → Nat → List Nat
  | [], _, _ => []
  | _ :: r, 0, y => y :: r
  | x :: r, k + 1, y => x :: slB9 r k y
theorem slB9_g : ∀ (l : List Nat) (k y j : Nat), k < l.length → gt (slB9 l k y) j = if j = k then y else gt l j
  | [], _, _, _, h => by cases h
  | x :: r, 0, y, j, _ => by
    cases j with
    | zero => rfl
    | succ j => rfl
  | x :: r, k + 1, y, j, h => by
    cases j with
    | zero => rfl
    | succ j =>
      show gt (slB9 r k y) j = _
      rw [slB9_g r k y j (by simpa using h)]
      rcases Decidable.em (j = k) with q | q
      · rw [if_pos q, if_pos (by omega)]
      · rw [if_neg q, if_neg (by omega)]
        rfl
theorem slB9_n : ∀ (l : List Nat) (k y : Nat), (slB9 l k y).length = l.length
  | [], _, _ => rfl
  | _ :: r, 0, _ => rfl
  | x :: r, k + 1, y => by
    show (slB9 r k y).length + 1 = r.length + 1
    rw [slB9_n r k y]
abbrev cbF : Type := Nat → List Nat → List Nat → Bool
def opN (F : cbF) (M : Nat) (b β : List Nat) (p w t : Nat) : Bool := (fun b' => F (M ||| 2 ^ t) b' (slB9 β t (gt b' t))) (nrB (M ||| 2 ^ t) 0 (upB t p w (gt b p + w) 0 b))
def opA (F : cbF) (M : Nat) (b β : List Nat) (p w : Nat) : Nat → Bool
  | 0 => true
  | n + 1 => (bt M n || opN F M b β p w n) && opA F M b β p w n
def opB (F : cbF) (M : Nat) (b β : List Nat) (p w : Nat) : Bool := Nat.ble (w + sbB β M (p + 1)) 2300 && (Nat.ble (gt b p) 5000 && Nat.ble (gt b 14) 5000) && (Nat.beq b.length 15 && Nat.beq β.length 10) && bif bt M p then F M b β && opA F M b β p w p else opN F M b β p w p
theorem opA_h {F : cbF} {M : Nat} {b β : List Nat} {p w : Nat} : ∀ {n : Nat}, opA F M b β p w n = true → ∀ t, t < n → M.testBit t = false → opN F M b β p w t = true
  | 0, _, t, ht, _ => absurd ht (Nat.not_lt_zero _)
  | n + 1, h, t, ht, hM => by
    have h' := (Bool.and_eq_true _ _).mp h
    rcases Nat.lt_or_ge t n with q | q
    · exact opA_h h'.2 t q hM
    · have : t = n := by omega
      subst this
      rcases (Bool.or_eq_true _ _).mp h'.1 with g | g
      · rw [bt_e, hM] at g
        cases g
      · exact g
theorem opB_h {F : cbF} {M : Nat} {b β : List Nat} {R : Nat → Nat → Int} {L hs s : Int → Int} {p w : Nat} (h : opB F M b β p w = true) (c : cmp R L hs s) (r : rel M b hs s) (hb : bnd β R L) (hp : p < 10) (hv : ∀ j, p < j → j < 10 → R 10 j = 0) (hvp : R 10 p ≠ 0) (hw : nS (pd (R 10)) 15 ≤ 2 ^ w) :
    insB R L ∧ ∃ (M' : Nat) (b' β' : List Nat) (hs' s' : Int → Int), F M' b' β' = true ∧ rel M' b' hs' s' ∧ cmp (insF R L).1 (insF R L).2 hs' s' ∧ bnd β' (insF R L).1 (insF R L).2 ∧ (∀ J, lin J → (jr J hs' s' ↔ jr J hs s ∧ J (pd (R 10)))) ∧ ∀ l : Nat, l < 10 → L l ≠ 0 → (insF R L).1 l = R l ∧ (insF R L).2 l ≠ 0 := by
  unfold opB at h
  simp only [Bool.and_eq_true] at h
  obtain ⟨⟨⟨h1, h2, h3⟩, h4, h5⟩, h6⟩ := h
  have h1 := Nat.le_of_ble_eq_true h1
  have h2 := Nat.le_of_ble_eq_true h2
  have h3 := Nat.le_of_ble_eq_true h3
  have h4 := Nat.eq_of_beq_eq_true h4
  have h5 := Nat.eq_of_beq_eq_true h5
  rw [gt_e] at h2 h3
  have hM : ∀ l : Nat, l < 10 → (L l ≠ 0 ↔ M.testBit l = true) := fun l hl => by rw [c.2.1 l hl, r.2.1 l (by omega)]
  have hvi : ∀ i, i < 10 → zAbs (R 10 i) ≤ 2 ^ w := fun i hi => by
    have := nS_1 (g := pd (R 10)) (n := 15) (j := i) (by omega)
    rw [pd_i hi] at this
    omega
  refine ⟨insB_u c.1 hM hb hp hv hvi h1, ?_⟩
  have new : ∀ (t : Nat) (s' : Int → Int), t ≤ p → M.testBit t = false → rel (abI M b p w t).1 (abI M b p w t).2 (uI hs t 1) s' → cmp (insF R L).1 (uI L t 1) (uI hs t 1) s' → (insF R L).2 = uI L t 1 → (∀ l, l < 10 → l ≠ t → (insF R L).1 l = R l) → (∀ i, i < 10 → (insF R L).1 t i = rv s' t i) → (∀ J, lin J → (jr J (uI hs t 1) s' ↔ jr J hs s ∧ J (pd (R 10)))) → opN F M b β p w t = true → ∃ (M' : Nat) (b' β' : List Nat) (hs' s' : Int → Int), F M' b' β' = true ∧ rel M' b' hs' s' ∧ cmp (insF R L).1 (insF R L).2 hs' s' ∧ bnd β' (insF R L).1 (insF R L).2 ∧ (∀ J, lin J → (jr J hs' s' ↔ jr J hs s ∧ J (pd (R 10)))) ∧ ∀ l : Nat, l < 10 → L l ≠ 0 → (insF R L).1 l = R l ∧ (insF R L).2 l ≠ 0 := by
    intro t s' t0 t1 a1 a2 a3 a4 a5 a6 a7
    have t10 : t < 10 := by omega
    have hLt : L t = 0 := by
      rcases Decidable.em (L t = 0) with q | q
      · exact q
      · rw [(hM t t10).mp q] at t1; cases t1
    rw [abI_e] at a1
    obtain ⟨bb, hbb⟩ : ∃ bb, nrB (M ||| 2 ^ t) 0 (upB t p w (gt b p + w) 0 b) = bb := ⟨_, rfl⟩
    rw [hbb] at a1
    unfold opN at a7
    rw [hbb] at a7
    refine ⟨M ||| 2 ^ t, bb, slB9 β t (gt bb t), uI hs t 1, s', a7, a1, by rw [a3]; exact a2, ?_, a6, fun l hl h2 => ?_⟩
    · intro l hl h2 i hi
      rw [slB9_g β t _ l (by omega)]
      rcases Decidable.em (l = t) with q | q
      · subst q
        rw [if_pos rfl, a5 i hi, gt_e]
        exact rel_r a1 (l := l) (p := l) (by omega) (by rw [uI_s]; decide) (Nat.le_refl _) (by omega) i (by omega)
      · rw [if_neg q, a4 l hl q]
        rw [a3, uI_n _ _ (by omega)] at h2
        exact hb l hl h2 i hi
    · have lt : l ≠ t := fun q => by rw [q] at h2; exact h2 hLt
      refine ⟨a4 l hl lt, ?_⟩
      rw [a3, uI_n _ _ (by omega)]
      exact h2
  rcases ins_h c r hp hv hw (by omega) (by omega) with ⟨a1, a2, a3, a4, a5⟩ | ⟨t, s', t0, t1, a1, a2, a3, a4, a5, a6, a7⟩
  · have hMp : M.testBit p = true := by
      cases q : M.testBit p
      · exact absurd ⟨hvp, q⟩ a5
      · rfl
    rw [bt_e, hMp] at h6
    have h6' : F M b β = true := ((Bool.and_eq_true _ _).mp h6).1
    refine ⟨M, b, β, hs, s, h6', r, by rw [a2]; exact a1, ?_, fun J hJ => ⟨fun q => ⟨q, a3 J hJ q⟩, fun q => q.1⟩, fun l hl h2 => ⟨a4 l hl, by rw [a2]; exact h2⟩⟩
    intro l hl h2 i hi
    rw [a2] at h2
    rw [a4 l hl]
    exact hb l hl h2 i hi
  · cases q : M.testBit p
    · rw [bt_e, q] at h6
      have tp := a7 hvp q
      subst tp
      exact new t s' t0 t1 a1 a2 a3 a4 a5 a6 h6
    · rw [bt_e, q] at h6
      have h6' := ((Bool.and_eq_true _ _).mp h6).2
      have tp : t < p := by
        rcases Nat.lt_or_ge t p with g | g
        · exact g
        · rw [show t = p by omega, q] at t1; cases t1
      exact new t s' t0 t1 a1 a2 a3 a4 a5 a6 (opA_h h6' t tp t1)
