/-! The abstract run holds of the reference: grows. -/
theorem gt_e : ∀ (b : List Nat) (k : Nat), gt b k = b.getD k 0
  | [], _ => rfl
  | _ :: _, 0 => rfl
  | x :: r, k + 1 => by
    show gt r k = r.getD k 0
    exact gt_e r k
theorem nrB_e (M : Nat) : ∀ (b : List Nat) (i : Nat), nrB M i b = nrL M i b
  | [], _ => rfl
  | x :: r, i => by
    unfold nrB nrL
    rw [bt_e, nrB_e M r (i + 1)]
    cases M.testBit i <;> rfl
theorem upB_e (t p w y : Nat) : ∀ (b : List Nat) (i : Nat), upB t p w y i b = upL t p w y i b
  | [], _ => rfl
  | x :: r, i => by
    unfold upB upL
    rw [upB_e t p w y r (i + 1)]
    congr 1
    cases h : Nat.ble p i
    · rw [if_neg (fun g => by rw [Nat.ble_eq_true_of_le g] at h; cases h)]
      cases h2 : Nat.ble t i
      · rw [if_neg (fun g => by rw [Nat.ble_eq_true_of_le g] at h2; cases h2)]
        rfl
      · rw [if_pos (Nat.le_of_ble_eq_true h2)]
        rfl
    · rw [if_pos (Nat.le_of_ble_eq_true h)]
      rfl
theorem abI_e (M : Nat) (b : List Nat) (p w t : Nat) : abI M b p w t = (M ||| 2 ^ t, nrB (M ||| 2 ^ t) 0 (upB t p w (gt b p + w) 0 b)) := by
  unfold abI
  rw [nrB_e, upB_e, gt_e]
def okT (T : abT) : Prop := ∀ e, e ∈ T → e.2.2.length = 15
def leb (b b' : List Nat) : Prop := ∀ k, b.getD k 0 ≤ b'.getD k 0
def cvr (T : abT) (M g : Nat) (b : List Nat) : Prop := ∃ b', (M, g, b') ∈ T ∧ leb b b'
theorem mxL_n : ∀ (a b : List Nat), (mxL a b).length = a.length
  | [], [] => rfl
  | [], _ :: _ => rfl
  | _ :: _, [] => rfl
  | x :: a, y :: b => by
    show (mxL a b).length + 1 = a.length + 1
    rw [mxL_n a b]
theorem mxL_l : ∀ (a b : List Nat), leb a (mxL a b)
  | [], [], _ => Nat.le_refl _
  | [], _ :: _, _ => Nat.le_refl _
  | _ :: _, [], _ => Nat.le_refl _
  | x :: a, y :: b, 0 => by
    show x ≤ bif Nat.ble x y then y else x
    cases h : Nat.ble x y
    · exact Nat.le_refl _
    · exact Nat.le_of_ble_eq_true h
  | x :: a, y :: b, k + 1 => mxL_l a b k
theorem mxL_r : ∀ (a b : List Nat), b.length ≤ a.length → leb b (mxL a b)
  | [], [], _, _ => Nat.le_refl _
  | [], _ :: _, h, _ => by cases h
  | _ :: _, [], _, k => by
    show ([] : List Nat).getD k 0 ≤ _
    rw [List.getD_nil]
    exact Nat.zero_le _
  | x :: a, y :: b, _, 0 => by
    show y ≤ bif Nat.ble x y then y else x
    cases h : Nat.ble x y
    · rcases Nat.lt_or_ge y x with g | g
      · exact Nat.le_of_lt g
      · rw [Nat.ble_eq_true_of_le g] at h
        cases h
    · exact Nat.le_refl _
  | x :: a, y :: b, h, k + 1 => mxL_r a b (by simpa using h) k
theorem leb_t {a b c : List Nat} (h : leb a b) (h2 : leb b c) : leb a c := fun k => Nat.le_trans (h k) (h2 k)
theorem leb_f (a : List Nat) : leb a a := fun _ => Nat.le_refl _
theorem beq2 {M M' g g' : Nat} : (Nat.beq M M' && Nat.beq g g') = true ↔ M = M' ∧ g = g' := by
  rw [Bool.and_eq_true]
  exact ⟨fun h => ⟨Nat.eq_of_beq_eq_true h.1, Nat.eq_of_beq_eq_true h.2⟩, fun h => ⟨by rw [h.1]; exact Nat.beq_refl _, by rw [h.2]; exact Nat.beq_refl _⟩⟩
theorem abP_ok : ∀ {T : abT} {M g : Nat} {b : List Nat}, okT T → b.length = 15 → okT (abP T M g b)
  | [], M, g, b, _, hb, e, he => by
    rcases List.mem_cons.mp he with q | q
    · rw [q]; exact hb
    · cases q
  | e0 :: r, M, g, b, h, hb, e, he => by
    unfold abP at he
    cases hq : (Nat.beq M e0.1 && Nat.beq g e0.2.1)
    · rw [hq] at he
      rcases List.mem_cons.mp he with q | q
      · rw [q]; exact h e0 List.mem_cons_self
      · exact abP_ok (fun e he => h e (List.mem_cons_of_mem _ he)) hb e q
    · rw [hq] at he
      rcases List.mem_cons.mp he with q | q
      · rw [q]
        show (mxL e0.2.2 b).length = 15
        rw [mxL_n]
        exact h e0 List.mem_cons_self
      · exact h e (List.mem_cons_of_mem _ q)
theorem abP_1 : ∀ {T : abT} {M g : Nat} {b : List Nat}, okT T → b.length = 15 → cvr (abP T M g b) M g b
  | [], M, g, b, _, _ => ⟨b, List.mem_cons_self, leb_f b⟩
  | e0 :: r, M, g, b, h, hb => by
    unfold abP
    cases hq : (Nat.beq M e0.1 && Nat.beq g e0.2.1)
    · obtain ⟨b', h1, h2⟩ := abP_1 (T := r) (M := M) (g := g) (fun e he => h e (List.mem_cons_of_mem _ he)) hb
      exact ⟨b', List.mem_cons_of_mem _ h1, h2⟩
    · exact ⟨_, List.mem_cons_self, mxL_r _ _ (by rw [hb, h e0 List.mem_cons_self]; exact Nat.le_refl _)⟩
theorem abP_2 : ∀ {T : abT} {M g M' g' : Nat} {b b' : List Nat}, cvr T M g b → cvr (abP T M' g' b') M g b
  | [], _, _, _, _, _, _, ⟨_, h, _⟩ => by cases h
  | e0 :: r, M, g, M', g', b, b', ⟨b2, h, h2⟩ => by
    unfold abP
    cases hq : (Nat.beq M' e0.1 && Nat.beq g' e0.2.1)
    · rcases List.mem_cons.mp h with q | q
      · exact ⟨b2, by rw [← q]; exact List.mem_cons_self, h2⟩
      · obtain ⟨b3, h3, h4⟩ := abP_2 (M' := M') (g' := g') (b' := b') ⟨b2, q, h2⟩
        exact ⟨b3, List.mem_cons_of_mem _ h3, h4⟩
    · rcases List.mem_cons.mp h with q | q
      · obtain ⟨q1, q2⟩ := beq2.mp hq
        refine ⟨mxL b2 b', ?_, leb_t h2 (mxL_l _ _)⟩
        rw [← q] at q1 q2 ⊢
        show (M, g, mxL b2 b') ∈ (M', g', mxL b2 b') :: r
        rw [q1, q2]
        exact List.mem_cons_self
      · exact ⟨b2, List.mem_cons_of_mem _ q, h2⟩
theorem abI_n (M : Nat) (b : List Nat) (p w t : Nat) : (nrB (M ||| 2 ^ t) 0 (upB t p w (gt b p + w) 0 b)).length = b.length := by
  rw [nrB_e, upB_e, nrL_n, upL_n]
theorem abF_h {Q M : Nat} {b : List Nat} {p w : Nat} (hb : b.length = 15) : ∀ (n : Nat) {S : abT}, okT S → okT (abF Q M b p w n S) ∧ (∀ M' g' b', cvr S M' g' b' → cvr (abF Q M b p w n S) M' g' b') ∧ ∀ t, t < n → M.testBit t = false → Q.testBit t = true → cvr (abF Q M b p w n S) (abI M b p w t).1 1 (abI M b p w t).2
  | 0, S, h => ⟨h, fun _ _ _ q => q, fun t ht => by omega⟩
  | n + 1, S, h => by
    unfold abF
    cases hq : (bt M n || !(bt Q n))
    · obtain ⟨a, b1, c⟩ := abF_h (Q := Q) (M := M) (p := p) (w := w) hb n (abP_ok (M := M ||| 2 ^ n) (g := 1) (b := nrB (M ||| 2 ^ n) 0 (upB n p w (gt b p + w) 0 b)) h (by rw [abI_n]; exact hb))
      refine ⟨a, fun M' g' b' q => b1 _ _ _ (abP_2 q), fun t ht hM hQ => ?_⟩
      rcases Decidable.em (t = n) with e | e
      · subst e
        rw [abI_e]
        exact b1 _ _ _ (abP_1 h (by rw [abI_n]; exact hb))
      · exact c t (by omega) hM hQ
    · obtain ⟨a, b1, c⟩ := abF_h (Q := Q) (M := M) (p := p) (w := w) hb n h
      refine ⟨a, b1, fun t ht hM hQ => ?_⟩
      rcases Decidable.em (t = n) with e | e
      · subst e
        rw [bt_e, bt_e, hM, hQ] at hq
        cases hq
      · exact c t (by omega) hM hQ
theorem abN_h {Q : Nat} {T : abT} {M g : Nat} {b : List Nat} {p w : Nat} (h : okT T) (hb : b.length = 15) : okT (abN Q T M g b p w) ∧ (∀ M' g' b', cvr T M' g' b' → cvr (abN Q T M g b p w) M' g' b') ∧ (M.testBit p = true → cvr (abN Q T M g b p w) M g b ∧ ∀ t, t < p → M.testBit t = false → Q.testBit t = true → cvr (abN Q T M g b p w) (abI M b p w t).1 1 (abI M b p w t).2) ∧ (M.testBit p = false → cvr (abN Q T M g b p w) (abI M b p w p).1 1 (abI M b p w p).2) := by
  unfold abN
  cases hq : bt M p
  · have hq' : M.testBit p = false := by rw [← bt_e]; exact hq
    refine ⟨abP_ok h (by rw [abI_n]; exact hb), fun M' g' b' q => abP_2 q, fun q => ?_, fun _ => ?_⟩
    · rw [hq'] at q
      cases q
    · rw [abI_e]
      exact abP_1 h (by rw [abI_n]; exact hb)
  · have hq' : M.testBit p = true := by rw [← bt_e]; exact hq
    obtain ⟨a, b1, c⟩ := abF_h (Q := Q) (M := M) (p := p) (w := w) hb p (abP_ok (M := M) (g := g) (b := b) h hb)
    refine ⟨a, fun M' g' b' q => b1 _ _ _ (abP_2 q), fun _ => ⟨b1 _ _ _ (abP_1 h hb), c⟩, fun q => ?_⟩
    rw [hq'] at q
    cases q
theorem abS_h {Q l p : Nat} : ∀ {S T : abT}, okT S → okT T → okT (abS Q l p S T) ∧ (∀ M' g' b', cvr T M' g' b' → cvr (abS Q l p S T) M' g' b') ∧ ∀ M g b, (M, g, b) ∈ S → (M.testBit l = false → cvr (abS Q l p S T) M g b) ∧ (M.testBit l = true → (M.testBit p = true → cvr (abS Q l p S T) M g b ∧ ∀ t, t < p → M.testBit t = false → Q.testBit t = true → cvr (abS Q l p S T) (abI M b p (b.getD l 0 + 4) t).1 1 (abI M b p (b.getD l 0 + 4) t).2) ∧ (M.testBit p = false → cvr (abS Q l p S T) (abI M b p (b.getD l 0 + 4) p).1 1 (abI M b p (b.getD l 0 + 4) p).2))
  | [], T, _, h => ⟨h, fun _ _ _ q => q, fun M g b q => by cases q⟩
  | e :: r, T, h1, h2 => by
    have h3 : okT r := fun e he => h1 e (List.mem_cons_of_mem _ he)
    have hb := h1 e List.mem_cons_self
    unfold abS
    cases hq : bt e.1 l
    · have hq' : e.1.testBit l = false := by rw [← bt_e]; exact hq
      obtain ⟨a, b1, c⟩ := abS_h (Q := Q) (l := l) (p := p) h3 (abP_ok (M := e.1) (g := e.2.1) (b := e.2.2) h2 hb)
      refine ⟨a, fun M' g' b' q => b1 _ _ _ (abP_2 q), fun M g b hm => ?_⟩
      rcases List.mem_cons.mp hm with q | q
      · refine ⟨fun _ => ?_, fun q2 => ?_⟩
        · refine b1 _ _ _ ?_
          rw [← q]
          exact abP_1 h2 (by rw [← q] at hb; exact hb)
        · rw [← q] at hq'
          rw [hq'] at q2
          cases q2
      · exact c M g b q
    · have hq' : e.1.testBit l = true := by rw [← bt_e]; exact hq
      obtain ⟨n0, n1, n2, n3⟩ := abN_h (Q := Q) (T := T) (M := e.1) (g := e.2.1) (p := p) (w := gt e.2.2 l + 4) h2 hb
      obtain ⟨a, b1, c⟩ := abS_h (Q := Q) (l := l) (p := p) h3 n0
      refine ⟨a, fun M' g' b' q => b1 _ _ _ (n1 _ _ _ q), fun M g b hm => ?_⟩
      rcases List.mem_cons.mp hm with q | q
      · rw [← q] at hq' n2 n3 hb ⊢
        refine ⟨fun q2 => ?_, fun _ => ⟨fun q2 => ?_, fun q2 => ?_⟩⟩
        · rw [hq'] at q2
          cases q2
        · obtain ⟨m1, m2⟩ := n2 q2
          rw [← q] at b1
          refine ⟨b1 _ _ _ m1, fun t ht hM hQ => b1 _ _ _ ?_⟩
          have := m2 t ht hM hQ
          rw [gt_e] at this
          rw [gt_e]
          exact this
        · have := n3 q2
          rw [← q] at b1
          refine b1 _ _ _ ?_
          rw [gt_e] at this
          rw [gt_e]
          exact this
      · exact c M g b q
theorem abK_m {l p : Nat} : ∀ {S : abT}, abK l p S = true → ∀ M g b, (M, g, b) ∈ S → M.testBit l = true → 1 + 2 * b.getD p 0 + (b.getD l 0 + 4) < 16744 ∧ 2 + b.getD 14 0 + b.getD p 0 + (b.getD l 0 + 4) < 16744
  | [], _, _, _, _, h, _ => by cases h
  | e :: r, h, M, g, b, hm, hM => by
    unfold abK at h
    rw [Bool.and_eq_true] at h
    rcases List.mem_cons.mp hm with q | q
    · have h1 := h.1
      rw [← q] at h1
      rw [bt_e, hM] at h1
      have h2 : abO b p (gt b l + 4) = true := by simpa using h1
      unfold abO at h2
      rw [Bool.and_eq_true] at h2
      have h3 := Nat.le_of_ble_eq_true (show Nat.ble (1 + 2 * gt b p + (gt b l + 4) + 1) 16744 = true from h2.1)
      have h4 := Nat.le_of_ble_eq_true (show Nat.ble (2 + gt b 14 + gt b p + (gt b l + 4) + 1) 16744 = true from h2.2)
      rw [gt_e, gt_e] at h3
      rw [gt_e, gt_e, gt_e] at h4
      omega
    · exact abK_m h.2 M g b q hM
theorem rel_le {M : Nat} {b b' : List Nat} {hs s : Int → Int} (h : rel M b hs s) (h1 : b'.length = 15) (h2 : leb b b') : rel M b' hs s :=
  ⟨h1, h.2.1, h.2.2.1, fun p hp => by
    obtain ⟨G, L, c, n⟩ := h.2.2.2 p hp
    exact ⟨G, L, c, Int.le_trans n (pow_m (h2 p))⟩⟩
def cov (S : abT) (g : Nat) (hs s : Int → Int) : Prop := ∃ M b, (M, g, b) ∈ S ∧ rel M b hs s
theorem cov_c {T : abT} {M g : Nat} {b : List Nat} {hs s : Int → Int} (h : okT T) (c : cvr T M g b) (r : rel M b hs s) : cov T g hs s := by
  obtain ⟨b', h1, h2⟩ := c
  exact ⟨M, b', h1, rel_le r (h _ h1) h2⟩
