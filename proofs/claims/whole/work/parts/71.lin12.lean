/-! grows keeps to the abstract run. -/
def sh (w : Int) (k : Nat) : Nat := (mN (mX k + 1 - w) (mY k + w)).toNat
theorem sh_i {w : Int} {k : Nat} (hw : w = 0 ∨ w = 1) (hk : k < 10) : mN (mX k + 1 - w) (mY k + w) = sh w k ∧ sh w k < 15 := by
  have h1 := mX_h (u := (k : Int)) (by omega)
  have h2 := mY_h (u := (k : Int)) (by omega)
  have h3 : mD (k : Int) ≤ 3 := by
    unfold mD
    repeat' split
    all_goals omega
  have h4 := mN_15 (a := mX k + 1 - w) (b := mY k + w) (by omega)
  unfold sh
  omega
theorem sh_m : ∀ w : Fin 2, ∀ l : Fin 10, ∀ i : Fin 10, i.val ≤ l.val → sh (w.val : Nat) i.val ≤ sh (w.val : Nat) l.val := by decide +kernel
theorem sh_mo {w : Int} {i l : Nat} (hw : w = 0 ∨ w = 1) (hl : l < 10) (h : i ≤ l) : sh w i ≤ sh w l := by
  rcases hw with rfl | rfl
  · exact sh_m 0 ⟨l, hl⟩ ⟨i, by omega⟩ h
  · exact sh_m 1 ⟨l, hl⟩ ⟨i, by omega⟩ h
theorem cS_h {s : Int → Int} {l : Nat} {w B : Int} (hw : w = 0 ∨ w = 1) (hl : l < 10) (hB : 0 ≤ B) (hb : ∀ k, k < 15 → zAbs (rv s l k) ≤ B) : ∀ n, n ≤ l + 1 → (∀ j, j < 15 → zAbs (wv (cS s l w n) j) ≤ B ∧ (wv (cS s l w n) j ≠ 0 → ∃ i, i < n ∧ j = sh w i)) ∧ ∀ q, q < 2025 → cS s l w n q = s q
  | 0, _ => by
    have z : ∀ j, j < 15 → wv (cS s l w 0) j = 0 := fun j hj => by
      rw [wv_in hj]
      show cw s 45 (2025 + j) = 0
      unfold cw
      rw [if_pos (by omega)]
    refine ⟨fun j hj => ⟨by rw [z j hj]; exact hB, fun h => absurd (z j hj) h⟩, fun q hq => ?_⟩
    show cw s 45 q = s q
    unfold cw
    rw [if_neg (by omega)]
  | n + 1, hn => by
    obtain ⟨h1, h2⟩ := cS_h hw hl hB hb n (by omega)
    obtain ⟨e1, e2⟩ := sh_i (k := n) hw (by omega)
    have e3 : cS s l w (n + 1) = uI (cS s l w n) (2025 + (sh w n : Int)) (s (45 * (l : Int) + n)) := by
      rw [cS_s, e1, h2 _ (by omega)]
    refine ⟨fun j hj => ?_, fun q hq => by rw [e3, uI_n _ _ (by omega)]; exact h2 q hq⟩
    rw [wv_in hj, e3]
    rcases Decidable.em (j = sh w n) with g | g
    · rw [g, uI_s, ← rv_in (s := s) (l := l) (k := n) (by omega)]
      exact ⟨hb n (by omega), fun _ => ⟨n, by omega, rfl⟩⟩
    · rw [uI_n _ _ (by omega), ← wv_in (s := cS s l w n) hj]
      obtain ⟨a, b⟩ := h1 j hj
      refine ⟨a, fun q => ?_⟩
      obtain ⟨i, i0, i1⟩ := b q
      exact ⟨i, by omega, i1⟩
theorem shP_e {w : Int} {j k : Nat} (hw : w = 0 ∨ w = 1) (hj : j < 15) (hk : k < 10) : shP w j = k ↔ j = sh w k := by
  rcases hw with rfl | rfl
  · exact shP_k 0 ⟨j, hj⟩ ⟨k, hk⟩
  · exact shP_k 1 ⟨j, hj⟩ ⟨k, hk⟩
/-- the row at hand is x or y times the row -/
theorem cS_x {s : Int → Int} {l : Nat} {w : Int} (hw : w = 0 ∨ w = 1) (hl : l < 10) (hz : ∀ k, l < k → k < 15 → rv s l k = 0) : wv (cS s l w (l + 1)) = xs w (rv s l) := by
  have go : ∀ n, n ≤ l + 1 → (∀ j, j < 15 → wv (cS s l w n) j = if shP w j < n then rv s l (shP w j) else 0) ∧ ∀ q, q < 2025 → cS s l w n q = s q := by
    intro n
    induction n with
    | zero =>
      intro _
      refine ⟨fun j hj => ?_, fun q hq => ?_⟩
      · rw [wv_in hj, if_neg (by omega)]
        show cw s 45 (2025 + j) = 0
        unfold cw
        rw [if_pos (by omega)]
      · show cw s 45 q = s q
        unfold cw
        rw [if_neg (by omega)]
    | succ n ih =>
      intro hn
      obtain ⟨h1, h2⟩ := ih (by omega)
      obtain ⟨e1, e2⟩ := sh_i (k := n) hw (by omega)
      have e3 : cS s l w (n + 1) = uI (cS s l w n) (2025 + (sh w n : Int)) (s (45 * (l : Int) + n)) := by
        rw [cS_s, e1, h2 _ (by omega)]
      refine ⟨fun j hj => ?_, fun q hq => by rw [e3, uI_n _ _ (by omega)]; exact h2 q hq⟩
      rw [wv_in hj, e3]
      have key := shP_e (w := w) (k := n) hw hj (by omega)
      rcases Decidable.em (j = sh w n) with g | g
      · have g2 := key.mpr g
        rw [if_pos (by omega), g2, g, uI_s, rv_in (by omega)]
      · have g2 : shP w j ≠ n := fun q => g (key.mp q)
        rw [uI_n _ _ (by omega), ← wv_in (s := cS s l w n) hj, h1 j hj]
        rcases Nat.lt_or_ge (shP w j) n with g3 | g3
        · rw [if_pos g3, if_pos (by omega)]
        · rw [if_neg (by omega), if_neg (by omega)]
  funext j
  unfold xs
  rcases Nat.lt_or_ge j 15 with g | g
  · rw [(go (l + 1) (Nat.le_refl _)).1 j g]
    rcases Nat.lt_or_ge (shP w j) (l + 1) with g2 | g2
    · rw [if_pos g2, if_pos ⟨g, by omega⟩]
    · rw [if_neg (by omega)]
      rcases Nat.lt_or_ge (shP w j) 10 with g3 | g3
      · rw [if_pos ⟨g, g3⟩, hz _ (by omega) (by omega)]
      · rw [if_neg (by omega)]
  · rw [wv_o _ g, if_neg (by omega)]
theorem nS_B {a : lV} {B : Int} : ∀ {n : Nat}, (∀ j, j < n → zAbs (a j) ≤ B) → nS a n ≤ n * B
  | 0, _ => by
    show (0 : Int) ≤ ((0 : Nat) : Int) * B
    rw [show ((0 : Nat) : Int) = 0 from rfl, Int.zero_mul]
    exact Int.le_refl _
  | n + 1, h => by
    have h1 := nS_B (a := a) (B := B) (n := n) (fun j hj => h j (by omega))
    have h2 := h n (by omega)
    rw [show ((n + 1 : Nat) : Int) = (n : Int) + 1 by omega, Int.add_mul, Int.one_mul]
    show nS a n + zAbs (a n) ≤ _
    omega
abbrev gZ : Type := (Int → Int) × (Int → Int) × Int
/-- what one way of one row makes of the spans -/
def gJ (z z' : gZ) (v : lV) : Prop := (∀ J, lin J → (jr J z.1 z.2.1 → J v → jr J z'.1 z'.2.1) ∧ (jr J z'.1 z'.2.1 → jr J z.1 z.2.1 ∧ J v)) ∧ (z'.2.2 = 0 → z.2.2 = 0 ∧ z'.1 = z.1 ∧ ∀ l : Nat, l < 15 → rv z'.2.1 l = rv z.2.1 l)
theorem rv_s {s s' : Int → Int} (e : ∀ q, q < 2025 → s' q = s q) {l : Nat} (hl : l < 15) : rv s' l = rv s l := funext (fun j => by
  rcases Nat.lt_or_ge j 15 with g | g
  · rw [rv_in g, rv_in g, e _ (by omega)]
  · rw [rv_o s' l g, rv_o s l g])
/-- leads of what a set holds are of Q -/
def jQ (J : lV → Prop) (Q : Nat) : Prop := ∀ (v : lV) (t : Nat), J v → t < 15 → v t ≠ 0 → (∀ k, t < k → k < 15 → v k = 0) → Q.testBit t = true
/-- closed under x and y: of vectors of degree 3 at most -/
def clo (J : lV → Prop) : Prop := lin J ∧ ∀ (v : lV) (w : Int), (w = 0 ∨ w = 1) → (∀ j, 10 ≤ j → v j = 0) → J v → J (xs w v)
section
variable {J0 : lV → Prop} {Q : Nat}
theorem g1w_h {S : abT} {l : Nat} {w : Int} {z : gZ} (J0c : clo J0) (J0q : jQ J0 Q) (hw : w = 0 ∨ w = 1) (hl : l < 10) (ok : okT S) (gk : gOk z) (hj0 : jr J0 z.1 z.2.1) (c : cov S z.2.2.toNat z.1 z.2.1) (hz : z.1 l ≠ 0) (K : abK l (sh w l) S = true) : enB z.1 (cS z.2.1 l w (l + 1)) 15 ∧ cov (abS Q l (sh w l) S []) (g1w 15 l w z).2.2.toNat (g1w 15 l w z).1 (g1w 15 l w z).2.1 ∧ gJ z (g1w 15 l w z) (xs w (rv z.2.1 l)) := by
  obtain ⟨M, b, hm, r⟩ := c
  have hM : M.testBit l = true := (r.2.1 l (by omega)).mp hz
  obtain ⟨k1, k2⟩ := abK_m K M _ b hm hM
  obtain ⟨e1, e2⟩ := sh_i (k := l) hw hl
  obtain ⟨p, hp⟩ : ∃ p, sh w l = p := ⟨_, rfl⟩
  rw [hp] at k1 k2 e1 e2
  have B0 : (0 : Int) ≤ 2 ^ b.getD l 0 := Int.le_of_lt (Int.pow_pos (by decide))
  have hb := rel_r r (by omega) hz (Nat.le_refl l) (by omega)
  obtain ⟨v1, v2⟩ := cS_h (w := w) hw hl B0 hb (l + 1) (Nat.le_refl _)
  have r' : rel M b z.1 (cS z.2.1 l w (l + 1)) := rel_s r v2
  have hv : ∀ j, p < j → j < 15 → wv (cS z.2.1 l w (l + 1)) j = 0 := fun j j0 j1 => by
    rcases Decidable.em (wv (cS z.2.1 l w (l + 1)) j = 0) with g | g
    · exact g
    · obtain ⟨i, i0, i1⟩ := (v1 j j1).2 g
      have := sh_mo (i := i) hw hl (by omega)
      omega
  have hN : nS (wv (cS z.2.1 l w (l + 1))) 15 ≤ 2 ^ (b.getD l 0 + 4) := by
    have h1 := nS_B (n := 15) (fun j hj => (v1 j hj).1)
    rw [Int.pow_add]
    show _ ≤ 2 ^ b.getD l 0 * 16
    have h2 : ((15 : Nat) : Int) * 2 ^ b.getD l 0 = 15 * 2 ^ b.getD l 0 := rfl
    omega
  have hpv : wv (cS z.2.1 l w (l + 1)) p ≠ 0 := by
    have e3 : cS z.2.1 l w (l + 1) = uI (cS z.2.1 l w l) (2025 + (p : Int)) (z.2.1 (45 * (l : Int) + l)) := by
      rw [cS_s, e1, (cS_h (w := w) hw hl B0 hb l (by omega)).2 _ (by omega)]
    rw [wv_in e2, e3, uI_s, ← rv_in (s := z.2.1) (l := l) (k := l) (by omega)]
    have := (r.2.2.1 l (by omega) hz).1
    omega
  obtain ⟨a1, a2, a3⟩ := rel_en r' e2 hv hN k1 k2
  have hx := cS_x (w := w) hw hl (fun k k0 k1 => (r.2.2.1 l (by omega) hz).2.1 k k0 k1)
  have rs : ∀ q : Nat, q < 15 → rv (cS z.2.1 l w (l + 1)) q = rv z.2.1 q := fun q hq => rv_s v2 hq
  have js : ∀ J, jr J z.1 (cS z.2.1 l w (l + 1)) ↔ jr J z.1 z.2.1 := fun J => ⟨fun h q q0 q1 => by rw [← rs q q0]; exact h q q0 q1, fun h q q0 q1 => by rw [rs q q0]; exact h q q0 q1⟩
  refine ⟨a1, ?_, ?_⟩
  rotate_left
  · have fl : (g1w 15 l w z).2.2 = if (en z.1 (cS z.2.1 l w (l + 1)) 15).2.2 = 0 then z.2.2 else 1 := rfl
    refine ⟨fun J hJ => ?_, fun hf => ?_⟩
    · show (jr J z.1 z.2.1 → J (xs w (rv z.2.1 l)) → jr J (en z.1 (cS z.2.1 l w (l + 1)) 15).1 (en z.1 (cS z.2.1 l w (l + 1)) 15).2.1) ∧ (jr J (en z.1 (cS z.2.1 l w (l + 1)) 15).1 (en z.1 (cS z.2.1 l w (l + 1)) 15).2.1 → jr J z.1 z.2.1 ∧ J (xs w (rv z.2.1 l)))
      rw [← hx]
      rcases a2 with ⟨c1, c2, c3, c4, c5⟩ | ⟨t, t0, t1, c1, c2, c3, cA, cB, cC⟩
      · have e1 : ∀ J, jr J (en z.1 (cS z.2.1 l w (l + 1)) 15).1 (en z.1 (cS z.2.1 l w (l + 1)) 15).2.1 ↔ jr J z.1 z.2.1 := fun J => by
          rw [c2]
          exact ⟨fun h q q0 q1 => by rw [← rs q q0, ← rv_s c4 q0]; exact h q q0 q1, fun h q q0 q1 => by rw [rv_s c4 q0, rs q q0]; exact h q q0 q1⟩
        rw [e1]
        exact ⟨fun h _ => h, fun h => ⟨h, spn_J hJ c5 ((js J).mpr h)⟩⟩
      · have t15 : t < 15 := by omega
        have hst : z.1 t = 0 := by
          rcases Decidable.em (z.1 t = 0) with g | g
          · exact g
          · have := (r.2.1 t t15).mp g
            rw [t1] at this
            cases this
        have := st_J hJ t15 hst cA cB
        rw [js] at this
        rw [c2]
        exact this
    · rw [fl] at hf
      rcases a2 with ⟨c1, c2, c3, c4, c5⟩ | ⟨t, t0, t1, c1, c2, c3, cA, cB, cC⟩
      · rw [if_pos c1] at hf
        exact ⟨hf, c2, fun q hq => by show rv (en z.1 (cS z.2.1 l w (l + 1)) 15).2.1 q = _; rw [rv_s c4 hq, rs q hq]⟩
      · rw [c1, if_neg (by decide)] at hf
        cases hf
  obtain ⟨s0, s1, s2⟩ := abS_h (Q := Q) (l := l) (p := p) (S := S) (T := []) ok (fun e he => by cases he)
  obtain ⟨-, s4⟩ := s2 M _ b hm
  obtain ⟨s5, s6⟩ := s4 hM
  have a4 := a3 hpv
  rw [hp]
  have fl : (g1w 15 l w z).2.2 = if (en z.1 (cS z.2.1 l w (l + 1)) 15).2.2 = 0 then z.2.2 else 1 := rfl
  rcases a2 with ⟨c1, c2, c3, -, -⟩ | ⟨t, t0, t1, c1, c2, c3, cA, cB, cC⟩
  · rw [fl, if_pos c1]
    show cov _ _ (en z.1 (cS z.2.1 l w (l + 1)) 15).1 (en z.1 (cS z.2.1 l w (l + 1)) 15).2.1
    rw [c2]
    cases hq : M.testBit p
    · have h1 := a4 hq
      rw [c2] at h1
      have h2 : z.1 p = 1 := by rw [h1, uI_s]
      have h3 := (r.2.1 p e2).mp (by rw [h2]; decide)
      rw [hq] at h3
      cases h3
    · exact cov_c s0 (s5 hq).1 c3
  · have tQ : Q.testBit t = true := by
      have t15 : t < 15 := by omega
      have hst : z.1 t = 0 := by
        rcases Decidable.em (z.1 t = 0) with g | g
        · exact g
        · have := (r.2.1 t t15).mp g
          rw [t1] at this
          cases this
      have hz10 : ∀ j, 10 ≤ j → rv z.2.1 l j = 0 := fun j hj => by
        rcases Nat.lt_or_ge j 15 with q | q
        · exact (r.2.2.1 l (by omega) hz).2.1 j (by omega) q
        · exact rv_o _ l q
      have hv2 : J0 (wv (cS z.2.1 l w (l + 1))) := by
        rw [hx]
        exact J0c.2 _ w hw hz10 (hj0 l (by omega) hz)
      have hj2 := (st_J J0c.1 t15 hst cA cB).1 ((js J0).mpr hj0) hv2
      have ht1 : uI z.1 t 1 (t : Int) ≠ 0 := by rw [uI_s]; decide
      have hro := hj2 t t15 ht1
      have hec := c3.2.2.1 t t15 (by rw [c2]; exact ht1)
      exact J0q _ t hro t15 (by have := hec.1; omega) (fun k k0 k1 => hec.2.1 k k0 k1)
    rw [fl, if_neg (by rw [c1]; decide)]
    show cov _ (1 : Int).toNat (en z.1 (cS z.2.1 l w (l + 1)) 15).1 (en z.1 (cS z.2.1 l w (l + 1)) 15).2.1
    cases hq : M.testBit p
    · have h1 := a4 hq
      have e3 : t = p := by
        rcases Decidable.em (t = p) with g | g
        · exact g
        · rw [c2] at h1
          have h2 : uI z.1 t 1 p = 1 := by rw [h1, uI_s]
          rw [uI_n _ _ (by omega)] at h2
          have h3 := (r.2.1 p e2).mp (by rw [h2]; decide)
          rw [hq] at h3
          cases h3
      rw [e3] at c3
      exact cov_c s0 (s6 hq) c3
    · have hne : t ≠ p := fun g => by
        rw [g, hq] at t1
        cases t1
      exact cov_c s0 ((s5 hq).2 t (by omega) t1 tQ) c3
/-- what a row's two ways make of the spans -/
def gS (z z' : gZ) (l : Nat) : Prop := (∀ J, clo J → jr J z.1 z.2.1 → jr J z'.1 z'.2.1) ∧ (∀ J, lin J → jr J z'.1 z'.2.1 → jr J z.1 z.2.1) ∧ (z'.2.2 = 0 → z.2.2 = 0 ∧ z'.1 = z.1 ∧ (∀ q : Nat, q < 15 → rv z'.2.1 q = rv z.2.1 q) ∧ (z.1 l ≠ 0 → ∀ J, lin J → jr J z.1 z.2.1 → ∀ w, (w = 0 ∨ w = 1) → J (xs w (rv z.2.1 l))))
theorem gLs_h {S : abT} {l : Nat} {z : gZ} (J0c : clo J0) (J0q : jQ J0 Q) (hl : l < 10) (ok : okT S) (gk : gOk z) (hj0 : jr J0 z.1 z.2.1) (c : cov S z.2.2.toNat z.1 z.2.1) (K0 : abK l (sh 0 l) S = true) (K1 : abK l (sh 1 l) (abS Q l (sh 0 l) S []) = true) : gLsB 15 4 l z ∧ cov (abS Q l (sh 1 l) (abS Q l (sh 0 l) S []) []) (gLs 15 4 l z).2.2.toNat (gLs 15 4 l z).1 (gLs 15 4 l z).2.1 ∧ gOk (gLs 15 4 l z) ∧ gS z (gLs 15 4 l z) l := by
  have nil : okT [] := fun e he => by cases he
  have ok1 := (abS_h (Q := Q) (l := l) (p := sh 0 l) (S := S) (T := []) ok nil).1
  have hd : ¬ (4 : Int) ≤ mD l := by
    unfold mD
    repeat' split
    all_goals omega
  rcases Decidable.em (z.1 l = 0) with g | g
  · have e : gLs 15 4 l z = z := by unfold gLs; exact if_pos (Or.inl g)
    rw [e]
    refine ⟨Or.inl g, ?_, gk, fun _ _ h => h, fun _ _ h => h, fun h => ⟨h, rfl, fun _ _ => rfl, fun q => absurd g q⟩⟩
    obtain ⟨M, b, hm, r⟩ := c
    have hM : M.testBit l = false := by
      cases hq : M.testBit l
      · rfl
      · exact absurd g ((r.2.1 l (by omega)).mpr hq)
    obtain ⟨b1, m1, l1⟩ := ((abS_h (Q := Q) (l := l) (p := sh 0 l) (S := S) (T := []) ok nil).2.2 M _ b hm).1 hM
    obtain ⟨s0, -, s2⟩ := abS_h (Q := Q) (l := l) (p := sh 1 l) (S := abS Q l (sh 0 l) S []) (T := []) ok1 nil
    exact cov_c s0 ((s2 M _ b1 m1).1 hM) (rel_le r (ok1 _ m1) l1)
  · have hn : ¬ (z.1 l = 0 ∨ (4 : Int) ≤ mD l) := by rintro (q | q); exact g q; exact hd q
    have e : gLs 15 4 l z = g1w 15 l 1 (g1w 15 l 0 z) := by unfold gLs; exact if_neg hn
    rw [e]
    obtain ⟨a1, a2, a3⟩ := g1w_h (w := 0) J0c J0q (Or.inl rfl) hl ok gk hj0 c g K0
    have hz0 : ∀ j, 10 ≤ j → rv z.2.1 l j = 0 := fun j hj => by
      obtain ⟨M, b, hm, r⟩ := c
      rcases Nat.lt_or_ge j 15 with q | q
      · exact (r.2.2.1 l (by omega) g).2.1 j (by omega) q
      · exact rv_o _ l q
    have gk1 : gOk (g1w 15 l 0 z) := gOk_1 gk
    have hz1 : (g1w 15 l 0 z).1 l ≠ 0 := by
      show (en z.1 (cS z.2.1 l 0 (l + 1)) 15).1 l ≠ 0
      unfold en
      dsimp only
      split
      · exact g
      · show uI z.1 _ 1 (l : Int) ≠ 0
        unfold uI
        split
        · decide
        · exact g
    have hj1 : jr J0 (g1w 15 l 0 z).1 (g1w 15 l 0 z).2.1 := (a3.1 J0 J0c.1).1 hj0 (J0c.2 _ 0 (Or.inl rfl) hz0 (hj0 l (by omega) g))
    obtain ⟨b1, b2, b3⟩ := g1w_h (w := 1) J0c J0q (Or.inr rfl) hl ok1 gk1 hj1 a2 hz1 K1
    have hz2 : ∀ j, 10 ≤ j → rv (g1w 15 l 0 z).2.1 l j = 0 := fun j hj => by
      obtain ⟨M, b, hm, r⟩ := a2
      rcases Nat.lt_or_ge j 15 with q | q
      · exact (r.2.2.1 l (by omega) hz1).2.1 j (by omega) q
      · exact rv_o _ l q
    refine ⟨Or.inr (Or.inr ⟨a1, b1⟩), b2, gOk_1 gk1, fun J hJ hj => ?_, fun J hJ hj => ?_, fun hf => ?_⟩
    · have j1 := (a3.1 J hJ.1).1 hj (hJ.2 _ 0 (Or.inl rfl) hz0 (hj l (by omega) g))
      exact (b3.1 J hJ.1).1 j1 (hJ.2 _ 1 (Or.inr rfl) hz2 (j1 l (by omega) hz1))
    · exact ((a3.1 J hJ).2 ((b3.1 J hJ).2 hj).1).1
    · obtain ⟨f1, f2, f3⟩ := b3.2 hf
      obtain ⟨f4, f5, f6⟩ := a3.2 f1
      refine ⟨f4, f2.trans f5, fun q hq => by rw [f3 q hq, f6 q hq], fun _ J hJ hj w hw => ?_⟩
      have j1 : jr J (g1w 15 l 0 z).1 (g1w 15 l 0 z).2.1 := by
        rw [f5]
        exact fun q q0 q1 => by rw [f6 q q0]; exact hj q q0 q1
      have j2 : jr J (g1w 15 l 1 (g1w 15 l 0 z)).1 (g1w 15 l 1 (g1w 15 l 0 z)).2.1 := by
        rw [f2]
        exact fun q q0 q1 => by rw [f3 q q0]; exact j1 q q0 q1
      rcases hw with rfl | rfl
      · exact ((a3.1 J hJ).2 j1).2
      · have := ((b3.1 J hJ).2 j2).2
        rw [f6 l (by omega)] at this
        exact this
def abLf : Nat → Nat → List (Nat × Nat)
  | 0, _ => []
  | d + 1, l => (l, sh 0 l) :: (l, sh 1 l) :: abLf d (l + 1)
theorem abL_e : abL = abLf 10 0 := by decide +kernel
theorem gAl_top : ∀ (d l : Nat) (z : gZ), 10 ≤ l → l + d ≤ 15 → gAl 15 4 d l z = z ∧ gAlB 15 4 d l z
  | 0, _, _, _, _ => ⟨rfl, trivial⟩
  | d + 1, l, z, h1, h2 => by
    have hd : (4 : Int) ≤ mD l := by
      unfold mD
      repeat' split
      all_goals omega
    have e : gLs 15 4 l z = z := by unfold gLs; exact if_pos (Or.inr hd)
    obtain ⟨a, b⟩ := gAl_top d (l + 1) z (by omega) (by omega)
    refine ⟨?_, Or.inr (Or.inl hd), ?_⟩
    · show gAl 15 4 d (l + 1) (gLs 15 4 l z) = z
      rw [e]
      exact a
    · show gAlB 15 4 d (l + 1) (gLs 15 4 l z)
      rw [e]
      exact b
/-- what all rows' ways make of the spans -/
def gT (z z' : gZ) (l : Nat) : Prop := (∀ J, clo J → jr J z.1 z.2.1 → jr J z'.1 z'.2.1) ∧ (∀ J, lin J → jr J z'.1 z'.2.1 → jr J z.1 z.2.1) ∧ (z'.2.2 = 0 → z.2.2 = 0 ∧ z'.1 = z.1 ∧ (∀ q : Nat, q < 15 → rv z'.2.1 q = rv z.2.1 q) ∧ ∀ k : Nat, l ≤ k → k < 10 → z.1 k ≠ 0 → ∀ J, lin J → jr J z.1 z.2.1 → ∀ w, (w = 0 ∨ w = 1) → J (xs w (rv z.2.1 k)))
theorem gAl_h (J0c : clo J0) (J0q : jQ J0 Q) : ∀ (d l : Nat) (S U : abT) (z : gZ), l + d = 10 → okT S → gOk z → jr J0 z.1 z.2.1 → cov S z.2.2.toNat z.1 z.2.1 → abR Q S (abLf d l) = some U → gAlB 15 4 (d + 5) l z ∧ okT U ∧ cov U (gAl 15 4 (d + 5) l z).2.2.toNat (gAl 15 4 (d + 5) l z).1 (gAl 15 4 (d + 5) l z).2.1 ∧ gT z (gAl 15 4 (d + 5) l z) l
  | 0, l, S, U, z, hl, ok, gk, hj0, c, h => by
    have e : S = U := by
      have : some S = some U := h
      exact Option.some.inj this
    obtain ⟨a, b⟩ := gAl_top 5 l z (by omega) (by omega)
    have j : gT z z l := ⟨fun _ _ h => h, fun _ _ h => h, fun h => ⟨h, rfl, fun _ _ => rfl, fun k k0 k1 => absurd k1 (by omega)⟩⟩
    show gAlB 15 4 5 l z ∧ okT U ∧ cov U (gAl 15 4 5 l z).2.2.toNat (gAl 15 4 5 l z).1 (gAl 15 4 5 l z).2.1 ∧ gT z (gAl 15 4 5 l z) l
    rw [a, ← e]
    exact ⟨b, ok, c, j⟩
  | d + 1, l, S, U, z, hl, ok, gk, hj0, c, h => by
    have nil : okT [] := fun e he => by cases he
    have h' : (bif abK l (sh 0 l) S then (bif abK l (sh 1 l) (abS Q l (sh 0 l) S []) then abR Q (abS Q l (sh 1 l) (abS Q l (sh 0 l) S []) []) (abLf d (l + 1)) else none) else none) = some U := h
    cases K0 : abK l (sh 0 l) S
    · rw [K0] at h'
      cases h'
    · rw [K0] at h'
      cases K1 : abK l (sh 1 l) (abS Q l (sh 0 l) S [])
      · rw [K1] at h'
        cases h'
      · rw [K1] at h'
        obtain ⟨a, b, g, y1, y2, y3⟩ := gLs_h (l := l) (z := z) J0c J0q (by omega) ok gk hj0 c K0 K1
        have ok1 := (abS_h (Q := Q) (l := l) (p := sh 0 l) (S := S) (T := []) ok nil).1
        have ok2 := (abS_h (Q := Q) (l := l) (p := sh 1 l) (S := abS Q l (sh 0 l) S []) (T := []) ok1 nil).1
        obtain ⟨i1, i2, i3, i4, i5, i6⟩ := gAl_h J0c J0q d (l + 1) _ U (gLs 15 4 l z) (by omega) ok2 g (y1 J0 J0c hj0) b h'
        rw [show d + 1 + 5 = d + 5 + 1 by omega]
        refine ⟨⟨a, i1⟩, i2, i3, fun J hJ hj => i4 J hJ (y1 J hJ hj), fun J hJ hj => y2 J hJ (i5 J hJ hj), fun hf => ?_⟩
        obtain ⟨f1, f2, f3, f4⟩ := i6 hf
        obtain ⟨f5, f6, f7, f8⟩ := y3 f1
        refine ⟨f5, f2.trans f6, fun q hq => (f3 q hq).trans (f7 q hq), fun k k0 k1 k2 J hJ hj w hw => ?_⟩
        rcases Decidable.em (k = l) with e | e
        · subst e
          exact f8 k2 J hJ hj w hw
        · have := f4 k (by omega) k1 (by rw [f6]; exact k2) J hJ (by rw [f6]; exact fun q q0 q1 => by rw [f7 q q0]; exact hj q q0 q1) w hw
          rw [f7 k (by omega)] at this
          exact this
theorem leB_e : ∀ {a b : List Nat}, leB a b = true → leb a b
  | [], _, _, k => by
    rw [List.getD_nil]
    exact Nat.zero_le _
  | x :: a, [], h, _ => by cases h
  | x :: a, y :: b, h, k => by
    unfold leB at h
    rw [Bool.and_eq_true] at h
    cases k with
    | zero => exact Nat.le_of_ble_eq_true h.1
    | succ k => exact leB_e h.2 k
theorem leF_e {M : Nat} {b : List Nat} : ∀ {T : abT}, leF M b T = true → cvr T M 0 b
  | [], h => by cases h
  | e :: r, h => by
    unfold leF at h
    rw [Bool.or_eq_true] at h
    rcases h with g | g
    · rw [Bool.and_eq_true] at g
      obtain ⟨g1, g2⟩ := beq2.mp g.1
      refine ⟨e.2.2, ?_, leB_e g.2⟩
      rw [g1, g2]
      exact List.mem_cons_self
    · obtain ⟨b', h1, h2⟩ := leF_e g
      exact ⟨b', List.mem_cons_of_mem _ h1, h2⟩
theorem leT_e {T : abT} : ∀ {U : abT}, leT T U = true → ∀ M g b, (M, g, b) ∈ U → g = 0 ∨ cvr T M 0 b
  | [], _, _, _, _, h => by cases h
  | e :: r, h, M, g, b, hm => by
    unfold leT at h
    rw [Bool.and_eq_true] at h
    rcases List.mem_cons.mp hm with q | q
    · have h1 := h.1
      rw [Bool.or_eq_true] at h1
      rw [← q] at h1
      rcases h1 with h2 | h2
      · exact Or.inl (Nat.eq_of_beq_eq_true h2)
      · exact Or.inr (leF_e h2)
    · exact leT_e h.2 M g b q
theorem all_g : ∀ {b : List Nat}, b.all (fun x => Nat.ble x 5400) = true → ∀ k, b.getD k 0 ≤ 5400
  | [], _, k => by
    rw [List.getD_nil]
    exact Nat.zero_le _
  | x :: r, h, k => by
    rw [List.all_cons, Bool.and_eq_true] at h
    cases k with
    | zero => exact Nat.le_of_ble_eq_true h.1
    | succ k => exact all_g h.2 k
/-- one pass -/
theorem pas {S T : abT} {hs s : Int → Int} (J0c : clo J0) (J0q : jQ J0 Q) (h : abC Q S T = true) (ok : okT S) (okt : okT T) (h01 : ∀ k, hs k = 0 ∨ hs k = 1) (hj0 : jr J0 hs s) (c : cov S 0 hs s) : gAlB 15 4 15 0 (hs, s, 0) ∧ ((gR0 15 4 hs s).2.2 = 0 ∨ cov T 0 (gR0 15 4 hs s).1 (gR0 15 4 hs s).2.1) ∧ gT (hs, s, 0) (gR0 15 4 hs s) 0 ∧ ∃ M b, rel M b (gR0 15 4 hs s).1 (gR0 15 4 hs s).2.1 ∧ ∀ k, b.getD k 0 ≤ 5400 := by
  unfold abC at h
  cases hU : abR Q S abL with
  | none =>
    rw [hU] at h
    cases h
  | some U =>
    rw [hU] at h
    rw [Bool.and_eq_true] at h
    have gk : gOk (hs, s, (0 : Int)) := ⟨Or.inl rfl, h01⟩
    rw [abL_e] at hU
    obtain ⟨a, b, ⟨M, x, hm, r⟩, j⟩ := gAl_h J0c J0q 10 0 S U (hs, s, 0) rfl ok gk hj0 c hU
    have bd : ∀ (U : abT), abM U = true → ∀ M g b, (M, g, b) ∈ U → ∀ k, b.getD k 0 ≤ 5400 := by
      intro U
      induction U with
      | nil =>
        intro _ M g b hm
        cases hm
      | cons e r ih =>
        intro hU M g b hm k
        unfold abM at hU
        rw [Bool.and_eq_true] at hU
        rcases List.mem_cons.mp hm with q | q
        · have h1 := all_g hU.1 k
          rw [← q] at h1
          exact h1
        · exact ih hU.2 M g b q k
    refine ⟨a, ?_, j, M, x, r, bd U h.2 M _ x hm⟩
    have gk2 : gOk (gR0 15 4 hs s) := gR0_ok h01
    rcases gk2.1 with g | g
    · exact Or.inl g
    · right
      have hm2 : (M, (gR0 15 4 hs s).2.2.toNat, x) ∈ U := hm
      rw [g] at hm2
      rcases leT_e (T := T) h.1 M _ x hm2 with q | q
      · cases q
      · exact cov_c okt q r
end
def okB (T : abT) : Bool := T.all (fun e => Nat.beq e.2.2.length 15)
theorem okB_e {T : abT} (h : okB T = true) : okT T := fun e he => Nat.eq_of_beq_eq_true (List.all_eq_true.mp h e he)
