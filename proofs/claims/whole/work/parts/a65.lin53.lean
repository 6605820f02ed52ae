/-! The class and the reference: leads, elements, standard monomials, the answer. -/
theorem pr_f : ∀ l d : Fin 10, dvb d.val l.val = true → d.val ≠ l.val → (0 ≤ oP (oX (l.val : Nat) - 1) (oY (l.val : Nat)) 3 ∧ oP (oX (l.val : Nat) - 1) (oY (l.val : Nat)) 3 < 10 ∧ dvb d.val (oP (oX (l.val : Nat) - 1) (oY (l.val : Nat)) 3).toNat = true) ∨ (0 ≤ oP (oX (l.val : Nat)) (oY (l.val : Nat) - 1) 3 ∧ oP (oX (l.val : Nat)) (oY (l.val : Nat) - 1) 3 < 10 ∧ dvb d.val (oP (oX (l.val : Nat)) (oY (l.val : Nat) - 1) 3).toNat = true) := by decide +kernel
theorem pr_b : ∀ l : Fin 10, (0 ≤ oP (oX (l.val : Nat) - 1) (oY (l.val : Nat)) 3 → (oP (oX (l.val : Nat) - 1) (oY (l.val : Nat)) 3).toNat < 10 ∧ (oP (oX (l.val : Nat) - 1) (oY (l.val : Nat)) 3).toNat ≠ l.val ∧ dvb (oP (oX (l.val : Nat) - 1) (oY (l.val : Nat)) 3).toNat l.val = true) ∧ (0 ≤ oP (oX (l.val : Nat)) (oY (l.val : Nat) - 1) 3 → (oP (oX (l.val : Nat)) (oY (l.val : Nat) - 1) 3).toNat < 10 ∧ (oP (oX (l.val : Nat)) (oY (l.val : Nat) - 1) 3).toNat ≠ l.val ∧ dvb (oP (oX (l.val : Nat)) (oY (l.val : Nat) - 1) 3).toNat l.val = true) := by decide +kernel
/-- leads alike up to degree 3 -/
def ll (L : Int → Int) (z : (Int → Int) × (Int → Int)) : Prop := ∀ l : Nat, l < 10 → (L l = 1 ↔ z.1 l = 1)
section
variable {hs0 s0 L : Int → Int} {z : (Int → Int) × (Int → Int)}
theorem elb_i (F : fin hs0 s0 z) (e : ll L z) {l : Nat} (hl : l < 10) : elb L l = true ↔ iL z.1 15 l := by
  have z01 := F.2.2.2.2
  have one : ∀ k : Nat, z.1 k ≠ 0 → z.1 k = 1 := fun k h => by rcases z01 k with g | g; exact absurd g h; exact g
  have dv : ∀ d : Nat, d < 15 → d ≠ l → z.1 d = 1 → mX (d : Int) ≤ mX (l : Int) → mY (d : Int) ≤ mY (l : Int) → d < 10 ∧ (ldb L (oP (oX (l : Nat) - 1) (oY (l : Nat)) 3) = true ∨ ldb L (oP (oX (l : Nat)) (oY (l : Nat) - 1) 3) = true) := fun d hd hn h1 h2 h3 => by
    have hdv := (dvb_e d l).mpr ⟨h2, h3⟩
    have hle : d ≤ l := dvb_o ⟨d, hd⟩ ⟨l, by omega⟩ hdv
    have d10 : d < 10 := by omega
    refine ⟨d10, ?_⟩
    rcases pr_f ⟨l, hl⟩ ⟨d, d10⟩ hdv hn with ⟨a, b, c⟩ | ⟨a, b, c⟩
    · left
      obtain ⟨q, hq⟩ : ∃ q : Nat, oP (oX (l : Nat) - 1) (oY (l : Nat)) 3 = q := ⟨(oP (oX (l : Nat) - 1) (oY (l : Nat)) 3).toNat, by have : 0 ≤ oP (oX (l : Nat) - 1) (oY (l : Nat)) 3 := a; omega⟩
      have b' : oP (oX (l : Nat) - 1) (oY (l : Nat)) 3 < 10 := b
      have c' : dvb d (oP (oX (l : Nat) - 1) (oY (l : Nat)) 3).toNat = true := c
      rw [hq] at b' c' ⊢
      have := lead_dv F (k := q) (by omega) 15 d (by omega) (by omega) (by rw [h1]; decide) c'
      exact (ldb_e L q).mpr ⟨by omega, b', (e q (by omega)).mpr (one q this)⟩
    · right
      obtain ⟨q, hq⟩ : ∃ q : Nat, oP (oX (l : Nat)) (oY (l : Nat) - 1) 3 = q := ⟨(oP (oX (l : Nat)) (oY (l : Nat) - 1) 3).toNat, by have : 0 ≤ oP (oX (l : Nat)) (oY (l : Nat) - 1) 3 := a; omega⟩
      have b' : oP (oX (l : Nat)) (oY (l : Nat) - 1) 3 < 10 := b
      have c' : dvb d (oP (oX (l : Nat)) (oY (l : Nat) - 1) 3).toNat = true := c
      rw [hq] at b' c' ⊢
      have := lead_dv F (k := q) (by omega) 15 d (by omega) (by omega) (by rw [h1]; decide) c'
      exact (ldb_e L q).mpr ⟨by omega, b', (e q (by omega)).mpr (one q this)⟩
  unfold elb
  simp only [Bool.and_eq_true, Bool.not_eq_true']
  constructor
  · rintro ⟨⟨h1, h2⟩, h3⟩
    refine ⟨(e l hl).mp ((ldb_e L l).mp h1).2.2, fun d d0 d1 dn dz hh => ?_⟩
    obtain ⟨q, rfl⟩ : ∃ q : Nat, d = q := ⟨d.toNat, by omega⟩
    rcases (dv q (by omega) (by omega) dz hh.1 hh.2).2 with g | g
    · rw [h2] at g; cases g
    · rw [h3] at g; cases g
  · rintro ⟨h1, h2⟩
    obtain ⟨pa, pb⟩ := pr_b ⟨l, hl⟩
    have no : ∀ x : Int, (0 ≤ x → x.toNat < 10 ∧ x.toNat ≠ l ∧ dvb x.toNat l = true) → ldb L x = false := fun x hx => by
      cases q : ldb L x
      · rfl
      · obtain ⟨q0, q1, q2⟩ := (ldb_e L x).mp q
        obtain ⟨a, b, c⟩ := hx q0
        obtain ⟨c1, c2⟩ := (dvb_e _ _).mp c
        have ex : ((x.toNat : Nat) : Int) = x := by omega
        have := (e x.toNat a).mp (by rw [ex]; exact q2)
        rw [ex] at this c1 c2
        exact absurd ⟨c1, c2⟩ (h2 x q0 (by omega) (by omega) this)
    exact ⟨⟨(ldb_e L l).mpr ⟨by omega, by omega, (e l hl).mpr h1⟩, no _ pa⟩, no _ pb⟩
theorem fE_st (hs : Int → Int) (n : Nat) (g : Int → Int) (i j : Nat) (h : j < (fE hs n g i).2) : ∀ m, (fE hs n g (i + m)).1 j = (fE hs n g i).1 j ∧ j < (fE hs n g (i + m)).2
  | 0 => ⟨rfl, h⟩
  | m + 1 => by
    obtain ⟨a, b⟩ := fE_st hs n g i j h m
    show (fE hs n g (i + m + 1)).1 j = _ ∧ j < (fE hs n g (i + m + 1)).2
    rcases Decidable.em (iLb hs n (i + m) = true) with c | c
    · have hE : fE hs n g (i + m + 1) = (uI (fE hs n g (i + m)).1 (fE hs n g (i + m)).2 (i + m : Nat), (fE hs n g (i + m)).2 + 1) := if_pos c
      rw [hE]
      refine ⟨?_, Nat.lt_succ_of_lt b⟩
      show uI _ _ _ (j : Int) = _
      rw [uI_n _ _ (by omega)]
      exact a
    · have hE : fE hs n g (i + m + 1) = fE hs n g (i + m) := if_neg c
      rw [hE]
      exact ⟨a, b⟩
theorem elc_e (F : fin hs0 s0 z) (e : ll L z) (g : Int → Int) : ∀ i, i ≤ 10 → elc L i = (fE z.1 15 g i).2
  | 0, _ => rfl
  | i + 1, hi => by
    have ih := elc_e F e g i (by omega)
    have q := elb_i F e (show i < 10 by omega)
    unfold elc fE
    rcases Decidable.em (elb L i = true) with h | h
    · rw [if_pos h, if_pos ((iLb_iff z.1 15 i).mpr (q.mp h)), ih]
    · rw [if_neg h, if_neg (fun h2 => h (q.mpr ((iLb_iff z.1 15 i).mp h2))), ih, Nat.add_zero]
theorem fE_10 {sy : Int → Int} {P : Nat} (F : fin hs0 s0 z) (hsys : ∀ J, lin J → (jr J hs0 s0 ↔ ∀ q : Nat, q < P → J (sv sy (6 * q)))) (g : Int → Int) : ∀ m, m ≤ 5 → fE z.1 15 g (10 + m) = fE z.1 15 g 10
  | 0, _ => rfl
  | m + 1, hm => by
    have ih := fE_10 F hsys g m (by omega)
    show fE z.1 15 g (10 + m + 1) = _
    unfold fE
    rw [if_neg (fun h => by have := el_10 F hsys (a := 10 + m) (by omega) ((iLb_iff z.1 15 (10 + m)).mp h); omega)]
    exact ih
/-- the class tells as many elements, and the same -/
theorem el_n2 {sy : Int → Int} {P : Nat} (F : fin hs0 s0 z) (hsys : ∀ J, lin J → (jr J hs0 s0 ↔ ∀ q : Nat, q < P → J (sv sy (6 * q)))) (e : ll L z) (g : Int → Int) : elc L 10 = (fE z.1 15 g 15).2 := by
  rw [elc_e F e g 10 (Nat.le_refl _)]
  exact congrArg Prod.snd (fE_10 F hsys g 5 (Nat.le_refl _)).symm
theorem tpF_m (k : Int) : ∀ (n i : Nat) (a : Int), k < a → tpF L k n i a = -1
  | 0, _, _, _ => rfl
  | n + 1, i, a, h => by
    unfold tpF
    split
    · rw [if_neg (by omega)]
      exact tpF_m k n (i + 1) (a + 1) (by omega)
    · exact tpF_m k n (i + 1) a h
theorem tpF_e (F : fin hs0 s0 z) (e : ll L z) (g : Int → Int) (k : Nat) : ∀ (n i : Nat), i + n = 10 → (fE z.1 15 g i).2 ≤ k → tpF L k n i ((fE z.1 15 g i).2 : Nat) = if k < (fE z.1 15 g 10).2 then (fE z.1 15 g 10).1 k else -1
  | 0, i, hi, h => by
    have : i = 10 := by omega
    subst this
    rw [if_neg (by omega)]
    rfl
  | n + 1, i, hi, h => by
    have q := elb_i F e (show i < 10 by omega)
    unfold tpF
    rcases Decidable.em (elb L i = true) with c | c
    · have hE : fE z.1 15 g (i + 1) = (uI (fE z.1 15 g i).1 (fE z.1 15 g i).2 i, (fE z.1 15 g i).2 + 1) := if_pos ((iLb_iff z.1 15 i).mpr (q.mp c))
      rw [if_pos c]
      rcases Decidable.em (((fE z.1 15 g i).2 : Int) = k) with d | d
      · rw [if_pos d]
        obtain ⟨a, b⟩ := fE_st z.1 15 g (i + 1) k (by rw [hE]; show k < (fE z.1 15 g i).2 + 1; omega) n
        rw [show i + 1 + n = 10 by omega] at a b
        rw [if_pos b, a, hE]
        show (i : Int) = uI _ _ _ (k : Int)
        rw [← d, uI_s]
      · rw [if_neg d]
        have ih := tpF_e F e g k n (i + 1) (by omega) (by rw [hE]; show (fE z.1 15 g i).2 + 1 ≤ k; omega)
        rw [hE] at ih
        rw [show (((fE z.1 15 g i).2 : Nat) : Int) + 1 = (((fE z.1 15 g i).2 + 1 : Nat) : Int) by omega]
        exact ih
    · rw [if_neg c]
      have hE : fE z.1 15 g (i + 1) = fE z.1 15 g i := if_neg (fun h2 => c (q.mpr ((iLb_iff z.1 15 i).mp h2)))
      have ih := tpF_e F e g k n (i + 1) (by omega) (by rw [hE]; exact h)
      rw [hE] at ih
      exact ih
theorem tp_n2 {sy : Int → Int} {P : Nat} (F : fin hs0 s0 z) (hsys : ∀ J, lin J → (jr J hs0 s0 ↔ ∀ q : Nat, q < P → J (sv sy (6 * q)))) (e : ll L z) (g : Int → Int) (k : Int) : tpF L k 10 0 0 = if 0 ≤ k ∧ k < (fE z.1 15 g 15).2 then (fE z.1 15 g 15).1 k else -1 := by
  rcases Int.lt_or_le k 0 with h | h
  · rw [if_neg (by omega)]
    exact tpF_m k 10 0 0 h
  · obtain ⟨q, rfl⟩ : ∃ q : Nat, k = q := ⟨k.toNat, by omega⟩
    have := tpF_e F e g q 10 0 rfl (Nat.zero_le _)
    have e5 : fE z.1 15 g 15 = fE z.1 15 g 10 := fE_10 F hsys g 5 (Nat.le_refl _)
    rw [e5]
    have h2 : tpF L q 10 0 0 = if q < (fE z.1 15 g 10).2 then (fE z.1 15 g 10).1 q else -1 := this
    rw [h2]
    rcases Nat.lt_or_ge q (fE z.1 15 g 10).2 with c | c
    · rw [if_pos c, if_pos ⟨by omega, by omega⟩]
    · rw [if_neg (by omega), if_neg (by omega)]
/-- the answer -/
theorem an_b {sy : Int → Int} {P : Nat} (F : fin hs0 s0 z) (hsys : ∀ J, lin J → (jr J hs0 s0 ↔ ∀ q : Nat, q < P → J (sv sy (6 * q)))) (g : Int → Int) : vB (fE z.1 15 g 15).1 (fE z.1 15 g 15).2 = true ↔ ∀ k : Nat, 6 ≤ k → k < 15 → z.1 k ≠ 0 := by
  have z01 := F.2.2.2.2
  constructor
  · intro h k k6 k15 hz
    obtain ⟨i, i0, i1⟩ := std_of (g := g) (g' := g) F k15 hz
    have := (std_h (g := g) (g' := g) F hsys (Or.inr h)).2 i i0
    omega
  · intro h
    have pw : ∀ k : Nat, 6 ≤ k → k < 15 → ∃ i : Nat, i < (fE z.1 15 g 15).2 ∧ mX ((fE z.1 15 g 15).1 i) ≤ mX (k : Int) ∧ mY ((fE z.1 15 g 15).1 i) ≤ mY (k : Int) ∧ 0 ≤ mX ((fE z.1 15 g 15).1 i) ∧ 0 ≤ mY ((fE z.1 15 g 15).1 i) := fun k k6 k15 => by
      obtain ⟨a, a0, a1, a2, a3⟩ := lst_b z01 (k + 1) k (by omega) k15 (h k k6 k15)
      obtain ⟨i, i0, i1⟩ := fE_m (g := g) 15 a a0 a1
      obtain ⟨m0, m1, -⟩ := mX_15 ⟨a, a0⟩
      exact ⟨i, i0, by rw [i1]; exact a2, by rw [i1]; exact a3, by rw [i1]; exact m0, by rw [i1]; exact m1⟩
    have m6 : mX ((6 : Nat) : Int) = 0 := by decide
    have m9 : mY ((9 : Nat) : Int) = 0 := by decide
    obtain ⟨i, i0, i1, i2, i3, i4⟩ := pw 6 (by decide) (by decide)
    obtain ⟨j, j0, j1, j2, j3, j4⟩ := pw 9 (by decide) (by decide)
    rw [m6] at i1
    rw [m9] at j2
    unfold vB
    rw [Bool.and_eq_true]
    exact ⟨List.any_eq_true.mpr ⟨j, List.mem_range.mpr j0, by simp; omega⟩, List.any_eq_true.mpr ⟨i, List.mem_range.mpr i0, by simp; omega⟩⟩
theorem an_e {sy : Int → Int} {P : Nat} (F : fin hs0 s0 z) (hsys : ∀ J, lin J → (jr J hs0 s0 ↔ ∀ q : Nat, q < P → J (sv sy (6 * q)))) (e : ll L z) (g : Int → Int) : slA L = if z.1 0 = 0 then (if vB (fE z.1 15 g 15).1 (fE z.1 15 g 15).2 then 1 else 2) else 0 := by
  have z01 := F.2.2.2.2
  have nz : ∀ k : Nat, k < 10 → (z.1 k ≠ 0 ↔ L k = 1) := fun k hk => by
    rw [e k hk]
    rcases z01 k with q | q
    · rw [q]; exact ⟨fun h => absurd rfl h, fun h => by cases h⟩
    · rw [q]; exact ⟨fun _ => rfl, fun _ => by decide⟩
  have e0 := nz 0 (by decide)
  have e0' : z.1 0 ≠ 0 ↔ L 0 = 1 := e0
  unfold slA
  rcases Decidable.em (z.1 0 = 0) with h | h
  · rw [if_neg (fun q => e0'.mpr q h), if_pos h]
    rcases Decidable.em (vB (fE z.1 15 g 15).1 (fE z.1 15 g 15).2 = true) with b | b
    · have all := (an_b F hsys g).mp b
      rw [if_pos b, if_pos ⟨(nz 6 (by decide)).mp (all 6 (by decide) (by decide)), (nz 7 (by decide)).mp (all 7 (by decide) (by decide)), (nz 8 (by decide)).mp (all 8 (by decide) (by decide)), (nz 9 (by decide)).mp (all 9 (by decide) (by decide))⟩]
    · rw [if_neg b, if_neg ?_]
      rintro ⟨h6, h7, h8, h9⟩
      refine b ((an_b F hsys g).mpr (fun k k6 k15 => ?_))
      have up : ∀ t : Fin 15, 6 ≤ t.val → (∃ d : Fin 10, 6 ≤ d.val ∧ dvb d.val t.val = true) := by decide +kernel
      obtain ⟨d, d6, hd⟩ := up ⟨k, k15⟩ k6
      have hd10 := d.isLt
      refine lead_dv F k15 15 d.val (by omega) (by omega) ((nz d.val d.isLt).mpr ?_) hd
      have : d.val = 6 ∨ d.val = 7 ∨ d.val = 8 ∨ d.val = 9 := by omega
      rcases this with q | q | q | q <;> rw [q] <;> assumption
  · rw [if_pos (e0'.mp h), if_neg h]
end
