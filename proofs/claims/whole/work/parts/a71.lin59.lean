/-! The class's forms and the reference's. -/
theorem mM_qd {n : Nat} {A B C : mT} (h : mQ n B C) : tQ n (mM n A B) = tQ n (mM n A C) := tQ_q (mM_q (mQ_rf n A) h)
section
variable {n : Nat} {X Y : mT} {D : Int} {f : Nat → Int} {N : Nat → mT} {q : Nat → Nat}
theorem fQ_t (hD : D ≠ 0) (n0 : 0 < n) (c : cm n X Y) (eN : ∀ k, N k = nQ n X Y D (q k)) (h0 : ∀ k, k < n → ∀ i, i < n → N k i 0 = if i = k then D * D else 0) {H : mT} (eH : H = hQ n X Y D f) : ∀ e, (∀ k, k < n → wQ n N H e k = tQ n (mM n (uPw n H e) (N k))) ∧ ∀ i j, i < n → j < n → fQ n N H e i j = tQ n (mM n (mM n (uPw n H e) (N i)) (N j)) := by
  have XN : ∀ k, cm n X (N k) := fun k => by rw [eN]; exact cm_n (cm_r X) c _
  have YN : ∀ k, cm n Y (N k) := fun k => by rw [eN]; exact cm_n (cm_s c) (cm_r Y) _
  have AN : ∀ A, cm n A X → cm n A Y → ∀ k, cm n A (N k) := fun A h1 h2 k => by rw [eN]; exact cm_n h1 h2 _
  have NN : ∀ k l, cm n (N k) (N l) := fun k l => AN (N k) (cm_s (XN k)) (cm_s (YN k)) l
  have HX : cm n X H := by rw [eH]; exact cm_h (cm_r X) c
  have HY : cm n Y H := by rw [eH]; exact cm_h (cm_s c) (cm_r Y)
  have HN : ∀ k, cm n H (N k) := AN H (cm_s HX) (cm_s HY)
  have UH : ∀ e, cm n H (uPw n H e) := fun e => by
    induction e with
    | zero => exact cm_I H
    | succ e ih => exact cm_m (cm_r H) ih
  have E0 : D * D ≠ 0 := mul_n hD hD
  have kH : ∀ j, j < n → mQ n (mM n H (N j)) (fun i l => dS (fun k => H k j * N k i l) n) := fun j hj => ky E0 n0 h0 (fun k l _ _ => NN k l) (fun k _ => HN k) hj
  have kN : ∀ i j, j < n → mQ n (mM n (N i) (N j)) (fun a l => dS (fun k => N i k j * N k a l) n) := fun i j hj => ky E0 n0 h0 (fun k l _ _ => NN k l) (fun k _ => NN i k) hj
  have w : ∀ e, ∀ k, k < n → wQ n N H e k = tQ n (mM n (uPw n H e) (N k)) := fun e => by
    induction e with
    | zero => exact fun k hk => tQ_q (fun i j hi hj => (mM_I (N k) hi hj).2.symm)
    | succ e ih =>
      intro j hj
      show dS (fun i => wQ n N H e i * H i j) n = tQ n (mM n (mM n H (uPw n H e)) (N j))
      have e1 : dS (fun i => wQ n N H e i * H i j) n = dS (fun i => H i j * tQ n (mM n (uPw n H e) (N i))) n := dS_c (fun i hi => by rw [ih i hi, Int.mul_comm])
      have e2 : tQ n (mM n (mM n H (uPw n H e)) (N j)) = tQ n (mM n (uPw n H e) (mM n H (N j))) := tQ_q (fun a b ha hb => by
        rw [mM_q (UH e) (mQ_rf n (N j)) a b ha hb, mM_as])
      rw [e1, e2, mM_qd (kH j hj)]
      exact (tQ_S (uPw n H e) (fun i => H i j)).symm
  intro e
  refine ⟨w e, fun i j hi hj => ?_⟩
  have e1 : fQ n N H e i j = dS (fun k => N i k j * tQ n (mM n (uPw n H e) (N k))) n := dS_c (fun k hk => by rw [w e k hk, Int.mul_comm])
  have e2 : tQ n (mM n (mM n (uPw n H e) (N i)) (N j)) = tQ n (mM n (uPw n H e) (mM n (N i) (N j))) := tQ_q (fun a b _ _ => mM_as _ _ _ a b)
  rw [e1, e2, mM_qd (kN i j hj)]
  exact (tQ_S (uPw n H e) (fun k => N i k j)).symm
/-- the class's forms, by the reference's -/
theorem fQ_f (hD : D ≠ 0) (n0 : 0 < n) (c : cm n X Y) (eN : ∀ k, N k = nQ n X Y D (q k)) (h0 : ∀ k, k < n → ∀ i, i < n → N k i 0 = if i = k then D * D else 0) {H : mT} (eH : H = hQ n X Y D f) {M : Nat → mT} (eM : ∀ k, M k = pQ n X Y (mX (q k)).toNat (mD (q k)).toNat) (e : Nat) {i j : Nat} (hi : i < n) (hj : j < n) : fQ n N H e i j = D ^ (2 - (mD (q i)).toNat) * (D ^ (2 - (mD (q j)).toNat) * fT n (uPw n H e) M i j) ∧ fQ n N H e j i = fQ n N H e i j := by
  have t := (fQ_t (f := f) hD n0 c eN h0 eH e).2
  have NM : ∀ k a b, N k a b = D ^ (2 - (mD (q k)).toNat) * M k a b := fun k a b => by rw [eN, eM]; rfl
  constructor
  · rw [t i j hi hj]
    have e1 : mQ n (mM n (mM n (uPw n H e) (N i)) (N j)) (fun a b => D ^ (2 - (mD (q i)).toNat) * (D ^ (2 - (mD (q j)).toNat) * mM n (mM n (uPw n H e) (M i)) (M j) a b)) := fun a b _ _ => by
      have n1 : N i = fun a b => D ^ (2 - (mD (q i)).toNat) * M i a b := funext (fun a => funext (fun b => NM i a b))
      have n2 : N j = fun a b => D ^ (2 - (mD (q j)).toNat) * M j a b := funext (fun a => funext (fun b => NM j a b))
      rw [n2, mM_cr, n1]
      have : mM n (uPw n H e) (fun a b => D ^ (2 - (mD (q i)).toNat) * M i a b) = fun a b => D ^ (2 - (mD (q i)).toNat) * mM n (uPw n H e) (M i) a b := funext (fun a => funext (fun b => mM_cr _ _ _ a b))
      rw [this, mM_cl]
      grind
    rw [tQ_q e1]
    show dS (fun k => D ^ (2 - (mD (q i)).toNat) * (D ^ (2 - (mD (q j)).toNat) * mM n (mM n (uPw n H e) (M i)) (M j) k k)) n = _
    rw [dS_sc, dS_sc]
    rfl
  · rw [t i j hi hj, t j i hj hi]
    have XN : ∀ k, cm n X (N k) := fun k => by rw [eN]; exact cm_n (cm_r X) c _
    have YN : ∀ k, cm n Y (N k) := fun k => by rw [eN]; exact cm_n (cm_s c) (cm_r Y) _
    have NN : cm n (N j) (N i) := by
      rw [eN i]
      exact cm_n (cm_s (XN j)) (cm_s (YN j)) _
    refine tQ_q (fun a b ha hb => ?_)
    rw [mM_as, mM_as]
    exact mM_q (mQ_rf n _) NN a b ha hb
end
theorem hQ_e {n : Nat} {X Y : mT} {D : Int} {f : Nat → Int} {g : Int → Int} (i j : Nat) : ∀ m, (∀ k : Nat, k < m → f k = g k) → dS (fun q => nQ n X Y D q i j * f q) m = hT n X Y D g m i j
  | 0, _ => rfl
  | m + 1, h => by
    show dS (fun q => nQ n X Y D q i j * f q) m + nQ n X Y D m i j * f m = hT n X Y D g m i j + (if g m = 0 then 0 else pQ n X Y (mX m).toNat (mD m).toNat i j * (g m * D ^ (2 - (mD m).toNat)))
    rw [hQ_e i j m (fun k hk => h k (by omega)), h m (by omega)]
    unfold nQ
    split
    · rename_i e
      rw [e]
      omega
    · grind
