/-! The algebra's numbers: products, the query's table, weights, forms. -/
def hQ (n : Nat) (X Y : mT) (D : Int) (f : Nat → Int) : mT := fun i j => dS (fun q => nQ n X Y D q i j * f q) 6
def wQ (n : Nat) (N : Nat → mT) (H : mT) : Nat → Nat → Int
  | 0 => fun k => dS (fun j => N k j j) n
  | e + 1 => fun j => dS (fun i => wQ n N H e i * H i j) n
def fQ (n : Nat) (N : Nat → mT) (H : mT) (e i j : Nat) : Int := dS (fun k => wQ n N H e k * N i k j) n
theorem msF_g {B : Nat → Int} {st : Int → Int} {n k i j : Nat} (n4 : n ≤ 4) (hi : i < n) (hj : j < n) : ∀ m, k < m → m ≤ 4 → msF B st n m (gb (3 + k) + (4 * i + j)) = cyF B n (st k).toNat j i
  | 0, h, _ => absurd h (Nat.not_lt_zero _)
  | m + 1, h, hm => by
    have gk : gb (3 + k) = 141 + 17 * (3 + k) := rfl
    have gm : gb (3 + m) = 141 + 17 * (3 + m) := rfl
    show msX (msF B st n m) B n (st m).toNat (3 + m) n 0 _ = _
    rcases Decidable.em (k = m) with q | q
    · subst q
      unfold msX
      rw [vU_n _ _ (by omega), vG8_i _ _ (by omega)]
      unfold msP
      rw [show (4 * i + j) / 4 = i by omega, show (4 * i + j) % 4 = j by omega, if_pos ⟨hi, Or.inl hj⟩]
    · rw [msX_o (by omega)]
      exact msF_g n4 hi hj m (by omega) (by omega)
section
variable {V : Nat → Int} {L st hs s : Int → Int} {n : Nat} {D : Int} {f : Nat → Int}
theorem bv3_e (h : lkV V L st hs s n) (n4 : n ≤ 4) (hD : scl V L st n = D) : (∀ k i j, k < n → i < n → j < n → bv3 V L st n (gb (3 + k) + (4 * i + j)) = nQ n (xT hs s st D 0) (xT hs s st D 1) D (st k).toNat i j) ∧ (∀ of : Nat, of < 2 → ∀ i j, i < n → j < n → bv3 V L st n (gb of + (4 * i + j)) = xT hs s st D of i j) ∧ bv3 V L st n 328 = D ∧ bv3 V L st n 329 = D * D ∧ ∀ of : Nat, of < 2 → bv3 V L st n (gb of + 16) = D := by
  obtain ⟨a, b, c, d⟩ := bv2_e h n4 hD
  have o : ∀ t, (t < gb 3 ∨ gb 7 ≤ t) → bv3 V L st n t = bv2 V L st n t := fun t ht => msF_o ht n n4
  have e3 : gb 3 = 192 := rfl
  have e7 : gb 7 = 260 := rfl
  refine ⟨fun k i j hk hi hj => ?_, fun of ho i j hi hj => ?_, ?_, ?_, fun of ho => ?_⟩
  · have := h.1 k hk
    show msF (bv2 V L st n) st n n _ = _
    rw [msF_g n4 hi hj n hk n4]
    exact cy_n (fun i k hi hk => a 0 (by decide) i k hi hk) (fun i k hi hk => a 1 (by decide) i k hi hk) b c (by omega) hi hj
  · rw [o _ (by unfold gb; omega)]
    exact a of ho i j hi hj
  · rw [o _ (by omega)]; exact b
  · rw [o _ (by omega)]; exact c
  · rw [o _ (by unfold gb; omega)]
    exact d of ho
theorem bv4_e (h : lkV V L st hs s n) (n4 : n ≤ 4) (hD : scl V L st n = D) : (∀ k i j, k < n → i < n → j < n → bv4 V L st f n (gb (3 + k) + (4 * i + j)) = nQ n (xT hs s st D 0) (xT hs s st D 1) D (st k).toNat i j) ∧ (∀ of : Nat, of < 2 → ∀ i j, i < n → j < n → bv4 V L st f n (gb of + (4 * i + j)) = xT hs s st D of i j) ∧ (∀ i j, i < n → j < n → bv4 V L st f n (gb 2 + (4 * i + j)) = hQ n (xT hs s st D 0) (xT hs s st D 1) D f i j) ∧ bv4 V L st f n 329 = D * D ∧ (∀ of : Nat, of < 2 → bv4 V L st f n (gb of + 16) = D) ∧ bv4 V L st f n (gb 2 + 16) = D * D := by
  obtain ⟨a, b, c, d, d2⟩ := bv3_e h n4 hD
  have e2 : gb 2 = 175 := rfl
  refine ⟨fun k i j hk hi hj => ?_, fun of ho i j hi hj => ?_, fun i j hi hj => ?_, ?_, fun of ho => ?_, ?_⟩
  · show mqX (bv3 V L st n) f n 6 0 0 _ = _
    rw [mqX_o (by unfold gb; omega)]
    exact a k i j hk hi hj
  · show mqX (bv3 V L st n) f n 6 0 0 _ = _
    rw [mqX_o (by unfold gb; omega)]
    exact b of ho i j hi hj
  · show mqX (bv3 V L st n) f n 6 0 0 _ = _
    unfold mqX
    rw [vU_n _ _ (by omega), vG8_i _ _ (by omega)]
    unfold mqP
    rw [show (4 * i + j) / 4 = i by omega, show (4 * i + j) % 4 = j by omega, if_pos ⟨hi, hj⟩, if_neg (by omega)]
    unfold qSf hQ
    exact dS_c (fun q hq => congrArg (fun x => x * f q) (cy_n (X := xT hs s st D 0) (Y := xT hs s st D 1) (fun i k hi hk => b 0 (by decide) i k hi hk) (fun i k hi hk => b 1 (by decide) i k hi hk) c d hq hi hj))
  · show mqX (bv3 V L st n) f n 6 0 0 329 = _
    rw [mqX_o (by omega)]
    exact d
  · show mqX (bv3 V L st n) f n 6 0 0 _ = _
    rw [mqX_o (by unfold gb; omega)]
    exact d2 of ho
  · show mqX (bv3 V L st n) f n 6 0 0 (gb 2 + 16) = _
    unfold mqX
    rw [vU_s]
    exact d
theorem wg_o {V : Nat → Int} {n t : Nat} (ht : t < 121 ∨ 133 ≤ t) : wgV V n t = V t := by
  obtain ⟨e11, e12, e13, -⟩ := rb_w
  unfold wgV
  rw [vG8_o _ _ (by omega), vG8_o _ _ (by omega), vG8_o _ _ (by omega)]
theorem wg_e {V : Nat → Int} {n : Nat} (n4 : n ≤ 4) {N : Nat → mT} {H : mT} (hN : ∀ k j, k < n → j < n → V (gb (3 + k) + (4 * j + j)) = N k j j) (hH : ∀ i j, i < n → j < n → V (gb 2 + (4 * i + j)) = H i j) {e k : Nat} (he : e < 3) (hk : k < n) : wgV V n (rb (11 + e) + k) = wQ n N H e k := by
  obtain ⟨e11, e12, e13, -⟩ := rb_w
  have w0 : ∀ k, k < n → w0F V n k = wQ n N H 0 k := fun k hk => by
    unfold w0F
    rw [if_pos hk]
    exact dS_c (fun j hj => hN k j hk hj)
  have w1 : ∀ (v : Nat → Int) (e : Nat), (∀ k, k < n → v k = wQ n N H e k) → ∀ k, k < n → w1F V n v k = wQ n N H (e + 1) k := fun v e hv k hk => by
    unfold w1F
    rw [if_pos hk]
    exact dS_c (fun i hi => by rw [hv i hi, hH i k hi hk])
  have he' : e = 0 ∨ e = 1 ∨ e = 2 := by omega
  unfold wgV
  rcases he' with rfl | rfl | rfl
  · show vG8 _ (rb 13) 4 _ (rb 11 + k) = _
    rw [vG8_o _ _ (by omega), vG8_o _ _ (by omega), vG8_i _ _ (by omega)]
    exact w0 k hk
  · show vG8 _ (rb 13) 4 _ (rb 12 + k) = _
    rw [vG8_o _ _ (by omega), vG8_i _ _ (by omega)]
    exact w1 _ 0 w0 k hk
  · show vG8 _ (rb 13) 4 _ (rb 13 + k) = _
    rw [vG8_i _ _ (by omega)]
    exact w1 _ 1 (w1 _ 0 w0) k hk
theorem ft_o {V : Nat → Int} {e n t : Nat} (ht : t < gb (7 + e) ∨ gb (7 + e) + 17 ≤ t) : ftX V e n t = V t := by
  unfold ftX
  rw [vU_n _ _ (by omega), vG8_o _ _ (by omega)]
/-- all but the forms stays -/
theorem bv6_o {t : Nat} (ht : t < 260 ∨ 311 ≤ t) : ∀ m, m ≤ 3 → bv6 V L st f n m t = bv6 V L st f n 0 t
  | 0, _ => rfl
  | m + 1, hm => by
    show ftX (bv6 V L st f n m) m n t = _
    rw [ft_o (by unfold gb; omega)]
    exact bv6_o ht m (by omega)
theorem bv6_e (h : lkV V L st hs s n) (n4 : n ≤ 4) (hD : scl V L st n = D) {N : Nat → mT} {H : mT} (eN : N = fun k : Nat => nQ n (xT hs s st D 0) (xT hs s st D 1) D (st k).toNat) (eH : H = hQ n (xT hs s st D 0) (xT hs s st D 1) D f) : ∀ m, m ≤ 3 → (∀ k i j, k < n → i < n → j < n → bv6 V L st f n m (gb (3 + k) + (4 * i + j)) = N k i j) ∧ (∀ of : Nat, of < 2 → ∀ i j, i < n → j < n → bv6 V L st f n m (gb of + (4 * i + j)) = xT hs s st D of i j) ∧ (∀ i j, i < n → j < n → bv6 V L st f n m (gb 2 + (4 * i + j)) = H i j) ∧ bv6 V L st f n m 329 = D * D ∧ (∀ of : Nat, of < 2 → bv6 V L st f n m (gb of + 16) = D) ∧ bv6 V L st f n m (gb 2 + 16) = D * D ∧ ∀ e k, e < 3 → k < n → bv6 V L st f n m (rb (11 + e) + k) = wQ n N H e k := by
  obtain ⟨a, b, c, d, d2, d3⟩ := bv4_e (f := f) h n4 hD
  intro m hm
  have o : ∀ t, (133 ≤ t ∧ t < 260) ∨ 311 ≤ t → bv6 V L st f n m t = bv4 V L st f n t := fun t ht => by
    rw [bv6_o (by omega) m hm]
    show wgV (bv4 V L st f n) n t = _
    exact wg_o (by omega)
  have e11 : ∀ e, e < 3 → rb (11 + e) = 121 + 4 * e := fun e he => by
    have he' : e = 0 ∨ e = 1 ∨ e = 2 := by omega
    rcases he' with rfl | rfl | rfl <;> rfl
  refine ⟨fun k i j hk hi hj => ?_, fun of ho i j hi hj => ?_, fun i j hi hj => ?_, ?_, fun of ho => ?_, ?_, fun e k he hk => ?_⟩
  · rw [o _ (by unfold gb; omega), a k i j hk hi hj, eN]
  · rw [o _ (by unfold gb; omega)]
    exact b of ho i j hi hj
  · rw [o _ (by unfold gb; omega), eH]
    exact c i j hi hj
  · rw [o _ (by omega)]; exact d
  · rw [o _ (by unfold gb; omega)]
    exact d2 of ho
  · rw [o _ (by unfold gb; omega)]
    exact d3
  · have := e11 e he
    rw [bv6_o (by omega) m hm]
    show wgV (bv4 V L st f n) n _ = _
    exact wg_e n4 (fun k j hk hj => by rw [a k j j hk hj hj, eN]) (fun i j hi hj => by rw [c i j hi hj, eH]) he hk
theorem bv6_f (h : lkV V L st hs s n) (n4 : n ≤ 4) (hD : scl V L st n = D) {N : Nat → mT} {H : mT} (eN : N = fun k : Nat => nQ n (xT hs s st D 0) (xT hs s st D 1) D (st k).toNat) (eH : H = hQ n (xT hs s st D 0) (xT hs s st D 1) D f) {e : Nat} (he : e < 3) : ∀ m, e < m → m ≤ 3 → (∀ i j, i < n → j < n → bv6 V L st f n m (gb (7 + e) + (4 * i + j)) = if i ≤ j then fQ n N H e i j else fQ n N H e j i) ∧ (∀ c, c < 16 → ¬ (c / 4 < n ∧ c % 4 < n) → bv6 V L st f n m (gb (7 + e) + c) = 0) ∧ bv6 V L st f n m (gb (7 + e) + 16) = (D * D) ^ (e + 2)
  | 0, hm, _ => absurd hm (Nat.not_lt_zero _)
  | m + 1, hm, hm3 => by
    have ge : gb (7 + e) = 141 + 17 * (7 + e) := rfl
    have gm : gb (7 + m) = 141 + 17 * (7 + m) := rfl
    obtain ⟨a, -, -, d, -, -, w⟩ := bv6_e h n4 hD eN eH m (by omega)
    rcases Decidable.em (e = m) with q | q
    · subst q
      have gG : ∀ i j, i < n → j < n → ftG (bv6 V L st f n e) e n i j n = fQ n N H e i j := fun i j hi hj => dS_c (fun k hk => by rw [w e k he hk, a i k j hi hk hj])
      refine ⟨fun i j hi hj => ?_, fun c hc hn => ?_, ?_⟩
      · show ftX (bv6 V L st f n e) e n _ = _
        unfold ftX
        rw [vU_n _ _ (by omega), vG8_i _ _ (by omega), show (4 * i + j) / 4 = i by omega, show (4 * i + j) % 4 = j by omega, if_pos ⟨hi, hj⟩]
        unfold ftF
        rw [gG i j hi hj, gG j i hj hi]
      · show ftX (bv6 V L st f n e) e n _ = _
        unfold ftX
        rw [vU_n _ _ (by omega), vG8_i _ _ hc, if_neg hn]
      · show ftX (bv6 V L st f n e) e n _ = _
        unfold ftX
        rw [vU_s, d]
    · obtain ⟨x, y, z⟩ := bv6_f h n4 hD eN eH he m (by omega) (by omega)
      refine ⟨fun i j hi hj => ?_, fun c hc hn => ?_, ?_⟩
      · show ftX (bv6 V L st f n m) m n _ = _
        rw [ft_o (by omega)]
        exact x i j hi hj
      · show ftX (bv6 V L st f n m) m n _ = _
        rw [ft_o (by omega)]
        exact y c hc hn
      · show ftX (bv6 V L st f n m) m n _ = _
        rw [ft_o (by omega)]
        exact z
end
