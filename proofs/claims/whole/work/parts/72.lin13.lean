/-! All passes; the system's rows. -/
/-- what stands when nothing grows any more -/
def fin (hs0 s0 : Int → Int) (z : (Int → Int) × (Int → Int)) : Prop :=
  (∃ M b, rel M b z.1 z.2 ∧ ∀ k, b.getD k 0 ≤ 5400) ∧ (∀ J, clo J → jr J hs0 s0 → jr J z.1 z.2) ∧ (∀ J, lin J → jr J z.1 z.2 → jr J hs0 s0) ∧ (∀ k : Nat, k < 10 → z.1 k ≠ 0 → ∀ J, lin J → jr J z.1 z.2 → ∀ w, (w = 0 ∨ w = 1) → J (xs w (rv z.2 k))) ∧ ∀ k, z.1 k = 0 ∨ z.1 k = 1
section
variable {J0 : lV → Prop} {Q : Nat}
theorem pass_s {S T : abT} (J0c : clo J0) (J0q : jQ J0 Q) (m : Nat) (h : abC Q S T = true) (ok : okT S) (okt : okT T) (ih : ∀ hs s : Int → Int, (∀ k, hs k = 0 ∨ hs k = 1) → jr J0 hs s → cov T 0 hs s → gWB 15 4 m (hs, s) ∧ fin hs s (gWr 15 4 m (hs, s))) : ∀ hs s : Int → Int, (∀ k, hs k = 0 ∨ hs k = 1) → jr J0 hs s → cov S 0 hs s → gWB 15 4 (m + 1) (hs, s) ∧ fin hs s (gWr 15 4 (m + 1) (hs, s)) := by
  intro hs s h01 hj c
  obtain ⟨a, b, ⟨g1, g2, g3⟩, mb⟩ := pas J0c J0q h ok okt h01 hj c
  have gk : gOk (gR0 15 4 hs s) := gR0_ok h01
  rcases Decidable.em ((gR0 15 4 hs s).2.2 = 0) with f | f
  · have e : gWr 15 4 (m + 1) (hs, s) = ((gR0 15 4 hs s).1, (gR0 15 4 hs s).2.1) := if_pos f
    rw [e]
    obtain ⟨f1, f2, f3, f4⟩ := g3 f
    refine ⟨⟨a, Or.inl f⟩, mb, g1, g2, fun k hk hk2 J hJ hj2 w hw => ?_, gk.2⟩
    have f2' : (gR0 15 4 hs s).1 = hs := f2
    have jj : jr J hs s := fun q q0 q1 => by
      have := hj2 q q0 (by show (gR0 15 4 hs s).1 q ≠ 0; rw [f2']; exact q1)
      have e2 : rv (gR0 15 4 hs s).2.1 q = rv s q := f3 q q0
      rw [← e2]
      exact this
    have e3 : rv (gR0 15 4 hs s).2.1 k = rv s k := f3 k (by omega)
    show J (xs w (rv (gR0 15 4 hs s).2.1 k))
    rw [e3]
    exact f4 k (Nat.zero_le k) hk (by show hs k ≠ 0; rw [← f2']; exact hk2) J hJ jj w hw
  · have e : gWr 15 4 (m + 1) (hs, s) = gWr 15 4 m ((gR0 15 4 hs s).1, (gR0 15 4 hs s).2.1) := if_neg f
    rw [e]
    have c2 : cov T 0 (gR0 15 4 hs s).1 (gR0 15 4 hs s).2.1 := by
      rcases b with q | q
      · exact absurd q f
      · exact q
    obtain ⟨i0, i1, i2, i3, i4, i5⟩ := ih _ _ gk.2 (g1 J0 J0c hj) c2
    exact ⟨⟨a, Or.inr i0⟩, i1, fun J hJ hj => i2 J hJ (g1 J hJ hj), fun J hJ hj => g2 J hJ (i3 J hJ hj), i4, i5⟩
end
theorem clo_t : clo (fun _ => True) := ⟨⟨fun _ _ _ _ _ _ => trivial, fun _ _ _ _ => trivial, trivial⟩, fun _ _ _ _ _ => trivial⟩
theorem bit_all : ∀ t : Fin 15, (32767 : Nat).testBit t.val = true := by decide +kernel
theorem jQ_t : jQ (fun _ => True) 32767 := fun _ t _ ht _ _ => bit_all ⟨t, ht⟩
theorem pass_0 {P : (Int → Int) → (Int → Int) → Prop} {hs s : Int → Int} (c : cov [] 0 hs s) : P hs s := by
  obtain ⟨M, b, hm, -⟩ := c
  cases hm
/-- two leads at the least -/
theorem pass_2 {hs s : Int → Int} (h01 : ∀ k, hs k = 0 ∨ hs k = 1) (c : cov abT0 0 hs s) : gWB 15 4 8 (hs, s) ∧ fin hs s (gWr 15 4 8 (hs, s)) := by
  have o0 : okT abT0 := okB_e (by decide +kernel)
  have o1 : okT abT1 := okB_e (by decide +kernel)
  have o2 : okT abT2 := okB_e (by decide +kernel)
  have o3 : okT abT3 := okB_e (by decide +kernel)
  have o4 : okT abT4 := okB_e (by decide +kernel)
  have o5 : okT abT5 := okB_e (by decide +kernel)
  have o6 : okT abT6 := okB_e (by decide +kernel)
  have o7 : okT abT7 := okB_e (by decide +kernel)
  have o8 : okT abT8 := okB_e (by decide +kernel)
  have st := fun {S T : abT} (m : Nat) h ok okt ih => pass_s (J0 := fun _ => True) (Q := 32767) (S := S) (T := T) clo_t jQ_t m h ok okt ih
  exact st 7 abT_1 o0 o1 (st 6 abT_2 o1 o2 (st 5 abT_3 o2 o3 (st 4 abT_4 o3 o4 (st 3 abT_5 o4 o5 (st 2 abT_6 o5 o6 (st 1 abT_7 o6 o7 (st 0 abT_8 o7 o8 (fun hs s _ _ c => pass_0 (P := fun hs s => gWB 15 4 0 (hs, s) ∧ fin hs s (gWr 15 4 0 (hs, s))) c)))))))) hs s h01 (fun _ _ _ => trivial) c
/-- no lead -/
theorem pass_n {hs s : Int → Int} (h01 : ∀ k, hs k = 0 ∨ hs k = 1) (h0 : ∀ l : Nat, l < 15 → hs l = 0) : gWB 15 4 1 (hs, s) ∧ fin hs s (gWr 15 4 1 (hs, s)) := by
  have sk : ∀ (d l : Nat), l + d = 15 → gAl 15 4 d l (hs, s, 0) = (hs, s, 0) ∧ gAlB 15 4 d l (hs, s, 0) := by
    intro d
    induction d with
    | zero => exact fun l _ => ⟨rfl, trivial⟩
    | succ d ih =>
      intro l hl
      obtain ⟨a, b⟩ := ih (l + 1) (by omega)
      have e : gLs 15 4 l (hs, s, 0) = (hs, s, 0) := by unfold gLs; exact if_pos (Or.inl (h0 l (by omega)))
      refine ⟨?_, Or.inl (h0 l (by omega)), ?_⟩
      · show gAl 15 4 d (l + 1) (gLs 15 4 l (hs, s, 0)) = _
        rw [e]
        exact a
      · show gAlB 15 4 d (l + 1) (gLs 15 4 l (hs, s, 0))
        rw [e]
        exact b
  obtain ⟨a, b⟩ := sk 15 0 rfl
  have e : gR0 15 4 hs s = (hs, s, 0) := a
  have e2 : gWr 15 4 1 (hs, s) = (hs, s) := by
    show (if (gR0 15 4 hs s).2.2 = 0 then ((gR0 15 4 hs s).1, (gR0 15 4 hs s).2.1) else _) = _
    rw [e]
    exact if_pos rfl
  rw [e2]
  refine ⟨⟨b, Or.inl (by rw [e])⟩, ⟨0, [0, 0, 0, 0, 0, 0, 0, 0, 0, 0, 0, 0, 0, 0, 0], ⟨rfl, fun l hl => ?_, fun l hl hl2 => absurd (h0 l hl) hl2, fun p _ => ⟨[], [], ⟨by decide, List.nodup_nil, fun j hj => (by cases hj), fun l _ hl hl2 => absurd (h0 l hl) hl2⟩, ?_⟩⟩, fun k => ?_⟩, fun _ _ h => h, fun _ _ h => h, fun k hk hk2 => absurd (h0 k (by omega)) hk2, h01⟩
  · show hs l ≠ 0 ↔ _
    rw [h0 l hl, Nat.zero_testBit]
    exact ⟨fun g => absurd rfl g, fun g => by cases g⟩
  · show (1 : Int) ≤ _
    have : (0 : Int) < 2 ^ ([0, 0, 0, 0, 0, 0, 0, 0, 0, 0, 0, 0, 0, 0, 0] : List Nat).getD p 0 := Int.pow_pos (by decide)
    omega
  · rcases Nat.lt_or_ge k 15 with g | g
    · have : ∀ k : Fin 15, ([0, 0, 0, 0, 0, 0, 0, 0, 0, 0, 0, 0, 0, 0, 0] : List Nat).getD k.val 0 ≤ 5400 := by decide
      exact this ⟨k, g⟩
    · have : ([0, 0, 0, 0, 0, 0, 0, 0, 0, 0, 0, 0, 0, 0, 0] : List Nat).getD k 0 = 0 := by
        obtain ⟨d, rfl⟩ : ∃ d, k = d + 15 := ⟨k - 15, by omega⟩
        rfl
      omega
-- the system
def sv (f : Int → Int) (o : Int) : lV := fun j => if j < 6 then f (o + j) else 0
theorem lW_v {s f : Int → Int} {o : Int} : wv (lW s f o 6) = sv f o := by
  have go : ∀ n : Nat, n ≤ 6 → ∀ j : Nat, j < 15 → lW s f o n (2025 + j) = if j < n then f (o + j) else 0 := by
    intro n
    induction n with
    | zero =>
      intro _ j hj
      show cw s 45 (2025 + j) = _
      unfold cw
      rw [if_pos (by omega), if_neg (by omega)]
    | succ n ih =>
      intro hn j hj
      show uI (lW s f o n) (2025 + n) (f (o + n)) (2025 + j) = _
      rcases Decidable.em (j = n) with e | e
      · rw [e, uI_s, if_pos (by omega)]
      · rw [uI_n _ _ (by omega), ih (by omega) j hj]
        rcases Nat.lt_or_ge j n with g | g
        · rw [if_pos g, if_pos (by omega)]
        · rw [if_neg (by omega), if_neg (by omega)]
  funext j
  rcases Nat.lt_or_ge j 15 with g | g
  · rw [wv_in g, go 6 (Nat.le_refl 6) j g]
    rfl
  · rw [wv_o _ g]
    unfold sv
    rw [if_neg (by omega)]
theorem abQ_h {p : Nat} : ∀ {S T : abT}, okT S → okT T → okT (abQ p S T) ∧ (∀ M' g' b', cvr T M' g' b' → cvr (abQ p S T) M' g' b') ∧ ∀ M g b, (M, g, b) ∈ S → (M.testBit p = true → ∀ t, t < p → M.testBit t = false → (32767 : Nat).testBit t = true → cvr (abQ p S T) (abI M b p 5 t).1 1 (abI M b p 5 t).2) ∧ (M.testBit p = false → cvr (abQ p S T) (abI M b p 5 p).1 1 (abI M b p 5 p).2)
  | [], T, _, h => ⟨h, fun _ _ _ q => q, fun M g b q => by cases q⟩
  | e :: r, T, h1, h2 => by
    have h3 : okT r := fun e he => h1 e (List.mem_cons_of_mem _ he)
    have hb := h1 e List.mem_cons_self
    obtain ⟨n0, n1, n2, n3⟩ := abN_h (Q := 32767) (T := T) (M := e.1) (g := 0) (p := p) (w := 5) h2 hb
    obtain ⟨a, b1, c⟩ := abQ_h (p := p) h3 n0
    unfold abQ
    refine ⟨a, fun M' g' b' q => b1 _ _ _ (n1 _ _ _ q), fun M g b hm => ?_⟩
    rcases List.mem_cons.mp hm with q | q
    · rw [← q] at n2 n3 b1 ⊢
      exact ⟨fun q2 t ht hM hQ => b1 _ _ _ ((n2 q2).2 t ht hM hQ), fun q2 => b1 _ _ _ (n3 q2)⟩
    · exact c M g b q
theorem abE_h : ∀ {U T : abT}, okT U → okT T → okT (abE T U) ∧ (∀ M b, cvr T M 0 b → cvr (abE T U) M 0 b) ∧ ∀ M g b, (M, g, b) ∈ U → cvr (abE T U) M 0 b
  | [], T, _, h => ⟨h, fun _ _ q => q, fun M g b q => by cases q⟩
  | e :: r, T, h1, h2 => by
    have h3 : okT r := fun e he => h1 e (List.mem_cons_of_mem _ he)
    have hb := h1 e List.mem_cons_self
    obtain ⟨a, b1, c⟩ := abE_h (T := abP T e.1 0 e.2.2) h3 (abP_ok h2 hb)
    unfold abE
    refine ⟨a, fun M b q => b1 _ _ (abP_2 q), fun M g b hm => ?_⟩
    rcases List.mem_cons.mp hm with q | q
    · rw [← q] at b1 hb ⊢
      exact b1 _ _ (abP_1 h2 hb)
    · exact c M g b q
theorem abY_h {S : abT} (h : okT S) : okT (abY S) ∧ ∀ M b, (M, 0, b) ∈ S → cvr (abY S) M 0 b ∧ ∀ p, p < 6 → (M.testBit p = true → ∀ t, t < p → M.testBit t = false → (32767 : Nat).testBit t = true → cvr (abY S) (abI M b p 5 t).1 0 (abI M b p 5 t).2) ∧ (M.testBit p = false → cvr (abY S) (abI M b p 5 p).1 0 (abI M b p 5 p).2) := by
  obtain ⟨a0, b0, c0⟩ := abQ_h (p := 0) h h
  obtain ⟨a1, b1, c1⟩ := abQ_h (p := 1) h a0
  obtain ⟨a2, b2, c2⟩ := abQ_h (p := 2) h a1
  obtain ⟨a3, b3, c3⟩ := abQ_h (p := 3) h a2
  obtain ⟨a4, b4, c4⟩ := abQ_h (p := 4) h a3
  obtain ⟨a5, b5, c5⟩ := abQ_h (p := 5) h a4
  obtain ⟨e0, -, e2⟩ := abE_h (T := []) a5 (fun e he => by cases he)
  have up : ∀ M g b, cvr (abQ 5 S (abQ 4 S (abQ 3 S (abQ 2 S (abQ 1 S (abQ 0 S S)))))) M g b → cvr (abY S) M 0 b := fun M g b ⟨b', h1, h2⟩ => by
    obtain ⟨b'', h3, h4⟩ := e2 M g b' h1
    exact ⟨b'', h3, leb_t h2 h4⟩
  refine ⟨e0, fun M b hm => ⟨up _ 0 _ (b5 _ _ _ (b4 _ _ _ (b3 _ _ _ (b2 _ _ _ (b1 _ _ _ (b0 _ _ _ ⟨b, hm, leb_f b⟩)))))), fun p hp => ?_⟩⟩
  have hp' : p = 0 ∨ p = 1 ∨ p = 2 ∨ p = 3 ∨ p = 4 ∨ p = 5 := by omega
  rcases hp' with rfl | rfl | rfl | rfl | rfl | rfl
  · exact ⟨fun q t ht hM hQ => up _ 1 _ (b5 _ _ _ (b4 _ _ _ (b3 _ _ _ (b2 _ _ _ (b1 _ _ _ ((c0 M 0 b hm).1 q t ht hM hQ)))))), fun q => up _ 1 _ (b5 _ _ _ (b4 _ _ _ (b3 _ _ _ (b2 _ _ _ (b1 _ _ _ ((c0 M 0 b hm).2 q))))))⟩
  · exact ⟨fun q t ht hM hQ => up _ 1 _ (b5 _ _ _ (b4 _ _ _ (b3 _ _ _ (b2 _ _ _ ((c1 M 0 b hm).1 q t ht hM hQ))))), fun q => up _ 1 _ (b5 _ _ _ (b4 _ _ _ (b3 _ _ _ (b2 _ _ _ ((c1 M 0 b hm).2 q)))))⟩
  · exact ⟨fun q t ht hM hQ => up _ 1 _ (b5 _ _ _ (b4 _ _ _ (b3 _ _ _ ((c2 M 0 b hm).1 q t ht hM hQ)))), fun q => up _ 1 _ (b5 _ _ _ (b4 _ _ _ (b3 _ _ _ ((c2 M 0 b hm).2 q))))⟩
  · exact ⟨fun q t ht hM hQ => up _ 1 _ (b5 _ _ _ (b4 _ _ _ ((c3 M 0 b hm).1 q t ht hM hQ))), fun q => up _ 1 _ (b5 _ _ _ (b4 _ _ _ ((c3 M 0 b hm).2 q)))⟩
  · exact ⟨fun q t ht hM hQ => up _ 1 _ (b5 _ _ _ ((c4 M 0 b hm).1 q t ht hM hQ)), fun q => up _ 1 _ (b5 _ _ _ ((c4 M 0 b hm).2 q))⟩
  · exact ⟨fun q t ht hM hQ => up _ 1 _ ((c5 M 0 b hm).1 q t ht hM hQ), fun q => up _ 1 _ ((c5 M 0 b hm).2 q)⟩
