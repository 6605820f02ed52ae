/-! A solve of the reference has room: for every system. -/
theorem sh_10 : ∀ w : Fin 2, ∀ k : Fin 6, sh (w.val : Nat) k.val < 10 ∧ (k.val = 0 → sh (w.val : Nat) k.val < 6) := by decide +kernel
theorem bt_h : (30 : Int) ^ 2 ≤ 2 ^ 74 ∧ (30 : Int) ^ 6 ≤ 2 ^ 74 ∧ (30 : Int) ^ 7 ≤ 2 ^ 103 ∧ (30 : Int) ^ 12 ≤ 2 ^ 103 ∧ (30 : Int) ^ 13 ≤ 2 ^ 138 ∧ (30 : Int) ^ 19 ≤ 2 ^ 138 ∧ (30 : Int) ^ 20 ≤ 2 ^ 177 := by decide +kernel
theorem rowB_R {hs0 s0 sy g g' : Int → Int} {z : (Int → Int) × (Int → Int)} {P : Nat} (f : fin hs0 s0 z) (hsys : ∀ J, lin J → (jr J hs0 s0 ↔ ∀ q : Nat, q < P → J (sv sy (6 * q)))) (hb : ∀ k : Nat, k < 24 → -5 ≤ sy k ∧ sy k ≤ 5) (hP : P ≤ 4) {st : Int → Int} {n : Nat} (hst : fG (fE z.1 15 g 15).1 (fE z.1 15 g 15).2 g' 15 = (st, n)) (hn : n ≤ 4) (h0 : ∀ j : Nat, j < n → 0 ≤ st j ∧ st j < 6) : rowB z.1 z.2 st n (btN n) := by
  have z01 := f.2.2.2.2
  have e := fin_e f
  have S1 : ∀ k : Nat, k < 15 → z.1 k = 0 → ∃ i : Nat, i < n ∧ st i = k := fun k hk h => by
    have := std_of (g := g) (g' := g') f hk h
    rw [hst] at this
    exact this
  have S2 : ∀ j : Nat, j < n → z.1 (st j) = 0 := fun j hj => by
    have := fG_0 (e := g) (N := 0) (g := g) (g' := g') z01 j (by rw [hst]; exact hj)
    rw [hst] at this
    exact this
  have S3 : ∀ i j : Nat, i < j → j < n → st i < st j := fun i j hij hj => by
    have := fG_s (fE z.1 15 g 15).1 (fE z.1 15 g 15).2 g' 15 i j hij (by rw [hst]; exact hj)
    rw [hst] at this
    exact this
  have S4 : ∀ j : Nat, j < n → ∀ d : Nat, d < 6 → mX (d : Int) ≤ mX (st j) → mY (d : Int) ≤ mY (st j) → ∃ i : Nat, i < n ∧ st i = d := fun j hj d hd h1 h2 => by
    have := fG_d (e := (fE z.1 15 g 15).1) (N := (fE z.1 15 g 15).2) (g' := g') j (by rw [hst]; exact hj) d hd (by rw [hst]; exact h1) (by rw [hst]; exact h2)
    rw [hst] at this
    exact this
  intro j hj w hw hm
  -- the list of standard places
  obtain ⟨sl, hsl⟩ : ∃ sl : List Nat, sl = (List.range n).map (fun i : Nat => (st i).toNat) := ⟨_, rfl⟩
  have sll : sl.length = n := by rw [hsl, List.length_map, List.length_range]
  have sn : sl.Nodup := by
    rw [hsl]
    refine List.pairwise_map.mpr (List.Pairwise.imp_of_mem (fun {a b} ha hb' hab => ?_) List.pairwise_lt_range)
    rw [List.mem_range] at ha hb'
    have pa := h0 a ha
    have pb := h0 b hb'
    have := S3 a b hab hb'
    omega
  have s6 : ∀ t, t ∈ sl → t < 6 ∧ z.1 t = 0 := fun t ht => by
    rw [hsl] at ht
    obtain ⟨i, hi, rfl⟩ := List.mem_map.mp ht
    rw [List.mem_range] at hi
    have := h0 i hi
    refine ⟨by omega, ?_⟩
    rw [show (((st i).toNat : Nat) : Int) = st i by omega]
    exact S2 i hi
  have hB : ∀ j : Nat, j < 15 → z.1 j = 0 → j < 6 := fun k hk h => by
    obtain ⟨i, i0, i1⟩ := S1 k hk h
    have := h0 i i0
    omega
  obtain ⟨k0, hk0⟩ : ∃ k0 : Nat, st j = k0 := ⟨(st j).toNat, by have := h0 j hj; omega⟩
  have k6 : k0 < 6 := by have := h0 j hj; omega
  have z00 : z.1 (0 : Nat) = 0 := by
    obtain ⟨i, i0, i1⟩ := S4 j hj 0 (by decide) (by rw [hk0]; have := (mX_15 ⟨k0, by omega⟩).1; exact this) (by rw [hk0]; have := (mX_15 ⟨k0, by omega⟩).2.1; exact this)
    rw [← i1]
    exact S2 i i0
  have hmv : mv st j w = sh w k0 := by
    unfold mv
    rw [hk0]
    exact (sh_i (k := k0) hw (by omega)).1
  have k10 : sh w k0 < 10 ∧ (k0 = 0 → sh w k0 < 6) := by
    rcases hw with rfl | rfl
    · exact sh_10 0 ⟨k0, k6⟩
    · exact sh_10 1 ⟨k0, k6⟩
  rw [hmv] at hm ⊢
  obtain ⟨k, hk⟩ : ∃ k, sh w k0 = k := ⟨_, rfl⟩
  rw [hk] at hm k10 ⊢
  have hkn : k < 6 ∨ 2 ≤ sl.length := by
    rcases Nat.lt_or_ge sl.length 2 with q | q
    · left
      refine k10.2 ?_
      obtain ⟨i, i0, i1⟩ := S1 0 (by decide) z00
      have : i = j := by omega
      subst this
      omega
    · exact Or.inr q
  have R := row_R f hsys hb hP sn s6 hB (by omega) (by omega) z00 k10.1 hm hkn
  have cm : (30 : Int) ^ (cD ((if k < 6 then 4 else 5) - sl.length) - sl.length) ≤ 2 ^ btN n := by
    rw [sll] at hkn ⊢
    obtain ⟨b1, b2, b3, b4, b5, b6, b7⟩ := bt_h
    have hn' : n = 1 ∨ n = 2 ∨ n = 3 ∨ n = 4 := by omega
    rcases Nat.lt_or_ge k 6 with q | q
    · rw [if_pos q]
      rcases hn' with rfl | rfl | rfl | rfl
      · exact b7
      · exact b5
      · exact b3
      · exact b1
    · rw [if_neg (by omega)]
      rcases hn' with rfl | rfl | rfl | rfl
      · omega
      · exact b6
      · exact b4
      · exact b2
  have p0 := (e k (by omega) hm).1
  rw [rv_in (by omega)] at p0
  refine ⟨p0, ?_, fun i hi => ?_⟩
  · have := R k (by omega)
    rw [rv_in (by omega), zAbs_nn (by omega)] at this
    omega
  · have hi6 := h0 i hi
    have := R (st i).toNat (by omega)
    rw [rv_in (by omega), show (((st i).toNat : Nat) : Int) = st i by omega] at this
    omega
/-- THE REFERENCE'S SOLVE HAS ROOM -/
theorem sv_all {A : Nat → Int → Int} {s : Int → Int} {P : Nat} (h01 : ∀ k, A 15 k = 0 ∨ A 15 k = 1) (h4 : ∀ k : Nat, k < 24 → -5 ≤ A 4 k ∧ A 4 k ≤ 5) (h5 : ∀ k : Nat, k < 6 → -5 ≤ A 5 k ∧ A 5 k ≤ 5) (hP : P ≤ 4) : ∃ m, svB A s P m :=
  svB_h h01 h4 h5 hP (fun m hs0 s0 hsys f _ hn h0 => rowU_h f.2.2.2.2 hn h0 (rowB_R (g := A 16) (g' := A 18) f hsys h4 hP rfl hn h0))
