/-! The reference's rows for every system: the room, and what they span. -/
theorem ok_nil : okT [] := fun e he => by cases he
/-- one lead -/
theorem pass_1 {hs s : Int → Int} {l0 : Nat} (h01 : ∀ k, hs k = 0 ∨ hs k = 1) (hl : l0 < 6) (c : cov (abs0 l0) 0 hs s) (h1 : ∀ l : Nat, l < 15 → (hs l ≠ 0 ↔ l = l0)) : gWB 15 4 2 (hs, s) ∧ fin hs s (gWr 15 4 2 (hs, s)) := by
  have ec : ech hs s := by
    obtain ⟨M, b, -, r⟩ := c
    exact r.2.2.1
  obtain ⟨r0, r1, -, -⟩ := ec l0 (by omega) ((h1 l0 (by omega)).mpr rfl)
  have z : ∀ j, l0 < j → rv s l0 j = 0 := fun j hj => by
    rcases Nat.lt_or_ge j 15 with g | g
    · exact r1 j hj g
    · exact rv_o s l0 g
  have J0c := mul1_clo (rv s l0)
  have J0q := mul1_Q (f := rv s l0) hl (by omega) z
  have hj : jr (mul1 (rv s l0)) hs s := fun l h h2 => by
    rw [(h1 l h).mp h2]
    exact mul1_s (fun j hj => z j (by omega))
  have st := fun {S T : abT} (m : Nat) h ok okt ih => pass_s (J0 := mul1 (rv s l0)) (Q := qM l0) (S := S) (T := T) J0c J0q m h ok okt ih
  have hl' : l0 = 0 ∨ l0 = 1 ∨ l0 = 2 ∨ l0 = 3 ∨ l0 = 4 ∨ l0 = 5 := by omega
  rcases hl' with rfl | rfl | rfl | rfl | rfl | rfl
  · exact st 1 abS0_c0 (okB_e (by decide +kernel)) (okB_e (by decide +kernel)) (st 0 abS0_c1 (okB_e (by decide +kernel)) (okB_e (by decide +kernel)) (fun hs s _ _ c => pass_0 (P := fun hs s => gWB 15 4 0 (hs, s) ∧ fin hs s (gWr 15 4 0 (hs, s))) c)) hs s h01 hj c
  · exact st 1 abS1_c0 (okB_e (by decide +kernel)) (okB_e (by decide +kernel)) (st 0 abS1_c1 (okB_e (by decide +kernel)) (okB_e (by decide +kernel)) (fun hs s _ _ c => pass_0 (P := fun hs s => gWB 15 4 0 (hs, s) ∧ fin hs s (gWr 15 4 0 (hs, s))) c)) hs s h01 hj c
  · exact st 1 abS2_c0 (okB_e (by decide +kernel)) (okB_e (by decide +kernel)) (st 0 abS2_c1 (okB_e (by decide +kernel)) (okB_e (by decide +kernel)) (fun hs s _ _ c => pass_0 (P := fun hs s => gWB 15 4 0 (hs, s) ∧ fin hs s (gWr 15 4 0 (hs, s))) c)) hs s h01 hj c
  · exact st 1 abS3_c0 (okB_e (by decide +kernel)) (okB_e (by decide +kernel)) (st 0 abS3_c1 (okB_e (by decide +kernel)) (okB_e (by decide +kernel)) (fun hs s _ _ c => pass_0 (P := fun hs s => gWB 15 4 0 (hs, s) ∧ fin hs s (gWr 15 4 0 (hs, s))) c)) hs s h01 hj c
  · exact st 1 abS4_c0 (okB_e (by decide +kernel)) (okB_e (by decide +kernel)) (st 0 abS4_c1 (okB_e (by decide +kernel)) (okB_e (by decide +kernel)) (fun hs s _ _ c => pass_0 (P := fun hs s => gWB 15 4 0 (hs, s) ∧ fin hs s (gWr 15 4 0 (hs, s))) c)) hs s h01 hj c
  · exact st 1 abS5_c0 (okB_e (by decide +kernel)) (okB_e (by decide +kernel)) (st 0 abS5_c1 (okB_e (by decide +kernel)) (okB_e (by decide +kernel)) (fun hs s _ _ c => pass_0 (P := fun hs s => gWB 15 4 0 (hs, s) ∧ fin hs s (gWr 15 4 0 (hs, s))) c)) hs s h01 hj c
theorem top_6 (v : lV) : ∀ n, (∃ p, p < n ∧ v p ≠ 0 ∧ ∀ j, p < j → j < n → v j = 0) ∨ ∀ j, j < n → v j = 0
  | 0 => Or.inr (fun j hj => by omega)
  | n + 1 => by
    rcases Decidable.em (v n = 0) with g | g
    · rcases top_6 v n with ⟨p, h1, h2, h3⟩ | h
      · refine Or.inl ⟨p, by omega, h2, fun j j0 j1 => ?_⟩
        rcases Decidable.em (j = n) with e | e
        · rw [e]; exact g
        · exact h3 j j0 (by omega)
      · refine Or.inr (fun j hj => ?_)
        rcases Decidable.em (j = n) with e | e
        · rw [e]; exact g
        · exact h j (by omega)
    · exact Or.inl ⟨n, by omega, g, fun j j0 j1 => by omega⟩
theorem abO_e {b : List Nat} {p w : Nat} (h : abO b p w = true) : 1 + 2 * b.getD p 0 + w < 16744 ∧ 2 + b.getD 14 0 + b.getD p 0 + w < 16744 := by
  unfold abO at h
  rw [Bool.and_eq_true] at h
  have h3 := Nat.le_of_ble_eq_true (show Nat.ble (1 + 2 * gt b p + w + 1) 16744 = true from h.1)
  have h4 := Nat.le_of_ble_eq_true (show Nat.ble (2 + gt b 14 + gt b p + w + 1) 16744 = true from h.2)
  rw [gt_e] at h3
  rw [gt_e, gt_e] at h4
  omega
theorem abZ_e : ∀ {S : abT}, abZ S = true → ∀ M g b, (M, g, b) ∈ S → ∀ p, p < 6 → 1 + 2 * b.getD p 0 + 5 < 16744 ∧ 2 + b.getD 14 0 + b.getD p 0 + 5 < 16744
  | [], _, _, _, _, h, _, _ => by cases h
  | e :: r, h, M, g, b, hm, p, hp => by
    unfold abZ at h
    simp only [Bool.and_eq_true] at h
    obtain ⟨⟨⟨⟨⟨⟨h0, h1⟩, h2⟩, h3⟩, h4⟩, h5⟩, h6⟩ := h
    rcases List.mem_cons.mp hm with q | q
    · rw [← q] at h0 h1 h2 h3 h4 h5
      have hp' : p = 0 ∨ p = 1 ∨ p = 2 ∨ p = 3 ∨ p = 4 ∨ p = 5 := by omega
      rcases hp' with rfl | rfl | rfl | rfl | rfl | rfl
      · exact abO_e h0
      · exact abO_e h1
      · exact abO_e h2
      · exact abO_e h3
      · exact abO_e h4
      · exact abO_e h5
    · exact abZ_e h6 M g b q p hp
/-- one row of the system -/
theorem sys_1 {S : abT} {hs s sy : Int → Int} {o : Int} (ok : okT S) (hz : abZ S = true) (h01 : ∀ k, hs k = 0 ∨ hs k = 1) (c : cov S 0 hs s) (hb : ∀ j : Nat, j < 6 → -5 ≤ sy (o + j) ∧ sy (o + j) ≤ 5) : enB hs (lW s sy o 6) 15 ∧ cov (abY S) 0 (en hs (lW s sy o 6) 15).1 (en hs (lW s sy o 6) 15).2.1 ∧ ∀ J, lin J → (jr J (en hs (lW s sy o 6) 15).1 (en hs (lW s sy o 6) 15).2.1 ↔ jr J hs s ∧ J (sv sy o)) := by
  obtain ⟨M, b, hm, r⟩ := c
  have lo : ∀ q, q < 2025 → lW s sy o 6 q = s q := fun q hq => lW_o hq 6
  have r' : rel M b hs (lW s sy o 6) := rel_s r lo
  have rs : ∀ q : Nat, q < 15 → rv (lW s sy o 6) q = rv s q := fun q hq => rv_s lo hq
  have js : ∀ J, jr J hs (lW s sy o 6) ↔ jr J hs s := fun J => ⟨fun h q q0 q1 => by rw [← rs q q0]; exact h q q0 q1, fun h q q0 q1 => by rw [rs q q0]; exact h q q0 q1⟩
  have wz : ∀ j, 6 ≤ j → wv (lW s sy o 6) j = 0 := fun j hj => by
    rw [lW_v]
    unfold sv
    rw [if_neg (by omega)]
  have ws : nS (wv (lW s sy o 6)) 15 ≤ 2 ^ 5 := by
    have e : nS (wv (lW s sy o 6)) 15 = nS (wv (lW s sy o 6)) 6 := by
      have : ∀ d, nS (wv (lW s sy o 6)) (6 + d) = nS (wv (lW s sy o 6)) 6 := by
        intro d
        induction d with
        | zero => rfl
        | succ d ih =>
          show nS (wv (lW s sy o 6)) (6 + d) + zAbs (wv (lW s sy o 6) (6 + d)) = _
          rw [ih, wz _ (by omega)]
          show _ + 0 = _
          omega
      exact this 9
    have h1 := nS_B (a := wv (lW s sy o 6)) (B := 5) (n := 6) (fun j hj => by
      rw [lW_v]
      unfold sv
      rw [if_pos hj]
      have := hb j hj
      unfold zAbs
      split <;> omega)
    rw [e]
    have h2 : ((6 : Nat) : Int) * 5 = 30 := by decide
    have h3 : (2 : Int) ^ 5 = 32 := by decide
    omega
  -- the place of the row's top, 0 if there is none
  obtain ⟨p, hp, hv, hn⟩ : ∃ p, p < 6 ∧ (∀ j, p < j → j < 15 → wv (lW s sy o 6) j = 0) ∧ (wv (lW s sy o 6) p ≠ 0 ∨ p = 0) := by
    rcases top_6 (wv (lW s sy o 6)) 6 with ⟨p, h1, h2, h3⟩ | h
    · refine ⟨p, h1, fun j j0 _ => ?_, Or.inl h2⟩
      rcases Nat.lt_or_ge j 6 with g | g
      · exact h3 j j0 g
      · exact wz j g
    · refine ⟨0, by decide, fun j j0 _ => ?_, Or.inr rfl⟩
      rcases Nat.lt_or_ge j 6 with g | g
      · exact h j g
      · exact wz j g
  obtain ⟨k1, k2⟩ := abZ_e hz M _ b hm p hp
  obtain ⟨a1, a2, a3⟩ := rel_en r' (by omega) hv ws k1 k2
  obtain ⟨y0, y1⟩ := abY_h ok
  obtain ⟨y2, y3⟩ := y1 M b hm
  obtain ⟨y4, y5⟩ := y3 p hp
  rw [← lW_v (s := s)]
  refine ⟨a1, ?_, ?_⟩
  · rcases a2 with ⟨c1, c2, c3, -, -⟩ | ⟨t, t0, t1, c1, c2, c3, -, -, -⟩
    · rw [c2]
      exact cov_c y0 y2 c3
    · cases hq : M.testBit p
      · have e3 : t = p := by
          rcases hn with g | g
          · have h1 := a3 g hq
            rcases Decidable.em (t = p) with g2 | g2
            · exact g2
            · rw [c2] at h1
              have h2 : uI hs t 1 p = 1 := by rw [h1, uI_s]
              rw [uI_n _ _ (by omega)] at h2
              have h3 := (r.2.1 p (by omega)).mp (by rw [h2]; decide)
              rw [hq] at h3
              cases h3
          · omega
        rw [e3] at c3
        exact cov_c y0 (y5 hq) c3
      · have hne : t ≠ p := fun g => by
          rw [g, hq] at t1
          cases t1
        exact cov_c y0 (y4 hq t (by omega) t1 (bit_all ⟨t, by omega⟩)) c3
  · intro J hJ
    rcases a2 with ⟨c1, c2, c3, c4, c5⟩ | ⟨t, t0, t1, c1, c2, c3, cA, cB, cC⟩
    · have e1 : jr J (en hs (lW s sy o 6) 15).1 (en hs (lW s sy o 6) 15).2.1 ↔ jr J hs s := by
        rw [c2]
        exact ⟨fun h q q0 q1 => by rw [← rs q q0, ← rv_s c4 q0]; exact h q q0 q1, fun h q q0 q1 => by rw [rv_s c4 q0, rs q q0]; exact h q q0 q1⟩
      rw [e1]
      exact ⟨fun h => ⟨h, spn_J hJ c5 ((js J).mpr h)⟩, fun h => h.1⟩
    · have t15 : t < 15 := by omega
      have hst : hs t = 0 := by
        rcases Decidable.em (hs t = 0) with g | g
        · exact g
        · have := (r.2.1 t t15).mp g
          rw [t1] at this
          cases this
      have h := st_J hJ t15 hst cA cB
      rw [js] at h
      rw [c2]
      exact ⟨h.2, fun q => h.1 q.1 q.2⟩
def abYn : Nat → abT
  | 0 => abU
  | n + 1 => abY (abYn n)
theorem abYn_h : ∀ n, okT (abYn n)
  | 0 => fun e he => by
    rcases List.mem_cons.mp he with q | q
    · rw [q]; rfl
    · cases q
  | n + 1 => (abY_h (abYn_h n)).1
theorem abYn_z : ∀ n, n < 4 → abZ (abYn n) = true := by
  have h := abG_k
  simp only [Bool.and_eq_true] at h
  intro n hn
  have hn' : n = 0 ∨ n = 1 ∨ n = 2 ∨ n = 3 := by omega
  rcases hn' with rfl | rfl | rfl | rfl
  · exact h.1.1.1
  · exact h.1.1.2
  · exact h.1.2
  · exact h.2
/-- the system's rows -/
theorem sys_h {hs s sy : Int → Int} (h01 : ∀ k, hs k = 0 ∨ hs k = 1) (h0 : ∀ l : Nat, l < 15 → hs l = 0) (hb : ∀ k : Nat, k < 24 → -5 ≤ sy k ∧ sy k ≤ 5) : ∀ P : Nat, P ≤ 4 → sLB 15 sy hs s P ∧ cov (abYn P) 0 (sL 15 sy hs s P).1 (sL 15 sy hs s P).2 ∧ ∀ J, lin J → (jr J (sL 15 sy hs s P).1 (sL 15 sy hs s P).2 ↔ ∀ q : Nat, q < P → J (sv sy (6 * q)))
  | 0, _ => by
    refine ⟨trivial, ⟨0, _, List.mem_cons_self, rfl, fun l hl => ?_, fun l hl hl2 => absurd (h0 l hl) hl2, fun p _ => ⟨[], [], ⟨by decide, List.nodup_nil, fun j hj => (by cases hj), fun l _ hl hl2 => absurd (h0 l hl) hl2⟩, ?_⟩⟩, fun J _ => ⟨fun _ q hq => by omega, fun _ l hl hl2 => absurd (h0 l hl) hl2⟩⟩
    · show hs l ≠ 0 ↔ _
      rw [h0 l hl, Nat.zero_testBit]
      exact ⟨fun g => absurd rfl g, fun g => by cases g⟩
    · show (1 : Int) ≤ _
      have : (0 : Int) < 2 ^ ([0, 0, 0, 0, 0, 0, 0, 0, 0, 0, 0, 0, 0, 0, 0] : List Nat).getD p 0 := Int.pow_pos (by decide)
      omega
  | P + 1, hP => by
    obtain ⟨i0, i1, i2⟩ := sys_h (s := s) h01 h0 hb P (by omega)
    obtain ⟨a, b, c⟩ := sys_1 (sy := sy) (o := 6 * (P : Int)) (abYn_h P) (abYn_z P (by omega)) (sL_b h01 P) i1 (fun j hj => by
      have := hb (6 * P + j) (by omega)
      rw [show ((6 * P + j : Nat) : Int) = 6 * (P : Int) + j by omega] at this
      exact this)
    refine ⟨⟨i0, a⟩, b, fun J hJ => ?_⟩
    show jr J (en (sL 15 sy hs s P).1 (lW (sL 15 sy hs s P).2 sy (6 * P) 6) 15).1 (en (sL 15 sy hs s P).1 (lW (sL 15 sy hs s P).2 sy (6 * P) 6) 15).2.1 ↔ _
    rw [c J hJ, i2 J hJ]
    constructor
    · rintro ⟨h1, h2⟩ q hq
      rcases Nat.lt_or_ge q P with g | g
      · exact h1 q g
      · rw [show q = P by omega]
        exact h2
    · intro h
      exact ⟨fun q hq => h q (by omega), h P (by omega)⟩
theorem cov_up {hs s : Int → Int} {n : Nat} (c : cov (abYn n) 0 hs s) : ∀ d, cov (abYn (n + d)) 0 hs s
  | 0 => c
  | d + 1 => by
    obtain ⟨M, b, hm, r⟩ := cov_up c d
    obtain ⟨y0, y1⟩ := abY_h (abYn_h (n + d))
    exact cov_c y0 (y1 M b hm).1 r
theorem leT2_e {T : abT} : ∀ {U : abT}, leT2 T U = true → ∀ M g b, (M, g, b) ∈ U → ab2 M = true → cvr T M 0 b
  | [], _, _, _, _, h, _ => by cases h
  | e :: r, h, M, g, b, hm, h2 => by
    unfold leT2 at h
    rw [Bool.and_eq_true] at h
    rcases List.mem_cons.mp hm with q | q
    · have h1 := h.1
      rw [← q] at h1
      rw [h2] at h1
      exact leF_e (by simpa using h1)
    · exact leT2_e h.2 M g b q h2
theorem leT1_e : ∀ {U : abT}, leT1 U = true → ∀ M g b, (M, g, b) ∈ U → ab2 M = false → M = 0 ∨ ∃ l0, l0 < 6 ∧ M = 2 ^ l0 ∧ cvr (abs0 l0) M 0 b
  | [], _, _, _, _, h, _ => by cases h
  | e :: r, h, M, g, b, hm, h2 => by
    unfold leT1 at h
    rw [Bool.and_eq_true] at h
    rcases List.mem_cons.mp hm with q | q
    · have h1 := h.1
      rw [← q] at h1
      have h1 : (ab2 M || Nat.beq M 0 || leF M b abS0_0 || leF M b abS1_0 || leF M b abS2_0 || leF M b abS3_0 || leF M b abS4_0 || leF M b abS5_0) = true := h1
      rw [h2] at h1
      simp only [Bool.or_eq_true, Bool.false_or] at h1
      have key : ∀ {T : abT} {l0 : Nat}, (∀ e, e ∈ T → e.1 = 2 ^ l0) → cvr T M 0 b → M = 2 ^ l0 := fun hT ⟨b', hb', _⟩ => hT _ hb'
      rcases h1 with (((((q1 | q1) | q1) | q1) | q1) | q1) | q1
      · exact Or.inl (Nat.eq_of_beq_eq_true q1)
      · refine Or.inr ⟨0, by decide, key (T := abS0_0) (fun e he => ?_) (leF_e q1), leF_e q1⟩
        rcases List.mem_cons.mp he with q | q
        · rw [q]
        · cases q
      · refine Or.inr ⟨1, by decide, key (T := abS1_0) (fun e he => ?_) (leF_e q1), leF_e q1⟩
        rcases List.mem_cons.mp he with q | q
        · rw [q]
        · cases q
      · refine Or.inr ⟨2, by decide, key (T := abS2_0) (fun e he => ?_) (leF_e q1), leF_e q1⟩
        rcases List.mem_cons.mp he with q | q
        · rw [q]
        · cases q
      · refine Or.inr ⟨3, by decide, key (T := abS3_0) (fun e he => ?_) (leF_e q1), leF_e q1⟩
        rcases List.mem_cons.mp he with q | q
        · rw [q]
        · cases q
      · refine Or.inr ⟨4, by decide, key (T := abS4_0) (fun e he => ?_) (leF_e q1), leF_e q1⟩
        rcases List.mem_cons.mp he with q | q
        · rw [q]
        · cases q
      · refine Or.inr ⟨5, by decide, key (T := abS5_0) (fun e he => ?_) (leF_e q1), leF_e q1⟩
        rcases List.mem_cons.mp he with q | q
        · rw [q]
        · cases q
    · exact leT1_e h.2 M g b q h2
/-- THE REFERENCE'S ROWS: for every system, how often grows goes on, its room, and what the rows span -/
theorem rows_h {hs s sy : Int → Int} {P : Nat} (h01 : ∀ k, hs k = 0 ∨ hs k = 1) (h0 : ∀ l : Nat, l < 15 → hs l = 0) (hb : ∀ k : Nat, k < 24 → -5 ≤ sy k ∧ sy k ≤ 5) (hP : P ≤ 4) : sLB 15 sy hs s P ∧ (∀ J, lin J → (jr J (sL 15 sy hs s P).1 (sL 15 sy hs s P).2 ↔ ∀ q : Nat, q < P → J (sv sy (6 * q)))) ∧ ∃ m, gWB 15 4 m (sL 15 sy hs s P) ∧ fin (sL 15 sy hs s P).1 (sL 15 sy hs s P).2 (gWr 15 4 m (sL 15 sy hs s P)) := by
  obtain ⟨a, b, c⟩ := sys_h (s := s) h01 h0 hb P hP
  have b4 := cov_up b (4 - P)
  rw [show P + (4 - P) = 4 by omega] at b4
  have z01 := sL_b (n := 15) (sy := sy) (s := s) h01 P
  refine ⟨a, c, ?_⟩
  obtain ⟨M, x, hm, r⟩ := b4
  have hm' : (M, 0, x) ∈ abG := hm
  cases h2 : ab2 M
  · rcases leT1_e abT_s M _ x hm' h2 with g | ⟨l0, hl, hM, cv⟩
    · refine ⟨1, pass_n z01 (fun l hl => ?_)⟩
      rcases Decidable.em ((sL 15 sy hs s P).1 l = 0) with q | q
      · exact q
      · have := (r.2.1 l hl).mp q
        rw [g, Nat.zero_testBit] at this
        cases this
    · refine ⟨2, pass_1 (l0 := l0) z01 hl ?_ (fun l hl2 => ?_)⟩
      · have hl' : l0 = 0 ∨ l0 = 1 ∨ l0 = 2 ∨ l0 = 3 ∨ l0 = 4 ∨ l0 = 5 := by omega
        rcases hl' with rfl | rfl | rfl | rfl | rfl | rfl <;> (refine cov_c ?_ cv r; exact okB_e (by decide +kernel))
      · rw [r.2.1 l hl2, hM, Nat.testBit_two_pow]
        simp
        exact ⟨fun q => q.symm, fun q => q.symm⟩
  · exact ⟨8, pass_2 z01 (cov_c (okB_e (by decide +kernel)) (leT2_e abT_0 M _ x hm' h2) r)⟩
