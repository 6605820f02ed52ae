/-! The class's rows: the run over the tables. -/
def clo3 (J : lV → Prop) : Prop := lin J ∧ ∀ (v : lV) (w : Int), (w = 0 ∨ w = 1) → dg2 v → J v → J (xs w v)
theorem clo_3 {J : lV → Prop} (h : clo J) : clo3 J := ⟨h.1, fun v w hw hz hv => h.2 v w hw (fun j hj => hz j (by omega)) hv⟩
/-- what the grown rows make: with x or y times all that a set holds, all rows of degree 2, if those that have not grown -/
def gi (w : Int) (g : Nat) (hs s : Int → Int) : Prop := ∀ J, lin J → jr J hs s → ∀ K : lV → Prop, lin K → (∀ u, J (xs w u) → K u) → (∀ l : Nat, l < 6 → hs l ≠ 0 → g.testBit l = false → K (rv s l)) → ∀ k : Nat, k < 6 → hs k ≠ 0 → K (rv s k)
theorem gi_0 (w : Int) (hs s : Int → Int) : gi w 0 hs s := fun _ _ _ _ _ _ h k hk h2 => h k hk h2 (Nat.zero_testBit k)
theorem stp_k {hs s hs' s' : Int → Int} (h : stp hs s hs' s') {k : Nat} (hk : hs k ≠ 0) : hs' k ≠ 0 := by
  rcases h with ⟨q, -⟩ | ⟨t, -, ht, q, -, -⟩
  · rw [q]; exact hk
  · have : k ≠ t := fun g => hk (g ▸ ht)
    rw [q, uI_n _ _ (by omega)]
    exact hk
theorem gi_x {w : Int} {g g' : Nat} {hs s hs' s' : Int → Int} (st : stp hs s hs' s') (hJ : ∀ J, lin J → jr J hs' s' → jr J hs s) (hg : ∀ l : Nat, l < 6 → g'.testBit l = true → hs l ≠ 0) (hgr : ∀ l : Nat, l < 6 → g'.testBit l = true → g.testBit l = true ∨ ∀ J, lin J → jr J hs' s' → J (xs w (rv s l))) (h : gi w g hs s) : gi w g' hs' s' := by
  intro J lJ hj K lK hK hu
  have old : (∀ l : Nat, l < 6 → hs l ≠ 0 → g'.testBit l = false → K (rv s l)) → ∀ k : Nat, k < 6 → hs k ≠ 0 → K (rv s k) := fun hu2 => h J lJ (hJ J lJ hj) K lK hK (fun l hl h2 h3 => by
    cases q : g'.testBit l
    · exact hu2 l hl h2 q
    · rcases hgr l hl q with q2 | q2
      · rw [h3] at q2; cases q2
      · exact hK _ (q2 J lJ hj))
  rcases st with ⟨q1, q2⟩ | ⟨t, t15, ht, q, sB, sC⟩
  · rw [q1, q2] at hu ⊢
    exact old hu
  · have ρK : t < 6 → K (rv s' t) := fun q2 => hu t q2 (by rw [q, uI_s]; decide) (by
      cases q3 : g'.testBit t
      · rfl
      · exact absurd ht (hg t q2 q3))
    have ne : ∀ l : Nat, l ≠ t → hs' l = hs l := fun l hl => by rw [q, uI_n _ _ (by omega)]
    have both : ∀ l : Nat, l < 6 → hs l ≠ 0 → (K (rv s l) ↔ K (rv s' l)) := fun l hl h3 => by
      rcases Nat.lt_or_ge l t with q2 | q2
      · have : rv s' l = rv s l := funext (sC l q2)
        rw [this]
      · obtain ⟨C, h', D, C0, h0, er⟩ := sB l (by omega) h3
        have er' : ∀ j, h' * rv s' l j = C * rv s l j + -D * rv s' t j := fun j => by
          rcases Nat.lt_or_ge j 15 with g2 | g2
          · rw [er j g2, Int.neg_mul]; omega
          · rw [rv_o s' l g2, rv_o s l g2, rv_o s' t g2]; omega
        constructor
        · intro q3
          exact lin_d lK h0 q3 (ρK (by omega)) er'
        · intro q3
          exact lin_d lK (show C ≠ 0 by omega) q3 (ρK (by omega)) (a := h') (b := D) (fun j => by
            have := er' j
            rw [Int.neg_mul] at this
            omega)
    intro k hk h2
    rcases Decidable.em (k = t) with q2 | q2
    · rw [q2]; exact ρK (by omega)
    · have h3 : hs k ≠ 0 := by rw [← ne k q2]; exact h2
      refine (both k hk h3).mp (old (fun l hl h4 h5 => ?_) k hk h3)
      have lt : l ≠ t := fun g2 => h4 (g2 ▸ ht)
      exact (both l hl h4).mpr (hu l hl (by rw [ne l lt]; exact h4) h5)
theorem lin_xs {J : lV → Prop} (hJ : lin J) (w : Int) : lin (fun u => J (xs w u)) := by
  refine ⟨fun u v a b hu hv => ?_, fun v T hT hv => ?_, ?_⟩
  · show J (xs w (fun k => a * u k + b * v k))
    rw [show xs w (fun k => a * u k + b * v k) = fun k => a * xs w u k + b * xs w v k from funext (fun k => xs_l w a b u v k)]
    exact hJ.1 _ _ a b hu hv
  · have hv' : J (xs w (fun k => T * v k)) := hv
    rw [show xs w (fun k => T * v k) = fun k => T * xs w v k from funext (fun k => xs_c w T v k)] at hv'
    exact hJ.2.1 _ T hT hv'
  · show J (xs w (fun _ => 0))
    exact lin_0 hJ (fun k => xs_0 w (fun _ => rfl) k)
def clS (Sys : lV → Prop) (M g : Nat) (b c : List Nat) (R : Nat → Nat → Int) (L G hs s : Int → Int) : Prop := rel M b hs s ∧ crB c hs s ∧ cmp R L hs s ∧ (∀ i : Int, 0 ≤ i → i < 10 → L i = 0 ∨ L i = 1) ∧ (∀ k : Nat, k < 6 → (G k = 0 ∨ G k = 1) ∧ (G k = 1 ↔ g.testBit k = true)) ∧ (∀ J, lin J → jr J hs s → ∀ u, Sys u → J u) ∧ (∀ J, clo3 J → (∀ u, Sys u → J u) → jr J hs s) ∧ (∀ k : Nat, k < 6 → g.testBit k = true → hs k ≠ 0) ∧ ∀ w : Int, (w = 0 ∨ w = 1) → gi w g hs s
theorem cmp_10 {R : Nat → Nat → Int} {L hs s : Int → Int} (c : cmp R L hs s) (v : Nat → Int) : cmp (uR R 10 v) L hs s := ⟨uR_S c.1, c.2.1, c.2.2.1, fun l hl h2 j hj => by
  rw [uR_n _ _ (by omega)]
  exact c.2.2.2 l hl h2 j hj⟩
theorem lgB_h {M g : Nat} {L G : Int → Int} (h1 : ∀ l : Nat, l < 6 → (L l = 1 ↔ M.testBit l = true)) (h2 : ∀ k : Nat, k < 6 → (G k = 0 ∨ G k = 1) ∧ (G k = 1 ↔ g.testBit k = true)) : ∀ n i, i + n = 6 → (lgB M g n i = 6 ∧ lgS L G n i = -1 ∧ ∀ k, i ≤ k → k < 6 → M.testBit k = true → g.testBit k = true) ∨ (lgB M g n i < 6 ∧ lgS L G n i = (lgB M g n i : Nat) ∧ M.testBit (lgB M g n i) = true ∧ g.testBit (lgB M g n i) = false)
  | 0, i, hi => Or.inl ⟨rfl, rfl, fun k h1 h2 => by omega⟩
  | n + 1, i, hi => by
    have ih := lgB_h h1 h2 n (i + 1) (by omega)
    have a := h1 i (by omega)
    obtain ⟨b, c⟩ := h2 i (by omega)
    unfold lgB lgS
    rw [bt_e, bt_e]
    cases q1 : M.testBit i
    · rw [if_neg (show ¬ (L i = 1 ∧ G i = 0) from fun q => by rw [a.mp q.1] at q1; cases q1)]
      rcases ih with ⟨x, y, z⟩ | x
      · refine Or.inl ⟨x, y, fun k k0 k1 k2 => ?_⟩
        rcases Decidable.em (k = i) with q | q
        · rw [q, q1] at k2; cases k2
        · exact z k (by omega) k1 k2
      · exact Or.inr x
    · cases q2 : g.testBit i
      · rw [if_pos ⟨a.mpr q1, by rcases b with q | q; exact q; rw [c.mp q] at q2; cases q2⟩]
        exact Or.inr ⟨show i < 6 by omega, rfl, q1, q2⟩
      · rw [if_neg (show ¬ (L i = 1 ∧ G i = 0) from fun q => by have := c.mpr q2; omega)]
        rcases ih with ⟨x, y, z⟩ | x
        · refine Or.inl ⟨x, y, fun k k0 k1 k2 => ?_⟩
          rcases Decidable.em (k = i) with q | q
          · rw [q]; exact q2
          · exact z k (by omega) k1 k2
        · exact Or.inr x
theorem sh_g : ∀ k : Fin 6, sh 1 k.val = gt [1, 3, 4, 6, 7, 8] k.val ∧ sh 0 k.val = gt [2, 4, 5, 7, 8, 9] k.val ∧ sh 1 k.val < 10 ∧ sh 0 k.val < 10 := by decide +kernel
theorem xw_pd {u : Nat → Int} {k : Nat} (hk : k < 6) (hz : ∀ j, k < j → j < 10 → u j = 0) {w : Int} (hw : w = 0 ∨ w = 1) : pd (xw w u) = xs w (pd u) := by
  funext j
  have h6 : ∀ c, 6 ≤ c → pd u c = 0 := fun c hc => by
    rcases Nat.lt_or_ge c 10 with q | q
    · rw [pd_i q]; exact hz c (by omega) q
    · exact pd_o q
  rcases Nat.lt_or_ge j 10 with q | q
  · rw [pd_i q]
    unfold xw xs
    rcases Nat.lt_or_ge (shP w j) 6 with h | h
    · rw [if_pos h, if_pos ⟨by omega, by omega⟩, pd_i (by omega)]
    · rw [if_neg (by omega)]
      split
      · exact (h6 _ h).symm
      · rfl
  · rw [pd_o q]
    exact (xs_hi hw h6 q).symm
theorem xz_t : ∀ w : Fin 2, ∀ j : Fin 10, ¬ (j.val ∈ (if w.val = 0 then [2, 4, 5, 7, 8, 9] else [1, 3, 4, 6, 7, 8])) → ¬ shP (w.val : Nat) j.val < 6 := by decide +kernel
/-- at most six places -/
theorem nS_6 {a : lV} {B : Int} {w : Int} (hw : w = 0 ∨ w = 1) (hB : ∀ j, zAbs (a j) ≤ B) (h10 : ∀ j, 10 ≤ j → a j = 0) (hz : ∀ j, j < 10 → ¬ shP w j < 6 → a j = 0) : nS a 15 ≤ 6 * B := by
  have z : ∀ j, a j = 0 → zAbs (a j) = 0 := fun j h => by rw [h]; rfl
  have e : nS a 15 = 0 + zAbs (a 0) + zAbs (a 1) + zAbs (a 2) + zAbs (a 3) + zAbs (a 4) + zAbs (a 5) + zAbs (a 6) + zAbs (a 7) + zAbs (a 8) + zAbs (a 9) + zAbs (a 10) + zAbs (a 11) + zAbs (a 12) + zAbs (a 13) + zAbs (a 14) := rfl
  have b0 := hB 0
  have b1 := hB 1
  have b2 := hB 2
  have b3 := hB 3
  have b4 := hB 4
  have b5 := hB 5
  have b6 := hB 6
  have b7 := hB 7
  have b8 := hB 8
  have b9 := hB 9
  have c0 := z 10 (h10 10 (by decide))
  have c1 := z 11 (h10 11 (by decide))
  have c2 := z 12 (h10 12 (by decide))
  have c3 := z 13 (h10 13 (by decide))
  have c4 := z 14 (h10 14 (by decide))
  rcases hw with rfl | rfl
  · have d0 := z 0 (hz 0 (by decide) (xz_t 0 0 (by decide)))
    have d1 := z 1 (hz 1 (by decide) (xz_t 0 1 (by decide)))
    have d3 := z 3 (hz 3 (by decide) (xz_t 0 3 (by decide)))
    have d6 := z 6 (hz 6 (by decide) (xz_t 0 6 (by decide)))
    omega
  · have d0 := z 0 (hz 0 (by decide) (xz_t 1 0 (by decide)))
    have d2 := z 2 (hz 2 (by decide) (xz_t 1 2 (by decide)))
    have d5 := z 5 (hz 5 (by decide) (xz_t 1 5 (by decide)))
    have d9 := z 9 (hz 9 (by decide) (xz_t 1 9 (by decide)))
    omega
/-- x or y times a row: its top, its size -/
theorem xw_h {u : Nat → Int} {k β : Nat} (hk : k < 6) (u0 : 0 < u k) (hz : ∀ j, k < j → j < 10 → u j = 0) (hb : ∀ i, i < 10 → zAbs (u i) ≤ 2 ^ β) {w : Int} (hw : w = 0 ∨ w = 1) (h10 : sh w k < 10) : xw w u (sh w k) ≠ 0 ∧ (∀ j, sh w k < j → j < 10 → xw w u j = 0) ∧ nS (pd (xw w u)) 15 ≤ 2 ^ (β + 3) := by
  have e := xw_pd hk hz hw
  obtain ⟨-, b, c⟩ := xs_top (v := pd u) hw (show k < 10 by omega) (fun j hj _ => by
    rcases Nat.lt_or_ge j 10 with q | q
    · rw [pd_i q]; exact hz j hj q
    · exact pd_o q)
  rw [← e] at b c
  refine ⟨?_, fun j hj h2 => ?_, ?_⟩
  · rw [pd_i h10, pd_i (by omega)] at b
    rw [b]
    omega
  · have := c j hj
    rw [pd_i h2] at this
    exact this
  · have p0 := p2_pos β
    have h1 := nS_6 (a := pd (xw w u)) (B := 2 ^ β) hw (fun j => by
      rcases Nat.lt_or_ge j 10 with q | q
      · rw [pd_i q]
        unfold xw
        split
        · exact hb _ (by omega)
        · show zAbs 0 ≤ 2 ^ β
          rw [show zAbs 0 = 0 from rfl]
          omega
      · rw [pd_o q]
        show zAbs 0 ≤ 2 ^ β
        rw [show zAbs 0 = 0 from rfl]
        omega) (fun j hj => pd_o hj) (fun j hj h => by
      rw [pd_i hj]
      unfold xw
      exact if_neg h)
    have h2 : (2 : Int) ^ (β + 3) = 2 ^ β * 8 := by rw [Int.pow_add]; rfl
    rw [h2]
    omega
theorem tb_or (g k j : Nat) : (g ||| 2 ^ k).testBit j = true ↔ g.testBit j = true ∨ j = k := by
  rw [Nat.testBit_or, Nat.testBit_two_pow]
  rw [Bool.or_eq_true, decide_eq_true_eq]
  exact ⟨fun h => h.imp id Eq.symm, fun h => h.imp id Eq.symm⟩
/-- one lead grows -/
theorem gr_h {Sys : lV → Prop} {T : cbT} {M g k : Nat} {b c : List Nat} {R : Nat → Nat → Int} {L G hs s : Int → Int} (hc : grC T M g b c = true) (hS : clS Sys M g b c R L G hs s) (hk : lgB M g 6 0 = k) (k6 : k < 6) (hMk : M.testBit k = true) (hgk : g.testBit k = false) :
    insB (uR R 10 (xw 1 (R k))) L ∧ insB (uR (gr1 R L k 1).1 10 (xw 0 ((gr1 R L k 1).1 k))) (gr1 R L k 1).2 ∧ ∃ (M' : Nat) (b' c' : List Nat) (hs' s' : Int → Int), (M', g ||| 2 ^ k, b', c') ∈ T ∧ clS Sys M' (g ||| 2 ^ k) b' c' (gr1 (gr1 R L k 1).1 (gr1 R L k 1).2 k 0).1 (gr1 (gr1 R L k 1).1 (gr1 R L k 1).2 k 0).2 (uI G k 1) hs' s' := by
  obtain ⟨r, d, cm, hL, hG, hJ1, hJ2, hg, hgi⟩ := hS
  unfold grC at hc
  rw [hk] at hc
  dsimp only at hc
  rw [show Nat.beq k 6 = false by cases q : Nat.beq k 6; rfl; exact absurd (Nat.eq_of_beq_eq_true q) (by omega)] at hc
  obtain ⟨g1, g2, s1, s0⟩ := sh_g ⟨k, k6⟩
  have g1' : sh 1 k = gt [1, 3, 4, 6, 7, 8] k := g1
  have g2' : sh 0 k = gt [2, 4, 5, 7, 8, 9] k := g2
  have s1' : sh 1 k < 10 := s1
  have s0' : sh 0 k < 10 := s0
  have e := r.2.2.1
  have hk0 : hs k ≠ 0 := (r.2.1 k (by omega)).mpr hMk
  have hLk : L k ≠ 0 := (cm.2.1 k (by omega)).mpr hk0
  obtain ⟨u0, uz⟩ := cm.1 k (by omega) hLk
  have bk : ∀ i, i < 10 → zAbs (R k i) ≤ 2 ^ gt c k := fun i hi => by
    rw [cm.2.2.2 k (by omega) hLk i hi]
    exact crB_r e d (by omega) (Nat.le_refl _) hk0 (by omega)
  obtain ⟨x1, x2, x3⟩ := xw_h (w := 1) k6 u0 uz bk (Or.inr rfl) s1'
  have hc' : opB (fun M1 b1 c1 => opB (fun M2 b2 c2 => cbC M2 (g ||| 2 ^ k) b2 c2 T) M1 b1 c1 (gt [2, 4, 5, 7, 8, 9] k) (gt c1 k + 3)) M b c (gt [1, 3, 4, 6, 7, 8] k) (gt c k + 3) = true := hc
  rw [← g1', ← g2'] at hc'
  have e10 : uR R 10 (xw 1 (R k)) 10 = xw 1 (R k) := uR_s _ _ _
  obtain ⟨y1, M1, b1, c1, hs1, t1, f1, r1, d1, cm1, j1, st1⟩ := opB_h hc' (cmp_10 cm (xw 1 (R k))) r d s1' (by rw [e10]; exact x2) (by rw [e10]; exact x1) (by rw [e10]; exact x3)
  rw [e10] at j1
  have eg : insF (uR R 10 (xw 1 (R k))) L = gr1 R L k 1 := rfl
  rw [eg] at cm1
  have ec1 := r1.2.2.1
  have hk1 := stp_k st1 hk0
  have hLk1 : (gr1 R L k 1).2 k ≠ 0 := (cm1.2.1 k (by omega)).mpr hk1
  obtain ⟨v0, vz⟩ := cm1.1 k (by omega) hLk1
  have bk1 : ∀ i, i < 10 → zAbs ((gr1 R L k 1).1 k i) ≤ 2 ^ gt c1 k := fun i hi => by
    rw [cm1.2.2.2 k (by omega) hLk1 i hi]
    exact crB_r ec1 d1 (by omega) (Nat.le_refl _) hk1 (by omega)
  obtain ⟨z1, z2, z3⟩ := xw_h (w := 0) (u := (gr1 R L k 1).1 k) k6 v0 vz bk1 (Or.inl rfl) s0'
  have e20 : uR (gr1 R L k 1).1 10 (xw 0 ((gr1 R L k 1).1 k)) 10 = xw 0 ((gr1 R L k 1).1 k) := uR_s _ _ _
  obtain ⟨y2, M2, b2, c2, hs2, t2, f2, r2, d2, cm2, j2, st2⟩ := opB_h f1 (cmp_10 cm1 (xw 0 ((gr1 R L k 1).1 k))) r1 d1 s0' (by rw [e20]; exact z2) (by rw [e20]; exact z1) (by rw [e20]; exact z3)
  rw [e20] at j2
  have eg2 : insF (uR (gr1 R L k 1).1 10 (xw 0 ((gr1 R L k 1).1 k))) (gr1 R L k 1).2 = gr1 (gr1 R L k 1).1 (gr1 R L k 1).2 k 0 := rfl
  rw [eg2] at cm2
  obtain ⟨b', c', m', l', l2, w1, w2⟩ := cbC_h f2
  have p1 : pd (xw 1 (R k)) = xs 1 (rv s k) := by rw [← cmp_d e cm (by omega) hLk]; exact xw_pd k6 uz (Or.inr rfl)
  have p0 : pd (xw 0 ((gr1 R L k 1).1 k)) = xs 0 (rv t1 k) := by rw [← cmp_d ec1 cm1 (by omega) hLk1]; exact xw_pd k6 vz (Or.inl rfl)
  rw [p1] at j1
  rw [p0] at j2
  have dgr : ∀ {hs s : Int → Int}, ech hs s → hs k ≠ 0 → dg2 (rv s k) := fun {hs s} ec h j hj => by
    rcases Nat.lt_or_ge j 15 with q | q
    · exact (ec k (by omega) h).2.1 j (by omega) q
    · exact rv_o s k q
  have hg' : ∀ l : Nat, l < 6 → (g ||| 2 ^ k).testBit l = true → hs l ≠ 0 := fun l hl hb => by
    rcases (tb_or g k l).mp hb with q | q
    · exact hg l hl q
    · rw [q]; exact hk0
  have J1 : ∀ J, lin J → jr J hs1 t1 → jr J hs s := fun J hJ hj => ((j1 J hJ).mp hj).1
  have J2 : ∀ J, lin J → jr J hs2 t2 → jr J hs1 t1 := fun J hJ hj => ((j2 J hJ).mp hj).1
  have ga : gi 1 (g ||| 2 ^ k) hs1 t1 := gi_x st1 J1 hg' (fun l hl hb => by
    rcases (tb_or g k l).mp hb with q | q
    · exact Or.inl q
    · rw [q]; exact Or.inr (fun J hJ hj => ((j1 J hJ).mp hj).2)) (hgi 1 (Or.inr rfl))
  have gb_ : gi 0 g hs1 t1 := gi_x st1 J1 hg (fun l hl hb => Or.inl hb) (hgi 0 (Or.inl rfl))
  have hg1 : ∀ l : Nat, l < 6 → (g ||| 2 ^ k).testBit l = true → hs1 l ≠ 0 := fun l hl hb => stp_k st1 (hg' l hl hb)
  have gc : gi 1 (g ||| 2 ^ k) hs2 t2 := gi_x st2 J2 hg1 (fun l hl hb => Or.inl hb) ga
  have gd : gi 0 (g ||| 2 ^ k) hs2 t2 := gi_x st2 J2 hg1 (fun l hl hb => by
    rcases (tb_or g k l).mp hb with q | q
    · exact Or.inl q
    · rw [q]; exact Or.inr (fun J hJ hj => ((j2 J hJ).mp hj).2)) gb_
  refine ⟨y1, y2, M2, b', c', hs2, t2, m', rel_w r2 (by rw [l']; exact r2.1) w1, crB_w d2 (by rw [l2]; exact d2.1) w2, cm2, insF_01 (insF_01 hL), fun q hq => ?_, fun J hJ hj => hJ1 J hJ (J1 J hJ (J2 J hJ hj)), fun J hJ hu => ?_, fun l hl hb => stp_k st2 (hg1 l hl hb), fun w hw => ?_⟩
  · rw [tb_or]
    rcases Decidable.em (q = k) with e | e
    · rw [e, uI_s]
      exact ⟨Or.inr rfl, fun _ => Or.inr rfl, fun _ => rfl⟩
    · rw [uI_n _ _ (by omega)]
      obtain ⟨a1, a2⟩ := hG q hq
      exact ⟨a1, fun h => Or.inl (a2.mp h), fun h => a2.mpr (by rcases h with h | h; exact h; exact absurd h e)⟩
  · have h0 := hJ2 J hJ hu
    have h1 := (j1 J hJ.1).mpr ⟨h0, hJ.2 _ 1 (Or.inr rfl) (dgr e hk0) (h0 k (by omega) hk0)⟩
    exact (j2 J hJ.1).mpr ⟨h1, hJ.2 _ 0 (Or.inl rfl) (dgr ec1 hk1) (h1 k (by omega) hk1)⟩
  · rcases hw with rfl | rfl
    · exact gd
    · exact gc
def grT : cbT → List cbT → Bool
  | S, [] => grZ S
  | S, T :: Ts => grA T S && grT T Ts
theorem fiC_h {M g : Nat} {c : List Nat} (h : fiC M g c = true) (h6 : lgB M g 6 0 = 6) : gt c 9 ≤ 480 := by
  unfold fiC at h
  rw [h6] at h
  have h' : Nat.ble (gt c 9) 480 = true := h
  exact Nat.le_of_ble_eq_true h'
/-- what stands when all have grown -/
def clF (Sys : lV → Prop) (R : Nat → Nat → Int) (L G : Int → Int) : Prop := ∃ (M g : Nat) (b c : List Nat) (hs s : Int → Int), clS Sys M g b c R L G hs s ∧ (∀ k : Nat, k < 6 → M.testBit k = true → g.testBit k = true) ∧ gt c 9 ≤ 480
theorem grT_h {Sys : lV → Prop} : ∀ (Ts : List cbT) (S : cbT), grT S Ts = true → ∀ {M g : Nat} {b c : List Nat} {R : Nat → Nat → Int} {L G hs s : Int → Int}, (M, g, b, c) ∈ S → clS Sys M g b c R L G hs s → grB Ts.length R L G ∧ clF Sys (grF Ts.length R L G).1 (grF Ts.length R L G).2.1 (grF Ts.length R L G).2.2
  | [], S, h, M, g, b, c, R, L, G, hs, s, hm, hS => by
    obtain ⟨a1, a2⟩ := grZ_h h hm
    have a3 := fiC_h a2 a1
    have r := hS.1
    have cm := hS.2.2.1
    have h01 := hS.2.2.2.1
    rcases lgB_h (M := M) (g := g) (L := L) (G := G) (fun l hl => by
      rw [← r.2.1 l (by omega), ← cm.2.1 l (by omega)]
      have := h01 l (by omega) (by omega)
      omega) hS.2.2.2.2.1 6 0 rfl with ⟨-, -, q⟩ | ⟨q, -⟩
    · exact ⟨trivial, M, g, b, c, hs, s, hS, fun k hk => q k (Nat.zero_le _) hk, a3⟩
    · omega
  | T :: Ts, S, h, M, g, b, c, R, L, G, hs, s, hm, hS => by
    have h' := (Bool.and_eq_true _ _).mp h
    obtain ⟨a1, a2⟩ := grA_h h'.1 hm
    have r := hS.1
    have cm := hS.2.2.1
    have h01 := hS.2.2.2.1
    rw [List.length_cons]
    unfold grB grF
    rcases lgB_h (M := M) (g := g) (L := L) (G := G) (fun l hl => by
      rw [← r.2.1 l (by omega), ← cm.2.1 l (by omega)]
      have := h01 l (by omega) (by omega)
      omega) hS.2.2.2.2.1 6 0 rfl with ⟨q0, q1, q2⟩ | ⟨q0, q1, q2, q3⟩
    · have a3 := fiC_h a2 q0
      rw [q1]
      rw [if_pos (by decide)]
      exact ⟨Or.inl (by decide), M, g, b, c, hs, s, hS, fun k hk => q2 k (Nat.zero_le _) hk, a3⟩
    · obtain ⟨k, hk⟩ : ∃ k, lgB M g 6 0 = k := ⟨_, rfl⟩
      rw [hk] at q0 q1 q2 q3
      obtain ⟨y1, y2, M', b', c', hs', s', m', hS'⟩ := gr_h a1 hS hk q0 q2 q3
      rw [q1, show ((k : Nat) : Int).toNat = k from rfl]
      rw [if_neg (by omega)]
      obtain ⟨z1, z2⟩ := grT_h Ts T h'.2 m' hS'
      exact ⟨Or.inr ⟨y1, y2, z1⟩, z2⟩
