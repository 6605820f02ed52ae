/-! The class's rows: the run over the tables. -/
def clo3 (J : lV → Prop) : Prop := lin J ∧ ∀ (v : lV) (w : Int), (w = 0 ∨ w = 1) → dg2 v → J v → J (xs w v)
theorem clo_3 {J : lV → Prop} (h : clo J) : clo3 J := ⟨h.1, fun v w hw hz hv => h.2 v w hw (fun j hj => hz j (by omega)) hv⟩
def clS (Sys : lV → Prop) (M g : Nat) (b β : List Nat) (R : Nat → Nat → Int) (L G hs s : Int → Int) : Prop := rel M b hs s ∧ cmp R L hs s ∧ bnd β R L ∧ (∀ i : Int, 0 ≤ i → i < 10 → L i = 0 ∨ L i = 1) ∧ (∀ k : Nat, k < 6 → (G k = 0 ∨ G k = 1) ∧ (G k = 1 ↔ g.testBit k = true)) ∧ (∀ J, lin J → jr J hs s → ∀ u, Sys u → J u) ∧ (∀ J, clo3 J → (∀ u, Sys u → J u) → jr J hs s) ∧ ∀ k : Nat, k < 6 → g.testBit k = true → L k ≠ 0 ∧ ∀ J, lin J → jr J hs s → ∀ w : Int, (w = 0 ∨ w = 1) → J (xs w (pd (R k)))
theorem cmp_10 {R : Nat → Nat → Int} {L hs s : Int → Int} (c : cmp R L hs s) (v : Nat → Int) : cmp (uR R 10 v) L hs s := by
  obtain ⟨c0, c1, c2, c3, c4⟩ := c
  have rr : ∀ l, l < 10 → uR R 10 v l = R l := fun l hl => uR_n _ _ (by omega)
  refine ⟨uR_S c0, c1, c2, fun J hJ => ?_, fun l hl h2 => by rw [rr l hl]; exact c4 l hl h2⟩
  rw [c3 J hJ]
  exact (rj_c (fun l hl _ => rr l hl)).symm
theorem bnd_10 {β : List Nat} {R : Nat → Nat → Int} {L : Int → Int} (h : bnd β R L) (v : Nat → Int) : bnd β (uR R 10 v) L := fun l hl h2 i hi => by
  rw [uR_n _ _ (by omega)]
  exact h l hl h2 i hi
theorem lwB_h {M g : Nat} {L G : Int → Int} (h1 : ∀ l : Nat, l < 6 → (L l = 1 ↔ M.testBit l = true)) (h2 : ∀ k : Nat, k < 6 → (G k = 0 ∨ G k = 1) ∧ (G k = 1 ↔ g.testBit k = true)) : ∀ n i, i + n = 6 → (lwB M g n i = 6 ∧ lgS L G n i = -1 ∧ ∀ k, i ≤ k → k < 6 → M.testBit k = true → g.testBit k = true) ∨ (lwB M g n i < 6 ∧ lgS L G n i = (lwB M g n i : Nat) ∧ M.testBit (lwB M g n i) = true ∧ g.testBit (lwB M g n i) = false)
  | 0, i, hi => Or.inl ⟨rfl, rfl, fun k h1 h2 => by omega⟩
  | n + 1, i, hi => by
    have ih := lwB_h h1 h2 n (i + 1) (by omega)
    have a := h1 i (by omega)
    obtain ⟨b, c⟩ := h2 i (by omega)
    unfold lwB lgS
    rw [bt_e, bt_e]
    cases q1 : M.testBit i
    · rw [if_neg (show ¬ (L i = 1 ∧ G i = 0) from fun q => by rw [a.mp q.1] at q1; cases q1)]
      rcases ih with ⟨x, y, z⟩ | x
      · refine Or.inl ⟨x, y, fun k k0 k1 k2 => ?_⟩
        rcases Decidable.em (k = i) with q | q
        · rw [q, q1] at k2; cases k2
        · exact z k (by omega) k1 k2
      · exact Or.inr x
    · cases q2 : g.testBit i
      · rw [if_pos ⟨a.mpr q1, by rcases b with q | q; exact q; rw [c.mp q] at q2; cases q2⟩]
        exact Or.inr ⟨show i < 6 by omega, rfl, q1, q2⟩
      · rw [if_neg (show ¬ (L i = 1 ∧ G i = 0) from fun q => by have := c.mpr q2; omega)]
        rcases ih with ⟨x, y, z⟩ | x
        · refine Or.inl ⟨x, y, fun k k0 k1 k2 => ?_⟩
          rcases Decidable.em (k = i) with q | q
          · rw [q]; exact q2
          · exact z k (by omega) k1 k2
        · exact Or.inr x
theorem sh_g : ∀ k : Fin 6, sh 1 k.val = gt [1, 3, 4, 6, 7, 8] k.val ∧ sh 0 k.val = gt [2, 4, 5, 7, 8, 9] k.val ∧ sh 1 k.val < 10 ∧ sh 0 k.val < 10 := by decide +kernel
theorem xw_pd {u : Nat → Int} {k : Nat} (hk : k < 6) (hz : ∀ j, k < j → j < 10 → u j = 0) {w : Int} (hw : w = 0 ∨ w = 1) : pd (xw w u) = xs w (pd u) := by
  funext j
  have h6 : ∀ c, 6 ≤ c → pd u c = 0 := fun c hc => by
    rcases Nat.lt_or_ge c 10 with q | q
    · rw [pd_i q]; exact hz c (by omega) q
    · exact pd_o q
  rcases Nat.lt_or_ge j 10 with q | q
  · rw [pd_i q]
    unfold xw xs
    rcases Nat.lt_or_ge (shP w j) 6 with h | h
    · rw [if_pos h, if_pos ⟨by omega, by omega⟩, pd_i (by omega)]
    · rw [if_neg (by omega)]
      split
      · exact (h6 _ h).symm
      · rfl
  · rw [pd_o q]
    exact (xs_hi hw h6 q).symm
/-- x or y times a row: its top, its size -/
theorem xw_h {u : Nat → Int} {k β : Nat} (hk : k < 6) (u0 : 0 < u k) (hz : ∀ j, k < j → j < 10 → u j = 0) (hb : ∀ i, i < 10 → zAbs (u i) ≤ 2 ^ β) {w : Int} (hw : w = 0 ∨ w = 1) (h10 : sh w k < 10) : xw w u (sh w k) ≠ 0 ∧ (∀ j, sh w k < j → j < 10 → xw w u j = 0) ∧ nS (pd (xw w u)) 15 ≤ 2 ^ (β + 4) := by
  have e := xw_pd hk hz hw
  obtain ⟨-, b, c⟩ := xs_top (v := pd u) hw (show k < 10 by omega) (fun j hj _ => by
    rcases Nat.lt_or_ge j 10 with q | q
    · rw [pd_i q]; exact hz j hj q
    · exact pd_o q)
  rw [← e] at b c
  refine ⟨?_, fun j hj h2 => ?_, ?_⟩
  · rw [pd_i h10, pd_i (by omega)] at b
    rw [b]
    omega
  · have := c j hj
    rw [pd_i h2] at this
    exact this
  · have p0 := p2_pos β
    have h1 := nS_B (a := pd (xw w u)) (B := 2 ^ β) (n := 15) (fun j hj => by
      rcases Nat.lt_or_ge j 10 with q | q
      · rw [pd_i q]
        unfold xw
        split
        · exact hb _ (by omega)
        · show zAbs 0 ≤ 2 ^ β
          rw [show zAbs 0 = 0 from rfl]
          omega
      · rw [pd_o q]
        show zAbs 0 ≤ 2 ^ β
        rw [show zAbs 0 = 0 from rfl]
        omega)
    have h2 : (2 : Int) ^ (β + 4) = 2 ^ β * 16 := by rw [Int.pow_add]; rfl
    rw [h2]
    have h3 : ((15 : Nat) : Int) = 15 := rfl
    rw [h3] at h1
    omega
theorem tb_or (g k j : Nat) : (g ||| 2 ^ k).testBit j = true ↔ g.testBit j = true ∨ j = k := by
  rw [Nat.testBit_or, Nat.testBit_two_pow]
  rw [Bool.or_eq_true, decide_eq_true_eq]
  exact ⟨fun h => h.imp id Eq.symm, fun h => h.imp id Eq.symm⟩
/-- one lead grows -/
theorem gr_h {Sys : lV → Prop} {T : cbT} {M g k : Nat} {b β : List Nat} {R : Nat → Nat → Int} {L G hs s : Int → Int} (hc : grC T M g b β = true) (hS : clS Sys M g b β R L G hs s) (hk : lwB M g 6 0 = k) (k6 : k < 6) (hMk : M.testBit k = true) (hgk : g.testBit k = false) :
    insB (uR R 10 (xw 1 (R k))) L ∧ insB (uR (gr1 R L k 1).1 10 (xw 0 ((gr1 R L k 1).1 k))) (gr1 R L k 1).2 ∧ ∃ (M' : Nat) (b' β' : List Nat) (hs' s' : Int → Int), (M', g ||| 2 ^ k, b', β') ∈ T ∧ clS Sys M' (g ||| 2 ^ k) b' β' (gr1 (gr1 R L k 1).1 (gr1 R L k 1).2 k 0).1 (gr1 (gr1 R L k 1).1 (gr1 R L k 1).2 k 0).2 (uI G k 1) hs' s' := by
  obtain ⟨r, c, hb, hL, hG, hJ1, hJ2, hJ3⟩ := hS
  unfold grC at hc
  rw [hk] at hc
  dsimp only at hc
  rw [show Nat.beq k 6 = false by cases q : Nat.beq k 6; rfl; exact absurd (Nat.eq_of_beq_eq_true q) (by omega)] at hc
  obtain ⟨g1, g2, s1, s0⟩ := sh_g ⟨k, k6⟩
  have g1' : sh 1 k = gt [1, 3, 4, 6, 7, 8] k := g1
  have g2' : sh 0 k = gt [2, 4, 5, 7, 8, 9] k := g2
  have s1' : sh 1 k < 10 := s1
  have s0' : sh 0 k < 10 := s0
  have hLk : L k ≠ 0 := (c.2.1 k (by omega)).mpr ((r.2.1 k (by omega)).mpr hMk)
  obtain ⟨u0, uz⟩ := c.1 k (by omega) hLk
  obtain ⟨x1, x2, x3⟩ := xw_h (w := 1) k6 u0 uz (hb k (by omega) hLk) (Or.inr rfl) s1'
  have hc' : opB (fun M1 b1 β1 => opB (fun M2 b2 β2 => cbC M2 (g ||| 2 ^ k) b2 β2 T) M1 b1 β1 (gt [2, 4, 5, 7, 8, 9] k) (gt β1 k + 4)) M b β (gt [1, 3, 4, 6, 7, 8] k) (gt β k + 4) = true := hc
  rw [← g1', ← g2'] at hc'
  have c10 := cmp_10 c (xw 1 (R k))
  have b10 := bnd_10 hb (xw 1 (R k))
  have e10 : uR R 10 (xw 1 (R k)) 10 = xw 1 (R k) := uR_s _ _ _
  obtain ⟨y1, M1, b1, β1, hs1, t1, f1, r1, c1, bb1, j1, k1⟩ := opB_h hc' c10 r b10 s1' (by rw [e10]; exact x2) (by rw [e10]; exact x1) (by rw [e10]; exact x3)
  rw [e10] at j1
  have eg : insF (uR R 10 (xw 1 (R k))) L = gr1 R L k 1 := rfl
  rw [eg] at c1 bb1 k1
  obtain ⟨kr, kl⟩ := k1 k (by omega) hLk
  rw [uR_n _ _ (by omega)] at kr
  obtain ⟨z1, z2, z3⟩ := xw_h (w := 0) (u := (gr1 R L k 1).1 k) k6 (by rw [kr]; exact u0) (by rw [kr]; exact uz) (bb1 k (by omega) kl) (Or.inl rfl) s0'
  have c20 := cmp_10 c1 (xw 0 ((gr1 R L k 1).1 k))
  have b20 := bnd_10 bb1 (xw 0 ((gr1 R L k 1).1 k))
  have e20 : uR (gr1 R L k 1).1 10 (xw 0 ((gr1 R L k 1).1 k)) 10 = xw 0 ((gr1 R L k 1).1 k) := uR_s _ _ _
  obtain ⟨y2, M2, b2, β2, hs2, t2, f2, r2, c2, bb2, j2, k2⟩ := opB_h f1 c20 r1 b20 s0' (by rw [e20]; exact z2) (by rw [e20]; exact z1) (by rw [e20]; exact z3)
  rw [e20] at j2
  have eg2 : insF (uR (gr1 R L k 1).1 10 (xw 0 ((gr1 R L k 1).1 k))) (gr1 R L k 1).2 = gr1 (gr1 R L k 1).1 (gr1 R L k 1).2 k 0 := rfl
  rw [eg2] at c2 bb2 k2
  obtain ⟨b', β', m', l', w1, w2⟩ := cbC_h f2
  have p1 : pd (xw 1 (R k)) = xs 1 (pd (R k)) := xw_pd k6 uz (Or.inr rfl)
  have p0 : pd (xw 0 ((gr1 R L k 1).1 k)) = xs 0 (pd (R k)) := by rw [kr]; exact xw_pd k6 uz (Or.inl rfl)
  rw [p1] at j1
  rw [p0] at j2
  have jj : ∀ J, lin J → (jr J hs2 t2 ↔ jr J hs s ∧ J (xs 1 (pd (R k))) ∧ J (xs 0 (pd (R k)))) := fun J hJ => by
    rw [j2 J hJ, j1 J hJ]
    exact ⟨fun q => ⟨q.1.1, q.1.2, q.2⟩, fun q => ⟨⟨q.1, q.2.1⟩, q.2.2⟩⟩
  have rowk : ∀ l : Nat, l < 10 → L l ≠ 0 → (gr1 (gr1 R L k 1).1 (gr1 R L k 1).2 k 0).1 l = R l ∧ (gr1 (gr1 R L k 1).1 (gr1 R L k 1).2 k 0).2 l ≠ 0 := fun l hl h2 => by
    obtain ⟨a1, a2⟩ := k1 l hl h2
    obtain ⟨a3, a4⟩ := k2 l hl a2
    rw [uR_n _ _ (by omega)] at a1 a3
    exact ⟨by rw [a3, a1], a4⟩
  refine ⟨y1, y2, M2, b', β', hs2, t2, m', rel_w r2 (by rw [l']; exact r2.1) w1, c2, bnd_w bb2 w2, insF_01 (insF_01 hL), fun q hq => ?_, fun J hJ hj => hJ1 J hJ ((jj J hJ).mp hj).1, fun J hJ hu => ?_, fun q hq hqb => ?_⟩
  · rw [tb_or]
    rcases Decidable.em (q = k) with e | e
    · rw [e, uI_s]
      exact ⟨Or.inr rfl, fun _ => Or.inr rfl, fun _ => rfl⟩
    · rw [uI_n _ _ (by omega)]
      obtain ⟨a1, a2⟩ := hG q hq
      exact ⟨a1, fun h => Or.inl (a2.mp h), fun h => a2.mpr (by rcases h with h | h; exact h; exact absurd h e)⟩
  · have h0 := hJ2 J hJ hu
    have h1 := (c.2.2.2.1 J hJ.1).mp h0 k (by omega) hLk
    have hd : dg2 (pd (R k)) := fun j hj => by
      rcases Nat.lt_or_ge j 10 with q | q
      · rw [pd_i q]; exact uz j (by omega) q
      · exact pd_o q
    exact (jj J hJ.1).mpr ⟨h0, hJ.2 _ 1 (Or.inr rfl) hd h1, hJ.2 _ 0 (Or.inl rfl) hd h1⟩
  · rcases (tb_or g k q).mp hqb with h | h
    · obtain ⟨a1, a2⟩ := hJ3 q hq h
      obtain ⟨a3, a4⟩ := rowk q (by omega) a1
      refine ⟨a4, fun J hJ hj w hw => ?_⟩
      rw [a3]
      exact a2 J hJ ((jj J hJ).mp hj).1 w hw
    · obtain ⟨a3, a4⟩ := rowk q (by omega) (by rw [h]; exact hLk)
      refine ⟨a4, fun J hJ hj w hw => ?_⟩
      rw [a3, h]
      have := ((jj J hJ).mp hj).2
      rcases hw with rfl | rfl
      · exact this.2
      · exact this.1
def grT : cbT → List cbT → Bool
  | S, [] => grZ S
  | S, T :: Ts => grA T S && grT T Ts
theorem fiC_h {M g : Nat} {b β : List Nat} (h : fiC M g b β = true) (h6 : lwB M g 6 0 = 6) : (∀ k, gt b k ≤ 760) ∧ ∀ k, gt β k ≤ 760 := by
  unfold fiC at h
  rw [h6] at h
  have h' : smA b = true ∧ smA β = true := (Bool.and_eq_true _ _).mp h
  have sm : ∀ l : List Nat, smA l = true → ∀ k, gt l k ≤ 760 := fun l => by
    induction l with
    | nil => intro _ k; exact Nat.zero_le _
    | cons x r ih =>
      intro hl k
      have hx := List.all_eq_true.mp hl
      cases k with
      | zero => exact Nat.le_of_ble_eq_true (hx x List.mem_cons_self)
      | succ k => exact ih (List.all_eq_true.mpr (fun y hy => hx y (List.mem_cons_of_mem _ hy))) k
  exact ⟨sm b h'.1, sm β h'.2⟩
/-- what stands when all have grown -/
def clF (Sys : lV → Prop) (R : Nat → Nat → Int) (L G : Int → Int) : Prop := ∃ (M g : Nat) (b β : List Nat) (hs s : Int → Int), clS Sys M g b β R L G hs s ∧ (∀ k : Nat, k < 6 → M.testBit k = true → g.testBit k = true) ∧ (∀ k, gt b k ≤ 760) ∧ ∀ k, gt β k ≤ 760
theorem grT_h {Sys : lV → Prop} : ∀ (Ts : List cbT) (S : cbT), grT S Ts = true → ∀ {M g : Nat} {b β : List Nat} {R : Nat → Nat → Int} {L G hs s : Int → Int}, (M, g, b, β) ∈ S → clS Sys M g b β R L G hs s → grB Ts.length R L G ∧ clF Sys (grF Ts.length R L G).1 (grF Ts.length R L G).2.1 (grF Ts.length R L G).2.2
  | [], S, h, M, g, b, β, R, L, G, hs, s, hm, hS => by
    obtain ⟨a1, a2⟩ := grZ_h h hm
    obtain ⟨a3, a4⟩ := fiC_h a2 a1
    have r := hS.1
    have c := hS.2.1
    have h01 := hS.2.2.2.1
    rcases lwB_h (M := M) (g := g) (L := L) (G := G) (fun l hl => by
      rw [← r.2.1 l (by omega), ← c.2.1 l (by omega)]
      have := h01 l (by omega) (by omega)
      omega) hS.2.2.2.2.1 6 0 rfl with ⟨-, -, q⟩ | ⟨q, -⟩
    · exact ⟨trivial, M, g, b, β, hs, s, hS, fun k hk => q k (Nat.zero_le _) hk, a3, a4⟩
    · omega
  | T :: Ts, S, h, M, g, b, β, R, L, G, hs, s, hm, hS => by
    have h' := (Bool.and_eq_true _ _).mp h
    obtain ⟨a1, a2⟩ := grA_h h'.1 hm
    have r := hS.1
    have c := hS.2.1
    have h01 := hS.2.2.2.1
    rw [List.length_cons]
    unfold grB grF
    rcases lwB_h (M := M) (g := g) (L := L) (G := G) (fun l hl => by
      rw [← r.2.1 l (by omega), ← c.2.1 l (by omega)]
      have := h01 l (by omega) (by omega)
      omega) hS.2.2.2.2.1 6 0 rfl with ⟨q0, q1, q2⟩ | ⟨q0, q1, q2, q3⟩
    · obtain ⟨a3, a4⟩ := fiC_h a2 q0
      rw [q1]
      rw [if_pos (by decide)]
      exact ⟨Or.inl (by decide), M, g, b, β, hs, s, hS, fun k hk => q2 k (Nat.zero_le _) hk, a3, a4⟩
    · obtain ⟨k, hk⟩ : ∃ k, lwB M g 6 0 = k := ⟨_, rfl⟩
      rw [hk] at q0 q1 q2 q3
      obtain ⟨y1, y2, M', b', β', hs', s', m', hS'⟩ := gr_h a1 hS hk q0 q2 q3
      rw [q1, show ((k : Nat) : Int).toNat = k from rfl]
      rw [if_neg (by omega)]
      obtain ⟨z1, z2⟩ := grT_h Ts T h'.2 m' hS'
      exact ⟨Or.inr ⟨y1, y2, z1⟩, z2⟩
/-- a polynomial of the system is laid down -/
theorem or_h {Sys : lV → Prop} {T S : cbT} {M g : Nat} {b β : List Nat} {R : Nat → Nat → Int} {L G hs s : Int → Int} (h : orA T S = true) (hm : (M, g, b, β) ∈ S) (hS : clS Sys M g b β R L G hs s) {v : Nat → Int} (h6 : ∀ j, 6 ≤ j → j < 10 → v j = 0) (hv : nS (pd v) 15 ≤ 2 ^ 5) :
    insB (uR R 10 v) L ∧ ∃ (M' : Nat) (b' β' : List Nat) (hs' s' : Int → Int), (M', 0, b', β') ∈ T ∧ clS (fun u => Sys u ∨ u = pd v) M' 0 b' β' (insF (uR R 10 v) L).1 (insF (uR R 10 v) L).2 G hs' s' := by
  obtain ⟨g0, cv, op⟩ := orA_h h hm
  subst g0
  obtain ⟨r, c, hb, hL, hG, hJ1, hJ2, hJ3⟩ := hS
  have e10 : uR R 10 v 10 = v := uR_s _ _ _
  have mk : ∀ (M' : Nat) (b' β' : List Nat) (hs' s' : Int → Int), cbC M' 0 b' β' T = true → rel M' b' hs' s' → cmp (insF (uR R 10 v) L).1 (insF (uR R 10 v) L).2 hs' s' → bnd β' (insF (uR R 10 v) L).1 (insF (uR R 10 v) L).2 → (∀ J, lin J → (jr J hs' s' ↔ jr J hs s ∧ J (pd v))) → ∃ (M' : Nat) (b' β' : List Nat) (hs' s' : Int → Int), (M', 0, b', β') ∈ T ∧ clS (fun u => Sys u ∨ u = pd v) M' 0 b' β' (insF (uR R 10 v) L).1 (insF (uR R 10 v) L).2 G hs' s' := by
    intro M' b' β' hs' s' f r' c' bb' jj
    obtain ⟨b2, β2, m2, l2, w1, w2⟩ := cbC_h f
    refine ⟨M', b2, β2, hs', s', m2, rel_w r' (by rw [l2]; exact r'.1) w1, c', bnd_w bb' w2, insF_01 hL, hG, fun J hJ hj u hu => ?_, fun J hJ hu => ?_, fun q hq hqb => ?_⟩
    · rcases hu with hu | hu
      · exact hJ1 J hJ ((jj J hJ).mp hj).1 u hu
      · rw [hu]; exact ((jj J hJ).mp hj).2
    · exact (jj J hJ.1).mpr ⟨hJ2 J hJ (fun u q => hu u (Or.inl q)), hu _ (Or.inr rfl)⟩
    · rw [Nat.zero_testBit] at hqb
      cases hqb
  rcases top_6 v 6 with ⟨p, p0, p1, p2⟩ | z
  · have hz : ∀ j, p < j → j < 10 → v j = 0 := fun j j0 j1 => by
      rcases Nat.lt_or_ge j 6 with q | q
      · exact p2 j j0 q
      · exact h6 j q j1
    obtain ⟨y, M', b', β', hs', s', f, r', c', bb', jj, -⟩ := opB_h (orP_h op p p0) (cmp_10 c v) r (bnd_10 hb v) (by omega) (by rw [e10]; exact hz) (by rw [e10]; exact p1) (by rw [e10]; exact hv)
    rw [e10] at jj
    exact ⟨y, mk M' b' β' hs' s' f r' c' bb' jj⟩
  · have v0 : ∀ j, j < 10 → v j = 0 := fun j hj => by
      rcases Nat.lt_or_ge j 6 with q | q
      · exact z j q
      · exact h6 j q hj
    have rz := rdF_s (R := uR R 10 v) (L := L) (v := v) (t := -1) 0 10 (fun j _ hj => v0 j (by omega))
    rw [Nat.zero_add] at rz
    obtain ⟨rz1, rz2⟩ := rz
    have rz1' : rdF (uR R 10 v) L 10 v (-1) = (v, -1) := rz1
    have ei : insF (uR R 10 v) L = (uR (uR R 10 v) 10 v, L) := by
      unfold insF
      rw [e10, rz1']
      exact if_pos (show (-1 : Int) < 0 by decide)
    have p0 : pd v = fun _ => 0 := funext (fun j => by
      rcases Nat.lt_or_ge j 10 with q | q
      · rw [pd_i q]; exact v0 j q
      · exact pd_o q)
    refine ⟨⟨by rw [e10]; exact rz2.mpr trivial, fun i hi => ?_⟩, mk M b β hs s cv r (by rw [ei]; exact cmp_10 (cmp_10 c v) v) (by rw [ei]; exact bnd_10 (bnd_10 hb v) v) (fun J hJ => ⟨fun q => ⟨q, by rw [p0]; exact hJ.2.2⟩, fun q => q.1⟩)⟩
    rw [e10, rz1']
    show zAbs (v i) < cB ^ 78
    rw [v0 i hi]
    exact cB_pos 78
