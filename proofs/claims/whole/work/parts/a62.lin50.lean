/-! The class's rows: the polynomials told are laid down. -/
def tld (M : Nat) (hs s : Int → Int) : Prop := (∀ l : Nat, l < 15 → (hs l ≠ 0 ↔ M.testBit l = true)) ∧ ech hs s ∧ ∀ p, p < 15 → ∃ G L, crt hs s p G L ∧ ∀ g, g ∈ G → e5 15 g
theorem rep_g (x : Nat) : ∀ (n p : Nat), p < n → (List.replicate n x).getD p 0 = x
  | 0, _, h => absurd h (Nat.not_lt_zero _)
  | _ + 1, 0, _ => rfl
  | n + 1, p + 1, h => rep_g x n p (by omega)
/-- no more vectors than leads -/
theorem tld_n {M : Nat} {hs s : Int → Int} (h : tld M hs s) (hM : M < 64) {p : Nat} {G : List lV} {L : List Nat} (c : crt hs s p G L) : G.length ≤ pcB M := by
  have gl : G.length = L.length := by
    rcases Decidable.em (G.length = L.length) with q | q
    · exact q
    · exact absurd (dt_len G L q) c.1
  obtain ⟨n1, n2, n3⟩ := pcB_h ⟨M, hM⟩
  have n1' : (nbL M).Nodup := n1
  have n2' : ∀ t, t ∈ nbL M → t < 6 ∧ M.testBit t = false := n2
  have n3' : pcB M + (nbL M).length = 6 := n3
  have low : ∀ l, M.testBit l = true → l < 6 := fun l hl => by
    rcases Nat.lt_or_ge l 6 with q | q
    · exact q
    · have h1 : M < 2 ^ l := Nat.lt_of_lt_of_le (show M < 2 ^ 6 from hM) (Nat.pow_le_pow_right (show 0 < 2 by decide) q)
      rw [Nat.testBit_lt_two_pow h1] at hl
      cases hl
  have lb : ∀ j, j ∈ L → M.testBit j = true := fun j hj => (h.1 j (c.2.2.1 j hj).1).mp (c.2.2.1 j hj).2
  have := len_n (l := L ++ nbL M) (n := 6) (List.nodup_append.mpr ⟨c.2.1, n1', fun x hx y hy q => by
    have h1 := lb x hx
    rw [q, (n2' y hy).2] at h1
    cases h1⟩) (fun t ht => by
    rcases List.mem_append.mp ht with q | q
    · exact low t (lb t q)
    · exact (n2' t q).1)
  rw [List.length_append] at this
  omega
theorem tld_r {M : Nat} {hs s : Int → Int} (h : tld M hs s) (hM : M < 64) : rel M (bg5 M) hs s := by
  refine ⟨List.length_replicate, h.1, h.2.1, fun p hp => ?_⟩
  obtain ⟨G, L, c, g⟩ := h.2.2 p hp
  have n := tld_n h hM c
  refine ⟨G, L, c, ?_⟩
  have h1 := nP_pow (N := 15) (B := 32) (by decide) G (fun x hx => by have := (g x hx).2; omega)
  have h2 : (32 : Int) ^ G.length = 2 ^ (5 * G.length) := by rw [Int.pow_mul]; rfl
  rw [h2] at h1
  have e : (bg5 M).getD p 0 = 5 * pcB M := rep_g _ 15 p hp
  rw [e]
  exact Int.le_trans h1 (p2_m (by omega))
theorem fb_h {n m : Nat} (h : n ≤ m) (hm : m ≤ 4) : fB n ≤ 2 ^ gt fbT m := by
  obtain ⟨f4, f3, f2, f1, f0, -⟩ := fB_v
  have h1 := fB_m h
  have hm' : m = 0 ∨ m = 1 ∨ m = 2 ∨ m = 3 ∨ m = 4 := by omega
  rcases hm' with rfl | rfl | rfl | rfl | rfl
  · exact Int.le_trans h1 f0
  · exact Int.le_trans h1 f1
  · exact Int.le_trans h1 f2
  · exact Int.le_trans h1 f3
  · exact Int.le_trans h1 f4
theorem tld_c {M : Nat} {hs s : Int → Int} (h : tld M hs s) (hM : M < 64) (h4 : pcB M ≤ 4) : crB (bgc M) hs s := by
  refine ⟨by unfold bgc; rw [nrB_e, nrL_n]; exact List.length_replicate, fun p hp => ?_⟩
  unfold bgc
  rw [nrB_e, gt_e]
  rcases nrL_g M (List.replicate 15 (gt fbT (pcB M))) 0 p (by rw [List.length_replicate]; exact hp) with ⟨g1, g2⟩ | g1
  · rw [g1]
    refine ⟨_, _, crt_u hp h.2.1 (fun j hj => (h.1 j (by omega)).mpr (g2 j (Nat.zero_le j) (by omega))), ?_⟩
    rw [Int.pow_zero]
    exact dB_m (dB_n 15 _) (unG_p _)
  · rw [g1, rep_g _ 15 p hp]
    obtain ⟨G, L, c, g⟩ := h.2.2 p hp
    exact ⟨G, L, c, dB_m (dB_5 g) (fb_h (tld_n h hM c) h4)⟩
def tS (Sys : lV → Prop) (M : Nat) (R : Nat → Nat → Int) (L G hs s : Int → Int) : Prop := tld M hs s ∧ M < 64 ∧ cmp R L hs s ∧ (∀ i : Int, 0 ≤ i → i < 10 → L i = 0 ∨ L i = 1) ∧ (∀ k : Nat, k < 6 → G k = 0) ∧ (∀ J, lin J → jr J hs s → ∀ u, Sys u → J u) ∧ ∀ J, clo3 J → (∀ u, Sys u → J u) → jr J hs s
/-- a polynomial of the system is laid down -/
theorem or_h {Sys : lV → Prop} {M : Nat} {R : Nat → Nat → Int} {L G hs s : Int → Int} (hS : tS Sys M R L G hs s) (h3 : pcB M ≤ 3) {v : Nat → Int} (h6 : ∀ j, 6 ≤ j → j < 10 → v j = 0) (h5 : ∀ j, j < 10 → zAbs (v j) ≤ 5) (hv : nS (pd v) 15 ≤ 30) :
    insB (uR R 10 v) L ∧ ∃ (M' : Nat) (hs' s' : Int → Int), pcB M' ≤ pcB M + 1 ∧ tS (fun u => Sys u ∨ u = pd v) M' (insF (uR R 10 v) L).1 (insF (uR R 10 v) L).2 G hs' s' := by
  obtain ⟨td, hM, cm, hL, hG, hJ1, hJ2⟩ := hS
  have r := tld_r td hM
  have d := tld_c td hM (by omega)
  have e := td.2.1
  have e10 : uR R 10 v 10 = v := uR_s _ _ _
  have b9 : gt (bgc M) 9 ≤ 14 := bgc_9 ⟨M, hM⟩ (by show pcB M ≤ 4; omega)
  have c10 := cmp_10 cm v
  have hvi : ∀ i, i < 10 → zAbs (uR R 10 v 10 i) ≤ 2 ^ 5 := fun i hi => by
    rw [e10]
    have := h5 i hi
    have h2 : (2 : Int) ^ 5 = 32 := rfl
    omega
  have mkS : ∀ (hs' s' : Int → Int), (∀ J, lin J → (jr J hs' s' ↔ jr J hs s ∧ J (pd v))) → (∀ J, lin J → jr J hs' s' → ∀ u, (Sys u ∨ u = pd v) → J u) ∧ ∀ J, clo3 J → (∀ u, (Sys u ∨ u = pd v) → J u) → jr J hs' s' := fun hs' s' jj => ⟨fun J hJ hj u hu => by
      rcases hu with hu | hu
      · exact hJ1 J hJ ((jj J hJ).mp hj).1 u hu
      · rw [hu]; exact ((jj J hJ).mp hj).2, fun J hJ hu => (jj J hJ.1).mpr ⟨hJ2 J hJ (fun u q => hu u (Or.inl q)), hu _ (Or.inr rfl)⟩⟩
  rcases top_6 v 6 with ⟨p, p0, p1, p2⟩ | z
  · have hz : ∀ j, p < j → j < 10 → v j = 0 := fun j j0 j1 => by
      rcases Nat.lt_or_ge j 6 with q | q
      · exact p2 j j0 q
      · exact h6 j q j1
    have g5 : ∀ p, p < 15 → (bg5 M).getD p 0 = 5 * pcB M := fun p hp => rep_g _ 15 p hp
    have hw : nS (pd (uR R 10 v 10)) 15 ≤ 2 ^ 5 := by
      rw [e10]
      have h2 : (2 : Int) ^ 5 = 32 := rfl
      omega
    rcases ins_h (p := p) (w := 5) c10 r (by omega) (by rw [e10]; exact hz) hw (by rw [g5 p (by omega)]; omega) (by rw [g5 p (by omega), g5 14 (by decide)]; omega) with ⟨a1, a2, a3, a4, a5⟩ | ⟨t, s', t0, t1, t2, a1, a2, a3, a4, a5, a6, a7, a8, a9, a10⟩
    · rw [e10] at a4
      obtain ⟨m1, m2⟩ := mkS hs s (fun J hJ => ⟨fun q => ⟨q, a4 J hJ q⟩, fun q => q.1⟩)
      exact ⟨insB_h e c10 d hvi (by omega) (fun t ht => absurd (a3.symm.trans ht) (by omega)), M, hs, s, by omega, td, hM, by rw [a2]; exact a1, insF_01 hL, hG, m1, m2⟩
    · rw [e10] at a6 a7 a8 a9
      have t6 : t < 6 := by omega
      obtain ⟨o1, o2⟩ := pcB_o ⟨M, hM⟩ ⟨t, t6⟩ t1
      have o1' : (M ||| 2 ^ t) < 64 := o1
      have o2' : pcB (M ||| 2 ^ t) = pcB M + 1 := o2
      have e' : ech (uI hs t 1) s' := a1.2.2.1
      have cl : ∀ {q : Nat} {G : List lV} {L : List Nat}, crt hs s q G L → crt hs (lay s (pd v)) q G L := fun ⟨c0, c1, c2, c3⟩ => ⟨c0, c1, c2, fun l a b' c => by rw [lay_r s (pd v) b']; exact c3 l a b' c⟩
      have e2 : ech hs (lay s (pd v)) := fun l l0 l1 => by
        rw [lay_r s (pd v) l0]
        exact e l l0 l1
      have wz : ∀ j, p < j → j < 15 → wv (lay s (pd v)) j = 0 := fun j j0 j1 => by
        rw [lay_w]
        rcases Nat.lt_or_ge j 10 with g | g
        · rw [pd_i g]; exact hz j j0 g
        · exact pd_o g
      have ev : e5 15 (wv (lay s (pd v))) := by
        rw [lay_w]
        refine ⟨fun j => ?_, hv⟩
        rcases Nat.lt_or_ge j 10 with g | g
        · rw [pd_i g]; exact h5 j g
        · rw [pd_o g]; decide
      have up : ∀ {G : List lV}, (∀ g, g ∈ G → e5 15 g) → ∀ g, g ∈ wv (lay s (pd v)) :: G → e5 15 g := fun hG g hg => by
        rcases List.mem_cons.mp hg with q | q
        · rw [q]; exact ev
        · exact hG g q
      have td' : tld (M ||| 2 ^ t) (uI hs t 1) s' := by
        refine ⟨a1.2.1, e', fun q hq => ?_⟩
        rcases Nat.lt_or_ge q p with g3 | g3
        · rcases Nat.lt_or_ge q t with g4 | g4
          · obtain ⟨G', L', c', n'⟩ := td.2.2 q hq
            exact ⟨G', L', crt_l g4 t2 a8 (cl c'), n'⟩
          · obtain ⟨G, L, c, n⟩ := td.2.2 p (by omega)
            exact ⟨_, _, crt_m (by omega) (crt_n e2 e' (Nat.le_refl p) (by omega) t0 t2 wz a6 a7 (cl c)), up n⟩
        · obtain ⟨G', L', c', n'⟩ := td.2.2 q hq
          exact ⟨_, _, crt_n e2 e' g3 (by omega) t0 t2 wz a6 a7 (cl c'), up n'⟩
      have d' := tld_c td' o1' (by omega)
      have b9' : gt (bgc (M ||| 2 ^ t)) 9 ≤ 14 := bgc_9 ⟨_, o1'⟩ (by show pcB (M ||| 2 ^ t) ≤ 4; omega)
      obtain ⟨p0', -, -, -⟩ := e' t (by omega) (by rw [uI_s]; decide)
      obtain ⟨m1, m2⟩ := mkS (uI hs t 1) s' a9
      refine ⟨insB_h e c10 d hvi (by omega) (fun t' ht' => ?_), M ||| 2 ^ t, uI hs t 1, s', by omega, td', o1', by rw [a3]; exact a2, insF_01 hL, hG, m1, m2⟩
      have : t' = t := by omega
      subst this
      exact ⟨by omega, 14, by omega, by rw [a5 t' (by omega)]; exact p0', fun i hi => by rw [a5 i hi]; exact Int.le_trans (crB_r e' d' (p := 9) (by decide) (by omega) (by rw [uI_s]; decide) (by omega)) (p2_m b9')⟩
  · have v0 : ∀ j, j < 10 → v j = 0 := fun j hj => by
      rcases Nat.lt_or_ge j 6 with q | q
      · exact z j q
      · exact h6 j q hj
    have rz := rdF_s (R := uR R 10 v) (L := L) (v := v) (t := -1) 0 10 (fun j _ hj => v0 j (by omega))
    rw [Nat.zero_add] at rz
    obtain ⟨rz1, rz2⟩ := rz
    have rz1' : rdF (uR R 10 v) L 10 v (-1) = (v, -1) := rz1
    have ei : insF (uR R 10 v) L = (uR (uR R 10 v) 10 v, L) := by
      unfold insF
      rw [e10, rz1']
      exact if_pos (show (-1 : Int) < 0 by decide)
    have p0 : pd v = fun _ => 0 := funext (fun j => by
      rcases Nat.lt_or_ge j 10 with q | q
      · rw [pd_i q]; exact v0 j q
      · exact pd_o q)
    obtain ⟨m1, m2⟩ := mkS hs s (fun J hJ => ⟨fun q => ⟨q, by rw [p0]; exact hJ.2.2⟩, fun q => q.1⟩)
    refine ⟨⟨by rw [e10]; exact rz2.mpr trivial, fun t ht => ?_⟩, M, hs, s, by omega, td, hM, by rw [ei]; exact cmp_10 (cmp_10 cm v) v, insF_01 hL, hG, m1, m2⟩
    rw [e10, rz1'] at ht
    have ht' : (-1 : Int) = t := ht
    omega
