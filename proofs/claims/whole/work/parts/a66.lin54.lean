/-! The sizes of the reduced rows in the finite case by one determinant. -/
theorem row_y {B' : Int} {Gs : lV → Prop} {B : Nat → Prop} {N : Nat} {G : List lV} {L : List Nat} {v : lV} {m : Nat} (db : dB N G B') (c : crtN Gs B N G L) (hn : ∀ g, Gs g → nul G g) (hv : spo Gs v) (hm : m < N) (h0 : v m ≠ 0) (hs : ∀ j, j < N → j ≠ m → ¬ B j → v j = 0) (hp : ∀ c : Int, (∀ k, k < N → c ∣ v k) → c ∣ 1) : v m ∣ dt G L ∧ ∀ k, k < N → ∃ P, v k * dt G L = v m * P ∧ zAbs P ≤ B' := by
  have nv := hv (nul G) (nul_lin G) hn
  have hmL : m ∈ L := by
    rcases Decidable.em (m ∈ L) with q | q
    · exact q
    · have h1 : v m * dt G L = 0 := by
        rw [← dt_z (w := v) (t := m) (fun j hj => hs j (c.2.2.2 j hj).1 (fun e => q (e ▸ hj)) (c.2.2.2 j hj).2)]
        exact nv _
      rcases Int.mul_eq_zero.mp h1 with e | e
      · exact absurd e h0
      · exact absurd e c.2.1
  have cr := fun k hk => cramB (n := N) (k := k) db nv c.2.2.1 (fun j hj => (c.2.2.2 j hj).1) hmL (fun j hj hne => hs j (c.2.2.2 j hj).1 hne (c.2.2.2 j hj).2) hk
  exact ⟨prim_d (n := N) h0 hp (fun k hk => by
    obtain ⟨P, e, -⟩ := cr k hk
    exact ⟨P, e⟩), fun k hk => cr k hk⟩
theorem bs_5 {w : Int} {v : lV} (h : ∀ j, zAbs (v j) ≤ 5) (j : Nat) : zAbs (bs w v j) ≤ 5 := by
  have z : zAbs 0 ≤ 5 := by decide
  unfold bs xs
  repeat' split
  all_goals first | exact z | exact h _
theorem gs_5 {S : lV → Prop} (hS : ∀ u, S u → ∀ j, zAbs (u j) ≤ 5) : ∀ (d : Nat) (u : lV), gs S d u → ∀ j, zAbs (u j) ≤ 5
  | 0, u, h => hS u h
  | d + 1, u, h => by
    rcases h with h | ⟨w, t, hw, ht, e⟩
    · exact gs_5 hS d u h
    · rw [e]
      exact bs_5 (gs_5 hS d t ht)
def btC (n : Nat) : Nat := match n with
  | 4 => 24
  | 3 => 53
  | 2 => 88
  | _ => 93
theorem row_C {hs0 s0 sy : Int → Int} {z : (Int → Int) × (Int → Int)} {P : Nat} (f : fin hs0 s0 z) (hsys : ∀ J, lin J → (jr J hs0 s0 ↔ ∀ q : Nat, q < P → J (sv sy (6 * q)))) (hb : ∀ k : Nat, k < 24 → -5 ≤ sy k ∧ sy k ≤ 5) (hP : P ≤ 4) {sl : List Nat} (sn : sl.Nodup) (s6 : ∀ t, t ∈ sl → t < 6 ∧ z.1 t = 0) (hB : ∀ j : Nat, j < 15 → z.1 j = 0 → j < 6) (h4 : sl.length ≤ 4) (h1 : 1 ≤ sl.length) (h0 : z.1 (0 : Nat) = 0) : ∃ Δ : Int, Δ ≠ 0 ∧ zAbs Δ ≤ 2 ^ btC sl.length ∧ ∀ k : Nat, k < 10 → z.1 k ≠ 0 → (k < 6 ∨ 2 ≤ sl.length) → rv z.2 k k ∣ Δ ∧ ∀ j, j < 15 → ∃ Q, rv z.2 k j * Δ = rv z.2 k k * Q ∧ zAbs Q ≤ 2 ^ btC sl.length := by
  have e := fin_e f
  have wc := wW_c f
  obtain ⟨S, hS'⟩ : ∃ S : lV → Prop, S = fun u => ∃ q : Nat, q < P ∧ u = sv sy (6 * q) := ⟨_, rfl⟩
  have hS : ∀ u, S u → dg2 u := fun u hu j hj => by
    rw [hS'] at hu
    obtain ⟨q, -, rfl⟩ := hu
    unfold sv
    rw [if_neg (by omega)]
  have hSW : ∀ u, S u → wW z u := fun u hu => by
    refine ⟨?_, fun j hj => hS u hu j (by omega)⟩
    rw [hS'] at hu
    obtain ⟨q, q0, rfl⟩ := hu
    exact (hsys _ (wsp_lin z.1 z.2)).mp (f.2.2.1 _ (wsp_lin _ _) wsp_r) q q0
  have hSn : ∀ u, S u → nS u 21 ≤ 30 := fun u hu => by
    rw [hS'] at hu
    obtain ⟨q, q0, rfl⟩ := hu
    exact sv_n hb (by omega)
  have hWJ : ∀ J, clo J → (∀ u, S u → J u) → ∀ v, wW z v → J v := fun J hJ h v hv => wW_J f hJ ((hsys J hJ.1).mpr (fun q hq => h _ (by rw [hS']; exact ⟨q, hq, rfl⟩))) hv
  have ldW : ∀ t : Nat, t < 15 → z.1 t ≠ 0 → ld (wW z) t := fun t ht h => ⟨rv z.2 t, wW_r ht h, by have := (e t ht h).1; omega, rv_z e ht h⟩
  have n6 : z.1 (6 : Nat) ≠ 0 := fun q => absurd (hB 6 (by decide) q) (by decide)
  have n9 : z.1 (9 : Nat) ≠ 0 := fun q => absurd (hB 9 (by decide) q) (by decide)
  have l6 := ldW 6 (by decide) n6
  have l9 := ldW 9 (by decide) n9
  have ldz : ∀ t : Nat, t < 6 → ∀ i, ld (Cn S i) t → z.1 t ≠ 0 := fun t ht i h => by
    obtain ⟨v, v0, v1, v2⟩ := h
    exact wsp_t e (Cn_J hS wc hSW i v v0).1 (by omega) v1 (fun j hj _ => v2 j hj)
  obtain ⟨a, b, a6, b6, ab, la, lb⟩ := two_at hS hWJ (fun q => ldz 0 (by decide) 0 q h0) l6 l9
  obtain ⟨i, i4, hi⟩ := stab hS (K := fun t => z.1 (t : Int) ≠ 0) (N := 6 - sl.length) (fun i t ht h => ldz t ht i h) (fun l ln hl => by
    have := len_n (l := l ++ sl) (n := 6) (List.nodup_append.mpr ⟨ln, sn, fun x hx y hy q => (hl x hx).2 (by rw [q]; exact (s6 y hy).2)⟩) (fun t ht => by
      rcases List.mem_append.mp ht with q | q
      · exact (hl t q).1
      · exact (s6 t q).1)
    rw [List.length_append] at this
    omega) (4 - sl.length) 0 [a, b] (List.nodup_cons.mpr ⟨fun q => ab (List.mem_singleton.mp q), List.nodup_cons.mpr ⟨fun q => (by cases q), List.nodup_nil⟩⟩) (fun t ht => by
      rcases List.mem_cons.mp ht with q | q
      · rw [q]; exact ⟨a6, la⟩
      · rw [List.mem_singleton.mp q]; exact ⟨b6, lb⟩) (by show 6 - sl.length ≤ 2 + (4 - sl.length); omega)
  have cU := clU_C hS hi
  have tA := thA hWJ cU (fun u hu => Cn_0 hS hu i) l6 l9
  obtain ⟨d, hd⟩ : ∃ d, (if sl.length = 1 then 3 else 5 - sl.length) = d := ⟨_, rfl⟩
  have d3 : d ≤ 3 := by
    rw [← hd]
    split <;> omega
  -- the certificate
  have N := nfd_W f hB
  have gz := gs_d hS d d3
  have gk : ∀ g, gs S d g → ∀ j, nL (pvD z.1 z.2 15) (nfR z.1 z.2) g j = 0 := fun g hg => by
    have two := gs_W hS wc hSW
    rcases Nat.lt_or_ge d 3 with q | q
    · have := two d (by omega) g hg
      exact nL_4 N this.2 this
    · have d3' : d = 3 := by omega
      subst d3'
      rcases hg with hg | ⟨w, t, hw, ht, eg⟩
      · have := two 2 (by omega) g hg
        exact nL_4 N this.2 this
      · have := two 2 (by omega) t ht
        rw [eg]
        exact nL_5 N this.2 this hw
  obtain ⟨G, L, c, hG⟩ := crt_x (Gs := gs S d) (J := fun v => ∀ j, nL (pvD z.1 z.2 15) (nfR z.1 z.2) v j = 0) (B := fun j : Nat => j < 15 ∧ z.1 j = 0) (N := cD d) nL_lin gk gz (fun v hv hb hz => nL_B N (fun j hj => by
    rcases Nat.lt_or_ge j (cD d) with q | q
    · exact hb j q hj
    · exact hz j q) hv) (cD d) [] [] ⟨fun g hg => (by cases hg), by decide, List.nodup_nil, fun j hj => (by cases hj)⟩ (by show cD d ≤ 0 + cD d; omega)
  have gl : G.length = L.length := by
    rcases Decidable.em (G.length = L.length) with q | q
    · exact q
    · exact absurd (dt_len G L q) c.2.1
  have ll : L.length + sl.length ≤ cD d := by
    rw [← List.length_append]
    refine len_n (List.nodup_append.mpr ⟨c.2.2.1, sn, fun x hx y hy q => (c.2.2.2 x hx).2 ?_⟩) (fun t ht => ?_)
    · rw [q]
      exact ⟨by have := (s6 y hy).1; omega, (s6 y hy).2⟩
    · rcases List.mem_append.mp ht with q | q
      · exact (c.2.2.2 t q).1
      · have := (s6 t q).1
        have := cD_6 d
        omega
  have hS5 : ∀ u, S u → ∀ j, zAbs (u j) ≤ 5 := fun u hu j => by
    rw [hS'] at hu
    obtain ⟨q, q0, rfl⟩ := hu
    unfold sv
    split
    · have := hb (6 * q + j) (by omega)
      rw [show ((6 * q + j : Nat) : Int) = 6 * (q : Int) + j by omega] at this
      unfold zAbs
      split <;> omega
    · decide
  have nb : dB (cD d) G (fB G.length) := dB_5 (fun g hg => by
    refine ⟨gs_5 hS5 d g (c.1 g hg), ?_⟩
    have h21 : cD d ≤ 21 := by
      have : d = 0 ∨ d = 1 ∨ d = 2 ∨ d = 3 := by omega
      rcases this with rfl | rfl | rfl | rfl <;> decide
    have h1 := nS_up g (cD d) (21 - cD d)
    rw [show cD d + (21 - cD d) = 21 by omega] at h1
    exact Int.le_trans h1 (gs_n hSn d g (c.1 g hg)))
  have nb2 : fB G.length ≤ 2 ^ btC sl.length := by
    have bnd : fB G.length ≤ fB (cD d - sl.length) := fB_m (by omega)
    obtain ⟨-, -, -, -, -, b1, b2, b3, b4⟩ := fB_v
    have hn' : sl.length = 1 ∨ sl.length = 2 ∨ sl.length = 3 ∨ sl.length = 4 := by omega
    rcases hn' with q | q | q | q <;> (rw [q] at hd bnd ⊢; subst hd)
    · exact Int.le_trans bnd b4
    · exact Int.le_trans bnd b3
    · exact Int.le_trans bnd b2
    · exact Int.le_trans bnd b1
  have db := nb L c.2.2.1 (fun j hj => (c.2.2.2 j hj).1)
  refine ⟨dt G L, c.2.1, Int.le_trans db nb2, fun k hk hz hkn => ?_⟩
  obtain ⟨v, hv⟩ : ∃ v, rv z.2 k = v := ⟨_, rfl⟩
  have Wv : wW z v := by rw [← hv]; exact wW_r (by omega) hz
  have vz : ∀ j, k < j → v j = 0 := by rw [← hv]; exact rv_z e (by omega) hz
  have v0 : v k ≠ 0 := by rw [← hv]; have := (e k (by omega) hz).1; omega
  have vV' := tA v Wv (fun j hj => vz j (by omega))
  have vs : spo (gs S d) v := by
    rcases Nat.lt_or_ge k 6 with q | q
    · have := gs_up (gs_C hS i v (cU.2.2 v vV' (fun j hj => vz j (by omega)))) (d - i)
      rw [show i + (d - i) = d by rw [← hd]; split <;> omega] at this
      exact this
    · have := gs_up (gs_vV cU.2.1 (gs_C hS i) vV') (d - (i + 1))
      rw [show i + 1 + (d - (i + 1)) = d by rw [← hd]; split <;> omega] at this
      exact this
  have vzd : ∀ j, cD d ≤ j → v j = 0 := vs _ (dgn_lin (cD d)) gz
  have kd : k < cD d := by
    rcases Nat.lt_or_ge k (cD d) with q | q
    · exact q
    · exact absurd (vzd k q) v0
  have hsz : ∀ j, j < cD d → j ≠ k → ¬ (j < 15 ∧ z.1 j = 0) → v j = 0 := fun j hj hjk hn => by
    rcases Nat.lt_or_ge j 15 with q | q
    · rw [← hv]
      exact (e k (by omega) hz).2.2.1 j q hjk (fun g => hn ⟨q, g⟩)
    · exact Wv.2 j q
  have hp : ∀ c : Int, (∀ j, j < cD d → c ∣ v j) → c ∣ 1 := fun c hc => by
    refine (e k (by omega) hz).2.2.2 c (fun j _ => ?_)
    rw [hv]
    rcases Nat.lt_or_ge j (cD d) with q | q
    · exact hc j q
    · rw [vzd j q]
      exact ⟨0, by omega⟩
  obtain ⟨r1, r2⟩ := row_y nb c hG vs kd v0 hsz hp
  rw [hv]
  refine ⟨r1, fun j hj => ?_⟩
  rcases Nat.lt_or_ge j (cD d) with q | q
  · obtain ⟨Q, q1, q2⟩ := r2 j q
    exact ⟨Q, q1, Int.le_trans q2 nb2⟩
  · refine ⟨0, by rw [vzd j q]; omega, ?_⟩
    have := two_1 (btC sl.length)
    rw [show zAbs 0 = 0 from rfl]
    omega
/-! The standard monomials of class and reference. -/
section
variable {hs0 s0 L : Int → Int} {z : (Int → Int) × (Int → Int)}
theorem gF_z (F : fin hs0 s0 z) (g : Int → Int) {k : Nat} (hk : k < 15) : gFb (fE z.1 15 g 15).1 (fE z.1 15 g 15).2 k = true ↔ z.1 k = 0 := by
  have z01 := F.2.2.2.2
  constructor
  · intro h
    rcases z01 k with q | q
    · exact q
    · obtain ⟨a, a0, a1, a2, a3⟩ := lst_b z01 (k + 1) k (by omega) hk (by rw [q]; decide)
      obtain ⟨i, i0, i1⟩ := fE_m (g := g) 15 a a0 a1
      exact absurd ⟨by rw [i1]; exact a2, by rw [i1]; exact a3⟩ ((gFb_iff _ _ _).mp h i i0)
  · intro h
    refine (gFb_iff _ _ _).mpr fun i hi hh => ?_
    obtain ⟨a, a0, a1, a2⟩ := fE_l (hs := z.1) (n := 15) (g := g) 15 i hi
    rw [a1] at hh
    exact lead_dv F hk 15 a (by omega) a0 (by rw [a2.1]; decide) ((dvb_e a k).mpr hh) h
theorem ch_e (F : fin hs0 s0 z) (e : ll L z) (g g' f : Int → Int) (h4 : (fG (fE z.1 15 g 15).1 (fE z.1 15 g 15).2 g' 15).2 ≤ 4) : ∀ i, i ≤ 6 → (chG L f i).2 = (fG (fE z.1 15 g 15).1 (fE z.1 15 g 15).2 g' i).2 ∧ ∀ j : Nat, j < (fG (fE z.1 15 g 15).1 (fE z.1 15 g 15).2 g' i).2 → (chG L f i).1 j = (fG (fE z.1 15 g 15).1 (fE z.1 15 g 15).2 g' i).1 j
  | 0, _ => ⟨rfl, fun j hj => absurd hj (Nat.not_lt_zero _)⟩
  | i + 1, hi => by
    obtain ⟨a, b⟩ := ch_e F e g g' f h4 i (by omega)
    have z01 := F.2.2.2.2
    have q := gF_z F g (k := i) (by omega)
    have hl : ldb L i = true ↔ z.1 i = 1 := by
      rw [ldb_e, ← e i (by omega)]
      exact ⟨fun h => h.2.2, fun h => ⟨by omega, by omega, h⟩⟩
    rcases z01 i with c | c
    · have c1 : ¬ ldb L i = true := fun h => by rw [hl.mp h] at c; cases c
      have hG : fG (fE z.1 15 g 15).1 (fE z.1 15 g 15).2 g' (i + 1) = (uI (fG (fE z.1 15 g 15).1 (fE z.1 15 g 15).2 g' i).1 (fG (fE z.1 15 g 15).1 (fE z.1 15 g 15).2 g' i).2 i, (fG (fE z.1 15 g 15).1 (fE z.1 15 g 15).2 g' i).2 + 1) := if_pos (q.mpr c)
      have mo := fG_mo (fE z.1 15 g 15).1 (fE z.1 15 g 15).2 g' (i + 1) (14 - i)
      rw [show i + 1 + (14 - i) = 15 by omega, hG] at mo
      have mo' : (fG (fE z.1 15 g 15).1 (fE z.1 15 g 15).2 g' i).2 + 1 ≤ (fG (fE z.1 15 g 15).1 (fE z.1 15 g 15).2 g' 15).2 := mo
      have hC : chG L f (i + 1) = (uI (chG L f i).1 (chG L f i).2 i, (chG L f i).2 + 1) := by
        show (if ldb L i = true then chG L f i else if (chG L f i).2 < 4 then (uI (chG L f i).1 (chG L f i).2 i, (chG L f i).2 + 1) else chG L f i) = _
        rw [if_neg c1, if_pos (by omega)]
      rw [hG, hC]
      refine ⟨by show (chG L f i).2 + 1 = _; rw [a]; rfl, fun j hj => ?_⟩
      have hj' : j < (fG (fE z.1 15 g 15).1 (fE z.1 15 g 15).2 g' i).2 + 1 := hj
      show uI (chG L f i).1 (chG L f i).2 i j = uI _ _ _ (j : Int)
      rw [a]
      rcases Decidable.em (j = (fG (fE z.1 15 g 15).1 (fE z.1 15 g 15).2 g' i).2) with d | d
      · rw [← d, uI_s, uI_s]
      · rw [uI_n _ _ (by omega), uI_n _ _ (by omega)]
        exact b j (by omega)
    · have c1 : ldb L i = true := hl.mpr c
      have hG : fG (fE z.1 15 g 15).1 (fE z.1 15 g 15).2 g' (i + 1) = fG (fE z.1 15 g 15).1 (fE z.1 15 g 15).2 g' i := if_neg (fun h => by rw [q.mp h] at c; cases c)
      have hC : chG L f (i + 1) = chG L f i := if_pos c1
      rw [hG, hC]
      exact ⟨a, b⟩
theorem fG_6 (F : fin hs0 s0 z) (g g' : Int → Int) (h6 : ∀ j : Nat, j < (fG (fE z.1 15 g 15).1 (fE z.1 15 g 15).2 g' 15).2 → (fG (fE z.1 15 g 15).1 (fE z.1 15 g 15).2 g' 15).1 j < 6) : ∀ m, m ≤ 9 → fG (fE z.1 15 g 15).1 (fE z.1 15 g 15).2 g' (6 + m) = fG (fE z.1 15 g 15).1 (fE z.1 15 g 15).2 g' 6
  | 0, _ => rfl
  | m + 1, hm => by
    have ih := fG_6 F g g' h6 m (by omega)
    have : fG (fE z.1 15 g 15).1 (fE z.1 15 g 15).2 g' (6 + m + 1) = fG (fE z.1 15 g 15).1 (fE z.1 15 g 15).2 g' (6 + m) := if_neg (fun h => by
      obtain ⟨i, i0, i1⟩ := fG_a (fE z.1 15 g 15).1 (fE z.1 15 g 15).2 g' 15 (6 + m) (by omega) h
      have := h6 i i0
      omega)
    show fG (fE z.1 15 g 15).1 (fE z.1 15 g 15).2 g' (6 + m + 1) = _
    rw [this]
    exact ih
theorem ch_n2 (F : fin hs0 s0 z) (e : ll L z) (g g' f : Int → Int) (h4 : (fG (fE z.1 15 g 15).1 (fE z.1 15 g 15).2 g' 15).2 ≤ 4) (h6 : ∀ j : Nat, j < (fG (fE z.1 15 g 15).1 (fE z.1 15 g 15).2 g' 15).2 → (fG (fE z.1 15 g 15).1 (fE z.1 15 g 15).2 g' 15).1 j < 6) : (chG L f 6).2 = (fG (fE z.1 15 g 15).1 (fE z.1 15 g 15).2 g' 15).2 ∧ ∀ j : Nat, j < (fG (fE z.1 15 g 15).1 (fE z.1 15 g 15).2 g' 15).2 → (chG L f 6).1 j = (fG (fE z.1 15 g 15).1 (fE z.1 15 g 15).2 g' 15).1 j := by
  have h := ch_e F e g g' f h4 6 (Nat.le_refl _)
  rw [← fG_6 F g g' h6 9 (Nat.le_refl _)] at h
  exact h
end
