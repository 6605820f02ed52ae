/-! R1: the bits of the rows that the tables need. -/
theorem gs_W {S W : lV → Prop} (hS : ∀ u, S u → dg2 u) (hW : clo W) (hSW : ∀ u, S u → W u) : ∀ (d : Nat), d ≤ 2 → ∀ u, gs S d u → W u
  | 0, _, u, h => hSW u h
  | d + 1, hd, u, h => by
    rcases h with h | ⟨w, t, hw, ht, e⟩
    · exact gs_W hS hW hSW d (by omega) u h
    · have tz : ∀ j, 10 ≤ j → t j = 0 := fun j hj => gs_d hS d (by omega) t ht j (by
        have hd' : d = 0 ∨ d = 1 := by omega
        rcases hd' with rfl | rfl
        · show 6 ≤ j; omega
        · exact hj)
      rw [e, show bs w t = xs w t from funext (bs_x tz)]
      exact hW.2 t w hw tz (gs_W hS hW hSW d (by omega) t ht)
theorem sv_n {sy : Int → Int} {q : Nat} (hb : ∀ k : Nat, k < 24 → -5 ≤ sy k ∧ sy k ≤ 5) (hq : q < 4) : nS (sv sy (6 * (q : Int))) 21 ≤ 30 := by
  have lo : ∀ j : Nat, j < 6 → zAbs (sv sy (6 * (q : Int)) j) ≤ 5 := fun j hj => by
    unfold sv
    rw [if_pos hj]
    have := hb (6 * q + j) (by omega)
    rw [show ((6 * q + j : Nat) : Int) = 6 * (q : Int) + j by omega] at this
    unfold zAbs
    split <;> omega
  have hi : ∀ j : Nat, 6 ≤ j → zAbs (sv sy (6 * (q : Int)) j) = 0 := fun j hj => by
    unfold sv
    rw [if_neg (by omega)]
    rfl
  rw [n21_e]
  unfold n21
  have a0 := lo 0 (by decide)
  have a1 := lo 1 (by decide)
  have a2 := lo 2 (by decide)
  have a3 := lo 3 (by decide)
  have a4 := lo 4 (by decide)
  have a5 := lo 5 (by decide)
  rw [hi 6 (by decide), hi 7 (by decide), hi 8 (by decide), hi 9 (by decide), hi 10 (by decide), hi 11 (by decide), hi 12 (by decide), hi 13 (by decide), hi 14 (by decide), hi 15 (by decide), hi 16 (by decide), hi 17 (by decide), hi 18 (by decide), hi 19 (by decide), hi 20 (by decide)]
  omega
theorem th_m (a : Nat) : ∀ m : Nat, (30 : Int) ^ a ≤ 30 ^ (a + m)
  | 0 => Int.le_refl _
  | m + 1 => by
    have h1 := th_m a m
    have h2 : (0 : Int) ≤ 30 ^ a := Int.pow_nonneg (by decide)
    rw [show a + (m + 1) = (a + m) + 1 from rfl, Int.pow_succ]
    omega
theorem cD_6 : ∀ d, 6 ≤ cD d
  | 0 => Nat.le_refl _
  | d + 1 => by
    have := cD_6 d
    show 6 ≤ cD d + (d + 4)
    omega
theorem row_R {hs0 s0 sy : Int → Int} {z : (Int → Int) × (Int → Int)} {P : Nat} (f : fin hs0 s0 z) (hsys : ∀ J, lin J → (jr J hs0 s0 ↔ ∀ q : Nat, q < P → J (sv sy (6 * q)))) (hb : ∀ k : Nat, k < 24 → -5 ≤ sy k ∧ sy k ≤ 5) (hP : P ≤ 4) {sl : List Nat} (sn : sl.Nodup) (s6 : ∀ t, t ∈ sl → t < 6 ∧ z.1 t = 0) (hB : ∀ j : Nat, j < 15 → z.1 j = 0 → j < 6) (h4 : sl.length ≤ 4) (h1 : 1 ≤ sl.length) (h0 : z.1 (0 : Nat) = 0) {k : Nat} (hk : k < 10) (hz : z.1 k ≠ 0) (hkn : k < 6 ∨ 2 ≤ sl.length) : ∀ j, j < 15 → zAbs (rv z.2 k j) ≤ 30 ^ (cD ((if k < 6 then 4 else 5) - sl.length) - sl.length) := by
  have e := fin_e f
  have wc := wW_c f
  obtain ⟨S, hS'⟩ : ∃ S : lV → Prop, S = fun u => ∃ q : Nat, q < P ∧ u = sv sy (6 * q) := ⟨_, rfl⟩
  have hS : ∀ u, S u → dg2 u := fun u hu j hj => by
    rw [hS'] at hu
    obtain ⟨q, -, rfl⟩ := hu
    unfold sv
    rw [if_neg (by omega)]
  have hSW : ∀ u, S u → wW z u := fun u hu => by
    refine ⟨?_, fun j hj => hS u hu j (by omega)⟩
    rw [hS'] at hu
    obtain ⟨q, q0, rfl⟩ := hu
    exact (hsys _ (wsp_lin z.1 z.2)).mp (f.2.2.1 _ (wsp_lin _ _) wsp_r) q q0
  have hSn : ∀ u, S u → nS u 21 ≤ 30 := fun u hu => by
    rw [hS'] at hu
    obtain ⟨q, q0, rfl⟩ := hu
    exact sv_n hb (by omega)
  have hWJ : ∀ J, clo J → (∀ u, S u → J u) → ∀ v, wW z v → J v := fun J hJ h v hv => wW_J f hJ ((hsys J hJ.1).mpr (fun q hq => h _ (by rw [hS']; exact ⟨q, hq, rfl⟩))) hv
  have ldW : ∀ t : Nat, t < 15 → z.1 t ≠ 0 → ld (wW z) t := fun t ht h => ⟨rv z.2 t, wW_r ht h, by have := (e t ht h).1; omega, rv_z e ht h⟩
  have n6 : z.1 (6 : Nat) ≠ 0 := fun q => absurd (hB 6 (by decide) q) (by decide)
  have n9 : z.1 (9 : Nat) ≠ 0 := fun q => absurd (hB 9 (by decide) q) (by decide)
  have l6 := ldW 6 (by decide) n6
  have l9 := ldW 9 (by decide) n9
  have ldz : ∀ t : Nat, t < 6 → ∀ i, ld (Cn S i) t → z.1 t ≠ 0 := fun t ht i h => by
    obtain ⟨v, v0, v1, v2⟩ := h
    exact wsp_t e (Cn_J hS wc hSW i v v0).1 (by omega) v1 (fun j hj _ => v2 j hj)
  obtain ⟨a, b, a6, b6, ab, la, lb⟩ := two_at hS hWJ (fun q => ldz 0 (by decide) 0 q h0) l6 l9
  obtain ⟨i, i4, hi⟩ := stab hS (K := fun t => z.1 (t : Int) ≠ 0) (N := 6 - sl.length) (fun i t ht h => ldz t ht i h) (fun l ln hl => by
    have := len_n (l := l ++ sl) (n := 6) (List.nodup_append.mpr ⟨ln, sn, fun x hx y hy q => (hl x hx).2 (by rw [q]; exact (s6 y hy).2)⟩) (fun t ht => by
      rcases List.mem_append.mp ht with q | q
      · exact (hl t q).1
      · exact (s6 t q).1)
    rw [List.length_append] at this
    omega) (4 - sl.length) 0 [a, b] (List.nodup_cons.mpr ⟨fun q => ab (List.mem_singleton.mp q), List.nodup_cons.mpr ⟨fun q => (by cases q), List.nodup_nil⟩⟩) (fun t ht => by
      rcases List.mem_cons.mp ht with q | q
      · rw [q]; exact ⟨a6, la⟩
      · rw [List.mem_singleton.mp q]; exact ⟨b6, lb⟩) (by show 6 - sl.length ≤ 2 + (4 - sl.length); omega)
  have cU := clU_C hS hi
  have tA := thA hWJ cU (fun u hu => Cn_0 hS hu i) l6 l9
  -- the row is of the span of the shifts
  obtain ⟨d, hd⟩ : ∃ d, (if k < 6 then 4 else 5) - sl.length = d := ⟨_, rfl⟩
  have d3 : d ≤ 3 := by
    rw [← hd]
    split <;> omega
  obtain ⟨v, hv⟩ : ∃ v, rv z.2 k = v := ⟨_, rfl⟩
  have Wv : wW z v := by rw [← hv]; exact wW_r (by omega) hz
  have vz : ∀ j, k < j → v j = 0 := by rw [← hv]; exact rv_z e (by omega) hz
  have v0 : v k ≠ 0 := by rw [← hv]; have := (e k (by omega) hz).1; omega
  have vV' := tA v Wv (fun j hj => vz j (by omega))
  have vs : spo (gs S d) v := by
    rcases Nat.lt_or_ge k 6 with q | q
    · rw [if_pos q] at hd
      have := gs_up (gs_C hS i v (cU.2.2 v vV' (fun j hj => vz j (by omega)))) (d - i)
      rw [show i + (d - i) = d by omega] at this
      exact this
    · rw [if_neg (by omega)] at hd
      have := gs_up (gs_vV cU.2.1 (gs_C hS i) vV') (d - (i + 1))
      rw [show i + 1 + (d - (i + 1)) = d by omega] at this
      exact this
  rw [hd]
  -- the certificate
  have N := nfd_W f hB
  have gz := gs_d hS d d3
  have gk : ∀ g, gs S d g → ∀ j, nL (pvD z.1 z.2 15) (nfR z.1 z.2) g j = 0 := fun g hg => by
    have two := gs_W hS wc hSW
    rcases Nat.lt_or_ge d 3 with q | q
    · have := two d (by omega) g hg
      exact nL_4 N this.2 this
    · have d3' : d = 3 := by omega
      subst d3'
      rcases hg with hg | ⟨w, t, hw, ht, eg⟩
      · have := two 2 (by omega) g hg
        exact nL_4 N this.2 this
      · have := two 2 (by omega) t ht
        rw [eg]
        exact nL_5 N this.2 this hw
  obtain ⟨G, L, c, hG⟩ := crt_x (Gs := gs S d) (J := fun v => ∀ j, nL (pvD z.1 z.2 15) (nfR z.1 z.2) v j = 0) (B := fun j : Nat => j < 15 ∧ z.1 j = 0) (N := cD d) nL_lin gk gz (fun v hv hb hz => nL_B N (fun j hj => by
    rcases Nat.lt_or_ge j (cD d) with q | q
    · exact hb j q hj
    · exact hz j q) hv) (cD d) [] [] ⟨fun g hg => (by cases hg), by decide, List.nodup_nil, fun j hj => (by cases hj)⟩ (by show cD d ≤ 0 + cD d; omega)
  have vzd : ∀ j, cD d ≤ j → v j = 0 := vs _ (dgn_lin (cD d)) gz
  have kd : k < cD d := by
    rcases Nat.lt_or_ge k (cD d) with q | q
    · exact q
    · exact absurd (vzd k q) v0
  have hsz : ∀ j, j < cD d → j ≠ k → ¬ (j < 15 ∧ z.1 j = 0) → v j = 0 := fun j hj hjk hn => by
    rcases Nat.lt_or_ge j 15 with q | q
    · rw [← hv]
      exact (e k (by omega) hz).2.2.1 j q hjk (fun g => hn ⟨q, g⟩)
    · exact Wv.2 j q
  have hp : ∀ c : Int, (∀ j, j < cD d → c ∣ v j) → c ∣ 1 := fun c hc => by
    refine (e k (by omega) hz).2.2.2 c (fun j _ => ?_)
    rw [hv]
    rcases Nat.lt_or_ge j (cD d) with q | q
    · exact hc j q
    · rw [vzd j q]
      exact ⟨0, by omega⟩
  have gl : G.length = L.length := by
    rcases Decidable.em (G.length = L.length) with q | q
    · exact q
    · exact absurd (dt_len G L q) c.2.1
  have ll : L.length + sl.length ≤ cD d := by
    rw [← List.length_append]
    refine len_n (List.nodup_append.mpr ⟨c.2.2.1, sn, fun x hx y hy q => (c.2.2.2 x hx).2 ?_⟩) (fun t ht => ?_)
    · rw [q]
      exact ⟨by have := (s6 y hy).1; omega, (s6 y hy).2⟩
    · rcases List.mem_append.mp ht with q | q
      · exact (c.2.2.2 t q).1
      · have := (s6 t q).1
        have := cD_6 d
        omega
  have nb : nP (cD d) G ≤ 30 ^ G.length := nP_pow (by decide) G (fun g hg => by
    have h21 : cD d ≤ 21 := by
      have : d = 0 ∨ d = 1 ∨ d = 2 ∨ d = 3 := by omega
      rcases this with rfl | rfl | rfl | rfl <;> decide
    have h1 := nS_up g (cD d) (21 - cD d)
    rw [show cD d + (21 - cD d) = 21 by omega] at h1
    exact Int.le_trans h1 (gs_n hSn d g (c.1 g hg)))
  intro j hj
  rw [hv]
  have bnd : (30 : Int) ^ G.length ≤ 30 ^ (cD d - sl.length) := by
    have := th_m G.length (cD d - sl.length - G.length)
    rw [show G.length + (cD d - sl.length - G.length) = cD d - sl.length by omega] at this
    exact this
  rcases Nat.lt_or_ge j (cD d) with q | q
  · have := row_x c hG vs kd v0 hsz hp j q
    omega
  · rw [vzd j q]
    have : (0 : Int) ≤ 30 ^ (cD d - sl.length) := Int.pow_nonneg (by decide)
    exact this
