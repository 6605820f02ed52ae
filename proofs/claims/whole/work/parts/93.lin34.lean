/-! Chains of spans of degree 2; what they are made of. -/
def spo (S : lV → Prop) (v : lV) : Prop := ∀ J, lin J → (∀ u, S u → J u) → J v
theorem spo_lin (S : lV → Prop) : lin (spo S) := ⟨fun u v a b hu hv J hJ h => hJ.1 u v a b (hu J hJ h) (hv J hJ h), fun v T hT hv J hJ h => hJ.2.1 v T hT (hv J hJ h), fun _ hJ _ => hJ.2.2⟩
theorem spo_i {S : lV → Prop} {v : lV} (h : S v) : spo S v := fun _ _ g => g v h
def dg2 (v : lV) : Prop := ∀ j, 6 ≤ j → v j = 0
theorem dgn_lin (n : Nat) : lin (fun v : lV => ∀ j, n ≤ j → v j = 0) := ⟨fun u v a b hu hv j hj => by show a * u j + b * v j = 0; rw [hu j hj, hv j hj]; omega, fun v T hT hv j hj => mul_z hT (hv j hj), fun _ _ => rfl⟩
theorem dg2_lin : lin dg2 := dgn_lin 6
theorem lin_a {J : lV → Prop} (h : lin J) {u v w : lV} (hu : J u) (hv : J v) (e : ∀ k, w k = u k + v k) : J w := lin_d h (T := 1) (a := 1) (b := 1) (by decide) hu hv (fun k => by rw [e]; omega)
theorem lin_c {J : lV → Prop} (h : lin J) {u w : lV} (a : Int) (hu : J u) (e : ∀ k, w k = a * u k) : J w := lin_d h (T := 1) (a := a) (b := 0) (by decide) hu hu (fun k => by rw [e]; omega)
theorem lin_0 {J : lV → Prop} (h : lin J) {w : lV} (e : ∀ k, w k = 0) : J w := by
  rw [show w = fun _ => 0 from funext e]
  exact h.2.2
theorem xs_l (w a b : Int) (u v : lV) (j : Nat) : xs w (fun k => a * u k + b * v k) j = a * xs w u j + b * xs w v j := by
  unfold xs
  split
  · rfl
  · omega
theorem xs_c (w a : Int) (u : lV) (j : Nat) : xs w (fun k => a * u k) j = a * xs w u j := by
  unfold xs
  split
  · rfl
  · omega
theorem xs_0 (w : Int) {u : lV} (h : ∀ k, u k = 0) (j : Nat) : xs w u j = 0 := by
  unfold xs
  split
  · exact h _
  · rfl
/-- a span and its multiples by x and y -/
def vV (U : lV → Prop) (v : lV) : Prop := ∃ (T : Int) (u p q : lV), T ≠ 0 ∧ U u ∧ U p ∧ U q ∧ ∀ k, T * v k = u k + xs 0 p k + xs 1 q k
theorem vV_lin {U : lV → Prop} (h : lin U) : lin (vV U) := by
  refine ⟨?_, ?_, ?_⟩
  · rintro v v' a b ⟨T, u, p, q, hT, hu, hp, hq, e⟩ ⟨T', u', p', q', hT', hu', hp', hq', e'⟩
    refine ⟨T * T', fun k => T' * a * u k + T * b * u' k, fun k => T' * a * p k + T * b * p' k, fun k => T' * a * q k + T * b * q' k, fun g => ?_, h.1 _ _ _ _ hu hu', h.1 _ _ _ _ hp hp', h.1 _ _ _ _ hq hq', fun k => ?_⟩
    · rcases Int.mul_eq_zero.mp g with g | g
      · exact hT g
      · exact hT' g
    · rw [xs_l, xs_l]
      have e1 := e k
      have e2 := e' k
      show T * T' * (a * v k + b * v' k) = _
      grind
  · rintro v x hx ⟨T, u, p, q, hT, hu, hp, hq, e⟩
    refine ⟨T * x, u, p, q, fun g => ?_, hu, hp, hq, fun k => ?_⟩
    · rcases Int.mul_eq_zero.mp g with g | g
      · exact hT g
      · exact hx g
    · rw [← e k]
      grind
  · exact ⟨1, _, _, _, by decide, h.2.2, h.2.2, h.2.2, fun k => by rw [xs_0 0 (fun _ => rfl), xs_0 1 (fun _ => rfl)]; rfl⟩
theorem vV_u {U : lV → Prop} (h : lin U) {v : lV} (hv : U v) : vV U v := ⟨1, v, _, _, by decide, hv, h.2.2, h.2.2, fun k => by rw [xs_0 0 (fun _ => rfl), xs_0 1 (fun _ => rfl)]; omega⟩
theorem vV_x {U : lV → Prop} (h : lin U) {v : lV} (hv : U v) {w : Int} (hw : w = 0 ∨ w = 1) : vV U (xs w v) := by
  rcases hw with rfl | rfl
  · exact ⟨1, _, v, _, by decide, h.2.2, hv, h.2.2, fun k => by rw [xs_0 1 (fun _ => rfl)]; omega⟩
  · exact ⟨1, _, _, v, by decide, h.2.2, h.2.2, hv, fun k => by rw [xs_0 0 (fun _ => rfl)]; omega⟩
theorem vV_J {U J : lV → Prop} (hJ : lin J) (h0 : ∀ v, U v → J v) (hx : ∀ v w, (w = 0 ∨ w = 1) → U v → J (xs w v)) {v : lV} (hv : vV U v) : J v := by
  obtain ⟨T, u, p, q, hT, hu, hp, hq, e⟩ := hv
  have h1 := hJ.1 _ _ 1 1 (hx p 0 (Or.inl rfl) hp) (hx q 1 (Or.inr rfl) hq)
  exact lin_d hJ hT (h0 u hu) h1 (a := 1) (b := 1) (fun k => by rw [e]; omega)
def Cn (S : lV → Prop) : Nat → lV → Prop
  | 0 => spo S
  | i + 1 => fun v => dg2 v ∧ vV (Cn S i) v
theorem Cn_lin (S : lV → Prop) : ∀ i, lin (Cn S i)
  | 0 => spo_lin S
  | i + 1 => by
    have h1 := vV_lin (Cn_lin S i)
    have h2 := dg2_lin
    exact ⟨fun u v a b hu hv => ⟨h2.1 u v a b hu.1 hv.1, h1.1 u v a b hu.2 hv.2⟩, fun v T hT hv => ⟨h2.2.1 v T hT hv.1, h1.2.1 v T hT hv.2⟩, h2.2.2, h1.2.2⟩
theorem Cn_d {S : lV → Prop} (hS : ∀ u, S u → dg2 u) : ∀ (i : Nat) (v : lV), Cn S i v → dg2 v
  | 0, v, h => h dg2 dg2_lin hS
  | _ + 1, _, h => h.1
theorem Cn_s {S : lV → Prop} (hS : ∀ u, S u → dg2 u) (i : Nat) (v : lV) (h : Cn S i v) : Cn S (i + 1) v := ⟨Cn_d hS i v h, vV_u (Cn_lin S i) h⟩
theorem Cn_0 {S : lV → Prop} (hS : ∀ u, S u → dg2 u) {v : lV} (h : S v) : ∀ i, Cn S i v
  | 0 => spo_i h
  | i + 1 => Cn_s hS i v (Cn_0 hS h i)
theorem Cn_J {S J : lV → Prop} (hS : ∀ u, S u → dg2 u) (hJ : clo J) (h : ∀ u, S u → J u) : ∀ (i : Nat) (v : lV), Cn S i v → J v
  | 0, _, hv => hv J hJ.1 h
  | i + 1, _, hv => vV_J hJ.1 (Cn_J hS hJ h i) (fun u w hw hu => hJ.2 u w hw (fun j hj => Cn_d hS i u hu j (by omega)) (Cn_J hS hJ h i u hu)) hv.2
/-- leads of a span -/
def ld (U : lV → Prop) (t : Nat) : Prop := ∃ v, U v ∧ v t ≠ 0 ∧ ∀ j, t < j → v j = 0
theorem ld_sub {U V : lV → Prop} (hU : lin U) (hV : lin V) (h : ∀ v, U v → V v) {N : Nat} (hl : ∀ t, t < N → ld V t → ld U t) : ∀ (n : Nat) (v : lV), n ≤ N → V v → (∀ j, n ≤ j → v j = 0) → U v
  | 0, v, _, _, hz => lin_0 hU (fun k => hz k (Nat.zero_le k))
  | n + 1, v, hn, hv, hz => by
    rcases Decidable.em (v n = 0) with g | g
    · exact ld_sub hU hV h hl n v (by omega) hv (fun j hj => by
        rcases Decidable.em (j = n) with q | q
        · rw [q]; exact g
        · exact hz j (by omega))
    · obtain ⟨u, u0, u1, u2⟩ := hl n (by omega) ⟨v, hv, g, fun j hj => hz j (by omega)⟩
      have h1 := ld_sub hU hV h hl n (fun k => u n * v k + -v n * u k) (by omega) (hV.1 _ _ _ _ hv (h u u0)) (fun j hj => by
        show u n * v j + -v n * u j = 0
        rcases Decidable.em (j = n) with q | q
        · rw [q]; grind
        · rw [hz j (by omega), u2 j (by omega)]; omega)
      exact lin_d hU u1 h1 u0 (a := 1) (b := v n) (fun k => by grind)
theorem len_n {l : List Nat} {n : Nat} (hn : l.Nodup) (h : ∀ j, j ∈ l → j < n) : l.length ≤ n := by
  have h1 := lS1_b (fun _ => 1) n l hn h
  have h2 : ∀ l : List Nat, lS1 (fun _ => 1) l = l.length := fun l => by
    induction l with
    | nil => rfl
    | cons a l ih =>
      show 1 + lS1 (fun _ => 1) l = _
      rw [ih, List.length_cons]
      omega
  have h3 : ∀ n : Nat, nS (fun _ => 1) n = n := fun n => by
    induction n with
    | zero => rfl
    | succ n ih =>
      show nS (fun _ => 1) n + 1 = _
      rw [ih]
      omega
  rw [h2, h3] at h1
  omega
/-- the chain stands still in time -/
theorem stab {S : lV → Prop} (hS : ∀ u, S u → dg2 u) {K : Nat → Prop} {N : Nat} (hK : ∀ i t, t < 6 → ld (Cn S i) t → K t) (hc : ∀ l : List Nat, l.Nodup → (∀ t, t ∈ l → t < 6 ∧ K t) → l.length ≤ N) : ∀ (m i : Nat) (l : List Nat), l.Nodup → (∀ t, t ∈ l → t < 6 ∧ ld (Cn S i) t) → N ≤ l.length + m → ∃ i', i' ≤ i + m ∧ ∀ v, Cn S (i' + 1) v → Cn S i' v := by
  intro m
  induction m with
  | zero =>
    intro i l hn hl hN
    refine ⟨i, Nat.le_refl _, fun v hv => ld_sub (Cn_lin S i) (Cn_lin S (i + 1)) (Cn_s hS i) (N := 6) (fun t ht h => ?_) 6 v (Nat.le_refl _) hv (fun j hj => Cn_d hS (i + 1) v hv j hj)⟩
    rcases Decidable.em (t ∈ l) with g | g
    · exact (hl t g).2
    · have := hc (t :: l) (List.nodup_cons.mpr ⟨g, hn⟩) (fun s hs => by
        rcases List.mem_cons.mp hs with e | e
        · rw [e]; exact ⟨ht, hK _ t ht h⟩
        · exact ⟨(hl s e).1, hK i s (hl s e).1 (hl s e).2⟩)
      rw [List.length_cons] at this
      omega
  | succ m ih =>
    intro i l hn hl hN
    rcases Classical.em (∃ t, t < 6 ∧ ld (Cn S (i + 1)) t ∧ ¬ ld (Cn S i) t) with ⟨t, t0, t1, t2⟩ | g
    · obtain ⟨i', h1, h2⟩ := ih (i + 1) (t :: l) (List.nodup_cons.mpr ⟨fun q => t2 (hl t q).2, hn⟩) (fun s hs => by
        rcases List.mem_cons.mp hs with e | e
        · rw [e]; exact ⟨t0, t1⟩
        · obtain ⟨a, v, b, c⟩ := hl s e
          exact ⟨a, v, Cn_s hS i v b, c⟩) (by rw [List.length_cons]; omega)
      exact ⟨i', by omega, h2⟩
    · refine ⟨i, by omega, fun v hv => ld_sub (Cn_lin S i) (Cn_lin S (i + 1)) (Cn_s hS i) (N := 6) (fun t ht h => ?_) 6 v (Nat.le_refl _) hv (fun j hj => Cn_d hS (i + 1) v hv j hj)⟩
      rcases Classical.em (ld (Cn S i) t) with q | q
      · exact q
      · exact absurd ⟨t, ht, h, q⟩ g
/-- a span of degree 2 that is closed -/
def clU (U : lV → Prop) : Prop := lin U ∧ (∀ v, U v → dg2 v) ∧ ∀ v, vV U v → dg2 v → U v
theorem clU_C {S : lV → Prop} (hS : ∀ u, S u → dg2 u) {i : Nat} (h : ∀ v, Cn S (i + 1) v → Cn S i v) : clU (Cn S i) := ⟨Cn_lin S i, Cn_d hS i, fun v h1 h2 => h v ⟨h2, h1⟩⟩
