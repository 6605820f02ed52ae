/-! The class's rows are the reference's, cut to degree 3. -/
theorem wsp_J {hs s : Int → Int} {J : lV → Prop} (hJ : lin J) (h0 : jr J hs s) {v : lV} (hv : wsp hs s v) (v15 : ∀ j, 15 ≤ j → v j = 0) : J v := by
  obtain ⟨T, c, hT, c0, eq⟩ := hv
  have hS : J (fun j => dS (fun l => c l * rv s l j) 15) := lin_S hJ (fun l hl hc => h0 l hl (fun q => hc (c0 l hl q)))
  refine lin_d hJ hT hS hJ.2.2 (a := 1) (b := 0) (fun k => ?_)
  rcases Nat.lt_or_ge k 15 with g | g
  · rw [eq k g]
    omega
  · rw [v15 k g, dS_0 (fun l _ => by rw [rv_o s l g]; omega)]
    omega
theorem sv_c {f g : Int → Int} (h : ∀ k : Nat, k < 24 → f k = g k) {q : Nat} (hq : q < 4) : sv f (6 * (q : Int)) = sv g (6 * (q : Int)) := funext (fun j => by
  unfold sv
  split
  · rename_i hj
    have := h (6 * q + j) (by omega)
    rw [show ((6 * q + j : Nat) : Int) = 6 * (q : Int) + j by omega] at this
    exact this
  · rfl)
section
variable {f sy : Int → Int} {P : Nat} {R : Nat → Nat → Int} {L hs s hs0 s0 : Int → Int} {z : (Int → Int) × (Int → Int)}
theorem lk_s (e : ∀ k : Nat, k < 24 → f k = sy k) (hP : P ≤ 4) (c : clE f P R L hs s) (F : fin hs0 s0 z) (hsys : ∀ J, lin J → (jr J hs0 s0 ↔ ∀ q : Nat, q < P → J (sv sy (6 * q)))) {v : lV} (hv : ∀ j, 10 ≤ j → v j = 0) : wsp z.1 z.2 v ↔ wsp hs s v := by
  obtain ⟨-, h01, hL, hH, hR, hJ1, hJ2, hcl⟩ := c
  have wl := wsp_lin hs s
  have wc := wsp_c F
  have svd : ∀ q : Nat, dg2 (sv f (6 * (q : Int))) := fun q j hj => by unfold sv; rw [if_neg (by omega)]
  have Sz : ∀ u, Sy f P u → wsp z.1 z.2 u := fun u hu => by
    obtain ⟨q, q0, rfl⟩ := hu
    rw [sv_c e (by omega)]
    exact (hsys _ wc.1).mp (F.2.2.1 _ wc.1 wsp_r) q q0
  have sub : ∀ u, wsp hs s u → (∀ j, 15 ≤ j → u j = 0) → wsp z.1 z.2 u := fun u hu h15 => wsp_J wc.1 (hJ2 _ (clo_3 wc) Sz) hu h15
  constructor
  · intro hw
    have hWJ : ∀ J, clo J → (∀ u, Sy f P u → J u) → ∀ v, wW z v → J v := fun J hJ h v hv => wW_J F hJ ((hsys J hJ.1).mpr (fun q hq => by
      rw [← sv_c e (show q < 4 by omega)]
      exact h _ ⟨q, hq, rfl⟩)) hv
    have cU : clU (fun u => wsp hs s u ∧ dg2 u) := by
      refine ⟨⟨fun u v a b hu hv => ⟨wl.1 u v a b hu.1 hv.1, dg2_lin.1 u v a b hu.2 hv.2⟩, fun v T hT hv => ⟨wl.2.1 v T hT hv.1, dg2_lin.2.1 v T hT hv.2⟩, wl.2.2, dg2_lin.2.2⟩, fun v hv => hv.2, fun v hv hd => ⟨?_, hd⟩⟩
      exact vV_J wl (fun u hu => hu.1) (fun u w hw hu => hcl u w hw hu.2 hu.1) hv
    have := thB (S := Sy f P) (W := wW z) (U := fun u => wsp hs s u ∧ dg2 u) hWJ (wW_c F) cU (fun u hu => ⟨hJ1 _ wl wsp_r u hu, by obtain ⟨q, -, rfl⟩ := hu; exact svd q⟩) (fun u hu => ⟨sub u hu.1 (fun j hj => hu.2 j (by omega)), fun j hj => hu.2 j (by omega)⟩) v ⟨hw, fun j hj => hv j (by omega)⟩ hv
    exact vV_J wl (fun u hu => hu.1) (fun u w hw hu => hcl u w hw hu.2 hu.1) this
  · exact fun h => sub v h (fun j hj => hv j (by omega))
theorem clE_e (c : clE f P R L hs s) : ech hs s := by
  exact c.1.1
theorem lk_l (e : ∀ k : Nat, k < 24 → f k = sy k) (hP : P ≤ 4) (c : clE f P R L hs s) (F : fin hs0 s0 z) (hsys : ∀ J, lin J → (jr J hs0 s0 ↔ ∀ q : Nat, q < P → J (sv sy (6 * q)))) {l : Nat} (hl : l < 10) : z.1 l ≠ 0 ↔ L l ≠ 0 := by
  have ec := clE_e c
  have ez := fin_e F
  have top : ∀ {hs s : Int → Int}, ech hs s → hs l ≠ 0 → rv s l l ≠ 0 ∧ ∀ j, l < j → rv s l j = 0 := fun {hs s} ec h => by
    obtain ⟨p0, pz, -, -⟩ := ec l (by omega) h
    refine ⟨by omega, fun j hj => ?_⟩
    rcases Nat.lt_or_ge j 15 with q | q
    · exact pz j hj q
    · exact rv_o s l q
  rw [c.2.2.1 l hl]
  constructor
  · intro h
    obtain ⟨t1, t2⟩ := top ez h
    exact wsp_t ec ((lk_s e hP c F hsys (fun j hj => t2 j (by omega))).mp (wsp_r l (by omega) h)) (by omega) t1 (fun j hj _ => t2 j hj)
  · intro h
    obtain ⟨t1, t2⟩ := top ec h
    exact wsp_t ez ((lk_s e hP c F hsys (fun j hj => t2 j (by omega))).mpr (wsp_r l (by omega) h)) (by omega) t1 (fun j hj _ => t2 j hj)
theorem lk_r (e : ∀ k : Nat, k < 24 → f k = sy k) (hP : P ≤ 4) (c : clE f P R L hs s) (F : fin hs0 s0 z) (hsys : ∀ J, lin J → (jr J hs0 s0 ↔ ∀ q : Nat, q < P → J (sv sy (6 * q)))) {l : Nat} (hl : l < 10) (h : L l ≠ 0) : ∀ j, j < 10 → R l j = rv z.2 l j := by
  have ec := clE_e c
  have ez := fin_e F
  have hh := (c.2.2.1 l hl).mp h
  have hz := (lk_l e hP c F hsys hl).mpr h
  obtain ⟨p0, pz, pl, pp⟩ := ec l (by omega) hh
  obtain ⟨q0, qz, ql, qp⟩ := ez l (by omega) hz
  have rz : ∀ j, l < j → rv z.2 l j = 0 := fun j hj => by
    rcases Nat.lt_or_ge j 15 with q | q
    · exact qz j hj q
    · exact rv_o z.2 l q
  have w1 := (lk_s e hP c F hsys (fun j hj => rz j (by omega))).mp (wsp_r l (by omega) hz)
  have w2 : wsp hs s (rv s l) := wsp_r l (by omega) hh
  have d := wsp_z ec ((wsp_lin hs s).1 _ _ (rv s l l) (-(rv z.2 l l)) w1 w2) 15 (Nat.le_refl _) (fun j h1 h2 => by omega) (fun j hj h2 => by
    show rv s l l * rv z.2 l j + -(rv z.2 l l) * rv s l j = 0
    have j10 : j < 10 := by
      rcases Nat.lt_or_ge j 10 with q | q
      · exact q
      · exact absurd (c.2.2.2.1 j q hj) h2
    rcases Decidable.em (j = l) with q | q
    · rw [q]; grind
    · rw [ql j hj q ((lk_l e hP c F hsys j10).mpr ((c.2.2.1 j j10).mpr h2)), pl j hj q h2]
      omega)
  have pr : ∀ {hs s : Int → Int}, (∀ k, l < k → k < 15 → rv s l k = 0) → (∀ c : Int, (∀ k, k < 15 → c ∣ rv s l k) → c ∣ 1) → pm (rv s l) := fun {hs s} h1 h2 d hd => h2 d (fun k hk => by
    rcases Nat.lt_or_ge k 10 with q | q
    · exact hd k q
    · rw [h1 k (by omega) hk]; exact ⟨0, by omega⟩)
  have := pm_e (pr (hs := z.1) qz qp) (pr (hs := hs) pz pp) (show rv s l l ≠ 0 by omega) (show rv z.2 l l ≠ 0 by omega) hl q0 p0 (fun j hj => by
    have h3 : rv s l l * rv z.2 l j + -(rv z.2 l l) * rv s l j = 0 := d j (by omega)
    grind)
  intro j hj
  rw [c.2.2.2.2.1 l hl h j hj]
  exact (this j hj).symm
end
theorem lOk_t : ∀ t : Fin 15, 10 ≤ t.val → (List.range 64).all (fun L => !(lOk L t.val t.val true) && !(lOk L t.val t.val false)) = true := by decide +kernel
/-- no element of degree 4 -/
theorem el_10 {hs0 s0 sy : Int → Int} {z : (Int → Int) × (Int → Int)} {P : Nat} (F : fin hs0 s0 z) (hsys : ∀ J, lin J → (jr J hs0 s0 ↔ ∀ q : Nat, q < P → J (sv sy (6 * q)))) {a : Nat} (ha : a < 15) (h : iL z.1 15 a) : a < 10 := by
  rcases Nat.lt_or_ge a 10 with q | q
  · exact q
  · obtain ⟨L, hL, -, ok⟩ := lOk_h F hsys ha ha h h
    have := List.all_eq_true.mp (lOk_t ⟨a, ha⟩ q) L (List.mem_range.mpr hL)
    simp only [Bool.and_eq_true, Bool.not_eq_true'] at this
    cases g : decide (z.1 (6 : Nat) ≠ 0)
    · rw [g] at ok
      rw [this.2] at ok
      cases ok
    · rw [g] at ok
      rw [this.1] at ok
      cases ok
/-- a solve of the reference: what its rows are, and its room -/
theorem sv_fin {A : Nat → Int → Int} {s : Int → Int} {P : Nat} (h01 : ∀ k, A 15 k = 0 ∨ A 15 k = 1) (h4 : ∀ k : Nat, k < 24 → -5 ≤ A 4 k ∧ A 4 k ≤ 5) (h5 : ∀ k : Nat, k < 6 → -5 ≤ A 5 k ∧ A 5 k ≤ 5) (hP : P ≤ 4) : ∃ (m : Nat) (hs0 s0 : Int → Int), svB A s P m ∧ (∀ J, lin J → (jr J hs0 s0 ↔ ∀ q : Nat, q < P → J (sv (A 4) (6 * q)))) ∧ fin hs0 s0 (vZ A s P m) ∧ (vA A s P m < 2 → (vG A s P m).2 ≤ 4 ∧ ∀ j : Nat, j < (vG A s P m).2 → 0 ≤ (vG A s P m).1 j ∧ (vG A s P m).1 j < 6) := by
  obtain ⟨m, hs0, s0, a, b, c, d, e, f⟩ := rows_v h01 h4 h5 hP
  have fin6 : vA A s P m < 2 → (vG A s P m).2 ≤ 4 ∧ ∀ j : Nat, j < (vG A s P m).2 → 0 ≤ (vG A s P m).1 j ∧ (vG A s P m).1 j < 6 := fun hA => by
    have hf : (vZ A s P m).1 0 ≠ 0 ∨ vB (fE (vZ A s P m).1 15 (A 16) 15).1 (fE (vZ A s P m).1 15 (A 16) 15).2 = true := by
      unfold vA at hA
      split at hA
      · split at hA
        · rename_i g
          exact Or.inr g
        · omega
      · rename_i g
        exact Or.inl g
    exact std_h (g := A 16) (g' := A 18) b a hf
  refine ⟨m, hs0, s0, ⟨c, d, e, f, fun hA => ?_⟩, a, b, fin6⟩
  obtain ⟨k4, k3⟩ := fin6 hA
  obtain ⟨β, dd, r1, r2, r3, r4, r5⟩ := rowU_h b.2.2.2.2 k4 k3 (rowB_R (g := A 16) (g' := A 18) b a h4 hP rfl k4 k3)
  have r6 : rowB (vZ A s P m).1 (vK A s P m) (vG A s P m).1 (vG A s P m).2 β := rowB_c k3 (fun p hp => (dA_o hp 15 _).trans (lW_o hp 6)) r3
  have t := tRm_h r6 h5 (by omega)
  exact ⟨by omega, k3, ⟨_, _, t⟩, rm_u k4 k3 r2 r1 t r4 r5⟩
