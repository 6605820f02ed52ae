/-! The class's ideal: its room for every system, what its rows are. -/
def Sy (f : Int → Int) (P : Nat) (u : lV) : Prop := ∃ q : Nat, q < P ∧ u = sv f (6 * (q : Int))
theorem pd_ldr (f : Int → Int) (q : Nat) : pd (ldr f q) = sv f (6 * (q : Int)) := funext (fun j => by
  unfold sv
  rcases Nat.lt_or_ge j 10 with g | g
  · rw [pd_i g]
    rfl
  · rw [pd_o g, if_neg (by omega)])
theorem tS_c {Sys Sys' : lV → Prop} (e : ∀ u, Sys u ↔ Sys' u) {M : Nat} {R : Nat → Nat → Int} {L G hs s : Int → Int} (h : tS Sys M R L G hs s) : tS Sys' M R L G hs s := by
  obtain ⟨h1, h2, h3, h4, h5, h6, h7⟩ := h
  exact ⟨h1, h2, h3, h4, h5, fun J hJ hj u hu => h6 J hJ hj u ((e u).mpr hu), fun J hJ hu => h7 J hJ (fun u q => hu u ((e u).mp q))⟩
theorem ldr_n {f : Int → Int} (hf : ∀ i : Int, 0 ≤ i → i < 30 → -5 ≤ f i ∧ f i ≤ 5) {q : Nat} (hq : q < 4) : nS (pd (ldr f q)) 15 ≤ 30 := by
  rw [pd_ldr]
  have h1 := sv_n (sy := f) (q := q) (fun k hk => hf k (by omega) (by omega)) hq
  have h2 := nS_up (sv f (6 * (q : Int))) 15 6
  have h4 : nS (sv f (6 * (q : Int))) (15 + 6) = nS (sv f (6 * (q : Int))) 21 := rfl
  omega
theorem ldr_5 {f : Int → Int} (hf : ∀ i : Int, 0 ≤ i → i < 30 → -5 ≤ f i ∧ f i ≤ 5) {q : Nat} (hq : q < 5) : ∀ j, j < 10 → zAbs (ldr f q j) ≤ 5 := fun j hj => by
  unfold ldr
  split
  · have := hf (6 * (q : Int) + j) (by omega) (by omega)
    unfold zAbs
    split <;> omega
  · decide
theorem zL_h (n : Int) (L : Int → Int) (i : Int) (h0 : 0 ≤ i) (h1 : i < n) : zL n L i = 0 := if_pos ⟨h0, h1⟩
section
variable {f : Int → Int} {R : Nat → Nat → Int} {L G : Int → Int}
theorem bd_h (hf : ∀ i : Int, 0 ≤ i → i < 30 → -5 ≤ f i ∧ f i ≤ 5) : ∀ i, i ≤ 4 → (∃ (M : Nat) (hs s : Int → Int), pcB M ≤ i ∧ tS (Sy f i) M (bdF f R (zL 10 L) i).1 (bdF f R (zL 10 L) i).2 (zL 6 G) hs s) ∧ ∀ j, j < i → insB (uR (bdF f R (zL 10 L) j).1 10 (ldr f j)) (bdF f R (zL 10 L) j).2
  | 0, _ => by
    have L0 : ∀ l : Nat, l < 10 → zL 10 L l = 0 := fun l hl => zL_h 10 L l (by omega) (by omega)
    refine ⟨⟨0, fun _ => 0, fun _ => 0, by decide, ⟨fun l hl => ?_, fun l hl hl2 => absurd rfl hl2, fun p _ => ⟨[], [], ⟨by decide, List.nodup_nil, fun j hj => (by cases hj), fun l _ hl hl2 => absurd rfl hl2⟩, fun g hg => by cases hg⟩⟩, by decide, ⟨fun p hp h => absurd (L0 p hp) h, fun l hl => ⟨fun h => absurd (L0 l hl) h, fun h => absurd rfl h⟩, fun _ _ _ => rfl, fun l hl h => absurd (L0 l hl) h⟩, fun i h0 h1 => Or.inl (zL_h 10 L i h0 h1), fun k hk => zL_h 6 G k (by omega) (by omega), fun J hJ hj u hu => ?_, fun J hJ hu l _ h => absurd rfl h⟩, fun j hj => absurd hj (Nat.not_lt_zero _)⟩
    · show (0 : Int) ≠ 0 ↔ _
      rw [Nat.zero_testBit]
      exact ⟨fun g => absurd rfl g, fun g => by cases g⟩
    · obtain ⟨q, q0, -⟩ := hu
      exact absurd q0 (Nat.not_lt_zero _)
  | i + 1, hi => by
    obtain ⟨⟨M, hs, s, hm, hS⟩, hB⟩ := bd_h hf i (by omega)
    obtain ⟨y, M', hs', s', m', hS'⟩ := or_h hS (by omega) (v := ldr f i) (fun j j0 j1 => by unfold ldr; rw [if_neg (by omega)]) (ldr_5 hf (by omega)) (ldr_n hf (by omega))
    refine ⟨⟨M', hs', s', by omega, tS_c (fun u => ?_) hS'⟩, fun j hj => ?_⟩
    · rw [pd_ldr]
      constructor
      · rintro (⟨q, q0, q1⟩ | q)
        · exact ⟨q, by omega, q1⟩
        · exact ⟨i, by omega, q⟩
      · rintro ⟨q, q0, q1⟩
        rcases Decidable.em (q = i) with g | g
        · rw [g] at q1; exact Or.inr q1
        · exact Or.inl ⟨q, by omega, q1⟩
    · rcases Decidable.em (j = i) with g | g
      · rw [g]; exact y
      · exact hB j (by omega)
theorem cbS_t {Sys : lV → Prop} {M : Nat} {R : Nat → Nat → Int} {L G hs s : Int → Int} (hS : tS Sys M R L G hs s) (h4 : pcB M ≤ 4) : ∃ b c, (M, 0, b, c) ∈ cbS0 ∧ clS Sys M 0 b c R L G hs s := by
  obtain ⟨td, hM, cm, hL, hG, hJ1, hJ2⟩ := hS
  obtain ⟨b', c', m', l1, l2, w1, w2⟩ := cbC_h (cb_0 ⟨M, hM⟩ h4)
  have r := tld_r td hM
  have d := tld_c td hM h4
  refine ⟨b', c', m', rel_w r (by rw [l1]; exact r.1) w1, crB_w d (by rw [l2]; exact d.1) w2, cm, hL, fun k hk => ?_, hJ1, hJ2, fun k hk hb => ?_, fun w _ => gi_0 w hs s⟩
  · rw [hG k hk, Nat.zero_testBit]
    exact ⟨Or.inl rfl, fun h => (by cases h), fun h => (by cases h)⟩
  · rw [Nat.zero_testBit] at hb
    cases hb
theorem cb_all : grT cbS0 [cbS1, cbS2, cbS3, cbS4, cbS5, cbS6] = true := by
  show (grA cbS1 cbS0 && (grA cbS2 cbS1 && (grA cbS3 cbS2 && (grA cbS4 cbS3 && (grA cbS5 cbS4 && (grA cbS6 cbS5 && grZ cbS6)))))) = true
  rw [cb_1, cb_2, cb_3, cb_4, cb_5, cb_6, cb_z]
  rfl
/-- what the class's rows are in the end -/
def clE (f : Int → Int) (P : Nat) (R : Nat → Nat → Int) (L : Int → Int) (hs s : Int → Int) : Prop := (ech hs s ∧ ∀ l : Nat, l < 10 → hs l ≠ 0 → ∀ j, j < 15 → zAbs (rv s l j) ≤ 2 ^ 480) ∧ (∀ i : Int, 0 ≤ i → i < 10 → L i = 0 ∨ L i = 1) ∧ (∀ l : Nat, l < 10 → (L l ≠ 0 ↔ hs l ≠ 0)) ∧ (∀ l : Nat, 10 ≤ l → l < 15 → hs l = 0) ∧ (∀ l : Nat, l < 10 → L l ≠ 0 → ∀ j, j < 10 → R l j = rv s l j) ∧ (∀ J, lin J → jr J hs s → ∀ u, Sy f P u → J u) ∧ (∀ J, clo3 J → (∀ u, Sy f P u → J u) → jr J hs s) ∧ ∀ (v : lV) (w : Int), (w = 0 ∨ w = 1) → dg2 v → wsp hs s v → wsp hs s (xs w v)
theorem idl_h (hf : ∀ i : Int, 0 ≤ i → i < 30 → -5 ≤ f i ∧ f i ≤ 5) {P : Nat} (hP : P ≤ 4) : idB f P R L G ∧ ∃ hs s, clE f P (idR f P R L G) (idG f P R L G).2.1 hs s ∧ ((idQ f P R L G).2 = -1 ↔ wsp hs s (sv f 24)) := by
  obtain ⟨⟨M, hs, s, hm, hS⟩, hB⟩ := bd_h (f := f) (R := R) (L := L) (G := G) hf P hP
  obtain ⟨b1, β1, hm1, hS1⟩ := cbS_t hS (by omega)
  obtain ⟨g1, g2⟩ := grT_h _ _ cb_all hm1 hS1
  have e6 : grF [cbS1, cbS2, cbS3, cbS4, cbS5, cbS6].length (bdF f R (zL 10 L) P).1 (bdF f R (zL 10 L) P).2 (zL 6 G) = idG f P R L G := rfl
  have e6' : grB [cbS1, cbS2, cbS3, cbS4, cbS5, cbS6].length (bdF f R (zL 10 L) P).1 (bdF f R (zL 10 L) P).2 (zL 6 G) = grB 6 (bdF f R (zL 10 L) P).1 (bdF f R (zL 10 L) P).2 (zL 6 G) := rfl
  rw [e6'] at g1
  rw [e6] at g2
  obtain ⟨M, g, b, c, hs, s, hS, hg, hc9⟩ := g2
  obtain ⟨r, d, cm, h01, hG, hJ1, hJ2, -, hgi⟩ := hS
  have ec := r.2.2.1
  have cm' := cm
  obtain ⟨hS0, hL, hH, hE⟩ := cm'
  have hJ := fun J (_ : lin J) => cmp_J ec cm J
  have rowE : ∀ l : Nat, l < 10 → (idG f P R L G).2.1 l ≠ 0 → ∀ j, j < 10 → idR f P R L G l j = rv s l j := fun l hl h2 j hj => by
    unfold idR
    rw [uR_n _ _ (by omega)]
    exact hE l hl h2 j hj
  have e10 : idR f P R L G 10 = ldr f 4 := uR_s _ _ _
  have q5 : ∀ j, j < 10 → zAbs (ldr f 4 j) ≤ 2 ^ 3 := fun j hj => Int.le_trans (ldr_5 hf (by decide) j hj) (by decide)
  obtain ⟨a1, a2⟩ := rdI_h (R := idR f P R L G) (L := (idG f P R L G).2.1) (N := 10) (w := 3) ec d (Nat.le_refl _) hL rowE q5 (by omega) 10 (ldr f 4) (-1) (Nat.le_refl _) (rdI_0 _)
  refine ⟨⟨fun i hi => hB i hi, g1, by rw [e10]; exact a1⟩, hs, s, ⟨⟨ec, fun l hl h2 j hj => Int.le_trans (crB_r ec d (p := 9) (by decide) (by omega) h2 hj) (p2_m hc9)⟩, h01, hL, hH, rowE, hJ1, hJ2, fun v w hw hz hv => ?_⟩, ?_⟩
  · -- closed: by the tops
    have low : ∀ n, n ≤ 6 → ∀ v, wsp hs s v → (∀ j, n ≤ j → v j = 0) → wsp hs s (xs w v) := by
      intro n
      induction n with
      | zero => exact fun _ v _ hz => lin_0 (wsp_lin hs s) (xs_0 w (fun k => hz k (Nat.zero_le k)))
      | succ n ih =>
        intro hn v hv hz
        rcases Decidable.em (v n = 0) with q | q
        · exact ih (by omega) v hv (fun j hj => by
            rcases Decidable.em (j = n) with q2 | q2
            · rw [q2]; exact q
            · exact hz j (by omega))
        · have hn' := wsp_t ec hv (by omega) q (fun j j0 _ => hz j (by omega))
          have hLn := (hL n (by omega)).mpr hn'
          obtain ⟨p0, pz⟩ := hS0 n (by omega) hLn
          have x1 : wsp hs s (xs w (pd ((idG f P R L G).1 n))) := by
            rw [cmp_d ec cm (by omega) hLn]
            exact hgi w hw _ (wsp_lin hs s) wsp_r _ (lin_xs (wsp_lin hs s) w) (fun u hu => hu) (fun l hl h2 h3 => by
              rw [hg l hl ((r.2.1 l (by omega)).mp h2)] at h3
              cases h3) n (by omega) hn'
          have m1 := (hJ _ (wsp_lin hs s)).mp wsp_r n (by omega) hLn
          have pz' : ∀ j, n < j → pd ((idG f P R L G).1 n) j = 0 := fun j hj => by
            rcases Nat.lt_or_ge j 10 with q2 | q2
            · rw [pd_i q2]; exact pz j hj q2
            · exact pd_o q2
          have x2 := ih (by omega) _ ((wsp_lin hs s).1 v _ ((idG f P R L G).1 n n) (-v n) hv m1) (fun j hj => by
            show (idG f P R L G).1 n n * v j + -v n * pd ((idG f P R L G).1 n) j = 0
            rcases Decidable.em (j = n) with q2 | q2
            · rw [q2, pd_i (by omega)]; grind
            · rw [hz j (by omega), pz' j (by omega)]; omega)
          refine lin_d (wsp_lin hs s) (T := (idG f P R L G).1 n n) (a := 1) (b := v n) (by omega) x2 x1 (fun k => ?_)
          rw [xs_l]
          grind
    exact low 6 (Nat.le_refl _) v hv hz
  · have hSq : rwS (idR f P R L G) (idG f P R L G).2.1 := uR_S hS0
    have hh := rdF_h hSq 10 (ldr f 4) (-1) (Nat.le_refl _) (fun i a b _ => by omega) (Or.inl ⟨rfl, fun i a b => by omega⟩)
    have eq : idQ f P R L G = rdF (idR f P R L G) (idG f P R L G).2.1 10 (ldr f 4) (-1) := by unfold idQ; rw [e10]
    rw [← eq] at hh
    have sp := rdF_J (wsp_lin hs s) hSq 10 (ldr f 4) (-1) (Nat.le_refl _) (fun l hl h2 => by
      have : pd (idR f P R L G l) = rv s l := funext (fun j => by
        rcases Nat.lt_or_ge j 10 with q | q
        · rw [pd_i q]; exact rowE l hl h2 j q
        · rw [pd_o q]
          rcases Nat.lt_or_ge j 15 with q2 | q2
          · exact ((ec l (by omega) ((hL l (by omega)).mp h2)).2.1 j (by omega) q2).symm
          · exact (rv_o s l q2).symm)
      rw [this]
      exact wsp_r l (by omega) ((hL l (by omega)).mp h2))
    rw [← eq, pd_ldr, show (6 : Int) * ((4 : Nat) : Int) = 24 from rfl] at sp
    rw [sp]
    constructor
    · intro g
      rcases hh.2 with q | ⟨k, q, -⟩
      · refine lin_0 (wsp_lin hs s) (fun j => ?_)
        rcases Nat.lt_or_ge j 10 with q2 | q2
        · rw [pd_i q2]; exact q.2 j q2
        · exact pd_o q2
      · omega
    · intro g
      have z := wsp_z ec g 15 (Nat.le_refl _) (fun j h1 h2 => by omega) (fun j hj h2 => by
        rcases Nat.lt_or_ge j 10 with q | q
        · rw [pd_i q]; exact hh.1 j q ((hL j q).mpr h2)
        · exact pd_o q)
      rcases hh.2 with q | ⟨k, q, q1, -, q2, -⟩
      · exact q.1
      · have := z k (by omega)
        rw [pd_i q1] at this
        exact absurd this q2
end
