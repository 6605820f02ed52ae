/-! The sizes of the reduced rows in the finite case (R1). -/
theorem dv_st : ∀ a k : Fin 15, dvb a.val k.val = true → a.val = k.val ∨ (a.val < 10 ∧ a.val < sh 0 a.val ∧ sh 0 a.val < 15 ∧ dvb (sh 0 a.val) k.val = true) ∨ (a.val < 10 ∧ a.val < sh 1 a.val ∧ sh 1 a.val < 15 ∧ dvb (sh 1 a.val) k.val = true) := by decide +kernel
theorem lead_dv {hs0 s0 : Int → Int} {z : (Int → Int) × (Int → Int)} (f : fin hs0 s0 z) {k : Nat} (hk : k < 15) : ∀ (m a : Nat), 15 ≤ a + m → a < 15 → z.1 a ≠ 0 → dvb a k = true → z.1 k ≠ 0
  | 0, a, h, ha, _, _ => by omega
  | m + 1, a, h, ha, h0, hd => by
    rcases dv_st ⟨a, ha⟩ ⟨k, hk⟩ hd with e | ⟨a1, a2, a3, a4⟩ | ⟨a1, a2, a3, a4⟩
    · have e' : a = k := e
      rw [← e']
      exact h0
    · exact lead_dv f hk m (sh 0 a) (by have : a < sh 0 a := a2; omega) a3 (lead_up f (Or.inl rfl) a1 h0) a4
    · exact lead_dv f hk m (sh 1 a) (by have : a < sh 1 a := a2; omega) a3 (lead_up f (Or.inr rfl) a1 h0) a4
/-- what is no lead is standard -/
theorem std_of {hs0 s0 : Int → Int} {z : (Int → Int) × (Int → Int)} {g g' : Int → Int} (f : fin hs0 s0 z) {k : Nat} (hk : k < 15) (h : z.1 k = 0) : ∃ i : Nat, i < (fG (fE z.1 15 g 15).1 (fE z.1 15 g 15).2 g' 15).2 ∧ (fG (fE z.1 15 g 15).1 (fE z.1 15 g 15).2 g' 15).1 i = k := by
  refine fG_a _ _ g' 15 k hk ((gFb_iff _ _ _).mpr fun i hi hh => ?_)
  obtain ⟨a, a0, a1, a2⟩ := fE_l (hs := z.1) (n := 15) (g := g) 15 i hi
  rw [a1] at hh
  exact lead_dv f hk 15 a (by omega) a0 (by rw [a2.1]; decide) ((dvb_e a k).mpr hh) h
def wW (z : (Int → Int) × (Int → Int)) (v : lV) : Prop := wsp z.1 z.2 v ∧ ∀ j, 15 ≤ j → v j = 0
section
variable {hs0 s0 : Int → Int} {z : (Int → Int) × (Int → Int)}
theorem wW_c (f : fin hs0 s0 z) : clo (wW z) := by
  have h1 := wsp_c f
  have h2 := dgn_lin 15
  exact ⟨⟨fun u v a b hu hv => ⟨h1.1.1 u v a b hu.1 hv.1, h2.1 u v a b hu.2 hv.2⟩, fun v T hT hv => ⟨h1.1.2.1 v T hT hv.1, h2.2.1 v T hT hv.2⟩, h1.1.2.2, h2.2.2⟩, fun v w hw hz hv => ⟨h1.2 v w hw hz hv.1, fun j hj => xs0_n v hj w⟩⟩
theorem wW_J (f : fin hs0 s0 z) {J : lV → Prop} (hJ : clo J) (h0 : jr J hs0 s0) {v : lV} (hv : wW z v) : J v := by
  have hr := f.2.1 J hJ h0
  obtain ⟨⟨T, c, hT, c0, eq⟩, v15⟩ := hv
  have hS : J (fun j => dS (fun l => c l * rv z.2 l j) 15) := lin_S hJ.1 (fun l hl hc => hr l hl (fun q => hc (c0 l hl q)))
  refine lin_d hJ.1 hT hS hJ.1.2.2 (a := 1) (b := 0) (fun k => ?_)
  rcases Nat.lt_or_ge k 15 with g | g
  · rw [eq k g]
    omega
  · rw [v15 k g, dS_0 (fun l _ => by rw [rv_o z.2 l g]; omega)]
    omega
theorem wW_r {k : Nat} (hk : k < 15) (h : z.1 k ≠ 0) : wW z (rv z.2 k) := ⟨wsp_r k hk h, fun _ hj => rv_o z.2 k hj⟩
/-- the product of all leads' numbers, and the remainders of all monomials -/
def pvD (hs s : Int → Int) : Nat → Int
  | 0 => 1
  | k + 1 => pvD hs s k * dq hs s k
def nfR (hs s : Int → Int) (k : Nat) : lV := fun j => if hs k = 0 then (if j = k then pvD hs s 15 else 0) else if j = k then 0 else -(pvD hs s 15 / s (45 * (k : Int) + k) * rv s k j)
theorem pvD_h {hs s : Int → Int} (e : ech hs s) : ∀ n : Nat, n ≤ 15 → pvD hs s n ≠ 0 ∧ ∀ k : Nat, k < n → dq hs s k ∣ pvD hs s n
  | 0, _ => ⟨by show (1 : Int) ≠ 0; decide, fun k hk => absurd hk (Nat.not_lt_zero _)⟩
  | n + 1, hn => by
    obtain ⟨h1, h2⟩ := pvD_h e n (by omega)
    have d0 : dq hs s n ≠ 0 := by
      unfold dq
      split
      · decide
      · rename_i q
        have := (e n (by omega) q).1
        rw [rv_in (by omega)] at this
        omega
    refine ⟨mul_n h1 d0, fun k hk => ?_⟩
    show dq hs s k ∣ pvD hs s n * dq hs s n
    rcases Nat.lt_or_ge k n with q | q
    · exact Int.dvd_trans (h2 k q) ⟨_, rfl⟩
    · have : k = n := by omega
      subst this
      exact ⟨pvD hs s k, Int.mul_comm _ _⟩
theorem nfd_W (f : fin hs0 s0 z) (hB : ∀ j : Nat, j < 15 → z.1 j = 0 → j < 6) : nfd (wW z) (fun j : Nat => j < 15 ∧ z.1 j = 0) (pvD z.1 z.2 15) (nfR z.1 z.2) := by
  have e := fin_e f
  obtain ⟨D0, Dd⟩ := pvD_h e 15 (Nat.le_refl _)
  have wc := wW_c f
  refine ⟨wc, D0, fun k hk => ?_, fun k j hk hj => ?_, fun v hv hz j => ?_, fun j hj => hB j hj.1 hj.2⟩
  · rcases Decidable.em (z.1 k = 0) with q | q
    · refine lin_0 wc.1 (fun j => ?_)
      unfold nfR
      rw [if_pos q]
      omega
    · refine lin_c wc.1 (pvD z.1 z.2 15 / z.2 (45 * (k : Int) + k)) (wW_r hk q) (fun j => ?_)
      unfold nfR
      rw [if_neg q]
      split
      · rename_i g
        subst g
        rw [rv_in hk]
        have := Dd j hk
        unfold dq at this
        rw [if_neg q] at this
        rw [Int.ediv_mul_cancel this]
        omega
      · omega
  · unfold nfR
    rcases Decidable.em (z.1 k = 0) with q | q
    · rw [if_pos q, if_neg (fun g => hj ⟨by omega, by rw [g]; exact q⟩)]
    · rw [if_neg q]
      split
      · rfl
      · rename_i g
        have : rv z.2 k j = 0 := by
          rcases Nat.lt_or_ge j 15 with h | h
          · exact (e k hk q).2.2.1 j h g (fun g2 => hj ⟨h, g2⟩)
          · exact rv_o z.2 k h
        rw [this]
        omega
  · rcases Nat.lt_or_ge j 15 with g | g
    · exact wsp_z e hv.1 15 (Nat.le_refl _) (fun j h1 h2 => by omega) (fun j _ hl => hz j (fun q => hl q.2)) j g
    · exact hv.2 j g
end
/-- a finite system has no common factor -/
theorem no_fac {S W : lV → Prop} (hWJ : ∀ J, clo J → (∀ u, S u → J u) → ∀ v, W v → J v) (h6 : ld W 6) (h9 : ld W 9) (l : lV) (k : Nat) (hk : k < 6) (k0 : k ≠ 0) (hl : l k ≠ 0) (hz : ∀ j, k < j → l j = 0) (hm : ∀ u, S u → mul1 l u) : False := by
  have hQ := mul1_Q hk hl hz
  have hW := hWJ _ (mul1_clo l) hm
  obtain ⟨q1, q2, q3, q4, q5⟩ := qM_9
  obtain ⟨v6, a6, b6, c6⟩ := h6
  obtain ⟨v9, a9, b9, c9⟩ := h9
  have t6 := hQ v6 6 (hW v6 a6) (by decide) b6 (fun j hj _ => c6 j hj)
  have t9 := hQ v9 9 (hW v9 a9) (by decide) b9 (fun j hj _ => c9 j hj)
  have hk' : k = 1 ∨ k = 2 ∨ k = 3 ∨ k = 4 ∨ k = 5 := by omega
  rcases hk' with rfl | rfl | rfl | rfl | rfl
  · rw [q1] at t9; cases t9
  · rw [q2] at t6; cases t6
  · rw [q3] at t9; cases t9
  · rw [q4] at t6; cases t6
  · rw [q5] at t6; cases t6
/-- it has two leads at the least -/
theorem two_at {S W : lV → Prop} (hS : ∀ u, S u → dg2 u) (hWJ : ∀ J, clo J → (∀ u, S u → J u) → ∀ v, W v → J v) (h0 : ¬ ld (spo S) 0) (h6 : ld W 6) (h9 : ld W 9) : ∃ a b : Nat, a < 6 ∧ b < 6 ∧ a ≠ b ∧ ld (spo S) a ∧ ld (spo S) b := by
  have hd := Cn_d hS 0
  rcases Classical.em (∃ a, a < 6 ∧ ld (spo S) a) with ⟨a, a0, a1⟩ | n1
  · rcases Classical.em (∃ b, b < 6 ∧ a ≠ b ∧ ld (spo S) b) with ⟨b, b0, b1, b2⟩ | n2
    · exact ⟨a, b, a0, b0, b1, a1, b2⟩
    · obtain ⟨f, f0, f1, f2⟩ := a1
      have a00 : a ≠ 0 := fun q => h0 (q ▸ ⟨f, f0, f1, f2⟩)
      refine absurd (no_fac hWJ h6 h9 f a a0 a00 f1 f2 (fun u hu => ?_)) id
      have Ud := (spo_lin S).1 u f (f a) (-u a) (spo_i hu) f0
      have z := no_ld hd Ud (fun t ht hl => by
        rcases Decidable.em (a = t) with q | q
        · rw [← q]; grind
        · exact absurd ⟨t, ht, q, hl⟩ n2)
      exact lin_d (mul1_lin f) (T := f a) (a := u a) (b := 0) f1 (mul1_s (hd f f0)) (mul1_lin f).2.2 (fun k => by have := z k; grind)
  · refine absurd (no_fac hWJ h6 h9 (fun j => if j = 3 then 1 else 0) 3 (by decide) (by decide) (by decide) (fun j hj => if_neg (by omega)) (fun u hu => lin_0 (mul1_lin _) (no_ld hd (spo_i hu) (fun t ht hl => absurd ⟨t, ht, hl⟩ n1)))) id
