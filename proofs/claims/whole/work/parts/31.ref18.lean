/-! The reference's numbers by places: rn (A 0) s; each method moves one place. -/
theorem nm_nil {g : Int → Int} {p : Int} (h : g (p * 601) = 0) : nm g p 0 := by
  refine ⟨0, by omega, ?_, ?_, ?_⟩
  all_goals simp_all [vl, lr]
theorem nm_neg {f : Int → Int} {p z : Int} (h : nm f p z) : nm (uI f (p * 601) (-f (p * 601))) p (-z) := by
  obtain ⟨n, -, -, -, a1, -, a2, a3, a4, -, -, -⟩ := nm_h h
  rcases Decidable.em (z = 0) with e | e
  · have e0 : f (p * 601) = 0 := a4.mpr e
    rw [e]
    exact nm_nil (by rw [uI_s, e0]; rfl)
  · have h1 := zSgn_in z e
    have h2 := zSgn_h h
    have h3 := zSgn_zAbs (f (p * 601))
    have h4 := zSgn_zAbs z
    have h5 := nm_hd (s := -zSgn z) h a1 (by omega)
    rw [← a1, Int.neg_mul, Int.neg_mul, h4, ← h2, h3] at h5
    exact h5
section
variable {F : Nat → Int} {A : Nat → Int → Int} {s : Int → Int} {rt : Option eV → eM → Prop}
theorem SX10_isZero_n {p : Int} (hr : rn (A 0) s) (h0 : 0 ≤ p ∧ p < 2666) (h : rt (some (eI (zZ (s p)))) (cR F A)) : SX10_isZero [eRR, eI p] (cR F A) rt := by
  have h1 := hr p h0.1 h0.2
  refine SX10_isZero_j (by omega) (nm_w h1) ?_
  obtain ⟨n, -, -, -, -, -, -, -, a4, -, -, -⟩ := nm_h h1
  have e : zZ (A 0 (p * 601)) = zZ (s p) := by
    unfold zZ
    split <;> split <;> simp_all
  rw [e]
  exact h
theorem SX10_sign_n {p : Int} (hr : rn (A 0) s) (h0 : 0 ≤ p ∧ p < 2666) (h : rt (some (eI (zSgn (s p)))) (cR F A)) : SX10_sign [eRR, eI p] (cR F A) rt := by
  have h1 := hr p h0.1 h0.2
  refine SX10_sign_i (by omega) (nm_w h1) ?_
  rw [zSgn_h h1]
  exact h
theorem SX10_negate_n {p : Int} (hr : rn (A 0) s) (h0 : 0 ≤ p ∧ p < 2666) (h : ∀ A', sN A A' → rn (A' 0) (uI s p (-s p)) → rt none (cR F A')) : SX10_negate [eRR, eI p] (cR F A) rt := by
  refine SX10_negate_i (by omega) (h _ (sN_u (by decide) _) ?_)
  rw [uA_g]
  refine rn_up hr (fun j hj => uI_n _ _ (by omega)) (nm_neg (hr p h0.1 h0.2))
theorem SX10_copy_n {p q : Int} (hr : rn (A 0) s) (h0 : 0 ≤ p ∧ p < 2666) (h1 : 0 ≤ q ∧ q < 2666) (h : ∀ A', sN A A' → rn (A' 0) (uI s p (s q)) → rt none (cR F A')) : SX10_copy [eRR, eI p, eI q] (cR F A) rt :=
  SX10_copy_i (s q) h0 h1 (hr q h1.1 h1.2) (fun f o n => h _ (sN_u (by decide) _) (by rw [uA_g]; exact rn_up hr o n))
theorem SX10_divisor_n {p q r : Int} (hr : rn (A 0) s) (h0 : 0 ≤ p ∧ p < 2666) (h1 : 0 ≤ q ∧ q < 2666) (h2 : 0 ≤ r ∧ r < 2666) (hb : zAbs (s q) < bB ^ 598 ∧ zAbs (s r) < bB ^ 598) (h : ∀ A', sN A A' → rn (A' 0) (uI s p (Int.gcd (s q) (s r) : Int)) → rt none (cR F A')) : SX10_divisor [eRR, eI p, eI q, eI r] (cR F A) rt :=
  SX10_divisor_i (s q) (s r) h0 h1 h2 (hr q h1.1 h1.2) (hr r h2.1 h2.2) hb (fun A' n o m => h A' n (rn_up hr o m))
theorem SX10_over_n {p q : Int} (c : Int) (hr : rn (A 0) s) (h0 : 0 ≤ p ∧ p < 2666) (h1 : 0 ≤ q ∧ q < 2666) (hc : s p = s q * c) (hz : s q ≠ 0) (h : ∀ A', sN A A' → rn (A' 0) (uI s p c) → rt none (cR F A')) : SX10_over [eRR, eI p, eI q] (cR F A) rt :=
  SX10_over_i (s q) c h0 h1 (hc ▸ hr p h0.1 h0.2) (hr q h1.1 h1.2) hz (fun A' n o m => h A' n (rn_up hr o m))
theorem SX10_times_n {p q r : Int} (hr : rn (A 0) s) (h0 : 0 ≤ p ∧ p < 2666) (h1 : 0 ≤ q ∧ q < 2666) (h2 : 0 ≤ r ∧ r < 2666) (hb : zAbs (s q) * zAbs (s r) < bB ^ 598) (h : ∀ A', sN A A' → rn (A' 0) (uI s p (s q * s r)) → rt none (cR F A')) : SX10_times [eRR, eI p, eI q, eI r] (cR F A) rt :=
  SX10_times_i (s q) (s r) h0 h1 h2 (hr q h1.1 h1.2) (hr r h2.1 h2.2) hb (fun A' n o m => h A' n (rn_up hr o m))
theorem SX10_join_n {p q t : Int} (hr : rn (A 0) s) (h0 : 0 ≤ p ∧ p < 2666) (h1 : 0 ≤ q ∧ q < 2666) (hpq : p ≠ q) (ht : t = 1 ∨ t = -1) (hb : zAbs (s p) < bB ^ 599 ∧ zAbs (s q) < bB ^ 599) (h : ∀ A', sN A A' → rn (A' 0) (uI s p (s p + t * s q)) → rt none (cR F A')) : SX10_join [eRR, eI p, eI q, eI t] (cR F A) rt :=
  SX10_join_i (s p) (s q) h0 h1 hpq ht (hr p h0.1 h0.2) (hr q h1.1 h1.2) hb (fun A' n o m => h A' n (rn_up hr o m))
theorem SX10_set_n {p v : Int} (hr : rn (A 0) s) (h0 : 0 ≤ p ∧ p < 2666) (hv : -9223372036854775808 < v ∧ v < 9223372036854775808) (h : ∀ A', sN A A' → rn (A' 0) (uI s p v) → rt none (cR F A')) : SX10_set [eRR, eI p, eL v] (cR F A) rt :=
  SX10_set_i h0 hv (fun f o n => h _ (sN_u (by decide) _) (by rw [uA_g]; exact rn_up hr o n))
theorem rn_nil {p : Int} (hr : rn (A 0) s) : rn (uA A 0 (uI (A 0) (p * 601) 0) 0) (uI s p 0) := by
  rw [uA_g]
  exact rn_up hr (fun j hj => uI_n _ _ (by omega)) (nm_nil (uI_s _ _ _))
end
