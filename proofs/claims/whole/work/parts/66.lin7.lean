/-! Certificates go on over a step. -/
theorem crt_m {hs s : Int → Int} {p q : Nat} {G : List lV} {L : List Nat} (h : q ≤ p) (k : crt hs s p G L) : crt hs s q G L := ⟨k.1, k.2.1, k.2.2.1, fun l h1 h2 h3 => k.2.2.2 l (by omega) h2 h3⟩
theorem rv_o (s : Int → Int) (l : Nat) {k : Nat} (h : 15 ≤ k) : rv s l k = 0 := by
  unfold rv
  rw [if_neg (by omega)]
theorem wv_o (s : Int → Int) {k : Nat} (h : 15 ≤ k) : wv s k = 0 := by
  unfold wv
  rw [if_neg (by omega)]
section
variable {hs s0 s' : Int → Int} {t p : Nat}
theorem crt_l {q : Nat} {G : List lV} {L : List Nat} (hq : q < t) (ht : hs t = 0) (c : stC s0 s' t) (k : crt hs s0 q G L) : crt (uI hs t 1) s' q G L := by
  have u1 : ∀ l : Nat, l ≠ t → uI hs t 1 l = hs l := fun l hl => uI_n _ _ (by omega)
  obtain ⟨k0, k1, k2, k3⟩ := k
  refine ⟨k0, k1, fun j hj => ?_, fun l h1 h2 h3 => ?_⟩
  · obtain ⟨a, b⟩ := k2 j hj
    refine ⟨a, ?_⟩
    rw [u1 j (fun e => b (e ▸ ht))]
    exact b
  · rw [u1 l (by omega)] at h3
    obtain ⟨a, b⟩ := k3 l h1 h2 h3
    exact ⟨a, nul_e b (c l (by omega))⟩
theorem crt_n {q : Nat} {G : List lV} {L : List Nat} (e : ech hs s0) (e' : ech (uI hs t 1) s') (hq : p ≤ q) (h15 : t < 15) (htp : t ≤ p) (ht : hs t = 0) (hv : ∀ j, p < j → j < 15 → wv s0 j = 0) (a : stA hs s0 s' t) (b : stB hs s0 s' t) (k : crt hs s0 q G L) : crt (uI hs t 1) s' q (wv s0 :: G) (t :: L) := by
  have u1 : ∀ l : Nat, l ≠ t → uI hs t 1 l = hs l := fun l hl => uI_n _ _ (by omega)
  have ut : uI hs t 1 (t : Int) = 1 := uI_s _ _ _
  obtain ⟨k0, k1, k2, k3⟩ := k
  obtain ⟨T, h, c, T0, h0, c0, c1, hr⟩ := a
  obtain ⟨p0, p1, p2, p3⟩ := e' t h15 (by rw [ut]; decide)
  -- what was taken away is of the old span
  have acc : nul G (fun j => dS (fun l => c l * rv s0 l j) 15) := nul_S (fun l hl hc => by
    have g : hs l ≠ 0 := fun g => hc (c0 l hl g)
    have e1 := c1 l hl g
    rcases Nat.lt_or_ge p l with g2 | g2
    · rw [hv l g2 hl, Int.mul_zero] at e1
      rcases Int.mul_eq_zero.mp e1 with q | q
      · exact absurd q hc
      · have := (e l hl g).1
        omega
    · exact (k3 l (by omega) hl g).2)
  have hw : ∀ j, h * rv s' t j = T * wv s0 j + -1 * dS (fun l => c l * rv s0 l j) 15 := fun j => by
    rcases Nat.lt_or_ge j 15 with g | g
    · rw [hr j g]
      omega
    · rw [rv_o s' t g, wv_o s0 g, dS_0 (fun l _ => by rw [rv_o s0 l g]; omega)]
      omega
  have dtw : ∀ J, dt ((fun j => h * rv s' t j) :: G) J = T * dt (wv s0 :: G) J := fun J => dt_w T (-1) acc hw J
  have nw : nul (wv s0 :: G) (rv s' t) := by
    refine nul_d (w := fun j => h * rv s' t j) h0 (fun _ => rfl) ?_
    exact nul_e (nul_l T (-1) (nul_s G (wv s0)) (nul_c (wv s0) acc)) hw
  refine ⟨?_, ?_, fun j hj => ?_, fun l l0 l1 l2 => ?_⟩
  · have z1 : dt ((fun j => h * rv s' t j) :: G) (t :: L) = h * rv s' t t * dt G L := dt_z (fun j hj => by
      have hj2 := k2 j hj
      have hne : j ≠ t := fun g => hj2.2 (g ▸ ht)
      show h * rv s' t j = 0
      rw [p2 j hj2.1 hne (by rw [u1 j hne]; exact hj2.2), Int.mul_zero])
    rw [dtw] at z1
    intro g
    rw [g, Int.mul_zero] at z1
    have : h * rv s' t t = 0 ∨ dt G L = 0 := Int.mul_eq_zero.mp z1.symm
    rcases this with g2 | g2
    · have := mul_z h0 g2
      omega
    · exact k0 g2
  · exact List.nodup_cons.mpr ⟨fun g => (k2 t g).2 ht, k1⟩
  · rcases List.mem_cons.mp hj with g | g
    · subst g
      exact ⟨h15, by rw [ut]; decide⟩
    · obtain ⟨a, b⟩ := k2 j g
      exact ⟨a, by rw [u1 j (fun e => b (e ▸ ht))]; exact b⟩
  · rcases Decidable.em (l = t) with g | g
    · subst g
      exact ⟨List.mem_cons_self, nw⟩
    · rw [u1 l g] at l2
      obtain ⟨a, n⟩ := k3 l l0 l1 l2
      obtain ⟨C, h', D, C0, h0', er⟩ := b l l1 l2
      refine ⟨List.mem_cons_of_mem _ a, nul_d (w := fun j => h' * rv s' l j) h0' (fun _ => rfl) ?_⟩
      refine nul_e (nul_l C (-D) (nul_c (wv s0) n) nw) (fun j => ?_)
      rcases Nat.lt_or_ge j 15 with g2 | g2
      · rw [er j g2]
        grind
      · rw [rv_o s' l g2, rv_o s0 l g2, rv_o s' t g2]
        omega
end
/-- the unit vectors of the places up to k -/
def unV (i : Nat) : lV := fun j => if j = i then 1 else 0
def unG : Nat → List lV
  | 0 => []
  | k + 1 => unV k :: unG k
def unL : Nat → List Nat
  | 0 => []
  | k + 1 => k :: unL k
theorem unL_m : ∀ (k j : Nat), j ∈ unL k ↔ j < k
  | 0, j => by
    constructor
    · intro h; cases h
    · intro h; omega
  | k + 1, j => by
    show j ∈ k :: unL k ↔ _
    rw [List.mem_cons, unL_m k j]
    omega
theorem unL_n : ∀ k, (unL k).Nodup
  | 0 => List.nodup_nil
  | k + 1 => List.nodup_cons.mpr ⟨fun h => by have := (unL_m k k).mp h; omega, unL_n k⟩
theorem unG_d : ∀ k, dt (unG k) (unL k) = 1
  | 0 => rfl
  | k + 1 => by
    show dt (unV k :: unG k) (k :: unL k) = 1
    rw [dt_z (fun j hj => ?_), unG_d k]
    · show (if k = k then (1 : Int) else 0) * 1 = 1
      rw [if_pos rfl]
      rfl
    · have := (unL_m k j).mp hj
      show (if j = k then (1 : Int) else 0) = 0
      rw [if_neg (by omega)]
theorem nS_u {i : Nat} : ∀ n, nS (unV i) n ≤ 1 ∧ (n ≤ i → nS (unV i) n = 0)
  | 0 => ⟨by show (0 : Int) ≤ 1; decide, fun _ => rfl⟩
  | n + 1 => by
    obtain ⟨h1, h2⟩ := nS_u (i := i) n
    have e : zAbs (unV i n) = if n = i then 1 else 0 := by
      unfold unV
      split <;> decide
    refine ⟨?_, fun h => ?_⟩
    · show nS (unV i) n + zAbs (unV i n) ≤ 1
      rw [e]
      split
      · rw [h2 (by omega)]
        decide
      · omega
    · show nS (unV i) n + zAbs (unV i n) = 0
      rw [e, if_neg (by omega), h2 (by omega)]
      rfl
theorem unG_p : ∀ k, nP 15 (unG k) ≤ 1
  | 0 => Int.le_refl _
  | k + 1 => by
    show nS (unV k) 15 * nP 15 (unG k) ≤ 1
    have := Int.mul_le_mul (nS_u (i := k) 15).1 (unG_p k) (nP_p 15 _) (by decide)
    exact this
theorem unG_m : ∀ {k i : Nat}, i < k → unV i ∈ unG k
  | 0, _, h => absurd h (Nat.not_lt_zero _)
  | k + 1, i, h => by
    rcases Decidable.em (i = k) with e | e
    · subst e
      exact List.mem_cons_self
    · exact List.mem_cons_of_mem _ (unG_m (by omega))
theorem crt_u {hs s : Int → Int} {k : Nat} (hk : k < 15) (e : ech hs s) (h : ∀ j : Nat, j ≤ k → hs j ≠ 0) : crt hs s k (unG (k + 1)) (unL (k + 1)) := by
  refine ⟨by rw [unG_d]; decide, unL_n _, fun j hj => ?_, fun l l0 l1 l2 => ⟨(unL_m _ _).mpr (by omega), ?_⟩⟩
  · have := (unL_m _ _).mp hj
    exact ⟨by omega, h j (by omega)⟩
  · refine nul_e (nul_S (n := 15) (c := fun i => rv s l i) (r := unV) (fun i hi hc => nul_m (unG_m ?_))) (fun j => ?_)
    · rcases Nat.lt_or_ge k i with g | g
      · exact absurd ((e l l1 l2).2.1 i (by omega) hi) hc
      · omega
    · show rv s l j = dS (fun i => rv s l i * unV i j) 15
      rcases Nat.lt_or_ge j 15 with g | g
      · rw [dS_1 (q := j) g (fun i _ hn => by show rv s l i * (if j = i then 1 else 0) = 0; rw [if_neg (fun q => hn q.symm), Int.mul_zero])]
        show rv s l j = rv s l j * (if j = j then 1 else 0)
        rw [if_pos rfl, Int.mul_one]
      · rw [rv_o s l g, dS_0 (fun i hi => ?_)]
        show rv s l i * (if j = i then 1 else 0) = 0
        rw [if_neg (by omega), Int.mul_zero]
