/-! Spans: what all linear sets with the rows hold. -/
def lin (J : lV → Prop) : Prop := (∀ (u v : lV) (a b : Int), J u → J v → J (fun k => a * u k + b * v k)) ∧ (∀ (v : lV) (T : Int), T ≠ 0 → J (fun k => T * v k) → J v) ∧ J (fun _ => 0)
def jr (J : lV → Prop) (hs s : Int → Int) : Prop := ∀ l : Nat, l < 15 → hs l ≠ 0 → J (rv s l)
theorem lin_S {J : lV → Prop} (h : lin J) {c : Nat → Int} {r : Nat → lV} : ∀ {n : Nat}, (∀ l, l < n → c l ≠ 0 → J (r l)) → J (fun j => dS (fun l => c l * r l j) n)
  | 0, _ => h.2.2
  | n + 1, hh => by
    have h1 := lin_S h (c := c) (r := r) (n := n) (fun l hl => hh l (by omega))
    rcases Decidable.em (c n = 0) with g | g
    · have e : (fun j => dS (fun l => c l * r l j) (n + 1)) = fun j => dS (fun l => c l * r l j) n := funext (fun j => by
        show dS (fun l => c l * r l j) n + c n * r n j = _
        rw [g, Int.zero_mul, Int.add_zero])
      rw [e]
      exact h1
    · have e : (fun j => dS (fun l => c l * r l j) (n + 1)) = fun j => 1 * dS (fun l => c l * r l j) n + c n * r n j := funext (fun j => by
        show dS (fun l => c l * r l j) n + c n * r n j = _
        omega)
      rw [e]
      exact h.1 _ _ 1 (c n) h1 (hh n (by omega) g)
theorem lin_d {J : lV → Prop} (h : lin J) {u v w : lV} {T a b : Int} (hT : T ≠ 0) (hu : J u) (hv : J v) (e : ∀ k, T * w k = a * u k + b * v k) : J w := by
  refine h.2.1 w T hT ?_
  have e2 : (fun k => T * w k) = fun k => a * u k + b * v k := funext e
  rw [e2]
  exact h.1 u v a b hu hv
/-- a step makes the span of the old rows and the new vector -/
theorem spn_J {hs s : Int → Int} {J : lV → Prop} (h : lin J) (hsp : spn hs s (wv s)) (hj : jr J hs s) : J (wv s) := by
  obtain ⟨T, c, T0, c0, -, e⟩ := hsp
  have h1 : J (fun j => dS (fun l => c l * rv s l j) 15) := lin_S h (fun l hl hc => hj l hl (fun g => hc (c0 l hl g)))
  refine lin_d h (T := T) (a := 1) (b := 0) (by omega) h1 h.2.2 (fun k => ?_)
  rcases Nat.lt_or_ge k 15 with g | g
  · rw [e k g]
    omega
  · rw [wv_o s g, dS_0 (fun l _ => by rw [rv_o s l g]; omega)]
    omega
theorem st_J {hs s s' : Int → Int} {t : Nat} {J : lV → Prop} (h : lin J) (h15 : t < 15) (ht : hs t = 0) (a : stA hs s s' t) (b : stB hs s s' t) : (jr J hs s → J (wv s) → jr J (uI hs t 1) s') ∧ (jr J (uI hs t 1) s' → jr J hs s ∧ J (wv s)) := by
  have u1 : ∀ l : Nat, l ≠ t → uI hs t 1 l = hs l := fun l hl => uI_n _ _ (by omega)
  obtain ⟨T, hh, c, T0, hn, c0, -, e⟩ := a
  have e' : ∀ k, hh * rv s' t k = T * wv s k + -1 * dS (fun l => c l * rv s l k) 15 := fun k => by
    rcases Nat.lt_or_ge k 15 with g | g
    · rw [e k g]
      omega
    · rw [rv_o s' t g, wv_o s g, dS_0 (fun l _ => by rw [rv_o s l g]; omega)]
      omega
  have b' : ∀ l : Nat, l < 15 → hs l ≠ 0 → ∃ C h' D : Int, 0 < C ∧ h' ≠ 0 ∧ ∀ k, h' * rv s' l k = C * rv s l k + -D * rv s' t k := fun l hl hl2 => by
    obtain ⟨C, h', D, C0, h0, er⟩ := b l hl hl2
    refine ⟨C, h', D, C0, h0, fun k => ?_⟩
    rcases Nat.lt_or_ge k 15 with g | g
    · rw [er k g]
      grind
    · rw [rv_o s' l g, rv_o s l g, rv_o s' t g]
      omega
  refine ⟨fun hj hv => ?_, fun hj => ?_⟩
  · have hS : J (fun j => dS (fun l => c l * rv s l j) 15) := lin_S h (fun l hl hc => hj l hl (fun g => hc (c0 l hl g)))
    have ht' : J (rv s' t) := lin_d h hn hv hS e'
    intro l hl hl2
    rcases Decidable.em (l = t) with g | g
    · rw [g]
      exact ht'
    · rw [u1 l g] at hl2
      obtain ⟨C, h', D, C0, h0, er⟩ := b' l hl hl2
      exact lin_d h h0 (hj l hl hl2) ht' er
  · have ht' : J (rv s' t) := hj t h15 (by rw [uI_s]; decide)
    have old : jr J hs s := fun l hl hl2 => by
      obtain ⟨C, h', D, C0, h0, er⟩ := b' l hl hl2
      have hl' : J (rv s' l) := hj l hl (by rw [u1 l (fun g => hl2 (g ▸ ht))]; exact hl2)
      refine lin_d h (T := C) (a := h') (b := D) (by omega) hl' ht' (fun k => ?_)
      have := er k
      grind
    refine ⟨old, ?_⟩
    have hS : J (fun j => dS (fun l => c l * rv s l j) 15) := lin_S h (fun l hl hc => old l hl (fun g => hc (c0 l hl g)))
    refine lin_d h (T := T) (a := hh) (b := 1) (by omega) ht' hS (fun k => ?_)
    have := e' k
    omega
/-- the place that x (0) or y (1) takes to place j, or 15 -/
def shP (w : Int) (j : Nat) : Nat := if w = 0 then (if 1 ≤ mX j then (mN (mX j - 1) (mY j)).toNat else 15) else (if 1 ≤ mY j then (mN (mX j) (mY j - 1)).toNat else 15)
/-- x (0) or y (1) times a vector -/
def xs (w : Int) (v : lV) : lV := fun j => if j < 15 ∧ shP w j < 10 then v (shP w j) else 0
theorem shP_k : ∀ w : Fin 2, ∀ j : Fin 15, ∀ k : Fin 10, shP (w.val : Nat) j.val = k.val ↔ j.val = (mN (mX (k.val : Nat) + 1 - (w.val : Nat)) (mY (k.val : Nat) + (w.val : Nat))).toNat := by decide +kernel
