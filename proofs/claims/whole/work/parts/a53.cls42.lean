/-! The face: what solve leaves. -/
/-- the ideal's rows among the numbers -/
def vR (V : Nat → Int) : Nat → Nat → Int := fun r c => V (rb r + c)
def sP0 (f g : Int → Int) : Prop := ∀ i : Int, 0 ≤ i → i < 30 → f i = g i
def slL (A : Nat → Int → Int) (V : Nat → Int) (P : Nat) (f : Int → Int) : Int → Int := (idG f P (vR V) (A 2) (A 3)).2.1
def slG (A : Nat → Int → Int) (V : Nat → Int) (P : Nat) (f : Int → Int) : Int → Int := (idG f P (vR V) (A 2) (A 3)).2.2
def slR (A : Nat → Int → Int) (V : Nat → Int) (P : Nat) (f : Int → Int) : Nat → Nat → Int := uR (idR f P (vR V) (A 2) (A 3)) 10 (idQ f P (vR V) (A 2) (A 3)).1
def slQ (A : Nat → Int → Int) (V : Nat → Int) (P : Nat) (f : Int → Int) : Int := if (idQ f P (vR V) (A 2) (A 3)).2 = -1 then 1 else 0
/-- the numbers, the ideal's rows laid anew -/
def sV (V : Nat → Int) (R : Nat → Nat → Int) : Nat → Int := fun t => if t < 120 then R ((t - 10) / 10) ((t - 10) % 10) else V t
def slA (L : Int → Int) : Int := if L 0 = 1 then 0 else if L 6 = 1 ∧ L 7 = 1 ∧ L 8 = 1 ∧ L 9 = 1 then 1 else 2
theorem vR_i {W : Nat → Int → Int} {V : Nat → Int} (h : aR W V) : iR W (vR V) := ⟨fun r hr c hc => by
  have rr : rb r = 10 + 10 * r := if_pos hr
  exact h.1 _ (by omega) (by omega), h.2⟩
theorem sV_i {W W' : Nat → Int → Int} {V : Nat → Int} {R : Nat → Nat → Int} (h : aR W V) (ho : iO W W') (hR : iR W' R) : aR W' (sV V R) := ⟨fun t t0 t1 => by
  unfold sV
  by_cases c : t < 120
  · rw [if_pos c]
    have rr : rb ((t - 10) / 10) = 10 + 10 * ((t - 10) / 10) := if_pos (by omega)
    have := hR.1 ((t - 10) / 10) (by omega) ((t - 10) % 10) (by omega)
    rw [rr, show 10 + 10 * ((t - 10) / 10) + (t - 10) % 10 = t by omega] at this
    exact this
  · rw [if_neg c, ho t (by omega)]
    exact h.1 t t0 t1, hR.2⟩
def slF (F : Nat → Int) (q v : Int) : Nat → Int := uF (uF (uF (uF F 0 (F 0 + 1)) 3 (F 2)) 4 q) 1 v
def slM (A : Nat → Int → Int) (f L G : Int → Int) : Nat → Int → Int := uA (uA (uA A 1 f) 2 L) 3 G
/-- the room that solve asks -/
def slB (A : Nat → Int → Int) (V : Nat → Int) (P : Nat) : Prop := ∀ f, sP0 f (A 0) → idB f P (vR V) (A 2) (A 3) ∧ (∀ i : Int, 0 ≤ i → i < 10 → slL A V P f i = 0 ∨ slL A V P f i = 1) ∧ (slA (slL A V P f) ≠ 2 → ∃ (st : Int → Int) (n : Nat), chG (slL A V P f) (A 4) 6 = (st, (n : Int)) ∧ n ≤ 4 ∧ (∀ j : Nat, j < n → 0 ≤ st j ∧ st j < 6) ∧ bdQ (sV V (slR A V P f)) (slL A V P f) st (fun c => f (24 + (c : Int))) n)
