/-! Leads: what pairs and what monomials below them there are. -/
def dvb (d k : Nat) : Bool := decide (mX (d : Int) ≤ mX (k : Int)) && decide (mY (d : Int) ≤ mY (k : Int))
def eCb (a b : Nat) : Bool := ((decide (0 < mX (a : Int)) && decide (0 < mX (b : Int))) || (decide (0 < mY (a : Int)) && decide (0 < mY (b : Int)))) && decide (4 < max (mX (a : Int)) (mX (b : Int)) + max (mY (a : Int)) (mY (b : Int)))
/-- low leads L (of 6) and leads a, b go together -/
def lOk (L a b : Nat) (s6 : Bool) : Bool :=
  -- a and b are least
  (List.range 6).all (fun d => !(L.testBit d) || ((!(dvb d a) || d == a) && (!(dvb d b) || d == b))) &&
  (!(decide (a < 6)) || L.testBit a) && (!(decide (b < 6)) || L.testBit b) &&
  (!s6 || ((!(dvb 6 a) || 6 == a) && (!(dvb 6 b) || 6 == b))) &&
  -- leads go up
  (!(L.testBit 0) || (L.testBit 1 && L.testBit 2)) && (!(L.testBit 1) || (L.testBit 3 && L.testBit 4)) && (!(L.testBit 2) || (L.testBit 4 && L.testBit 5)) &&
  -- one under all others
  (List.range 6).all (fun l => !(L.testBit l) || !((List.range 6).all (fun t => !(L.testBit t) || dvb l t)) || ((qM l).testBit a && (qM l).testBit b)) &&
  -- lines
  (!(L == 24) || ((qM 1).testBit a && (qM 1).testBit b)) && (!(L == 48) || s6 || ((qM 2).testBit a && (qM 2).testBit b)) && !(L == 0)
def cnt (p : Nat → Bool) : Nat → Nat
  | 0 => 0
  | n + 1 => cnt p n + (bif p n then 1 else 0)
theorem lOk_c : ∀ a : Fin 15, ∀ b : Fin 15, eCb a.val b.val = true → (List.range 64).all (fun L => !(lOk L a.val b.val true) && !(lOk L a.val b.val false)) = true := by decide +kernel
/-- with a power of y and one of x among the leads: above degree 2 all are multiples, and at most four below -/
theorem lOk_f : ∀ a : Fin 15, ∀ b : Fin 15, mX (a.val : Nat) = 0 → mY (b.val : Nat) = 0 → (List.range 64).all (fun L => (!(lOk L a.val b.val true) && !(lOk L a.val b.val false)) || ((List.range 15).all (fun k => decide (k < 6) || dvb a.val k || dvb b.val k || (List.range 6).any (fun d => L.testBit d && dvb d k)) && decide (cnt (fun k => !(L.testBit k)) 6 ≤ 4))) = true := by decide +kernel
