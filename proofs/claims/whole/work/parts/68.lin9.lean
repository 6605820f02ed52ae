/-! The abstract run over tables of states. -/
abbrev abT : Type := List (Nat × Nat × List Nat)
def bt (M i : Nat) : Bool := Nat.beq ((M / 2 ^ i) % 2) 1
theorem bt_e (M i : Nat) : bt M i = M.testBit i := by
  unfold bt
  rw [Nat.testBit_eq_decide_div_mod_eq]
  cases h : Nat.beq (M / 2 ^ i % 2) 1
  · have : ¬ M / 2 ^ i % 2 = 1 := fun g => by rw [g] at h; cases h
    simp [this]
  · have := Nat.eq_of_beq_eq_true h
    simp [this]
def nrB (M : Nat) : Nat → List Nat → List Nat
  | _, [] => []
  | i, x :: r => bif bt M i then 0 :: nrB M (i + 1) r else x :: r
def upB (t p w y : Nat) : Nat → List Nat → List Nat
  | _, [] => []
  | i, x :: r => (bif Nat.ble p i then x + w else bif Nat.ble t i then y else x) :: upB t p w y (i + 1) r
def gt (b : List Nat) (k : Nat) : Nat := match b, k with
  | [], _ => 0
  | x :: _, 0 => x
  | _ :: r, k + 1 => gt r k
def mxL : List Nat → List Nat → List Nat
  | x :: a, y :: b => (bif Nat.ble x y then y else x) :: mxL a b
  | a, _ => a
def abP : abT → Nat → Nat → List Nat → abT
  | [], M, g, b => [(M, g, b)]
  | e :: r, M, g, b => bif Nat.beq M e.1 && Nat.beq g e.2.1 then (M, g, mxL e.2.2 b) :: r else e :: abP r M g b
def abF (Q M : Nat) (b : List Nat) (p w : Nat) : Nat → abT → abT
  | 0, S => S
  | t + 1, S => abF Q M b p w t (bif bt M t || !(bt Q t) then S else abP S (M ||| 2 ^ t) 1 (nrB (M ||| 2 ^ t) 0 (upB t p w (gt b p + w) 0 b)))
def abN (Q : Nat) (T : abT) (M g : Nat) (b : List Nat) (p w : Nat) : abT := bif bt M p then abF Q M b p w p (abP T M g b) else abP T (M ||| 2 ^ p) 1 (nrB (M ||| 2 ^ p) 0 (upB p p w (gt b p + w) 0 b))
def abS (Q l p : Nat) : abT → abT → abT
  | [], T => T
  | e :: r, T => abS Q l p r (bif bt e.1 l then abN Q T e.1 e.2.1 e.2.2 p (gt e.2.2 l + 4) else abP T e.1 e.2.1 e.2.2)
def abO (b : List Nat) (p w : Nat) : Bool := Nat.blt (1 + 2 * gt b p + w) 16744 && Nat.blt (2 + gt b 14 + gt b p + w) 16744
def abK (l p : Nat) : abT → Bool
  | [] => true
  | e :: r => (!(bt e.1 l) || abO e.2.2 p (gt e.2.2 l + 4)) && abK l p r
def abR (Q : Nat) (S : abT) : List (Nat × Nat) → Option abT
  | [] => some S
  | x :: r => bif abK x.1 x.2 S then abR Q (abS Q x.1 x.2 S []) r else none
/-- rows and where x and y take their leads -/
def abL : List (Nat × Nat) := [(0, 2), (0, 1), (1, 4), (1, 3), (2, 5), (2, 4), (3, 7), (3, 6), (4, 8), (4, 7), (5, 9), (5, 8), (6, 11), (6, 10), (7, 12), (7, 11), (8, 13), (8, 12), (9, 14), (9, 13)]
def leB : List Nat → List Nat → Bool
  | [], _ => true
  | x :: a, y :: b => Nat.ble x y && leB a b
  | _ :: _, [] => false
def leF (M : Nat) (b : List Nat) : abT → Bool
  | [] => false
  | e :: r => (Nat.beq M e.1 && Nat.beq 0 e.2.1 && leB b e.2.2) || leF M b r
/-- what has grown is in the next table -/
def leT (T : abT) : abT → Bool
  | [] => true
  | e :: r => (Nat.beq e.2.1 0 || leF e.1 e.2.2 T) && leT T r
def abM : abT → Bool
  | [] => true
  | e :: r => e.2.2.all (fun x => Nat.ble x 5400) && abM r
def abC (Q : Nat) (S T : abT) : Bool := match abR Q S abL with
  | none => false
  | some U => leT T U && abM U
-- the system's rows
def abQ (p : Nat) : abT → abT → abT
  | [], T => T
  | e :: r, T => abQ p r (abN 32767 T e.1 0 e.2.2 p 5)
def abE (T : abT) : abT → abT
  | [] => T
  | e :: r => abE (abP T e.1 0 e.2.2) r
def abY (S : abT) : abT := abE [] (abQ 5 S (abQ 4 S (abQ 3 S (abQ 2 S (abQ 1 S (abQ 0 S S))))))
def abZ : abT → Bool
  | [] => true
  | e :: r => abO e.2.2 0 5 && abO e.2.2 1 5 && abO e.2.2 2 5 && abO e.2.2 3 5 && abO e.2.2 4 5 && abO e.2.2 5 5 && abZ r
def abU : abT := [(0, 0, [0, 0, 0, 0, 0, 0, 0, 0, 0, 0, 0, 0, 0, 0, 0])]
/-- two leads at the least -/
def ab2 (M : Nat) : Bool := !(Nat.beq (M &&& (M - 1)) 0)
def leT2 (T : abT) : abT → Bool
  | [] => true
  | e :: r => (!(ab2 e.1) || leF e.1 e.2.2 T) && leT2 T r
def abG : abT := abY (abY (abY (abY abU)))
theorem abG_k : (abZ abU && abZ (abY abU) && abZ (abY (abY abU)) && abZ (abY (abY (abY abU)))) = true := by decide +kernel
