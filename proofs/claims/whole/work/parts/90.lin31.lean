/-! At most n + 1 pairs lead out of n standard monomials. -/
def mvn (k : Nat) (w : Int) : Int := mN (mX (k : Int) + 1 - w) (mY (k : Int) + w)
def clL (l : List Nat) : Bool := l.all fun k => (List.range 6).all fun d => !(dvb d k) || l.any (fun x => Nat.beq x d)
def inL (l : List Nat) (k : Nat) (w : Int) : Bool := l.any fun x => decide ((x : Int) = mvn k w)
def cpL (l : List Nat) : List Nat → Nat
  | [] => 0
  | k :: r => cpL l r + ((bif inL l k 0 then 0 else 1) + (bif inL l k 1 then 0 else 1))
theorem clL_2 : ∀ a b : Fin 6, a.val < b.val → clL [a.val, b.val] = true → cpL [a.val, b.val] [b.val, a.val] ≤ 3 := by decide +kernel
theorem clL_3 : ∀ a b c : Fin 6, a.val < b.val → b.val < c.val → clL [a.val, b.val, c.val] = true → cpL [a.val, b.val, c.val] [c.val, b.val, a.val] ≤ 4 := by decide +kernel
theorem clL_4 : ∀ a b c d : Fin 6, a.val < b.val → b.val < c.val → c.val < d.val → clL [a.val, b.val, c.val, d.val] = true → cpL [a.val, b.val, c.val, d.val] [d.val, c.val, b.val, a.val] ≤ 5 := by decide +kernel
theorem pcw_1 (hs : Int → Int) (k : Int) : pcw hs k ≤ 1 := by
  unfold pcw
  split <;> omega
theorem pcw_L {hs st : Int → Int} {l : List Nat} {j k : Nat} {w : Int} (h : st j = k) (hz : ∀ x : Nat, x ∈ l → hs x = 0) : pcw hs (mv st j w) ≤ (bif inL l k w then 0 else 1) := by
  have e : mv st j w = mvn k w := by
    unfold mv mvn
    rw [h]
  rw [e]
  cases q : inL l k w
  · exact pcw_1 hs _
  · unfold inL at q
    obtain ⟨x, x0, x1⟩ := List.any_eq_true.mp q
    have x2 := of_decide_eq_true x1
    unfold pcw
    rw [← x2, if_pos (hz x x0)]
    exact Nat.le_refl _
theorem clL_h {st : Int → Int} {n : Nat} {l : List Nat} (hl : ∀ k : Nat, k ∈ l ↔ ∃ j : Nat, j < n ∧ st j = k) (hcl : ∀ j : Nat, j < n → ∀ d : Nat, d < 6 → mX (d : Int) ≤ mX (st j) → mY (d : Int) ≤ mY (st j) → ∃ i : Nat, i < n ∧ st i = d) : clL l = true := by
  unfold clL
  refine List.all_eq_true.mpr fun k hk => List.all_eq_true.mpr fun d hd => ?_
  obtain ⟨j, j0, j1⟩ := (hl k).mp hk
  cases q : dvb d k
  · rfl
  · have g := (dvb_e d k).mp q
    rw [← j1] at g
    have := (hl d).mpr (hcl j j0 d (List.mem_range.mp hd) g.1 g.2)
    show (false || _) = true
    rw [Bool.false_or]
    exact List.any_eq_true.mpr ⟨d, this, Nat.beq_refl d⟩
theorem pc_h {hs st : Int → Int} {n : Nat} (hn : n ≤ 4) (h0 : ∀ j : Nat, j < n → 0 ≤ st j ∧ st j < 6) (hx : ∀ i j : Nat, i < j → j < n → st i < st j) (hcl : ∀ j : Nat, j < n → ∀ d : Nat, d < 6 → mX (d : Int) ≤ mX (st j) → mY (d : Int) ≤ mY (st j) → ∃ i : Nat, i < n ∧ st i = d) (hz : ∀ j : Nat, j < n → hs (st j) = 0) : pc hs st n ≤ n + 1 := by
  have nat : ∀ j : Nat, j < n → ∃ k : Nat, k < 6 ∧ st j = k := fun j hj => ⟨(st j).toNat, by have := h0 j hj; omega, by have := h0 j hj; omega⟩
  match n, hn with
  | 0, _ => exact Nat.zero_le _
  | 1, _ =>
    show 0 + (pcw hs (mv st (0 : Nat) 0) + pcw hs (mv st (0 : Nat) 1)) ≤ 2
    have a := pcw_1 hs (mv st (0 : Nat) 0)
    have b := pcw_1 hs (mv st (0 : Nat) 1)
    omega
  | 2, _ =>
    obtain ⟨a, a0, a1⟩ := nat 0 (by omega)
    obtain ⟨b, b0, b1⟩ := nat 1 (by omega)
    have x1 := hx 0 1 (by omega) (by omega)
    have hl : ∀ k : Nat, k ∈ [a, b] ↔ ∃ j : Nat, j < 2 ∧ st j = k := fun k => by
      simp only [List.mem_cons, List.not_mem_nil, or_false]
      refine ⟨fun h => ?_, fun ⟨j, j0, j1⟩ => ?_⟩
      · rcases h with g | g
        · exact ⟨0, by omega, by omega⟩
        · exact ⟨1, by omega, by omega⟩
      · match j, j0 with
        | 0, _ => omega
        | 1, _ => omega
    have z : ∀ x : Nat, x ∈ [a, b] → hs x = 0 := fun x h => by
      obtain ⟨j, j0, j1⟩ := (hl x).mp h
      rw [← j1]
      exact hz j j0
    have c := clL_2 ⟨a, a0⟩ ⟨b, b0⟩ (show a < b by omega) (clL_h hl hcl)
    have c' : 0 + ((bif inL [a, b] a 0 then 0 else 1) + (bif inL [a, b] a 1 then 0 else 1)) + ((bif inL [a, b] b 0 then 0 else 1) + (bif inL [a, b] b 1 then 0 else 1)) ≤ 3 := c
    show 0 + (pcw hs (mv st (0 : Nat) 0) + pcw hs (mv st (0 : Nat) 1)) + (pcw hs (mv st (1 : Nat) 0) + pcw hs (mv st (1 : Nat) 1)) ≤ 3
    have p1 := pcw_L (w := 0) a1 z
    have p2 := pcw_L (w := 1) a1 z
    have p3 := pcw_L (w := 0) b1 z
    have p4 := pcw_L (w := 1) b1 z
    omega
  | 3, _ =>
    obtain ⟨a, a0, a1⟩ := nat 0 (by omega)
    obtain ⟨b, b0, b1⟩ := nat 1 (by omega)
    obtain ⟨c, c0, c1⟩ := nat 2 (by omega)
    have x1 := hx 0 1 (by omega) (by omega)
    have x2 := hx 1 2 (by omega) (by omega)
    have hl : ∀ k : Nat, k ∈ [a, b, c] ↔ ∃ j : Nat, j < 3 ∧ st j = k := fun k => by
      simp only [List.mem_cons, List.not_mem_nil, or_false]
      refine ⟨fun h => ?_, fun ⟨j, j0, j1⟩ => ?_⟩
      · rcases h with g | g | g
        · exact ⟨0, by omega, by omega⟩
        · exact ⟨1, by omega, by omega⟩
        · exact ⟨2, by omega, by omega⟩
      · match j, j0 with
        | 0, _ => omega
        | 1, _ => omega
        | 2, _ => omega
    have z : ∀ x : Nat, x ∈ [a, b, c] → hs x = 0 := fun x h => by
      obtain ⟨j, j0, j1⟩ := (hl x).mp h
      rw [← j1]
      exact hz j j0
    have q := clL_3 ⟨a, a0⟩ ⟨b, b0⟩ ⟨c, c0⟩ (show a < b by omega) (show b < c by omega) (clL_h hl hcl)
    have q' : 0 + ((bif inL [a, b, c] a 0 then 0 else 1) + (bif inL [a, b, c] a 1 then 0 else 1)) + ((bif inL [a, b, c] b 0 then 0 else 1) + (bif inL [a, b, c] b 1 then 0 else 1)) + ((bif inL [a, b, c] c 0 then 0 else 1) + (bif inL [a, b, c] c 1 then 0 else 1)) ≤ 4 := q
    show 0 + (pcw hs (mv st (0 : Nat) 0) + pcw hs (mv st (0 : Nat) 1)) + (pcw hs (mv st (1 : Nat) 0) + pcw hs (mv st (1 : Nat) 1)) + (pcw hs (mv st (2 : Nat) 0) + pcw hs (mv st (2 : Nat) 1)) ≤ 4
    have p1 := pcw_L (w := 0) a1 z
    have p2 := pcw_L (w := 1) a1 z
    have p3 := pcw_L (w := 0) b1 z
    have p4 := pcw_L (w := 1) b1 z
    have p5 := pcw_L (w := 0) c1 z
    have p6 := pcw_L (w := 1) c1 z
    omega
  | 4, _ =>
    obtain ⟨a, a0, a1⟩ := nat 0 (by omega)
    obtain ⟨b, b0, b1⟩ := nat 1 (by omega)
    obtain ⟨c, c0, c1⟩ := nat 2 (by omega)
    obtain ⟨d, d0, d1⟩ := nat 3 (by omega)
    have x1 := hx 0 1 (by omega) (by omega)
    have x2 := hx 1 2 (by omega) (by omega)
    have x3 := hx 2 3 (by omega) (by omega)
    have hl : ∀ k : Nat, k ∈ [a, b, c, d] ↔ ∃ j : Nat, j < 4 ∧ st j = k := fun k => by
      simp only [List.mem_cons, List.not_mem_nil, or_false]
      refine ⟨fun h => ?_, fun ⟨j, j0, j1⟩ => ?_⟩
      · rcases h with g | g | g | g
        · exact ⟨0, by omega, by omega⟩
        · exact ⟨1, by omega, by omega⟩
        · exact ⟨2, by omega, by omega⟩
        · exact ⟨3, by omega, by omega⟩
      · match j, j0 with
        | 0, _ => omega
        | 1, _ => omega
        | 2, _ => omega
        | 3, _ => omega
    have z : ∀ x : Nat, x ∈ [a, b, c, d] → hs x = 0 := fun x h => by
      obtain ⟨j, j0, j1⟩ := (hl x).mp h
      rw [← j1]
      exact hz j j0
    have q := clL_4 ⟨a, a0⟩ ⟨b, b0⟩ ⟨c, c0⟩ ⟨d, d0⟩ (show a < b by omega) (show b < c by omega) (show c < d by omega) (clL_h hl hcl)
    have q' : 0 + ((bif inL [a, b, c, d] a 0 then 0 else 1) + (bif inL [a, b, c, d] a 1 then 0 else 1)) + ((bif inL [a, b, c, d] b 0 then 0 else 1) + (bif inL [a, b, c, d] b 1 then 0 else 1)) + ((bif inL [a, b, c, d] c 0 then 0 else 1) + (bif inL [a, b, c, d] c 1 then 0 else 1)) + ((bif inL [a, b, c, d] d 0 then 0 else 1) + (bif inL [a, b, c, d] d 1 then 0 else 1)) ≤ 5 := q
    show 0 + (pcw hs (mv st (0 : Nat) 0) + pcw hs (mv st (0 : Nat) 1)) + (pcw hs (mv st (1 : Nat) 0) + pcw hs (mv st (1 : Nat) 1)) + (pcw hs (mv st (2 : Nat) 0) + pcw hs (mv st (2 : Nat) 1)) + (pcw hs (mv st (3 : Nat) 0) + pcw hs (mv st (3 : Nat) 1)) ≤ 5
    have p1 := pcw_L (w := 0) a1 z
    have p2 := pcw_L (w := 1) a1 z
    have p3 := pcw_L (w := 0) b1 z
    have p4 := pcw_L (w := 1) b1 z
    have p5 := pcw_L (w := 0) c1 z
    have p6 := pcw_L (w := 1) c1 z
    have p7 := pcw_L (w := 0) d1 z
    have p8 := pcw_L (w := 1) d1 z
    omega
