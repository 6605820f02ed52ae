/-! The divisors of Faddeev and LeVerrier: k + 1 divides the k-th trace (n at most 4). Printed by gen_83.py. -/
theorem dS_2 (g : Nat → Int) : dS g 2 = g 0 + g 1 := by
  show 0 + g 0 + g 1 = _
  omega
theorem dS_3 (g : Nat → Int) : dS g 3 = g 0 + g 1 + g 2 := by
  show 0 + g 0 + g 1 + g 2 = _
  omega
theorem dS_4 (g : Nat → Int) : dS g 4 = g 0 + g 1 + g 2 + g 3 := by
  show 0 + g 0 + g 1 + g 2 + g 3 = _
  omega
def sE21 (f : mT) : Int := ((f 0 0) + (f 1 1))
def sE22 (f : mT) : Int := ((f 0 0*f 1 1 - f 0 1*f 1 0))
def sA2 (f : mT) (i j : Nat) : Int := match i, j with
  | 0, 0 => (f 1 1)
  | 0, 1 => -(f 0 1)
  | 1, 0 => -(f 1 0)
  | 1, 1 => (f 0 0)
  | _, _ => 0
theorem fl2_2 (f P : mT) (h : ∀ i j, i < 2 → j < 2 → P i j = f i j + (if i = j then -sE21 f else 0)) : dS (fun i => mM 2 f P i i) 2 = -(2 * sE22 f) := by
  have h00 : P 0 0 = f 0 0 + -sE21 f := h 0 0 (by decide) (by decide)
  have h01 : P 0 1 = f 0 1 + 0 := h 0 1 (by decide) (by decide)
  have h10 : P 1 0 = f 1 0 + 0 := h 1 0 (by decide) (by decide)
  have h11 : P 1 1 = f 1 1 + -sE21 f := h 1 1 (by decide) (by decide)
  unfold mM
  simp only [dS_2]
  rw [h00, h01, h10, h11]
  unfold sE21 sE22
  clear h00 h01 h10 h11 h
  generalize f 0 0 = a00
  generalize f 0 1 = a01
  generalize f 1 0 = a10
  generalize f 1 1 = a11
  grind
def sE31 (f : mT) : Int := ((f 0 0) + (f 1 1) + (f 2 2))
def sE32 (f : mT) : Int := ((f 0 0*f 1 1 - f 0 1*f 1 0) + (f 0 0*f 2 2 - f 0 2*f 2 0) + (f 1 1*f 2 2 - f 1 2*f 2 1))
def sE33 (f : mT) : Int := ((f 0 0*f 1 1*f 2 2 - f 0 0*f 1 2*f 2 1 - f 0 1*f 1 0*f 2 2 + f 0 1*f 1 2*f 2 0 + f 0 2*f 1 0*f 2 1 - f 0 2*f 1 1*f 2 0))
def sA3 (f : mT) (i j : Nat) : Int := match i, j with
  | 0, 0 => (f 1 1*f 2 2 - f 1 2*f 2 1)
  | 0, 1 => -(f 0 1*f 2 2 - f 0 2*f 2 1)
  | 0, 2 => (f 0 1*f 1 2 - f 0 2*f 1 1)
  | 1, 0 => -(f 1 0*f 2 2 - f 1 2*f 2 0)
  | 1, 1 => (f 0 0*f 2 2 - f 0 2*f 2 0)
  | 1, 2 => -(f 0 0*f 1 2 - f 0 2*f 1 0)
  | 2, 0 => (f 1 0*f 2 1 - f 1 1*f 2 0)
  | 2, 1 => -(f 0 0*f 2 1 - f 0 1*f 2 0)
  | 2, 2 => (f 0 0*f 1 1 - f 0 1*f 1 0)
  | _, _ => 0
theorem fl3_2 (f P : mT) (h : ∀ i j, i < 3 → j < 3 → P i j = f i j + (if i = j then -sE31 f else 0)) : dS (fun i => mM 3 f P i i) 3 = -(2 * sE32 f) := by
  have h00 : P 0 0 = f 0 0 + -sE31 f := h 0 0 (by decide) (by decide)
  have h01 : P 0 1 = f 0 1 + 0 := h 0 1 (by decide) (by decide)
  have h02 : P 0 2 = f 0 2 + 0 := h 0 2 (by decide) (by decide)
  have h10 : P 1 0 = f 1 0 + 0 := h 1 0 (by decide) (by decide)
  have h11 : P 1 1 = f 1 1 + -sE31 f := h 1 1 (by decide) (by decide)
  have h12 : P 1 2 = f 1 2 + 0 := h 1 2 (by decide) (by decide)
  have h20 : P 2 0 = f 2 0 + 0 := h 2 0 (by decide) (by decide)
  have h21 : P 2 1 = f 2 1 + 0 := h 2 1 (by decide) (by decide)
  have h22 : P 2 2 = f 2 2 + -sE31 f := h 2 2 (by decide) (by decide)
  unfold mM
  simp only [dS_3]
  rw [h00, h01, h02, h10, h11, h12, h20, h21, h22]
  unfold sE31 sE32
  clear h00 h01 h02 h10 h11 h12 h20 h21 h22 h
  generalize f 0 0 = a00
  generalize f 0 1 = a01
  generalize f 0 2 = a02
  generalize f 1 0 = a10
  generalize f 1 1 = a11
  generalize f 1 2 = a12
  generalize f 2 0 = a20
  generalize f 2 1 = a21
  generalize f 2 2 = a22
  grind
theorem fl3_a (f P : mT) (h : ∀ i j, i < 3 → j < 3 → P i j = f i j + (if i = j then -sE31 f else 0)) : ∀ i j, i < 3 → j < 3 → mM 3 f P i j + (if i = j then sE32 f else 0) = sA3 f i j := by
  have h00 : P 0 0 = f 0 0 + -sE31 f := h 0 0 (by decide) (by decide)
  have h01 : P 0 1 = f 0 1 + 0 := h 0 1 (by decide) (by decide)
  have h02 : P 0 2 = f 0 2 + 0 := h 0 2 (by decide) (by decide)
  have h10 : P 1 0 = f 1 0 + 0 := h 1 0 (by decide) (by decide)
  have h11 : P 1 1 = f 1 1 + -sE31 f := h 1 1 (by decide) (by decide)
  have h12 : P 1 2 = f 1 2 + 0 := h 1 2 (by decide) (by decide)
  have h20 : P 2 0 = f 2 0 + 0 := h 2 0 (by decide) (by decide)
  have h21 : P 2 1 = f 2 1 + 0 := h 2 1 (by decide) (by decide)
  have h22 : P 2 2 = f 2 2 + -sE31 f := h 2 2 (by decide) (by decide)
  clear h
  have q : ∀ i j, mM 3 f P i j = f i 0 * P 0 j + f i 1 * P 1 j + f i 2 * P 2 j := fun i j => dS_3 _
  have g00 : mM 3 f P 0 0 + sE32 f = (f 1 1*f 2 2 - f 1 2*f 2 1) := by
    rw [q, h00, h10, h20]
    unfold sE31 sE32
    clear q h00 h01 h02 h10 h11 h12 h20 h21 h22 
    generalize f 0 0 = a00
    generalize f 0 1 = a01
    generalize f 0 2 = a02
    generalize f 1 0 = a10
    generalize f 1 1 = a11
    generalize f 1 2 = a12
    generalize f 2 0 = a20
    generalize f 2 1 = a21
    generalize f 2 2 = a22
    grind
  have g01 : mM 3 f P 0 1 + 0 = -(f 0 1*f 2 2 - f 0 2*f 2 1) := by
    rw [q, h01, h11, h21]
    unfold sE31
    clear q h00 h01 h02 h10 h11 h12 h20 h21 h22 g00
    generalize f 0 0 = a00
    generalize f 0 1 = a01
    generalize f 0 2 = a02
    generalize f 1 0 = a10
    generalize f 1 1 = a11
    generalize f 1 2 = a12
    generalize f 2 0 = a20
    generalize f 2 1 = a21
    generalize f 2 2 = a22
    grind
  have g02 : mM 3 f P 0 2 + 0 = (f 0 1*f 1 2 - f 0 2*f 1 1) := by
    rw [q, h02, h12, h22]
    unfold sE31
    clear q h00 h01 h02 h10 h11 h12 h20 h21 h22 g00 g01
    generalize f 0 0 = a00
    generalize f 0 1 = a01
    generalize f 0 2 = a02
    generalize f 1 0 = a10
    generalize f 1 1 = a11
    generalize f 1 2 = a12
    generalize f 2 0 = a20
    generalize f 2 1 = a21
    generalize f 2 2 = a22
    grind
  have g10 : mM 3 f P 1 0 + 0 = -(f 1 0*f 2 2 - f 1 2*f 2 0) := by
    rw [q, h00, h10, h20]
    unfold sE31
    clear q h00 h01 h02 h10 h11 h12 h20 h21 h22 g00 g01 g02
    generalize f 0 0 = a00
    generalize f 0 1 = a01
    generalize f 0 2 = a02
    generalize f 1 0 = a10
    generalize f 1 1 = a11
    generalize f 1 2 = a12
    generalize f 2 0 = a20
    generalize f 2 1 = a21
    generalize f 2 2 = a22
    grind
  have g11 : mM 3 f P 1 1 + sE32 f = (f 0 0*f 2 2 - f 0 2*f 2 0) := by
    rw [q, h01, h11, h21]
    unfold sE31 sE32
    clear q h00 h01 h02 h10 h11 h12 h20 h21 h22 g00 g01 g02 g10
    generalize f 0 0 = a00
    generalize f 0 1 = a01
    generalize f 0 2 = a02
    generalize f 1 0 = a10
    generalize f 1 1 = a11
    generalize f 1 2 = a12
    generalize f 2 0 = a20
    generalize f 2 1 = a21
    generalize f 2 2 = a22
    grind
  have g12 : mM 3 f P 1 2 + 0 = -(f 0 0*f 1 2 - f 0 2*f 1 0) := by
    rw [q, h02, h12, h22]
    unfold sE31
    clear q h00 h01 h02 h10 h11 h12 h20 h21 h22 g00 g01 g02 g10 g11
    generalize f 0 0 = a00
    generalize f 0 1 = a01
    generalize f 0 2 = a02
    generalize f 1 0 = a10
    generalize f 1 1 = a11
    generalize f 1 2 = a12
    generalize f 2 0 = a20
    generalize f 2 1 = a21
    generalize f 2 2 = a22
    grind
  have g20 : mM 3 f P 2 0 + 0 = (f 1 0*f 2 1 - f 1 1*f 2 0) := by
    rw [q, h00, h10, h20]
    unfold sE31
    clear q h00 h01 h02 h10 h11 h12 h20 h21 h22 g00 g01 g02 g10 g11 g12
    generalize f 0 0 = a00
    generalize f 0 1 = a01
    generalize f 0 2 = a02
    generalize f 1 0 = a10
    generalize f 1 1 = a11
    generalize f 1 2 = a12
    generalize f 2 0 = a20
    generalize f 2 1 = a21
    generalize f 2 2 = a22
    grind
  have g21 : mM 3 f P 2 1 + 0 = -(f 0 0*f 2 1 - f 0 1*f 2 0) := by
    rw [q, h01, h11, h21]
    unfold sE31
    clear q h00 h01 h02 h10 h11 h12 h20 h21 h22 g00 g01 g02 g10 g11 g12 g20
    generalize f 0 0 = a00
    generalize f 0 1 = a01
    generalize f 0 2 = a02
    generalize f 1 0 = a10
    generalize f 1 1 = a11
    generalize f 1 2 = a12
    generalize f 2 0 = a20
    generalize f 2 1 = a21
    generalize f 2 2 = a22
    grind
  have g22 : mM 3 f P 2 2 + sE32 f = (f 0 0*f 1 1 - f 0 1*f 1 0) := by
    rw [q, h02, h12, h22]
    unfold sE31 sE32
    clear q h00 h01 h02 h10 h11 h12 h20 h21 h22 g00 g01 g02 g10 g11 g12 g20 g21
    generalize f 0 0 = a00
    generalize f 0 1 = a01
    generalize f 0 2 = a02
    generalize f 1 0 = a10
    generalize f 1 1 = a11
    generalize f 1 2 = a12
    generalize f 2 0 = a20
    generalize f 2 1 = a21
    generalize f 2 2 = a22
    grind
  intro i j hi hj
  match i, j, hi, hj with
  | 0, 0, _, _ => exact g00
  | 0, 1, _, _ => exact g01
  | 0, 2, _, _ => exact g02
  | 1, 0, _, _ => exact g10
  | 1, 1, _, _ => exact g11
  | 1, 2, _, _ => exact g12
  | 2, 0, _, _ => exact g20
  | 2, 1, _, _ => exact g21
  | 2, 2, _, _ => exact g22
  | n + 3, _, h, _ => omega
  | 0, n + 3, _, h => omega
  | 1, n + 3, _, h => omega
  | 2, n + 3, _, h => omega
theorem fl3_3 (f P : mT) (h : ∀ i j, i < 3 → j < 3 → P i j = sA3 f i j) : dS (fun i => mM 3 f P i i) 3 = 3 * sE33 f := by
  have h00 : P 0 0 = (f 1 1*f 2 2 - f 1 2*f 2 1) := h 0 0 (by decide) (by decide)
  have h01 : P 0 1 = -(f 0 1*f 2 2 - f 0 2*f 2 1) := h 0 1 (by decide) (by decide)
  have h02 : P 0 2 = (f 0 1*f 1 2 - f 0 2*f 1 1) := h 0 2 (by decide) (by decide)
  have h10 : P 1 0 = -(f 1 0*f 2 2 - f 1 2*f 2 0) := h 1 0 (by decide) (by decide)
  have h11 : P 1 1 = (f 0 0*f 2 2 - f 0 2*f 2 0) := h 1 1 (by decide) (by decide)
  have h12 : P 1 2 = -(f 0 0*f 1 2 - f 0 2*f 1 0) := h 1 2 (by decide) (by decide)
  have h20 : P 2 0 = (f 1 0*f 2 1 - f 1 1*f 2 0) := h 2 0 (by decide) (by decide)
  have h21 : P 2 1 = -(f 0 0*f 2 1 - f 0 1*f 2 0) := h 2 1 (by decide) (by decide)
  have h22 : P 2 2 = (f 0 0*f 1 1 - f 0 1*f 1 0) := h 2 2 (by decide) (by decide)
  unfold mM
  simp only [dS_3]
  rw [h00, h01, h02, h10, h11, h12, h20, h21, h22]
  unfold sE33
  clear h00 h01 h02 h10 h11 h12 h20 h21 h22 h
  generalize f 0 0 = a00
  generalize f 0 1 = a01
  generalize f 0 2 = a02
  generalize f 1 0 = a10
  generalize f 1 1 = a11
  generalize f 1 2 = a12
  generalize f 2 0 = a20
  generalize f 2 1 = a21
  generalize f 2 2 = a22
  grind
def sE41 (f : mT) : Int := ((f 0 0) + (f 1 1) + (f 2 2) + (f 3 3))
def sE42 (f : mT) : Int := ((f 0 0*f 1 1 - f 0 1*f 1 0) + (f 0 0*f 2 2 - f 0 2*f 2 0) + (f 0 0*f 3 3 - f 0 3*f 3 0) + (f 1 1*f 2 2 - f 1 2*f 2 1) + (f 1 1*f 3 3 - f 1 3*f 3 1) + (f 2 2*f 3 3 - f 2 3*f 3 2))
def sE43 (f : mT) : Int := ((f 0 0*f 1 1*f 2 2 - f 0 0*f 1 2*f 2 1 - f 0 1*f 1 0*f 2 2 + f 0 1*f 1 2*f 2 0 + f 0 2*f 1 0*f 2 1 - f 0 2*f 1 1*f 2 0) + (f 0 0*f 1 1*f 3 3 - f 0 0*f 1 3*f 3 1 - f 0 1*f 1 0*f 3 3 + f 0 1*f 1 3*f 3 0 + f 0 3*f 1 0*f 3 1 - f 0 3*f 1 1*f 3 0) + (f 0 0*f 2 2*f 3 3 - f 0 0*f 2 3*f 3 2 - f 0 2*f 2 0*f 3 3 + f 0 2*f 2 3*f 3 0 + f 0 3*f 2 0*f 3 2 - f 0 3*f 2 2*f 3 0) + (f 1 1*f 2 2*f 3 3 - f 1 1*f 2 3*f 3 2 - f 1 2*f 2 1*f 3 3 + f 1 2*f 2 3*f 3 1 + f 1 3*f 2 1*f 3 2 - f 1 3*f 2 2*f 3 1))
def sE44 (f : mT) : Int := ((f 0 0*f 1 1*f 2 2*f 3 3 - f 0 0*f 1 1*f 2 3*f 3 2 - f 0 0*f 1 2*f 2 1*f 3 3 + f 0 0*f 1 2*f 2 3*f 3 1 + f 0 0*f 1 3*f 2 1*f 3 2 - f 0 0*f 1 3*f 2 2*f 3 1 - f 0 1*f 1 0*f 2 2*f 3 3 + f 0 1*f 1 0*f 2 3*f 3 2 + f 0 1*f 1 2*f 2 0*f 3 3 - f 0 1*f 1 2*f 2 3*f 3 0 - f 0 1*f 1 3*f 2 0*f 3 2 + f 0 1*f 1 3*f 2 2*f 3 0 + f 0 2*f 1 0*f 2 1*f 3 3 - f 0 2*f 1 0*f 2 3*f 3 1 - f 0 2*f 1 1*f 2 0*f 3 3 + f 0 2*f 1 1*f 2 3*f 3 0 + f 0 2*f 1 3*f 2 0*f 3 1 - f 0 2*f 1 3*f 2 1*f 3 0 - f 0 3*f 1 0*f 2 1*f 3 2 + f 0 3*f 1 0*f 2 2*f 3 1 + f 0 3*f 1 1*f 2 0*f 3 2 - f 0 3*f 1 1*f 2 2*f 3 0 - f 0 3*f 1 2*f 2 0*f 3 1 + f 0 3*f 1 2*f 2 1*f 3 0))
def sA4 (f : mT) (i j : Nat) : Int := match i, j with
  | 0, 0 => (f 1 1*f 2 2*f 3 3 - f 1 1*f 2 3*f 3 2 - f 1 2*f 2 1*f 3 3 + f 1 2*f 2 3*f 3 1 + f 1 3*f 2 1*f 3 2 - f 1 3*f 2 2*f 3 1)
  | 0, 1 => -(f 0 1*f 2 2*f 3 3 - f 0 1*f 2 3*f 3 2 - f 0 2*f 2 1*f 3 3 + f 0 2*f 2 3*f 3 1 + f 0 3*f 2 1*f 3 2 - f 0 3*f 2 2*f 3 1)
  | 0, 2 => (f 0 1*f 1 2*f 3 3 - f 0 1*f 1 3*f 3 2 - f 0 2*f 1 1*f 3 3 + f 0 2*f 1 3*f 3 1 + f 0 3*f 1 1*f 3 2 - f 0 3*f 1 2*f 3 1)
  | 0, 3 => -(f 0 1*f 1 2*f 2 3 - f 0 1*f 1 3*f 2 2 - f 0 2*f 1 1*f 2 3 + f 0 2*f 1 3*f 2 1 + f 0 3*f 1 1*f 2 2 - f 0 3*f 1 2*f 2 1)
  | 1, 0 => -(f 1 0*f 2 2*f 3 3 - f 1 0*f 2 3*f 3 2 - f 1 2*f 2 0*f 3 3 + f 1 2*f 2 3*f 3 0 + f 1 3*f 2 0*f 3 2 - f 1 3*f 2 2*f 3 0)
  | 1, 1 => (f 0 0*f 2 2*f 3 3 - f 0 0*f 2 3*f 3 2 - f 0 2*f 2 0*f 3 3 + f 0 2*f 2 3*f 3 0 + f 0 3*f 2 0*f 3 2 - f 0 3*f 2 2*f 3 0)
  | 1, 2 => -(f 0 0*f 1 2*f 3 3 - f 0 0*f 1 3*f 3 2 - f 0 2*f 1 0*f 3 3 + f 0 2*f 1 3*f 3 0 + f 0 3*f 1 0*f 3 2 - f 0 3*f 1 2*f 3 0)
  | 1, 3 => (f 0 0*f 1 2*f 2 3 - f 0 0*f 1 3*f 2 2 - f 0 2*f 1 0*f 2 3 + f 0 2*f 1 3*f 2 0 + f 0 3*f 1 0*f 2 2 - f 0 3*f 1 2*f 2 0)
  | 2, 0 => (f 1 0*f 2 1*f 3 3 - f 1 0*f 2 3*f 3 1 - f 1 1*f 2 0*f 3 3 + f 1 1*f 2 3*f 3 0 + f 1 3*f 2 0*f 3 1 - f 1 3*f 2 1*f 3 0)
  | 2, 1 => -(f 0 0*f 2 1*f 3 3 - f 0 0*f 2 3*f 3 1 - f 0 1*f 2 0*f 3 3 + f 0 1*f 2 3*f 3 0 + f 0 3*f 2 0*f 3 1 - f 0 3*f 2 1*f 3 0)
  | 2, 2 => (f 0 0*f 1 1*f 3 3 - f 0 0*f 1 3*f 3 1 - f 0 1*f 1 0*f 3 3 + f 0 1*f 1 3*f 3 0 + f 0 3*f 1 0*f 3 1 - f 0 3*f 1 1*f 3 0)
  | 2, 3 => -(f 0 0*f 1 1*f 2 3 - f 0 0*f 1 3*f 2 1 - f 0 1*f 1 0*f 2 3 + f 0 1*f 1 3*f 2 0 + f 0 3*f 1 0*f 2 1 - f 0 3*f 1 1*f 2 0)
  | 3, 0 => -(f 1 0*f 2 1*f 3 2 - f 1 0*f 2 2*f 3 1 - f 1 1*f 2 0*f 3 2 + f 1 1*f 2 2*f 3 0 + f 1 2*f 2 0*f 3 1 - f 1 2*f 2 1*f 3 0)
  | 3, 1 => (f 0 0*f 2 1*f 3 2 - f 0 0*f 2 2*f 3 1 - f 0 1*f 2 0*f 3 2 + f 0 1*f 2 2*f 3 0 + f 0 2*f 2 0*f 3 1 - f 0 2*f 2 1*f 3 0)
  | 3, 2 => -(f 0 0*f 1 1*f 3 2 - f 0 0*f 1 2*f 3 1 - f 0 1*f 1 0*f 3 2 + f 0 1*f 1 2*f 3 0 + f 0 2*f 1 0*f 3 1 - f 0 2*f 1 1*f 3 0)
  | 3, 3 => (f 0 0*f 1 1*f 2 2 - f 0 0*f 1 2*f 2 1 - f 0 1*f 1 0*f 2 2 + f 0 1*f 1 2*f 2 0 + f 0 2*f 1 0*f 2 1 - f 0 2*f 1 1*f 2 0)
  | _, _ => 0
theorem fl4_2 (f P : mT) (h : ∀ i j, i < 4 → j < 4 → P i j = f i j + (if i = j then -sE41 f else 0)) : dS (fun i => mM 4 f P i i) 4 = -(2 * sE42 f) := by
  have h00 : P 0 0 = f 0 0 + -sE41 f := h 0 0 (by decide) (by decide)
  have h01 : P 0 1 = f 0 1 + 0 := h 0 1 (by decide) (by decide)
  have h02 : P 0 2 = f 0 2 + 0 := h 0 2 (by decide) (by decide)
  have h03 : P 0 3 = f 0 3 + 0 := h 0 3 (by decide) (by decide)
  have h10 : P 1 0 = f 1 0 + 0 := h 1 0 (by decide) (by decide)
  have h11 : P 1 1 = f 1 1 + -sE41 f := h 1 1 (by decide) (by decide)
  have h12 : P 1 2 = f 1 2 + 0 := h 1 2 (by decide) (by decide)
  have h13 : P 1 3 = f 1 3 + 0 := h 1 3 (by decide) (by decide)
  have h20 : P 2 0 = f 2 0 + 0 := h 2 0 (by decide) (by decide)
  have h21 : P 2 1 = f 2 1 + 0 := h 2 1 (by decide) (by decide)
  have h22 : P 2 2 = f 2 2 + -sE41 f := h 2 2 (by decide) (by decide)
  have h23 : P 2 3 = f 2 3 + 0 := h 2 3 (by decide) (by decide)
  have h30 : P 3 0 = f 3 0 + 0 := h 3 0 (by decide) (by decide)
  have h31 : P 3 1 = f 3 1 + 0 := h 3 1 (by decide) (by decide)
  have h32 : P 3 2 = f 3 2 + 0 := h 3 2 (by decide) (by decide)
  have h33 : P 3 3 = f 3 3 + -sE41 f := h 3 3 (by decide) (by decide)
  unfold mM
  simp only [dS_4]
  rw [h00, h01, h02, h03, h10, h11, h12, h13, h20, h21, h22, h23, h30, h31, h32, h33]
  unfold sE41 sE42
  clear h00 h01 h02 h03 h10 h11 h12 h13 h20 h21 h22 h23 h30 h31 h32 h33 h
  generalize f 0 0 = a00
  generalize f 0 1 = a01
  generalize f 0 2 = a02
  generalize f 0 3 = a03
  generalize f 1 0 = a10
  generalize f 1 1 = a11
  generalize f 1 2 = a12
  generalize f 1 3 = a13
  generalize f 2 0 = a20
  generalize f 2 1 = a21
  generalize f 2 2 = a22
  generalize f 2 3 = a23
  generalize f 3 0 = a30
  generalize f 3 1 = a31
  generalize f 3 2 = a32
  generalize f 3 3 = a33
  grind
theorem fl4_b (f P : mT) (h : ∀ i j, i < 4 → j < 4 → P i j = f i j + (if i = j then -sE41 f else 0)) : ∀ i j, i < 4 → j < 4 → mM 4 f P i j = f i 0 * f 0 j + f i 1 * f 1 j + f i 2 * f 2 j + f i 3 * f 3 j - sE41 f * f i j := by
  intro i j hi hj
  show dS (fun k => f i k * P k j) 4 = _
  rw [dS_4, h 0 j (by decide) hj, h 1 j (by decide) hj, h 2 j (by decide) hj, h 3 j (by decide) hj]
  clear h
  match j, hj with
  | 0, _ =>
    show f i 0 * (f 0 0 + -sE41 f) + f i 1 * (f 1 0 + 0) + f i 2 * (f 2 0 + 0) + f i 3 * (f 3 0 + 0) = _
    grind
  | 1, _ =>
    show f i 0 * (f 0 1 + 0) + f i 1 * (f 1 1 + -sE41 f) + f i 2 * (f 2 1 + 0) + f i 3 * (f 3 1 + 0) = _
    grind
  | 2, _ =>
    show f i 0 * (f 0 2 + 0) + f i 1 * (f 1 2 + 0) + f i 2 * (f 2 2 + -sE41 f) + f i 3 * (f 3 2 + 0) = _
    grind
  | 3, _ =>
    show f i 0 * (f 0 3 + 0) + f i 1 * (f 1 3 + 0) + f i 2 * (f 2 3 + 0) + f i 3 * (f 3 3 + -sE41 f) = _
    grind
  | n + 4, h => omega
theorem fl4_3 (f P : mT) (h : ∀ i j, i < 4 → j < 4 → P i j = f i 0 * f 0 j + f i 1 * f 1 j + f i 2 * f 2 j + f i 3 * f 3 j - sE41 f * f i j + (if i = j then sE42 f else 0)) : dS (fun i => mM 4 f P i i) 4 = 3 * sE43 f := by
  have h00 : P 0 0 = f 0 0 * f 0 0 + f 0 1 * f 1 0 + f 0 2 * f 2 0 + f 0 3 * f 3 0 - sE41 f * f 0 0 + sE42 f := h 0 0 (by decide) (by decide)
  have h01 : P 0 1 = f 0 0 * f 0 1 + f 0 1 * f 1 1 + f 0 2 * f 2 1 + f 0 3 * f 3 1 - sE41 f * f 0 1 + 0 := h 0 1 (by decide) (by decide)
  have h02 : P 0 2 = f 0 0 * f 0 2 + f 0 1 * f 1 2 + f 0 2 * f 2 2 + f 0 3 * f 3 2 - sE41 f * f 0 2 + 0 := h 0 2 (by decide) (by decide)
  have h03 : P 0 3 = f 0 0 * f 0 3 + f 0 1 * f 1 3 + f 0 2 * f 2 3 + f 0 3 * f 3 3 - sE41 f * f 0 3 + 0 := h 0 3 (by decide) (by decide)
  have h10 : P 1 0 = f 1 0 * f 0 0 + f 1 1 * f 1 0 + f 1 2 * f 2 0 + f 1 3 * f 3 0 - sE41 f * f 1 0 + 0 := h 1 0 (by decide) (by decide)
  have h11 : P 1 1 = f 1 0 * f 0 1 + f 1 1 * f 1 1 + f 1 2 * f 2 1 + f 1 3 * f 3 1 - sE41 f * f 1 1 + sE42 f := h 1 1 (by decide) (by decide)
  have h12 : P 1 2 = f 1 0 * f 0 2 + f 1 1 * f 1 2 + f 1 2 * f 2 2 + f 1 3 * f 3 2 - sE41 f * f 1 2 + 0 := h 1 2 (by decide) (by decide)
  have h13 : P 1 3 = f 1 0 * f 0 3 + f 1 1 * f 1 3 + f 1 2 * f 2 3 + f 1 3 * f 3 3 - sE41 f * f 1 3 + 0 := h 1 3 (by decide) (by decide)
  have h20 : P 2 0 = f 2 0 * f 0 0 + f 2 1 * f 1 0 + f 2 2 * f 2 0 + f 2 3 * f 3 0 - sE41 f * f 2 0 + 0 := h 2 0 (by decide) (by decide)
  have h21 : P 2 1 = f 2 0 * f 0 1 + f 2 1 * f 1 1 + f 2 2 * f 2 1 + f 2 3 * f 3 1 - sE41 f * f 2 1 + 0 := h 2 1 (by decide) (by decide)
  have h22 : P 2 2 = f 2 0 * f 0 2 + f 2 1 * f 1 2 + f 2 2 * f 2 2 + f 2 3 * f 3 2 - sE41 f * f 2 2 + sE42 f := h 2 2 (by decide) (by decide)
  have h23 : P 2 3 = f 2 0 * f 0 3 + f 2 1 * f 1 3 + f 2 2 * f 2 3 + f 2 3 * f 3 3 - sE41 f * f 2 3 + 0 := h 2 3 (by decide) (by decide)
  have h30 : P 3 0 = f 3 0 * f 0 0 + f 3 1 * f 1 0 + f 3 2 * f 2 0 + f 3 3 * f 3 0 - sE41 f * f 3 0 + 0 := h 3 0 (by decide) (by decide)
  have h31 : P 3 1 = f 3 0 * f 0 1 + f 3 1 * f 1 1 + f 3 2 * f 2 1 + f 3 3 * f 3 1 - sE41 f * f 3 1 + 0 := h 3 1 (by decide) (by decide)
  have h32 : P 3 2 = f 3 0 * f 0 2 + f 3 1 * f 1 2 + f 3 2 * f 2 2 + f 3 3 * f 3 2 - sE41 f * f 3 2 + 0 := h 3 2 (by decide) (by decide)
  have h33 : P 3 3 = f 3 0 * f 0 3 + f 3 1 * f 1 3 + f 3 2 * f 2 3 + f 3 3 * f 3 3 - sE41 f * f 3 3 + sE42 f := h 3 3 (by decide) (by decide)
  unfold mM
  simp only [dS_4]
  rw [h00, h01, h02, h03, h10, h11, h12, h13, h20, h21, h22, h23, h30, h31, h32, h33]
  unfold sE41 sE42 sE43
  clear h00 h01 h02 h03 h10 h11 h12 h13 h20 h21 h22 h23 h30 h31 h32 h33 h
  generalize f 0 0 = a00
  generalize f 0 1 = a01
  generalize f 0 2 = a02
  generalize f 0 3 = a03
  generalize f 1 0 = a10
  generalize f 1 1 = a11
  generalize f 1 2 = a12
  generalize f 1 3 = a13
  generalize f 2 0 = a20
  generalize f 2 1 = a21
  generalize f 2 2 = a22
  generalize f 2 3 = a23
  generalize f 3 0 = a30
  generalize f 3 1 = a31
  generalize f 3 2 = a32
  generalize f 3 3 = a33
  grind
theorem fl4_00 (f : mT) : f 0 0 * (f 0 0 * f 0 0 + f 0 1 * f 1 0 + f 0 2 * f 2 0 + f 0 3 * f 3 0 - sE41 f * f 0 0 + sE42 f) + f 0 1 * (f 1 0 * f 0 0 + f 1 1 * f 1 0 + f 1 2 * f 2 0 + f 1 3 * f 3 0 - sE41 f * f 1 0 + 0) + f 0 2 * (f 2 0 * f 0 0 + f 2 1 * f 1 0 + f 2 2 * f 2 0 + f 2 3 * f 3 0 - sE41 f * f 2 0 + 0) + f 0 3 * (f 3 0 * f 0 0 + f 3 1 * f 1 0 + f 3 2 * f 2 0 + f 3 3 * f 3 0 - sE41 f * f 3 0 + 0) + -sE43 f = -(f 1 1*f 2 2*f 3 3 - f 1 1*f 2 3*f 3 2 - f 1 2*f 2 1*f 3 3 + f 1 2*f 2 3*f 3 1 + f 1 3*f 2 1*f 3 2 - f 1 3*f 2 2*f 3 1) := by
  unfold sE41 sE42 sE43
  generalize f 0 0 = a00
  generalize f 0 1 = a01
  generalize f 0 2 = a02
  generalize f 0 3 = a03
  generalize f 1 0 = a10
  generalize f 1 1 = a11
  generalize f 1 2 = a12
  generalize f 1 3 = a13
  generalize f 2 0 = a20
  generalize f 2 1 = a21
  generalize f 2 2 = a22
  generalize f 2 3 = a23
  generalize f 3 0 = a30
  generalize f 3 1 = a31
  generalize f 3 2 = a32
  generalize f 3 3 = a33
  grind
theorem fl4_01 (f : mT) : f 0 0 * (f 0 0 * f 0 1 + f 0 1 * f 1 1 + f 0 2 * f 2 1 + f 0 3 * f 3 1 - sE41 f * f 0 1 + 0) + f 0 1 * (f 1 0 * f 0 1 + f 1 1 * f 1 1 + f 1 2 * f 2 1 + f 1 3 * f 3 1 - sE41 f * f 1 1 + sE42 f) + f 0 2 * (f 2 0 * f 0 1 + f 2 1 * f 1 1 + f 2 2 * f 2 1 + f 2 3 * f 3 1 - sE41 f * f 2 1 + 0) + f 0 3 * (f 3 0 * f 0 1 + f 3 1 * f 1 1 + f 3 2 * f 2 1 + f 3 3 * f 3 1 - sE41 f * f 3 1 + 0) + 0 = (f 0 1*f 2 2*f 3 3 - f 0 1*f 2 3*f 3 2 - f 0 2*f 2 1*f 3 3 + f 0 2*f 2 3*f 3 1 + f 0 3*f 2 1*f 3 2 - f 0 3*f 2 2*f 3 1) := by
  unfold sE41 sE42
  generalize f 0 0 = a00
  generalize f 0 1 = a01
  generalize f 0 2 = a02
  generalize f 0 3 = a03
  generalize f 1 0 = a10
  generalize f 1 1 = a11
  generalize f 1 2 = a12
  generalize f 1 3 = a13
  generalize f 2 0 = a20
  generalize f 2 1 = a21
  generalize f 2 2 = a22
  generalize f 2 3 = a23
  generalize f 3 0 = a30
  generalize f 3 1 = a31
  generalize f 3 2 = a32
  generalize f 3 3 = a33
  grind
theorem fl4_02 (f : mT) : f 0 0 * (f 0 0 * f 0 2 + f 0 1 * f 1 2 + f 0 2 * f 2 2 + f 0 3 * f 3 2 - sE41 f * f 0 2 + 0) + f 0 1 * (f 1 0 * f 0 2 + f 1 1 * f 1 2 + f 1 2 * f 2 2 + f 1 3 * f 3 2 - sE41 f * f 1 2 + 0) + f 0 2 * (f 2 0 * f 0 2 + f 2 1 * f 1 2 + f 2 2 * f 2 2 + f 2 3 * f 3 2 - sE41 f * f 2 2 + sE42 f) + f 0 3 * (f 3 0 * f 0 2 + f 3 1 * f 1 2 + f 3 2 * f 2 2 + f 3 3 * f 3 2 - sE41 f * f 3 2 + 0) + 0 = -(f 0 1*f 1 2*f 3 3 - f 0 1*f 1 3*f 3 2 - f 0 2*f 1 1*f 3 3 + f 0 2*f 1 3*f 3 1 + f 0 3*f 1 1*f 3 2 - f 0 3*f 1 2*f 3 1) := by
  unfold sE41 sE42
  generalize f 0 0 = a00
  generalize f 0 1 = a01
  generalize f 0 2 = a02
  generalize f 0 3 = a03
  generalize f 1 0 = a10
  generalize f 1 1 = a11
  generalize f 1 2 = a12
  generalize f 1 3 = a13
  generalize f 2 0 = a20
  generalize f 2 1 = a21
  generalize f 2 2 = a22
  generalize f 2 3 = a23
  generalize f 3 0 = a30
  generalize f 3 1 = a31
  generalize f 3 2 = a32
  generalize f 3 3 = a33
  grind
theorem fl4_03 (f : mT) : f 0 0 * (f 0 0 * f 0 3 + f 0 1 * f 1 3 + f 0 2 * f 2 3 + f 0 3 * f 3 3 - sE41 f * f 0 3 + 0) + f 0 1 * (f 1 0 * f 0 3 + f 1 1 * f 1 3 + f 1 2 * f 2 3 + f 1 3 * f 3 3 - sE41 f * f 1 3 + 0) + f 0 2 * (f 2 0 * f 0 3 + f 2 1 * f 1 3 + f 2 2 * f 2 3 + f 2 3 * f 3 3 - sE41 f * f 2 3 + 0) + f 0 3 * (f 3 0 * f 0 3 + f 3 1 * f 1 3 + f 3 2 * f 2 3 + f 3 3 * f 3 3 - sE41 f * f 3 3 + sE42 f) + 0 = (f 0 1*f 1 2*f 2 3 - f 0 1*f 1 3*f 2 2 - f 0 2*f 1 1*f 2 3 + f 0 2*f 1 3*f 2 1 + f 0 3*f 1 1*f 2 2 - f 0 3*f 1 2*f 2 1) := by
  unfold sE41 sE42
  generalize f 0 0 = a00
  generalize f 0 1 = a01
  generalize f 0 2 = a02
  generalize f 0 3 = a03
  generalize f 1 0 = a10
  generalize f 1 1 = a11
  generalize f 1 2 = a12
  generalize f 1 3 = a13
  generalize f 2 0 = a20
  generalize f 2 1 = a21
  generalize f 2 2 = a22
  generalize f 2 3 = a23
  generalize f 3 0 = a30
  generalize f 3 1 = a31
  generalize f 3 2 = a32
  generalize f 3 3 = a33
  grind
theorem fl4_10 (f : mT) : f 1 0 * (f 0 0 * f 0 0 + f 0 1 * f 1 0 + f 0 2 * f 2 0 + f 0 3 * f 3 0 - sE41 f * f 0 0 + sE42 f) + f 1 1 * (f 1 0 * f 0 0 + f 1 1 * f 1 0 + f 1 2 * f 2 0 + f 1 3 * f 3 0 - sE41 f * f 1 0 + 0) + f 1 2 * (f 2 0 * f 0 0 + f 2 1 * f 1 0 + f 2 2 * f 2 0 + f 2 3 * f 3 0 - sE41 f * f 2 0 + 0) + f 1 3 * (f 3 0 * f 0 0 + f 3 1 * f 1 0 + f 3 2 * f 2 0 + f 3 3 * f 3 0 - sE41 f * f 3 0 + 0) + 0 = (f 1 0*f 2 2*f 3 3 - f 1 0*f 2 3*f 3 2 - f 1 2*f 2 0*f 3 3 + f 1 2*f 2 3*f 3 0 + f 1 3*f 2 0*f 3 2 - f 1 3*f 2 2*f 3 0) := by
  unfold sE41 sE42
  generalize f 0 0 = a00
  generalize f 0 1 = a01
  generalize f 0 2 = a02
  generalize f 0 3 = a03
  generalize f 1 0 = a10
  generalize f 1 1 = a11
  generalize f 1 2 = a12
  generalize f 1 3 = a13
  generalize f 2 0 = a20
  generalize f 2 1 = a21
  generalize f 2 2 = a22
  generalize f 2 3 = a23
  generalize f 3 0 = a30
  generalize f 3 1 = a31
  generalize f 3 2 = a32
  generalize f 3 3 = a33
  grind
theorem fl4_11 (f : mT) : f 1 0 * (f 0 0 * f 0 1 + f 0 1 * f 1 1 + f 0 2 * f 2 1 + f 0 3 * f 3 1 - sE41 f * f 0 1 + 0) + f 1 1 * (f 1 0 * f 0 1 + f 1 1 * f 1 1 + f 1 2 * f 2 1 + f 1 3 * f 3 1 - sE41 f * f 1 1 + sE42 f) + f 1 2 * (f 2 0 * f 0 1 + f 2 1 * f 1 1 + f 2 2 * f 2 1 + f 2 3 * f 3 1 - sE41 f * f 2 1 + 0) + f 1 3 * (f 3 0 * f 0 1 + f 3 1 * f 1 1 + f 3 2 * f 2 1 + f 3 3 * f 3 1 - sE41 f * f 3 1 + 0) + -sE43 f = -(f 0 0*f 2 2*f 3 3 - f 0 0*f 2 3*f 3 2 - f 0 2*f 2 0*f 3 3 + f 0 2*f 2 3*f 3 0 + f 0 3*f 2 0*f 3 2 - f 0 3*f 2 2*f 3 0) := by
  unfold sE41 sE42 sE43
  generalize f 0 0 = a00
  generalize f 0 1 = a01
  generalize f 0 2 = a02
  generalize f 0 3 = a03
  generalize f 1 0 = a10
  generalize f 1 1 = a11
  generalize f 1 2 = a12
  generalize f 1 3 = a13
  generalize f 2 0 = a20
  generalize f 2 1 = a21
  generalize f 2 2 = a22
  generalize f 2 3 = a23
  generalize f 3 0 = a30
  generalize f 3 1 = a31
  generalize f 3 2 = a32
  generalize f 3 3 = a33
  grind
theorem fl4_12 (f : mT) : f 1 0 * (f 0 0 * f 0 2 + f 0 1 * f 1 2 + f 0 2 * f 2 2 + f 0 3 * f 3 2 - sE41 f * f 0 2 + 0) + f 1 1 * (f 1 0 * f 0 2 + f 1 1 * f 1 2 + f 1 2 * f 2 2 + f 1 3 * f 3 2 - sE41 f * f 1 2 + 0) + f 1 2 * (f 2 0 * f 0 2 + f 2 1 * f 1 2 + f 2 2 * f 2 2 + f 2 3 * f 3 2 - sE41 f * f 2 2 + sE42 f) + f 1 3 * (f 3 0 * f 0 2 + f 3 1 * f 1 2 + f 3 2 * f 2 2 + f 3 3 * f 3 2 - sE41 f * f 3 2 + 0) + 0 = (f 0 0*f 1 2*f 3 3 - f 0 0*f 1 3*f 3 2 - f 0 2*f 1 0*f 3 3 + f 0 2*f 1 3*f 3 0 + f 0 3*f 1 0*f 3 2 - f 0 3*f 1 2*f 3 0) := by
  unfold sE41 sE42
  generalize f 0 0 = a00
  generalize f 0 1 = a01
  generalize f 0 2 = a02
  generalize f 0 3 = a03
  generalize f 1 0 = a10
  generalize f 1 1 = a11
  generalize f 1 2 = a12
  generalize f 1 3 = a13
  generalize f 2 0 = a20
  generalize f 2 1 = a21
  generalize f 2 2 = a22
  generalize f 2 3 = a23
  generalize f 3 0 = a30
  generalize f 3 1 = a31
  generalize f 3 2 = a32
  generalize f 3 3 = a33
  grind
theorem fl4_13 (f : mT) : f 1 0 * (f 0 0 * f 0 3 + f 0 1 * f 1 3 + f 0 2 * f 2 3 + f 0 3 * f 3 3 - sE41 f * f 0 3 + 0) + f 1 1 * (f 1 0 * f 0 3 + f 1 1 * f 1 3 + f 1 2 * f 2 3 + f 1 3 * f 3 3 - sE41 f * f 1 3 + 0) + f 1 2 * (f 2 0 * f 0 3 + f 2 1 * f 1 3 + f 2 2 * f 2 3 + f 2 3 * f 3 3 - sE41 f * f 2 3 + 0) + f 1 3 * (f 3 0 * f 0 3 + f 3 1 * f 1 3 + f 3 2 * f 2 3 + f 3 3 * f 3 3 - sE41 f * f 3 3 + sE42 f) + 0 = -(f 0 0*f 1 2*f 2 3 - f 0 0*f 1 3*f 2 2 - f 0 2*f 1 0*f 2 3 + f 0 2*f 1 3*f 2 0 + f 0 3*f 1 0*f 2 2 - f 0 3*f 1 2*f 2 0) := by
  unfold sE41 sE42
  generalize f 0 0 = a00
  generalize f 0 1 = a01
  generalize f 0 2 = a02
  generalize f 0 3 = a03
  generalize f 1 0 = a10
  generalize f 1 1 = a11
  generalize f 1 2 = a12
  generalize f 1 3 = a13
  generalize f 2 0 = a20
  generalize f 2 1 = a21
  generalize f 2 2 = a22
  generalize f 2 3 = a23
  generalize f 3 0 = a30
  generalize f 3 1 = a31
  generalize f 3 2 = a32
  generalize f 3 3 = a33
  grind
theorem fl4_20 (f : mT) : f 2 0 * (f 0 0 * f 0 0 + f 0 1 * f 1 0 + f 0 2 * f 2 0 + f 0 3 * f 3 0 - sE41 f * f 0 0 + sE42 f) + f 2 1 * (f 1 0 * f 0 0 + f 1 1 * f 1 0 + f 1 2 * f 2 0 + f 1 3 * f 3 0 - sE41 f * f 1 0 + 0) + f 2 2 * (f 2 0 * f 0 0 + f 2 1 * f 1 0 + f 2 2 * f 2 0 + f 2 3 * f 3 0 - sE41 f * f 2 0 + 0) + f 2 3 * (f 3 0 * f 0 0 + f 3 1 * f 1 0 + f 3 2 * f 2 0 + f 3 3 * f 3 0 - sE41 f * f 3 0 + 0) + 0 = -(f 1 0*f 2 1*f 3 3 - f 1 0*f 2 3*f 3 1 - f 1 1*f 2 0*f 3 3 + f 1 1*f 2 3*f 3 0 + f 1 3*f 2 0*f 3 1 - f 1 3*f 2 1*f 3 0) := by
  unfold sE41 sE42
  generalize f 0 0 = a00
  generalize f 0 1 = a01
  generalize f 0 2 = a02
  generalize f 0 3 = a03
  generalize f 1 0 = a10
  generalize f 1 1 = a11
  generalize f 1 2 = a12
  generalize f 1 3 = a13
  generalize f 2 0 = a20
  generalize f 2 1 = a21
  generalize f 2 2 = a22
  generalize f 2 3 = a23
  generalize f 3 0 = a30
  generalize f 3 1 = a31
  generalize f 3 2 = a32
  generalize f 3 3 = a33
  grind
theorem fl4_21 (f : mT) : f 2 0 * (f 0 0 * f 0 1 + f 0 1 * f 1 1 + f 0 2 * f 2 1 + f 0 3 * f 3 1 - sE41 f * f 0 1 + 0) + f 2 1 * (f 1 0 * f 0 1 + f 1 1 * f 1 1 + f 1 2 * f 2 1 + f 1 3 * f 3 1 - sE41 f * f 1 1 + sE42 f) + f 2 2 * (f 2 0 * f 0 1 + f 2 1 * f 1 1 + f 2 2 * f 2 1 + f 2 3 * f 3 1 - sE41 f * f 2 1 + 0) + f 2 3 * (f 3 0 * f 0 1 + f 3 1 * f 1 1 + f 3 2 * f 2 1 + f 3 3 * f 3 1 - sE41 f * f 3 1 + 0) + 0 = (f 0 0*f 2 1*f 3 3 - f 0 0*f 2 3*f 3 1 - f 0 1*f 2 0*f 3 3 + f 0 1*f 2 3*f 3 0 + f 0 3*f 2 0*f 3 1 - f 0 3*f 2 1*f 3 0) := by
  unfold sE41 sE42
  generalize f 0 0 = a00
  generalize f 0 1 = a01
  generalize f 0 2 = a02
  generalize f 0 3 = a03
  generalize f 1 0 = a10
  generalize f 1 1 = a11
  generalize f 1 2 = a12
  generalize f 1 3 = a13
  generalize f 2 0 = a20
  generalize f 2 1 = a21
  generalize f 2 2 = a22
  generalize f 2 3 = a23
  generalize f 3 0 = a30
  generalize f 3 1 = a31
  generalize f 3 2 = a32
  generalize f 3 3 = a33
  grind
theorem fl4_22 (f : mT) : f 2 0 * (f 0 0 * f 0 2 + f 0 1 * f 1 2 + f 0 2 * f 2 2 + f 0 3 * f 3 2 - sE41 f * f 0 2 + 0) + f 2 1 * (f 1 0 * f 0 2 + f 1 1 * f 1 2 + f 1 2 * f 2 2 + f 1 3 * f 3 2 - sE41 f * f 1 2 + 0) + f 2 2 * (f 2 0 * f 0 2 + f 2 1 * f 1 2 + f 2 2 * f 2 2 + f 2 3 * f 3 2 - sE41 f * f 2 2 + sE42 f) + f 2 3 * (f 3 0 * f 0 2 + f 3 1 * f 1 2 + f 3 2 * f 2 2 + f 3 3 * f 3 2 - sE41 f * f 3 2 + 0) + -sE43 f = -(f 0 0*f 1 1*f 3 3 - f 0 0*f 1 3*f 3 1 - f 0 1*f 1 0*f 3 3 + f 0 1*f 1 3*f 3 0 + f 0 3*f 1 0*f 3 1 - f 0 3*f 1 1*f 3 0) := by
  unfold sE41 sE42 sE43
  generalize f 0 0 = a00
  generalize f 0 1 = a01
  generalize f 0 2 = a02
  generalize f 0 3 = a03
  generalize f 1 0 = a10
  generalize f 1 1 = a11
  generalize f 1 2 = a12
  generalize f 1 3 = a13
  generalize f 2 0 = a20
  generalize f 2 1 = a21
  generalize f 2 2 = a22
  generalize f 2 3 = a23
  generalize f 3 0 = a30
  generalize f 3 1 = a31
  generalize f 3 2 = a32
  generalize f 3 3 = a33
  grind
theorem fl4_23 (f : mT) : f 2 0 * (f 0 0 * f 0 3 + f 0 1 * f 1 3 + f 0 2 * f 2 3 + f 0 3 * f 3 3 - sE41 f * f 0 3 + 0) + f 2 1 * (f 1 0 * f 0 3 + f 1 1 * f 1 3 + f 1 2 * f 2 3 + f 1 3 * f 3 3 - sE41 f * f 1 3 + 0) + f 2 2 * (f 2 0 * f 0 3 + f 2 1 * f 1 3 + f 2 2 * f 2 3 + f 2 3 * f 3 3 - sE41 f * f 2 3 + 0) + f 2 3 * (f 3 0 * f 0 3 + f 3 1 * f 1 3 + f 3 2 * f 2 3 + f 3 3 * f 3 3 - sE41 f * f 3 3 + sE42 f) + 0 = (f 0 0*f 1 1*f 2 3 - f 0 0*f 1 3*f 2 1 - f 0 1*f 1 0*f 2 3 + f 0 1*f 1 3*f 2 0 + f 0 3*f 1 0*f 2 1 - f 0 3*f 1 1*f 2 0) := by
  unfold sE41 sE42
  generalize f 0 0 = a00
  generalize f 0 1 = a01
  generalize f 0 2 = a02
  generalize f 0 3 = a03
  generalize f 1 0 = a10
  generalize f 1 1 = a11
  generalize f 1 2 = a12
  generalize f 1 3 = a13
  generalize f 2 0 = a20
  generalize f 2 1 = a21
  generalize f 2 2 = a22
  generalize f 2 3 = a23
  generalize f 3 0 = a30
  generalize f 3 1 = a31
  generalize f 3 2 = a32
  generalize f 3 3 = a33
  grind
theorem fl4_30 (f : mT) : f 3 0 * (f 0 0 * f 0 0 + f 0 1 * f 1 0 + f 0 2 * f 2 0 + f 0 3 * f 3 0 - sE41 f * f 0 0 + sE42 f) + f 3 1 * (f 1 0 * f 0 0 + f 1 1 * f 1 0 + f 1 2 * f 2 0 + f 1 3 * f 3 0 - sE41 f * f 1 0 + 0) + f 3 2 * (f 2 0 * f 0 0 + f 2 1 * f 1 0 + f 2 2 * f 2 0 + f 2 3 * f 3 0 - sE41 f * f 2 0 + 0) + f 3 3 * (f 3 0 * f 0 0 + f 3 1 * f 1 0 + f 3 2 * f 2 0 + f 3 3 * f 3 0 - sE41 f * f 3 0 + 0) + 0 = (f 1 0*f 2 1*f 3 2 - f 1 0*f 2 2*f 3 1 - f 1 1*f 2 0*f 3 2 + f 1 1*f 2 2*f 3 0 + f 1 2*f 2 0*f 3 1 - f 1 2*f 2 1*f 3 0) := by
  unfold sE41 sE42
  generalize f 0 0 = a00
  generalize f 0 1 = a01
  generalize f 0 2 = a02
  generalize f 0 3 = a03
  generalize f 1 0 = a10
  generalize f 1 1 = a11
  generalize f 1 2 = a12
  generalize f 1 3 = a13
  generalize f 2 0 = a20
  generalize f 2 1 = a21
  generalize f 2 2 = a22
  generalize f 2 3 = a23
  generalize f 3 0 = a30
  generalize f 3 1 = a31
  generalize f 3 2 = a32
  generalize f 3 3 = a33
  grind
theorem fl4_31 (f : mT) : f 3 0 * (f 0 0 * f 0 1 + f 0 1 * f 1 1 + f 0 2 * f 2 1 + f 0 3 * f 3 1 - sE41 f * f 0 1 + 0) + f 3 1 * (f 1 0 * f 0 1 + f 1 1 * f 1 1 + f 1 2 * f 2 1 + f 1 3 * f 3 1 - sE41 f * f 1 1 + sE42 f) + f 3 2 * (f 2 0 * f 0 1 + f 2 1 * f 1 1 + f 2 2 * f 2 1 + f 2 3 * f 3 1 - sE41 f * f 2 1 + 0) + f 3 3 * (f 3 0 * f 0 1 + f 3 1 * f 1 1 + f 3 2 * f 2 1 + f 3 3 * f 3 1 - sE41 f * f 3 1 + 0) + 0 = -(f 0 0*f 2 1*f 3 2 - f 0 0*f 2 2*f 3 1 - f 0 1*f 2 0*f 3 2 + f 0 1*f 2 2*f 3 0 + f 0 2*f 2 0*f 3 1 - f 0 2*f 2 1*f 3 0) := by
  unfold sE41 sE42
  generalize f 0 0 = a00
  generalize f 0 1 = a01
  generalize f 0 2 = a02
  generalize f 0 3 = a03
  generalize f 1 0 = a10
  generalize f 1 1 = a11
  generalize f 1 2 = a12
  generalize f 1 3 = a13
  generalize f 2 0 = a20
  generalize f 2 1 = a21
  generalize f 2 2 = a22
  generalize f 2 3 = a23
  generalize f 3 0 = a30
  generalize f 3 1 = a31
  generalize f 3 2 = a32
  generalize f 3 3 = a33
  grind
theorem fl4_32 (f : mT) : f 3 0 * (f 0 0 * f 0 2 + f 0 1 * f 1 2 + f 0 2 * f 2 2 + f 0 3 * f 3 2 - sE41 f * f 0 2 + 0) + f 3 1 * (f 1 0 * f 0 2 + f 1 1 * f 1 2 + f 1 2 * f 2 2 + f 1 3 * f 3 2 - sE41 f * f 1 2 + 0) + f 3 2 * (f 2 0 * f 0 2 + f 2 1 * f 1 2 + f 2 2 * f 2 2 + f 2 3 * f 3 2 - sE41 f * f 2 2 + sE42 f) + f 3 3 * (f 3 0 * f 0 2 + f 3 1 * f 1 2 + f 3 2 * f 2 2 + f 3 3 * f 3 2 - sE41 f * f 3 2 + 0) + 0 = (f 0 0*f 1 1*f 3 2 - f 0 0*f 1 2*f 3 1 - f 0 1*f 1 0*f 3 2 + f 0 1*f 1 2*f 3 0 + f 0 2*f 1 0*f 3 1 - f 0 2*f 1 1*f 3 0) := by
  unfold sE41 sE42
  generalize f 0 0 = a00
  generalize f 0 1 = a01
  generalize f 0 2 = a02
  generalize f 0 3 = a03
  generalize f 1 0 = a10
  generalize f 1 1 = a11
  generalize f 1 2 = a12
  generalize f 1 3 = a13
  generalize f 2 0 = a20
  generalize f 2 1 = a21
  generalize f 2 2 = a22
  generalize f 2 3 = a23
  generalize f 3 0 = a30
  generalize f 3 1 = a31
  generalize f 3 2 = a32
  generalize f 3 3 = a33
  grind
theorem fl4_33 (f : mT) : f 3 0 * (f 0 0 * f 0 3 + f 0 1 * f 1 3 + f 0 2 * f 2 3 + f 0 3 * f 3 3 - sE41 f * f 0 3 + 0) + f 3 1 * (f 1 0 * f 0 3 + f 1 1 * f 1 3 + f 1 2 * f 2 3 + f 1 3 * f 3 3 - sE41 f * f 1 3 + 0) + f 3 2 * (f 2 0 * f 0 3 + f 2 1 * f 1 3 + f 2 2 * f 2 3 + f 2 3 * f 3 3 - sE41 f * f 2 3 + 0) + f 3 3 * (f 3 0 * f 0 3 + f 3 1 * f 1 3 + f 3 2 * f 2 3 + f 3 3 * f 3 3 - sE41 f * f 3 3 + sE42 f) + -sE43 f = -(f 0 0*f 1 1*f 2 2 - f 0 0*f 1 2*f 2 1 - f 0 1*f 1 0*f 2 2 + f 0 1*f 1 2*f 2 0 + f 0 2*f 1 0*f 2 1 - f 0 2*f 1 1*f 2 0) := by
  unfold sE41 sE42 sE43
  generalize f 0 0 = a00
  generalize f 0 1 = a01
  generalize f 0 2 = a02
  generalize f 0 3 = a03
  generalize f 1 0 = a10
  generalize f 1 1 = a11
  generalize f 1 2 = a12
  generalize f 1 3 = a13
  generalize f 2 0 = a20
  generalize f 2 1 = a21
  generalize f 2 2 = a22
  generalize f 2 3 = a23
  generalize f 3 0 = a30
  generalize f 3 1 = a31
  generalize f 3 2 = a32
  generalize f 3 3 = a33
  grind
def sB4 (f : mT) (i j : Nat) : Int := match i, j with
  | 0, 0 => -(f 1 1*f 2 2*f 3 3 - f 1 1*f 2 3*f 3 2 - f 1 2*f 2 1*f 3 3 + f 1 2*f 2 3*f 3 1 + f 1 3*f 2 1*f 3 2 - f 1 3*f 2 2*f 3 1)
  | 0, 1 => (f 0 1*f 2 2*f 3 3 - f 0 1*f 2 3*f 3 2 - f 0 2*f 2 1*f 3 3 + f 0 2*f 2 3*f 3 1 + f 0 3*f 2 1*f 3 2 - f 0 3*f 2 2*f 3 1)
  | 0, 2 => -(f 0 1*f 1 2*f 3 3 - f 0 1*f 1 3*f 3 2 - f 0 2*f 1 1*f 3 3 + f 0 2*f 1 3*f 3 1 + f 0 3*f 1 1*f 3 2 - f 0 3*f 1 2*f 3 1)
  | 0, 3 => (f 0 1*f 1 2*f 2 3 - f 0 1*f 1 3*f 2 2 - f 0 2*f 1 1*f 2 3 + f 0 2*f 1 3*f 2 1 + f 0 3*f 1 1*f 2 2 - f 0 3*f 1 2*f 2 1)
  | 1, 0 => (f 1 0*f 2 2*f 3 3 - f 1 0*f 2 3*f 3 2 - f 1 2*f 2 0*f 3 3 + f 1 2*f 2 3*f 3 0 + f 1 3*f 2 0*f 3 2 - f 1 3*f 2 2*f 3 0)
  | 1, 1 => -(f 0 0*f 2 2*f 3 3 - f 0 0*f 2 3*f 3 2 - f 0 2*f 2 0*f 3 3 + f 0 2*f 2 3*f 3 0 + f 0 3*f 2 0*f 3 2 - f 0 3*f 2 2*f 3 0)
  | 1, 2 => (f 0 0*f 1 2*f 3 3 - f 0 0*f 1 3*f 3 2 - f 0 2*f 1 0*f 3 3 + f 0 2*f 1 3*f 3 0 + f 0 3*f 1 0*f 3 2 - f 0 3*f 1 2*f 3 0)
  | 1, 3 => -(f 0 0*f 1 2*f 2 3 - f 0 0*f 1 3*f 2 2 - f 0 2*f 1 0*f 2 3 + f 0 2*f 1 3*f 2 0 + f 0 3*f 1 0*f 2 2 - f 0 3*f 1 2*f 2 0)
  | 2, 0 => -(f 1 0*f 2 1*f 3 3 - f 1 0*f 2 3*f 3 1 - f 1 1*f 2 0*f 3 3 + f 1 1*f 2 3*f 3 0 + f 1 3*f 2 0*f 3 1 - f 1 3*f 2 1*f 3 0)
  | 2, 1 => (f 0 0*f 2 1*f 3 3 - f 0 0*f 2 3*f 3 1 - f 0 1*f 2 0*f 3 3 + f 0 1*f 2 3*f 3 0 + f 0 3*f 2 0*f 3 1 - f 0 3*f 2 1*f 3 0)
  | 2, 2 => -(f 0 0*f 1 1*f 3 3 - f 0 0*f 1 3*f 3 1 - f 0 1*f 1 0*f 3 3 + f 0 1*f 1 3*f 3 0 + f 0 3*f 1 0*f 3 1 - f 0 3*f 1 1*f 3 0)
  | 2, 3 => (f 0 0*f 1 1*f 2 3 - f 0 0*f 1 3*f 2 1 - f 0 1*f 1 0*f 2 3 + f 0 1*f 1 3*f 2 0 + f 0 3*f 1 0*f 2 1 - f 0 3*f 1 1*f 2 0)
  | 3, 0 => (f 1 0*f 2 1*f 3 2 - f 1 0*f 2 2*f 3 1 - f 1 1*f 2 0*f 3 2 + f 1 1*f 2 2*f 3 0 + f 1 2*f 2 0*f 3 1 - f 1 2*f 2 1*f 3 0)
  | 3, 1 => -(f 0 0*f 2 1*f 3 2 - f 0 0*f 2 2*f 3 1 - f 0 1*f 2 0*f 3 2 + f 0 1*f 2 2*f 3 0 + f 0 2*f 2 0*f 3 1 - f 0 2*f 2 1*f 3 0)
  | 3, 2 => (f 0 0*f 1 1*f 3 2 - f 0 0*f 1 2*f 3 1 - f 0 1*f 1 0*f 3 2 + f 0 1*f 1 2*f 3 0 + f 0 2*f 1 0*f 3 1 - f 0 2*f 1 1*f 3 0)
  | 3, 3 => -(f 0 0*f 1 1*f 2 2 - f 0 0*f 1 2*f 2 1 - f 0 1*f 1 0*f 2 2 + f 0 1*f 1 2*f 2 0 + f 0 2*f 1 0*f 2 1 - f 0 2*f 1 1*f 2 0)
  | _, _ => 0
theorem fl4_a (f P : mT) (h : ∀ i j, i < 4 → j < 4 → P i j = f i 0 * f 0 j + f i 1 * f 1 j + f i 2 * f 2 j + f i 3 * f 3 j - sE41 f * f i j + (if i = j then sE42 f else 0)) : ∀ i j, i < 4 → j < 4 → mM 4 f P i j + (if i = j then -sE43 f else 0) = sB4 f i j := by
  intro i j hi hj
  have q : mM 4 f P i j = f i 0 * P 0 j + f i 1 * P 1 j + f i 2 * P 2 j + f i 3 * P 3 j := dS_4 _
  rw [q, h 0 j (by decide) hj, h 1 j (by decide) hj, h 2 j (by decide) hj, h 3 j (by decide) hj]
  match i, j, hi, hj with
  | 0, 0, _, _ => exact fl4_00 f
  | 0, 1, _, _ => exact fl4_01 f
  | 0, 2, _, _ => exact fl4_02 f
  | 0, 3, _, _ => exact fl4_03 f
  | 1, 0, _, _ => exact fl4_10 f
  | 1, 1, _, _ => exact fl4_11 f
  | 1, 2, _, _ => exact fl4_12 f
  | 1, 3, _, _ => exact fl4_13 f
  | 2, 0, _, _ => exact fl4_20 f
  | 2, 1, _, _ => exact fl4_21 f
  | 2, 2, _, _ => exact fl4_22 f
  | 2, 3, _, _ => exact fl4_23 f
  | 3, 0, _, _ => exact fl4_30 f
  | 3, 1, _, _ => exact fl4_31 f
  | 3, 2, _, _ => exact fl4_32 f
  | 3, 3, _, _ => exact fl4_33 f
  | n + 4, _, h, _ => omega
  | 0, n + 4, _, h => omega
  | 1, n + 4, _, h => omega
  | 2, n + 4, _, h => omega
  | 3, n + 4, _, h => omega
theorem fl4_4 (f P : mT) (h : ∀ i j, i < 4 → j < 4 → P i j = sB4 f i j) : dS (fun i => mM 4 f P i i) 4 = -(4 * sE44 f) := by
  have h00 : P 0 0 = -(f 1 1*f 2 2*f 3 3 - f 1 1*f 2 3*f 3 2 - f 1 2*f 2 1*f 3 3 + f 1 2*f 2 3*f 3 1 + f 1 3*f 2 1*f 3 2 - f 1 3*f 2 2*f 3 1) := h 0 0 (by decide) (by decide)
  have h01 : P 0 1 = (f 0 1*f 2 2*f 3 3 - f 0 1*f 2 3*f 3 2 - f 0 2*f 2 1*f 3 3 + f 0 2*f 2 3*f 3 1 + f 0 3*f 2 1*f 3 2 - f 0 3*f 2 2*f 3 1) := h 0 1 (by decide) (by decide)
  have h02 : P 0 2 = -(f 0 1*f 1 2*f 3 3 - f 0 1*f 1 3*f 3 2 - f 0 2*f 1 1*f 3 3 + f 0 2*f 1 3*f 3 1 + f 0 3*f 1 1*f 3 2 - f 0 3*f 1 2*f 3 1) := h 0 2 (by decide) (by decide)
  have h03 : P 0 3 = (f 0 1*f 1 2*f 2 3 - f 0 1*f 1 3*f 2 2 - f 0 2*f 1 1*f 2 3 + f 0 2*f 1 3*f 2 1 + f 0 3*f 1 1*f 2 2 - f 0 3*f 1 2*f 2 1) := h 0 3 (by decide) (by decide)
  have h10 : P 1 0 = (f 1 0*f 2 2*f 3 3 - f 1 0*f 2 3*f 3 2 - f 1 2*f 2 0*f 3 3 + f 1 2*f 2 3*f 3 0 + f 1 3*f 2 0*f 3 2 - f 1 3*f 2 2*f 3 0) := h 1 0 (by decide) (by decide)
  have h11 : P 1 1 = -(f 0 0*f 2 2*f 3 3 - f 0 0*f 2 3*f 3 2 - f 0 2*f 2 0*f 3 3 + f 0 2*f 2 3*f 3 0 + f 0 3*f 2 0*f 3 2 - f 0 3*f 2 2*f 3 0) := h 1 1 (by decide) (by decide)
  have h12 : P 1 2 = (f 0 0*f 1 2*f 3 3 - f 0 0*f 1 3*f 3 2 - f 0 2*f 1 0*f 3 3 + f 0 2*f 1 3*f 3 0 + f 0 3*f 1 0*f 3 2 - f 0 3*f 1 2*f 3 0) := h 1 2 (by decide) (by decide)
  have h13 : P 1 3 = -(f 0 0*f 1 2*f 2 3 - f 0 0*f 1 3*f 2 2 - f 0 2*f 1 0*f 2 3 + f 0 2*f 1 3*f 2 0 + f 0 3*f 1 0*f 2 2 - f 0 3*f 1 2*f 2 0) := h 1 3 (by decide) (by decide)
  have h20 : P 2 0 = -(f 1 0*f 2 1*f 3 3 - f 1 0*f 2 3*f 3 1 - f 1 1*f 2 0*f 3 3 + f 1 1*f 2 3*f 3 0 + f 1 3*f 2 0*f 3 1 - f 1 3*f 2 1*f 3 0) := h 2 0 (by decide) (by decide)
  have h21 : P 2 1 = (f 0 0*f 2 1*f 3 3 - f 0 0*f 2 3*f 3 1 - f 0 1*f 2 0*f 3 3 + f 0 1*f 2 3*f 3 0 + f 0 3*f 2 0*f 3 1 - f 0 3*f 2 1*f 3 0) := h 2 1 (by decide) (by decide)
  have h22 : P 2 2 = -(f 0 0*f 1 1*f 3 3 - f 0 0*f 1 3*f 3 1 - f 0 1*f 1 0*f 3 3 + f 0 1*f 1 3*f 3 0 + f 0 3*f 1 0*f 3 1 - f 0 3*f 1 1*f 3 0) := h 2 2 (by decide) (by decide)
  have h23 : P 2 3 = (f 0 0*f 1 1*f 2 3 - f 0 0*f 1 3*f 2 1 - f 0 1*f 1 0*f 2 3 + f 0 1*f 1 3*f 2 0 + f 0 3*f 1 0*f 2 1 - f 0 3*f 1 1*f 2 0) := h 2 3 (by decide) (by decide)
  have h30 : P 3 0 = (f 1 0*f 2 1*f 3 2 - f 1 0*f 2 2*f 3 1 - f 1 1*f 2 0*f 3 2 + f 1 1*f 2 2*f 3 0 + f 1 2*f 2 0*f 3 1 - f 1 2*f 2 1*f 3 0) := h 3 0 (by decide) (by decide)
  have h31 : P 3 1 = -(f 0 0*f 2 1*f 3 2 - f 0 0*f 2 2*f 3 1 - f 0 1*f 2 0*f 3 2 + f 0 1*f 2 2*f 3 0 + f 0 2*f 2 0*f 3 1 - f 0 2*f 2 1*f 3 0) := h 3 1 (by decide) (by decide)
  have h32 : P 3 2 = (f 0 0*f 1 1*f 3 2 - f 0 0*f 1 2*f 3 1 - f 0 1*f 1 0*f 3 2 + f 0 1*f 1 2*f 3 0 + f 0 2*f 1 0*f 3 1 - f 0 2*f 1 1*f 3 0) := h 3 2 (by decide) (by decide)
  have h33 : P 3 3 = -(f 0 0*f 1 1*f 2 2 - f 0 0*f 1 2*f 2 1 - f 0 1*f 1 0*f 2 2 + f 0 1*f 1 2*f 2 0 + f 0 2*f 1 0*f 2 1 - f 0 2*f 1 1*f 2 0) := h 3 3 (by decide) (by decide)
  unfold mM
  simp only [dS_4]
  rw [h00, h01, h02, h03, h10, h11, h12, h13, h20, h21, h22, h23, h30, h31, h32, h33]
  unfold sE44
  clear h00 h01 h02 h03 h10 h11 h12 h13 h20 h21 h22 h23 h30 h31 h32 h33 h
  generalize f 0 0 = a00
  generalize f 0 1 = a01
  generalize f 0 2 = a02
  generalize f 0 3 = a03
  generalize f 1 0 = a10
  generalize f 1 1 = a11
  generalize f 1 2 = a12
  generalize f 1 3 = a13
  generalize f 2 0 = a20
  generalize f 2 1 = a21
  generalize f 2 2 = a22
  generalize f 2 3 = a23
  generalize f 3 0 = a30
  generalize f 3 1 = a31
  generalize f 3 2 = a32
  generalize f 3 3 = a33
  grind
