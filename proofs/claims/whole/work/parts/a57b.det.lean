/-! Determinants bounded otherwise: entries of at most 5. -/
def dB (n : Nat) (G : List lV) (B : Int) : Prop := ∀ J : List Nat, J.Nodup → (∀ j, j ∈ J → j < n) → zAbs (dt G J) ≤ B
theorem dB_p {n : Nat} {G : List lV} {B : Int} (h : dB n G B) : 0 ≤ B := Int.le_trans (zAbs_p _) (h [] List.nodup_nil (fun j hj => by cases hj))
theorem dB_m {n : Nat} {G : List lV} {B C : Int} (h : dB n G B) (hB : B ≤ C) : dB n G C := fun J h1 h2 => Int.le_trans (h J h1 h2) hB
theorem dB_n (n : Nat) (G : List lV) : dB n G (nP n G) := fun _ h1 h2 => dt_b h1 h2
theorem dB_c {n : Nat} {G : List lV} {g : lV} {B C : Int} (h : dB n G B) (hg : nS g n ≤ C) : dB n (g :: G) (C * B) := fun J h1 h2 => by
  have h3 := xp_b (g := g) (f := dt G) (dB_p h) (J := J) (fun K hK => h K (h1.sublist hK) (fun j hj => h2 j (hK.subset hj)))
  exact Int.le_trans h3 (Int.mul_le_mul_of_nonneg_right (Int.le_trans (lS1_b g n J h1 h2) hg) (dB_p h))
theorem cramB {n : Nat} {G : List lV} {v : lV} {m k : Nat} {L : List Nat} {B : Int} (b : dB n G B) (h : nul G v) (hn : L.Nodup) (hL : ∀ j, j ∈ L → j < n) (hm : m ∈ L) (hz : ∀ j, j ∈ L → j ≠ m → v j = 0) (hk : k < n) : ∃ P, v k * dt G L = v m * P ∧ zAbs P ≤ B := by
  rcases Decidable.em (k ∈ L) with g | g
  · rcases Decidable.em (k = m) with e | e
    · subst e
      exact ⟨dt G L, rfl, b L hn hL⟩
    · refine ⟨0, ?_, ?_⟩
      · rw [hz k g e, Int.mul_zero, Int.zero_mul]
      · exact dB_p b
  · obtain ⟨P, h1, h2⟩ := xp_1 (v := v) (m := m) (B := B) (f := fun K => dt G (k :: K)) hn hm hz (fun K hK => b (k :: K) (List.nodup_cons.mpr ⟨fun q => g (hK.subset q), hn.sublist hK⟩) (fun j hj => by
      rcases List.mem_cons.mp hj with e | e
      · rw [e]; exact hk
      · exact hL j (hK.subset e)))
    exact ⟨P, by rw [nul_x h k L, h1], h2⟩
theorem rw_B {hs s : Int → Int} {p : Nat} {G : List lV} {L : List Nat} {B : Int} (b : dB 15 G B) (e : ech hs s) (c : crt hs s p G L) {l : Nat} (h1 : l ≤ p) (h2 : l < 15) (h3 : hs l ≠ 0) : rv s l l ∣ dt G L ∧ ∀ k, k < 15 → zAbs (rv s l k) ≤ B ∧ ∃ P, rv s l k * dt G L = rv s l l * P ∧ zAbs P ≤ B := by
  obtain ⟨c0, c1, c2, c3⟩ := c
  obtain ⟨d1, d2⟩ := c3 l h1 h2 h3
  obtain ⟨e1, e2, e3, e4⟩ := e l h2 h3
  have cr : ∀ k, k < 15 → ∃ P, rv s l k * dt G L = rv s l l * P ∧ zAbs P ≤ B := fun k hk => cramB b d2 c1 (fun j hj => (c2 j hj).1) d1 (fun j hj hn => e3 j (c2 j hj).1 hn (c2 j hj).2) hk
  have dv : rv s l l ∣ dt G L := prim_d (v := rv s l) (n := 15) (by omega) e4 (fun k hk => by
    obtain ⟨P, hP, -⟩ := cr k hk
    exact ⟨P, hP⟩)
  refine ⟨dv, fun k hk => ⟨?_, cr k hk⟩⟩
  obtain ⟨P, hP, hP2⟩ := cr k hk
  obtain ⟨x, hx⟩ := dv
  have x0 : x ≠ 0 := fun g => c0 (by rw [hx, g, Int.mul_zero])
  have e5 : rv s l k * x = P := by
    rw [hx] at hP
    have : rv s l l * (rv s l k * x) = rv s l l * P := by grind
    exact Int.eq_of_mul_eq_mul_left (by omega) this
  rw [← e5, zAbs_x] at hP2
  have x1 : 1 ≤ zAbs x := by unfold zAbs; split <;> omega
  have := Int.mul_le_mul_of_nonneg_left x1 (zAbs_p (rv s l k))
  omega
theorem lS1_5 {a : lV} (h : ∀ j, zAbs (a j) ≤ 5) : ∀ J : List Nat, lS1 a J ≤ 5 * (J.length : Int)
  | [] => by
    show (0 : Int) ≤ 5 * ((0 : Nat) : Int)
    decide
  | j :: J => by
    have h1 := lS1_5 h J
    have h2 := h j
    show zAbs (a j) + lS1 a J ≤ 5 * ((J.length + 1 : Nat) : Int)
    omega
/-- what lists of such vectors have as determinants -/
def fB : Nat → Int
  | 0 => 1
  | n + 1 => (if n < 6 then 5 * ((n : Int) + 1) else 30) * fB n
theorem fB_p : ∀ n, 0 < fB n
  | 0 => by decide
  | n + 1 => by
    have h1 := fB_p n
    show 0 < (if n < 6 then 5 * ((n : Int) + 1) else 30) * fB n
    refine Int.mul_pos ?_ h1
    split <;> omega
theorem fB_1 (n : Nat) : fB n ≤ fB (n + 1) := by
  have h1 := fB_p n
  show fB n ≤ (if n < 6 then 5 * ((n : Int) + 1) else 30) * fB n
  have h2 : (1 : Int) ≤ (if n < 6 then 5 * ((n : Int) + 1) else 30) := by split <;> omega
  have h3 := Int.mul_le_mul_of_nonneg_right h2 (Int.le_of_lt h1)
  omega
theorem fB_m {a : Nat} : ∀ {b : Nat}, a ≤ b → fB a ≤ fB b
  | 0, h => by rw [Nat.le_zero.mp h]; exact Int.le_refl _
  | b + 1, h => by
    rcases Nat.lt_or_ge a (b + 1) with g | g
    · exact Int.le_trans (fB_m (show a ≤ b by omega)) (fB_1 b)
    · rw [show a = b + 1 by omega]
      exact Int.le_refl _
def e5 (n : Nat) (g : lV) : Prop := (∀ j, zAbs (g j) ≤ 5) ∧ nS g n ≤ 30
theorem dB_5 {n : Nat} : ∀ {G : List lV}, (∀ g, g ∈ G → e5 n g) → dB n G (fB G.length)
  | [], _ => fun J _ _ => by
    show zAbs (if J = [] then 1 else 0) ≤ 1
    split <;> decide
  | g :: G, h => fun J h1 h2 => by
    have ih := dB_5 (G := G) (fun x hx => h x (List.mem_cons_of_mem _ hx))
    obtain ⟨a, b⟩ := h g List.mem_cons_self
    rcases Decidable.em ((g :: G).length = J.length) with q | q
    · have h3 := xp_b (g := g) (f := dt G) (dB_p ih) (J := J) (fun K hK => ih K (h1.sublist hK) (fun j hj => h2 j (hK.subset hj)))
      refine Int.le_trans h3 (Int.mul_le_mul_of_nonneg_right ?_ (dB_p ih))
      show lS1 g J ≤ if G.length < 6 then 5 * ((G.length : Int) + 1) else 30
      split
      · have h4 := lS1_5 a J
        rw [← q, List.length_cons] at h4
        omega
      · exact Int.le_trans (lS1_b g n J h1 h2) b
    · rw [dt_len _ _ q]
      have := fB_p (g :: G).length
      rw [show zAbs 0 = 0 from rfl]
      omega
theorem fB_v : fB 4 ≤ 2 ^ 14 ∧ fB 3 ≤ 2 ^ 10 ∧ fB 2 ≤ 2 ^ 6 ∧ fB 1 ≤ 2 ^ 3 ∧ fB 0 ≤ 2 ^ 0 ∧ fB 6 ≤ 2 ^ 24 ∧ fB 12 ≤ 2 ^ 53 ∧ fB 19 ≤ 2 ^ 88 ∧ fB 20 ≤ 2 ^ 93 := by decide +kernel
/-- certificates with bits of their determinants -/
def crB (b : List Nat) (hs s : Int → Int) : Prop := b.length = 15 ∧ ∀ p, p < 15 → ∃ G L, crt hs s p G L ∧ dB 15 G (2 ^ gt b p)
theorem crB_r {b : List Nat} {hs s : Int → Int} (e : ech hs s) (d : crB b hs s) {l p : Nat} (hp : p < 15) (hl : l ≤ p) (h : hs l ≠ 0) {j : Nat} (hj : j < 15) : zAbs (rv s l j) ≤ 2 ^ gt b p := by
  obtain ⟨G, L, c, n⟩ := d.2 p hp
  exact ((rw_B n e c hl (by omega) h).2 j hj).1
theorem crB_w {b b' : List Nat} {hs s : Int → Int} (h : crB b hs s) (hl : b'.length = 15) (hb : ∀ k, gt b k ≤ gt b' k) : crB b' hs s := ⟨hl, fun p hp => by
  obtain ⟨G, L, c, n⟩ := h.2 p hp
  exact ⟨G, L, c, dB_m n (pow_m (hb p))⟩⟩
