/-! Determinants of lists of vectors, laid out by the first one; what they bound. -/
abbrev lV : Type := Nat → Int
def xp (g : lV) (f : List Nat → Int) : List Nat → Int
  | [] => 0
  | j :: J => g j * f J - xp g (fun K => f (j :: K)) J
def dt : List lV → List Nat → Int
  | [], J => if J = [] then 1 else 0
  | g :: G, J => xp g (dt G) J
theorem xp_c {g h : lV} {f e : List Nat → Int} (h1 : ∀ j, g j = h j) (h2 : ∀ K, f K = e K) (J : List Nat) : xp g f J = xp h e J := by
  have e1 : g = h := funext h1
  have e2 : f = e := funext h2
  rw [e1, e2]
theorem xp_0 (g : lV) : ∀ (J : List Nat), xp g (fun _ => 0) J = 0
  | [] => rfl
  | j :: J => by
    show g j * 0 - xp g (fun _ => 0) J = 0
    rw [xp_0 g J]
    omega
/-- linear in the vector -/
theorem xp_v (a b : Int) (g h : lV) : ∀ (f : List Nat → Int) (J : List Nat), xp (fun k => a * g k + b * h k) f J = a * xp g f J + b * xp h f J
  | _, [] => by
    show (0 : Int) = a * 0 + b * 0
    omega
  | f, j :: J => by
    show (a * g j + b * h j) * f J - xp (fun k => a * g k + b * h k) (fun K => f (j :: K)) J = a * (g j * f J - xp g (fun K => f (j :: K)) J) + b * (h j * f J - xp h (fun K => f (j :: K)) J)
    rw [xp_v a b g h (fun K => f (j :: K)) J]
    grind
/-- linear in what stands behind -/
theorem xp_f (a b : Int) (g : lV) : ∀ (f e : List Nat → Int) (J : List Nat), xp g (fun K => a * f K + b * e K) J = a * xp g f J + b * xp g e J
  | _, _, [] => by
    show (0 : Int) = a * 0 + b * 0
    omega
  | f, e, j :: J => by
    show g j * (a * f J + b * e J) - xp g (fun K => a * f (j :: K) + b * e (j :: K)) J = a * (g j * f J - xp g (fun K => f (j :: K)) J) + b * (g j * e J - xp g (fun K => e (j :: K)) J)
    rw [xp_f a b g (fun K => f (j :: K)) (fun K => e (j :: K)) J]
    grind
theorem xp_a (u v : lV) : ∀ (f : List Nat → Int) (J : List Nat), xp v (xp u f) J = -xp u (xp v f) J
  | _, [] => rfl
  | f, j :: J => by
    have e1 : ∀ (p q : lV), xp p (xp q f) (j :: J) = p j * xp q f J - q j * xp p f J + xp p (xp q (fun K => f (j :: K))) J := by
      intro p q
      show p j * xp q f J - xp p (fun K => q j * f K - xp q (fun L => f (j :: L)) K) J = _
      have e2 := xp_f (q j) (-1) p f (xp q (fun L => f (j :: L))) J
      have e3 : xp p (fun K => q j * f K - xp q (fun L => f (j :: L)) K) J = xp p (fun K => q j * f K + -1 * xp q (fun L => f (j :: L)) K) J := xp_c (fun _ => rfl) (fun K => by omega) J
      rw [e3, e2]
      omega
    rw [e1 v u, e1 u v, xp_a u v (fun K => f (j :: K)) J]
    omega
/-- a vector that the others' determinants kill: it is of their span -/
def nul (G : List lV) (v : lV) : Prop := ∀ J, dt (v :: G) J = 0
theorem nul_l {G : List lV} {v w : lV} (a b : Int) (h : nul G v) (h2 : nul G w) : nul G (fun k => a * v k + b * w k) := by
  intro J
  show xp (fun k => a * v k + b * w k) (dt G) J = 0
  rw [xp_v a b v w (dt G) J]
  have e1 : xp v (dt G) J = 0 := h J
  have e2 : xp w (dt G) J = 0 := h2 J
  rw [e1, e2]
  omega
theorem nul_e {G : List lV} {v w : lV} (h : nul G v) (e : ∀ k, w k = v k) : nul G w := by
  have e1 : w = v := funext e
  rw [e1]
  exact h
theorem nul_c {G : List lV} {v : lV} (u : lV) (h : nul G v) : nul (u :: G) v := by
  intro J
  show xp v (xp u (dt G)) J = 0
  rw [xp_a u v (dt G) J]
  have e : xp u (xp v (dt G)) J = xp u (fun _ => 0) J := xp_c (fun _ => rfl) (fun K => h K) J
  rw [e, xp_0]
  rfl
theorem nul_s (G : List lV) (v : lV) : nul (v :: G) v := by
  intro J
  show xp v (xp v (dt G)) J = 0
  have := xp_a v v (dt G) J
  omega
theorem nul_m {G : List lV} {v : lV} (h : v ∈ G) : nul G v := by
  induction G with
  | nil => cases h
  | cons g G ih =>
    rcases List.mem_cons.mp h with e | e
    · rw [e]
      exact nul_s G g
    · exact nul_c g (ih e)
/-- a vector may be changed by others of the span, and by a factor -/
theorem dt_w {G : List lV} {v w r : lV} (a b : Int) (h : nul G r) (e : ∀ k, w k = a * v k + b * r k) (J : List Nat) : dt (w :: G) J = a * dt (v :: G) J := by
  show xp w (dt G) J = a * xp v (dt G) J
  rw [xp_c e (fun _ => rfl) J, xp_v a b v r (dt G) J]
  have e1 : xp r (dt G) J = 0 := h J
  rw [e1]
  omega
theorem xp_z {v : lV} : ∀ {f : List Nat → Int} {J : List Nat}, (∀ j, j ∈ J → v j = 0) → xp v f J = 0
  | _, [], _ => rfl
  | f, j :: J, h => by
    show v j * f J - xp v (fun K => f (j :: K)) J = 0
    rw [h j List.mem_cons_self, xp_z (fun k hk => h k (List.mem_cons_of_mem _ hk))]
    omega
theorem dt_z {G : List lV} {w : lV} {t : Nat} {L : List Nat} (h : ∀ j, j ∈ L → w j = 0) : dt (w :: G) (t :: L) = w t * dt G L := by
  show w t * dt G L - xp w (fun K => dt G (t :: K)) L = w t * dt G L
  rw [xp_z h]
  omega
theorem nul_x {G : List lV} {v : lV} (h : nul G v) (k : Nat) (L : List Nat) : v k * dt G L = xp v (fun K => dt G (k :: K)) L := by
  have e : v k * dt G L - xp v (fun K => dt G (k :: K)) L = 0 := h (k :: L)
  omega
/-- a vector that is 0 at all places of L but one -/
theorem xp_1 {v : lV} {m : Nat} {B : Int} : ∀ {f : List Nat → Int} {L : List Nat}, L.Nodup → m ∈ L → (∀ j, j ∈ L → j ≠ m → v j = 0) → (∀ K, K.Sublist L → zAbs (f K) ≤ B) → ∃ P, xp v f L = v m * P ∧ zAbs P ≤ B
  | _, [], _, hm, _, _ => by cases hm
  | f, j :: L, hn, hm, hz, hb => by
    obtain ⟨hn1, hn2⟩ := List.nodup_cons.mp hn
    rcases Decidable.em (j = m) with e | e
    · subst e
      refine ⟨f L, ?_, hb L (List.sublist_cons_self j L)⟩
      show v j * f L - xp v (fun K => f (j :: K)) L = _
      rw [xp_z (fun k hk => hz k (List.mem_cons_of_mem _ hk) (fun e => hn1 (e ▸ hk)))]
      omega
    · have hm2 : m ∈ L := by
        rcases List.mem_cons.mp hm with g | g
        · exact absurd g.symm e
        · exact g
      obtain ⟨P, h1, h2⟩ := xp_1 (f := fun K => f (j :: K)) hn2 hm2 (fun k hk => hz k (List.mem_cons_of_mem _ hk)) (fun K hK => hb (j :: K) (hK.cons_cons j))
      refine ⟨-P, ?_, ?_⟩
      · show v j * f L - xp v (fun K => f (j :: K)) L = _
        rw [hz j List.mem_cons_self e, h1]
        grind
      · rw [show zAbs (-P) = zAbs P by unfold zAbs; split <;> split <;> omega]
        exact h2
-- sums over lists
def lS1 (a : lV) : List Nat → Int
  | [] => 0
  | j :: J => zAbs (a j) + lS1 a J
def nS (a : lV) : Nat → Int
  | 0 => 0
  | n + 1 => nS a n + zAbs (a n)
theorem nS_p (a : lV) : ∀ n, 0 ≤ nS a n
  | 0 => Int.le_refl _
  | n + 1 => by
    have h1 := nS_p a n
    have h2 := zAbs_p (a n)
    show 0 ≤ nS a n + zAbs (a n)
    omega
theorem lS1_p (a : lV) : ∀ J, 0 ≤ lS1 a J
  | [] => Int.le_refl _
  | j :: J => by
    have h1 := lS1_p a J
    have h2 := zAbs_p (a j)
    show 0 ≤ zAbs (a j) + lS1 a J
    omega
theorem lS1_e (a : lV) {n : Nat} : ∀ {J : List Nat}, n ∈ J → lS1 a J = zAbs (a n) + lS1 a (J.erase n)
  | j :: J, h => by
    rcases Decidable.em (j = n) with e | e
    · subst e
      rw [List.erase_cons_head]
      rfl
    · have h2 : n ∈ J := by
        rcases List.mem_cons.mp h with g | g
        · exact absurd g.symm e
        · exact g
      rw [List.erase_cons_tail (by simpa using e)]
      show zAbs (a j) + lS1 a J = zAbs (a n) + (zAbs (a j) + lS1 a (J.erase n))
      rw [lS1_e a h2]
      omega
theorem lS1_b (a : lV) : ∀ (n : Nat) (J : List Nat), J.Nodup → (∀ j, j ∈ J → j < n) → lS1 a J ≤ nS a n
  | 0, J, _, h => by
    cases J with
    | nil => exact Int.le_refl _
    | cons j J => exact absurd (h j List.mem_cons_self) (Nat.not_lt_zero _)
  | n + 1, J, hn, h => by
    show lS1 a J ≤ nS a n + zAbs (a n)
    rcases Decidable.em (n ∈ J) with g | g
    · rw [lS1_e a g]
      have := lS1_b a n (J.erase n) (hn.erase n) (fun j hj => by
        have h1 := h j (List.mem_of_mem_erase hj)
        have h2 : j ≠ n := fun e => by
          subst e
          exact (List.Nodup.not_mem_erase hn) hj
        omega)
      omega
    · have := lS1_b a n J hn (fun j hj => by
        have h1 := h j hj
        have h2 : j ≠ n := fun e => g (e ▸ hj)
        omega)
      have h2 := zAbs_p (a n)
      omega
theorem xp_b {g : lV} {B : Int} (hB : 0 ≤ B) : ∀ {f : List Nat → Int} {J : List Nat}, (∀ K, K.Sublist J → zAbs (f K) ≤ B) → zAbs (xp g f J) ≤ lS1 g J * B
  | _, [], _ => by
    show zAbs 0 ≤ 0 * B
    rw [Int.zero_mul]
    decide
  | f, j :: J, h => by
    have h1 := xp_b hB (g := g) (f := fun K => f (j :: K)) (J := J) (fun K hK => h (j :: K) (hK.cons_cons j))
    have h2 := Int.mul_le_mul_of_nonneg_left (h J (List.sublist_cons_self j J)) (zAbs_p (g j))
    have h3 := zAbs_tri (g j * f J) (-xp g (fun K => f (j :: K)) J)
    rw [show zAbs (-xp g (fun K => f (j :: K)) J) = zAbs (xp g (fun K => f (j :: K)) J) by unfold zAbs; split <;> split <;> omega, zAbs_x] at h3
    show zAbs (g j * f J - xp g (fun K => f (j :: K)) J) ≤ (zAbs (g j) + lS1 g J) * B
    rw [Int.add_mul, Int.sub_eq_add_neg]
    omega
/-- the bound of the determinants -/
def nP (n : Nat) : List lV → Int
  | [] => 1
  | g :: G => nS g n * nP n G
theorem nP_p (n : Nat) : ∀ G, 0 ≤ nP n G
  | [] => by show (0 : Int) ≤ 1; decide
  | g :: G => Int.mul_nonneg (nS_p g n) (nP_p n G)
theorem dt_b {n : Nat} : ∀ {G : List lV} {J : List Nat}, J.Nodup → (∀ j, j ∈ J → j < n) → zAbs (dt G J) ≤ nP n G
  | [], J, _, _ => by
    show zAbs (if J = [] then 1 else 0) ≤ 1
    split <;> decide
  | g :: G, J, h1, h2 => by
    have h3 := xp_b (g := g) (f := dt G) (nP_p n G) (J := J) (fun K hK => dt_b (h1.sublist hK) (fun j hj => h2 j (hK.subset hj)))
    exact Int.le_trans h3 (Int.mul_le_mul_of_nonneg_right (lS1_b g n J h1 h2) (nP_p n G))
/-- CRAMER: a vector of the span that is 0 at all places but one of L -/
theorem cram {n : Nat} {G : List lV} {v : lV} {m k : Nat} {L : List Nat} (h : nul G v) (hn : L.Nodup) (hL : ∀ j, j ∈ L → j < n) (hm : m ∈ L) (hz : ∀ j, j ∈ L → j ≠ m → v j = 0) (hk : k < n) : ∃ P, v k * dt G L = v m * P ∧ zAbs P ≤ nP n G := by
  rcases Decidable.em (k ∈ L) with g | g
  · rcases Decidable.em (k = m) with e | e
    · subst e
      exact ⟨dt G L, rfl, dt_b hn hL⟩
    · refine ⟨0, ?_, ?_⟩
      · rw [hz k g e, Int.mul_zero, Int.zero_mul]
      · exact nP_p n G
  · obtain ⟨P, h1, h2⟩ := xp_1 (v := v) (m := m) (B := nP n G) (f := fun K => dt G (k :: K)) hn hm hz (fun K hK => dt_b (List.nodup_cons.mpr ⟨fun q => g (hK.subset q), hn.sublist hK⟩) (fun j hj => by
      rcases List.mem_cons.mp hj with e | e
      · rw [e]; exact hk
      · exact hL j (hK.subset e)))
    exact ⟨P, by rw [nul_x h k L, h1], h2⟩
/-- what divides all of a primitive vector times something, divides that -/
theorem prim_d {v : lV} {n : Nat} {a d : Int} (ha : a ≠ 0) (hp : ∀ c : Int, (∀ k, k < n → c ∣ v k) → c ∣ 1) (h : ∀ k, k < n → a ∣ v k * d) : a ∣ d := by
  obtain ⟨g, hg⟩ : ∃ g : Int, (Int.gcd a d : Int) = g := ⟨_, rfl⟩
  have g0 : 0 < g := by
    rw [← hg]
    have := Int.gcd_pos_of_ne_zero_left d ha
    omega
  have g1 : g ∣ a := by rw [← hg]; exact Int.gcd_dvd_left ..
  have g2 : g ∣ d := by rw [← hg]; exact Int.gcd_dvd_right ..
  obtain ⟨a', ha'⟩ := g1
  obtain ⟨d', hd'⟩ := g2
  have cop : Int.gcd a' d' = 1 := by
    have e : Int.gcd (g * a') (g * d') = g.natAbs * Int.gcd a' d' := Int.gcd_mul_left ..
    rw [← ha', ← hd'] at e
    have e2 : (Int.gcd a d) = g.natAbs := by omega
    rw [e2] at e
    have g3 : 0 < g.natAbs := by omega
    exact (Nat.eq_of_mul_eq_mul_left g3 (by rw [Nat.mul_one]; exact e.symm))
  have h2 : ∀ k, k < n → a' ∣ v k := by
    intro k hk
    obtain ⟨c, hc⟩ := h k hk
    have e : v k * d' = a' * c := by
      have e1 : g * (v k * d') = g * (a' * c) := by
        rw [hd', ha'] at hc
        rw [← Int.mul_assoc, Int.mul_comm g (v k), Int.mul_assoc, hc, Int.mul_assoc]
      exact Int.eq_of_mul_eq_mul_left (by omega) e1
    have e3 : a' ∣ ((Int.gcd a' (d' * v k) : Nat) : Int) := Int.dvd_coe_gcd (Int.dvd_refl a') ⟨c, by rw [Int.mul_comm]; exact e⟩
    rw [Int.gcd_mul_right_right_of_gcd_eq_one cop] at e3
    exact Int.dvd_trans e3 (Int.gcd_dvd_right ..)
  have h3 := hp a' h2
  rw [ha', hd']
  exact Int.mul_dvd_mul (Int.dvd_refl g) (Int.dvd_trans h3 (Int.one_dvd d'))
