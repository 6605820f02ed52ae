/-! Columns change places; a certificate that keeps off given columns. -/
def alt (f : List Nat → Int) : Prop := ∀ (A : List Nat) (a b : Nat) (K : List Nat), f (A ++ a :: b :: K) = -f (A ++ b :: a :: K)
theorem xp_neg (g : lV) (f : List Nat → Int) (J : List Nat) : xp g (fun K => -f K) J = -xp g f J := by
  have e := xp_f (-1) 0 g f f J
  rw [xp_c (f := fun K => -f K) (e := fun K => -1 * f K + 0 * f K) (fun _ => rfl) (fun K => by omega) J, e]
  omega
theorem xp_alt (g : lV) : ∀ (A : List Nat) (f : List Nat → Int), alt f → ∀ (a b : Nat) (K : List Nat), xp g f (A ++ a :: b :: K) = -xp g f (A ++ b :: a :: K)
  | [], f, h, a, b, K => by
    show g a * f (b :: K) - (g b * f (a :: K) - xp g (fun L => f (a :: b :: L)) K) = -(g b * f (a :: K) - (g a * f (b :: K) - xp g (fun L => f (b :: a :: L)) K))
    rw [xp_c (f := fun L => f (a :: b :: L)) (e := fun L => -f (b :: a :: L)) (fun _ => rfl) (fun L => h [] a b L) K, xp_neg g (fun L => f (b :: a :: L)) K]
    omega
  | c :: A, f, h, a, b, K => by
    show g c * f (A ++ a :: b :: K) - xp g (fun L => f (c :: L)) (A ++ a :: b :: K) = -(g c * f (A ++ b :: a :: K) - xp g (fun L => f (c :: L)) (A ++ b :: a :: K))
    rw [h A a b K, xp_alt g A (fun L => f (c :: L)) (fun A' a b K => h (c :: A') a b K) a b K]
    grind
theorem dt_alt : ∀ G : List lV, alt (dt G)
  | [], A, a, b, K => by
    have e : ∀ x y, dt [] (A ++ x :: y :: K) = 0 := fun x y => if_neg (by simp)
    rw [e, e]
    rfl
  | g :: G, A, a, b, K => xp_alt g A (dt G) (dt_alt G) a b K
theorem alt_2 {f : List Nat → Int} (h : alt f) (k : Nat) (K : List Nat) : ∀ (A C : List Nat), f (C ++ k :: (A ++ k :: K)) = 0
  | [], C => by
    have := h C k k K
    show f (C ++ k :: k :: K) = 0
    omega
  | a :: A, C => by
    show f (C ++ k :: a :: (A ++ k :: K)) = 0
    rw [h C k a (A ++ k :: K)]
    have := alt_2 h k K A (C ++ [a])
    rw [List.append_assoc] at this
    have e : f (C ++ a :: k :: (A ++ k :: K)) = 0 := this
    rw [e]
    rfl
theorem dt_2 {G : List lV} {k : Nat} {L : List Nat} (h : k ∈ L) : dt G (k :: L) = 0 := by
  obtain ⟨A, K, rfl⟩ := List.append_of_mem h
  exact alt_2 (dt_alt G) k K A []
theorem xp_len (g : lV) : ∀ (J : List Nat) (m : Nat) (f : List Nat → Int), (∀ K : List Nat, K.length = m → f K = 0) → J.length = m + 1 → xp g f J = 0
  | [], _, _, _, h => by cases h
  | j :: J, m, f, hf, h => by
    have hl : J.length = m := by rw [List.length_cons] at h; omega
    show g j * f J - xp g (fun K => f (j :: K)) J = 0
    rw [hf J hl]
    match J, m, hl with
    | [], _, _ => show g j * 0 - 0 = 0; omega
    | a :: J', m' + 1, hl =>
      rw [xp_len g (a :: J') m' (fun K => f (j :: K)) (fun K hK => hf (j :: K) (by rw [List.length_cons, hK])) hl]
      omega
theorem dt_len : ∀ (G : List lV) (J : List Nat), G.length ≠ J.length → dt G J = 0
  | [], J, h => if_neg (fun e => h (by rw [e]; rfl))
  | _ :: _, [], _ => rfl
  | g :: G, j :: J, h => xp_len g (j :: J) J.length (dt G) (fun K hK => dt_len G K (fun e => h (by rw [List.length_cons, List.length_cons, e, hK]))) rfl
theorem dt_col {k : Nat} : ∀ (G : List lV) (L : List Nat), (∀ g, g ∈ G → g k = 0) → dt G (k :: L) = 0
  | [], _, _ => rfl
  | g :: G, L, h => by
    show g k * dt G L - xp g (fun K => dt G (k :: K)) L = 0
    rw [h g List.mem_cons_self, xp_c (e := fun _ => 0) (fun _ => rfl) (fun K => dt_col G K (fun v hv => h v (List.mem_cons_of_mem _ hv))) L, xp_0]
    omega
theorem xp_J {J : lV → Prop} (hJ : lin J) (g : lV) : ∀ (K : List Nat) (F : Nat → List Nat → Int), (∀ K', J (fun k => F k K')) → J (fun k => xp g (F k) K)
  | [], _, _ => hJ.2.2
  | j :: K, F, h => lin_d hJ (T := 1) (a := g j) (b := -1) (by decide) (h K) (xp_J hJ g K (fun k K' => F k (j :: K')) (fun K' => h (j :: K'))) (fun k => by
      show 1 * (g j * F k K - xp g (fun K' => F k (j :: K')) K) = _
      omega)
theorem dt_J {J : lV → Prop} (hJ : lin J) : ∀ (G : List lV), (∀ g, g ∈ G → J g) → ∀ K, J (fun k => dt G (k :: K))
  | [], _, _ => lin_0 hJ (fun _ => rfl)
  | g :: G, h, K => lin_d hJ (T := 1) (a := dt G K) (b := -1) (by decide) (h g List.mem_cons_self) (xp_J hJ g K (fun k K' => dt G (k :: K')) (dt_J hJ G (fun v hv => h v (List.mem_cons_of_mem _ hv)))) (fun k => by
      show 1 * (g k * dt G K - xp g (fun K' => dt G (k :: K')) K) = _
      grind)
theorem nul_lin (G : List lV) : lin (nul G) := ⟨fun _ _ a b hu hv => nul_l a b hu hv, fun _ _ hT hv => nul_d hT (fun _ => rfl) hv, nul_0 G (fun _ => rfl)⟩
/-- what no column beside L shows is of the span -/
theorem nul_r {G : List lV} {L : List Nat} {g : lV} (h0 : dt G L ≠ 0) (h : ∀ k, dt (g :: G) (k :: L) = 0) : nul G g := by
  have hx : nul G (fun k => xp g (fun K => dt G (k :: K)) L) := xp_J (nul_lin G) g L (fun k K => dt G (k :: K)) (dt_J (nul_lin G) G (fun _ hv => nul_m hv))
  refine (nul_lin G).2.1 g (dt G L) h0 ?_
  refine nul_e hx (fun k => ?_)
  have e : g k * dt G L - xp g (fun K => dt G (k :: K)) L = 0 := h k
  show dt G L * g k = xp g (fun K => dt G (k :: K)) L
  rw [Int.mul_comm]
  omega
def crtN (Gs : lV → Prop) (B : Nat → Prop) (N : Nat) (G : List lV) (L : List Nat) : Prop := (∀ g, g ∈ G → Gs g) ∧ dt G L ≠ 0 ∧ L.Nodup ∧ ∀ j, j ∈ L → j < N ∧ ¬ B j
theorem crt_x {Gs J : lV → Prop} {B : Nat → Prop} {N : Nat} (hJ : lin J) (hG : ∀ g, Gs g → J g) (hz : ∀ g, Gs g → ∀ j, N ≤ j → g j = 0) (hB : ∀ v, J v → (∀ j, j < N → ¬ B j → v j = 0) → (∀ j, N ≤ j → v j = 0) → ∀ j, v j = 0) : ∀ (m : Nat) (G : List lV) (L : List Nat), crtN Gs B N G L → N ≤ L.length + m → ∃ G' L', crtN Gs B N G' L' ∧ ∀ g, Gs g → nul G' g := by
  intro m
  induction m with
  | zero =>
    intro G L c hm
    refine ⟨G, L, c, fun g hg => nul_r c.2.1 (hB _ (dt_J hJ (g :: G) (fun v hv => ?_) L) (fun j hj hb => ?_) (fun j hj => ?_))⟩
    · rcases List.mem_cons.mp hv with e | e
      · rw [e]; exact hG g hg
      · exact hG v (c.1 v e)
    · rcases Decidable.em (j ∈ L) with q | q
      · exact dt_2 q
      · have := len_n (l := j :: L) (n := N) (List.nodup_cons.mpr ⟨q, c.2.2.1⟩) (fun i hi => by
          rcases List.mem_cons.mp hi with e | e
          · rw [e]; exact hj
          · exact (c.2.2.2 i e).1)
        rw [List.length_cons] at this
        omega
    · exact dt_col (g :: G) L (fun v hv => by
        rcases List.mem_cons.mp hv with e | e
        · rw [e]; exact hz g hg j hj
        · exact hz v (c.1 v e) j hj)
  | succ m ih =>
    intro G L c hm
    rcases Classical.em (∃ g j, Gs g ∧ j < N ∧ ¬ B j ∧ dt (g :: G) (j :: L) ≠ 0) with ⟨g, j, g0, j0, j1, d⟩ | q
    · refine ih (g :: G) (j :: L) ⟨fun v hv => ?_, d, List.nodup_cons.mpr ⟨fun q => d (dt_2 q), c.2.2.1⟩, fun i hi => ?_⟩ (by rw [List.length_cons]; omega)
      · rcases List.mem_cons.mp hv with e | e
        · rw [e]; exact g0
        · exact c.1 v e
      · rcases List.mem_cons.mp hi with e | e
        · rw [e]; exact ⟨j0, j1⟩
        · exact c.2.2.2 i e
    · refine ⟨G, L, c, fun g hg => nul_r c.2.1 (hB _ (dt_J hJ (g :: G) (fun v hv => ?_) L) (fun j hj hb => ?_) (fun j hj => ?_))⟩
      · rcases List.mem_cons.mp hv with e | e
        · rw [e]; exact hG g hg
        · exact hG v (c.1 v e)
      · rcases Decidable.em (dt (g :: G) (j :: L) = 0) with e | e
        · exact e
        · exact absurd ⟨g, j, hg, hj, hb, e⟩ q
      · exact dt_col (g :: G) L (fun v hv => by
          rcases List.mem_cons.mp hv with e | e
          · rw [e]; exact hz g hg j hj
          · exact hz v (c.1 v e) j hj)
theorem nP_pow {N : Nat} {B : Int} (hB : 0 ≤ B) : ∀ G : List lV, (∀ g, g ∈ G → nS g N ≤ B) → nP N G ≤ B ^ G.length
  | [], _ => by
    show (1 : Int) ≤ B ^ 0
    rw [Int.pow_zero]
    decide
  | g :: G, h => by
    have h1 := nP_pow hB G (fun v hv => h v (List.mem_cons_of_mem _ hv))
    have h2 := h g List.mem_cons_self
    have h3 : (0 : Int) ≤ B ^ G.length := Int.pow_nonneg hB
    rw [List.length_cons, Int.pow_succ, Int.mul_comm]
    exact Int.mul_le_mul h2 h1 (nP_p N G) hB
/-- the sizes of a vector of the span with one place beside the columns kept off -/
theorem row_x {Gs : lV → Prop} {B : Nat → Prop} {N : Nat} {G : List lV} {L : List Nat} {v : lV} {m : Nat} (c : crtN Gs B N G L) (hn : ∀ g, Gs g → nul G g) (hv : spo Gs v) (hm : m < N) (h0 : v m ≠ 0) (hs : ∀ j, j < N → j ≠ m → ¬ B j → v j = 0) (hp : ∀ c : Int, (∀ k, k < N → c ∣ v k) → c ∣ 1) (k : Nat) (hk : k < N) : zAbs (v k) ≤ nP N G := by
  have nv := hv (nul G) (nul_lin G) hn
  have hmL : m ∈ L := by
    rcases Decidable.em (m ∈ L) with q | q
    · exact q
    · have h1 : v m * dt G L = 0 := by
        rw [← dt_z (w := v) (t := m) (fun j hj => hs j (c.2.2.2 j hj).1 (fun e => q (e ▸ hj)) (c.2.2.2 j hj).2)]
        exact nv _
      rcases Int.mul_eq_zero.mp h1 with e | e
      · exact absurd e h0
      · exact absurd e c.2.1
  have cr := fun k hk => cram (n := N) (k := k) nv c.2.2.1 (fun j hj => (c.2.2.2 j hj).1) hmL (fun j hj hne => hs j (c.2.2.2 j hj).1 hne (c.2.2.2 j hj).2) hk
  have hd : v m ∣ dt G L := prim_d (n := N) h0 hp (fun k hk => by
    obtain ⟨P, e, -⟩ := cr k hk
    exact ⟨P, e⟩)
  obtain ⟨P, e, hP⟩ := cr k hk
  obtain ⟨y, hy⟩ := hd
  have hy0 : y ≠ 0 := fun q => c.2.1 (by rw [hy, q, Int.mul_zero])
  have e2 : v k * y = P := by
    rw [hy] at e
    exact Int.eq_of_mul_eq_mul_left h0 (by rw [← e]; grind)
  have e3 : zAbs (v k) * zAbs y = zAbs P := by rw [← zAbs_x, e2]
  have y1 : 1 ≤ zAbs y := by unfold zAbs; split <;> omega
  have := Int.mul_le_mul_of_nonneg_left y1 (zAbs_p (v k))
  omega
