/-! A problem, a grid. -/
/-- the rows of a problem stand at (t, p) -/
def prM (M : eM) (b q : eA) (t u : Nat) : eM := fun id => if id = b then some (eO 5 [eR q, eI 0]) else if id = q then some (eY 6 5 (fun i => eR (t, i.toNat))) else if id.1 = t ∧ id.2 < 5 then some (eY 0 6 (fun _ => eI 0)) else M id
def sp6 (b q : eA) (t : Nat) : nSp := fun G sz as M M' => as = [eR b] ∧ M b = some (eO 5 [eN, eI 0]) ∧ G.2.2 q = sz ∧ (∀ j, j < 5 → G.2.2 (t, j) = sz + 1 + j) ∧ M' = prM M b q t 0
set_option maxRecDepth 100000 in
theorem c6_init {b q : eA} {t : Nat} (hbq : b ≠ q) (hbt : b.1 ≠ t) (hqt : q.1 ≠ t) : nMet yX6_init cX6_init 1 1 21 6 35 (sp6 b q t) := by
  refine nMet_of (T := (fl_RX6, cl_RX6, dl_RX6, fun _ => none, fun _ => none)) (by decide) rfl tb_RX6 ?_
  rintro p l e s m below meth c G A as M M' B hF hA hin hr hlk ⟨rfl, h1, h2, h3, rfl⟩
  refine ⟨Nat.le_refl 1, ?_⟩
  refine nd_aload_n B (show decode cX6_init 0 = .ok (.aload_n 0, 1) by decide +kernel) rfl ?_
  refine nd_obj B (show decode cX6_init 1 = .ok (.invokespecial 5, 3) by decide +kernel) (gW_at 173 (by decide +kernel) rfl) (gW_at 104 (by decide +kernel) rfl) (gW_at 105 (by decide +kernel) rfl) (Nat.le_of_ble_eq_true rfl) (Nat.le_of_ble_eq_true rfl) ?_
  refine nd_aload_n B (show decode cX6_init 4 = .ok (.aload_n 0, 1) by decide +kernel) rfl ?_
  refine nd_iconst B (show decode cX6_init 5 = .ok (.iconst 5, 1) by decide +kernel) ?_
  refine nd_bipush B (show decode cX6_init 6 = .ok (.bipush 6, 2) by decide +kernel) (by decide) ?_
  refine nd_mna B hF hA (a := q) (r := fun j => (t, j)) (N := 5) (K := 6) (M' := eUp (fun id => if id = q then some (eY 6 5 (fun i => eR (t, i.toNat))) else if id.1 = t ∧ id.2 < 5 then some (eY 0 6 (fun _ => eI 0)) else M id) b (eO 5 [eN, eI 0])) (show decode cX6_init 8 = .ok (.multianewarray 13 2, 4) by decide +kernel) (gW_at 174 (by decide +kernel) rfl) (gW_at 136 (by decide +kernel) rfl) (by decide +kernel) (by decide +kernel) (by decide +kernel) (by decide +kernel) (by decide) (by decide) (by decide) h2 h3 ?_ (by dsimp only; omega) (by dsimp only; omega) ?_
  · intro id c hc
    unfold eUp at hc
    by_cases e1 : id = b
    · subst e1
      rw [if_pos rfl] at hc
      exact Or.inr (Or.inr (by rw [← hc]; exact h1))
    · rw [if_neg e1] at hc
      dsimp only at hc
      by_cases e2 : id = q
      · subst e2
        rw [if_pos rfl] at hc
        exact Or.inl ⟨rfl, (Option.some.inj hc).symm⟩
      · rw [if_neg e2] at hc
        by_cases e3 : id.1 = t ∧ id.2 < 5
        · rw [if_pos e3] at hc
          exact Or.inr (Or.inl ⟨id.2, e3.2, by rw [← e3.1], (Option.some.inj hc).symm⟩)
        · rw [if_neg e3] at hc
          exact Or.inr (Or.inr hc)
  refine nt_putF B hin (ci := 5) (f := 0) (show decode cX6_init 12 = .ok (.putfield 15, 3) by decide +kernel) (by decide +kernel) (fun q h => by cases h; exact ⟨rfl, rfl⟩) rfl ?_
  refine nd_aload_n B (show decode cX6_init 15 = .ok (.aload_n 0, 1) by decide +kernel) rfl ?_
  refine nd_iconst B (show decode cX6_init 16 = .ok (.iconst 0, 1) by decide +kernel) ?_
  refine nt_putI B (ci := 5) (f := 1) (show decode cX6_init 17 = .ok (.putfield 18, 3) by decide +kernel) (by decide +kernel) (by decide +kernel) ?_
  refine nW.cast (M' := prM M b q t 0) ?_ rfl rfl rfl rfl
  exact nd_ret B hr hlk (show decode cX6_init 20 = .ok (.return_, 1) by decide +kernel)
/-- a Grid: 0 over 1 -/
def grM (M : eM) (g lo : Nat) : eM := wo (eUp (eUp (whs M lo 16) (10, g) (eY 3 16 (fjr lo 16))) (9, g) (eO 2 [eR (10, g), eR (2, lo + 16)])) (lo + 16)
def sp2 (L : Nat) : nSp := fun G sz as M M' => ∃ g lo : Nat, as = [eR (9, g), eI (L : Int)] ∧ M (9, g) = some (eO 2 [eN, eN]) ∧ G.2.2 (10, g) = sz ∧ (∀ j, j < 17 → lw (lo + j) = L ∧ G.2.2 (2, lo + j) = sz + 1 + 2 * j ∧ G.2.2 (3, lo + j) = sz + 2 + 2 * j) ∧ M' = grM M g lo
theorem wh_g {X : eM} {g k : Nat} {a b o w : eC} : eUp (wh (eUp (eUp (eUp X (10, g) a) (9, g) o) (2, k) w) k) (10, g) b = eUp (eUp (wh X k) (10, g) b) (9, g) o := by
  funext x
  unfold wh eUp
  by_cases h1 : x = (10, g) <;> by_cases h2 : x = (9, g) <;> by_cases h3 : x = (2, k) <;> by_cases h4 : x = (3, k) <;> simp_all
theorem wh_t {X : eM} {g u : Nat} {o : eC} : wh (eUp X (9, g) o) u = eUp (wh X u) (9, g) o := by
  funext x
  unfold wh eUp
  by_cases h2 : x = (9, g) <;> by_cases h5 : x = (2, u) <;> by_cases h6 : x = (3, u) <;> simp_all
set_option maxRecDepth 100000 in
theorem c2_init {L : Nat} (hL : L ≤ 80) : nMet yX2_init cX2_init 3 2 42 35 (16 + 17 * (3 + L)) (sp2 L) := by
  refine nMet_of (T := (fl_RX2, cl_RX2, dl_RX2, fun _ => none, fun _ => none)) (by decide) rfl tb_RX2 ?_
  rintro p l e s m below meth c G A as M M' B hF hA hin hr hlk ⟨g, lo, rfl, h1, h2, h5, rfl⟩
  refine ⟨show 2 ≤ 3 by decide, ?_⟩
  have loop : ∀ (d j : Nat), j + d = 16 → nW G A p l e { frames := 2, cells := 35, slots := 16 + 17 * (3 + L), locals := 42 } s m ([eR (9, g), eI (L : Int)].map (cv G)).toArray below meth c 3 (MQ below (nwQ G A 35 (grM M g lo)) ([eR (9, g), eI (L : Int)].map (cv G)).toArray s 35 (16 + 17 * (3 + L)) A) (1 + 2 * j) (16 + (3 + L) * j) 15 [some (eR (9, g)), some (eI (L : Int)), some (eI (j : Int))] [] (eUp (eUp (whs M lo j) (10, g) (eY 3 16 (fjr lo j))) (9, g) (eO 2 [eR (10, g), eN])) := by
    intro d
    induction d with
    | zero =>
      intro j hj
      have hj' : j = 16 := by omega
      subst hj'
      refine nd_iload_n B (show decode cX2_init 15 = .ok (.iload_n 2, 1) by decide +kernel) rfl ?_
      refine nd_aload_n B (show decode cX2_init 16 = .ok (.aload_n 0, 1) by decide +kernel) rfl ?_
      refine nt_get B (ci := 2) (f := 0) (show decode cX2_init 17 = .ok (.getfield 11, 3) by decide +kernel) (by decide +kernel) rfl ?_
      refine nt_len B (show decode cX2_init 20 = .ok (.arraylength, 1) by decide +kernel) ((eUp_n (fun h => by cases h)).trans eUp_s) (by decide) (by decide) ?_
      refine nd_icmp_ge B (show decode cX2_init 21 = .ok (.if_icmp .ge 23, 3) by decide +kernel) (by decide) (by decide) (fun hT => ?_) (fun hT => ?_)
      · refine nd_aload_n B (show decode cX2_init 44 = .ok (.aload_n 0, 1) by decide +kernel) rfl ?_
        refine nt_new B hA (ci := 7) (N := 3) (a := (2, lo + 16)) (show decode cX2_init 45 = .ok (.new 9, 3) by decide +kernel) rfl rfl (gW_at 255 (by decide +kernel) rfl) (gW_at 113 (by decide +kernel) rfl) (gW_at 81 (by decide +kernel) rfl) (by decide +kernel) ((h5 16 (by decide)).2.1.trans (by omega)) (by dsimp only; omega) (by dsimp only; omega) ?_
        refine nd_dup B (show decode cX2_init 48 = .ok (.dup, 1) by decide +kernel) (fun w h => by cases h) ?_
        refine nd_iload_n B (show decode cX2_init 49 = .ok (.iload_n 1, 1) by decide +kernel) rfl ?_
        refine nd_callI B hF hA (na := 1) (as := [eI (L : Int)]) (M' := _) (c8_init (L := L) hL) (gW_at 116 (by decide +kernel) rfl) (gW_at 81 (by decide +kernel) rfl) (gW_at 115 (by decide +kernel) rfl) (Or.inl (gW_at 256 (by decide +kernel) rfl)) rfl ⟨by decide, by decide, by decide +kernel⟩ ⟨Nat.le_of_ble_eq_true rfl, Nat.le_of_ble_eq_true rfl⟩ (show decode cX2_init 50 = .ok (.invokespecial 15, 3) by decide +kernel) rfl (Nat.le_of_ble_eq_true rfl) ⟨lo + 16, (h5 16 (by decide)).1, rfl, eUp_s, (h5 16 (by decide)).2.2.trans (by omega), wh_d (fun h => by cases h) (fun h => by cases h)⟩ (by dsimp only; omega) (by dsimp only; omega) ?_
        refine nt_putF B hin (ci := 2) (f := 1) (show decode cX2_init 53 = .ok (.putfield 18, 3) by decide +kernel) (by decide +kernel) (fun q h => by cases h; exact ⟨rfl, rfl⟩) rfl ?_
        refine nd_aload_n B (show decode cX2_init 56 = .ok (.aload_n 0, 1) by decide +kernel) rfl ?_
        refine nt_get B (ci := 2) (f := 1) (show decode cX2_init 57 = .ok (.getfield 18, 3) by decide +kernel) (by decide +kernel) rfl ?_
        refine nd_lconst B (show decode cX2_init 60 = .ok (.lconst 1, 1) by decide +kernel) ?_
        rw [← wh_t]
        refine nd_callV B (as := [eR (2, lo + 16), eL 1]) (rest := []) (eV_mk mX8_one wX8_one ⟨Nat.le_of_ble_eq_true rfl, Nat.le_of_ble_eq_true rfl⟩ (Or.inl (gW_at 257 (by decide +kernel) rfl))) (show decode cX2_init 61 = .ok (.invokevirtual 22, 3) by decide +kernel) rfl (by decide) ⟨_, _, rfl, rfl, rfl, rfl⟩ (by dsimp only; omega) (by dsimp only; omega) (f := fun o M' => o = none ∧ M' = grM M g lo) ?_
        rintro o M' ⟨rfl, rfl⟩
        refine nW.cast (n' := 35) (k' := 16 + 17 * (3 + L)) ?_ (by omega) (by omega) rfl rfl
        exact nd_ret B hr hlk (show decode cX2_init 64 = .ok (.return_, 1) by decide +kernel)
      · exact absurd (Int.le_refl _) hT
    | succ d ih =>
      intro j hj
      have hlt : j < 16 := by omega
      have hk1 : (3 + L) * (j + 1) = (3 + L) * j + (3 + L) := Nat.mul_succ _ _
      have hk2 : (3 + L) * (j + 1) ≤ (3 + L) * 16 := Nat.mul_le_mul_left _ (by omega)
      refine nd_iload_n B (show decode cX2_init 15 = .ok (.iload_n 2, 1) by decide +kernel) rfl ?_
      refine nd_aload_n B (show decode cX2_init 16 = .ok (.aload_n 0, 1) by decide +kernel) rfl ?_
      refine nt_get B (ci := 2) (f := 0) (show decode cX2_init 17 = .ok (.getfield 11, 3) by decide +kernel) (by decide +kernel) rfl ?_
      refine nt_len B (show decode cX2_init 20 = .ok (.arraylength, 1) by decide +kernel) ((eUp_n (fun h => by cases h)).trans eUp_s) (by decide) (by decide) ?_
      refine nd_icmp_ge B (show decode cX2_init 21 = .ok (.if_icmp .ge 23, 3) by decide +kernel) (by constructor <;> (unfold w32; omega)) (by decide) (fun hT => ?_) (fun hT => ?_)
      · exact absurd hT (by omega)
      refine nd_aload_n B (show decode cX2_init 24 = .ok (.aload_n 0, 1) by decide +kernel) rfl ?_
      refine nt_get B (ci := 2) (f := 0) (show decode cX2_init 25 = .ok (.getfield 11, 3) by decide +kernel) (by decide +kernel) rfl ?_
      refine nd_iload_n B (show decode cX2_init 28 = .ok (.iload_n 2, 1) by decide +kernel) rfl ?_
      refine nt_new B hA (ci := 7) (N := 3) (a := (2, lo + j)) (show decode cX2_init 29 = .ok (.new 9, 3) by decide +kernel) rfl rfl (gW_at 255 (by decide +kernel) rfl) (gW_at 113 (by decide +kernel) rfl) (gW_at 81 (by decide +kernel) rfl) (by decide +kernel) ((h5 j (by omega)).2.1.trans (by omega)) (by dsimp only; omega) (by dsimp only; omega) ?_
      refine nd_dup B (show decode cX2_init 32 = .ok (.dup, 1) by decide +kernel) (fun w h => by cases h) ?_
      refine nd_iload_n B (show decode cX2_init 33 = .ok (.iload_n 1, 1) by decide +kernel) rfl ?_
      refine nd_callI B hF hA (na := 1) (as := [eI (L : Int)]) (M' := _) (c8_init (L := L) hL) (gW_at 116 (by decide +kernel) rfl) (gW_at 81 (by decide +kernel) rfl) (gW_at 115 (by decide +kernel) rfl) (Or.inl (gW_at 256 (by decide +kernel) rfl)) rfl ⟨by decide, by decide, by decide +kernel⟩ ⟨Nat.le_of_ble_eq_true rfl, Nat.le_of_ble_eq_true rfl⟩ (show decode cX2_init 34 = .ok (.invokespecial 15, 3) by decide +kernel) rfl (Nat.le_of_ble_eq_true rfl) ⟨lo + j, (h5 j (by omega)).1, rfl, eUp_s, (h5 j (by omega)).2.2.trans (by omega), rfl⟩ (by dsimp only; omega) (by dsimp only; omega) ?_
      refine nd_aast B hF (t := 3) (ci := 7) (N := 16) (g := fjr lo j) (fs := [eR (3, lo + j), eI 0, eI 0]) (show decode cX2_init 37 = .ok (.aastore, 1) by decide +kernel) rfl rfl (by simp [wh, eUp]) eUp_s ⟨by omega, by omega, by omega⟩ ?_
      refine nd_iinc B (show decode cX2_init 38 = .ok (.iinc 2 1, 3) by decide +kernel) rfl (by decide) ?_
      refine nd_goto B (show decode cX2_init 41 = .ok (.goto (-26), 3) by decide +kernel) (by decide) ?_
      refine (ih (j + 1) (by omega)).cast (by omega) (by omega) ?_ ?_
      · rw [fjr_u]; exact wh_g
      · rfl
  refine nd_aload_n B (show decode cX2_init 0 = .ok (.aload_n 0, 1) by decide +kernel) rfl ?_
  refine nd_obj B (show decode cX2_init 1 = .ok (.invokespecial 1, 3) by decide +kernel) (gW_at 254 (by decide +kernel) rfl) (gW_at 104 (by decide +kernel) rfl) (gW_at 105 (by decide +kernel) rfl) (Nat.le_of_ble_eq_true rfl) (Nat.le_of_ble_eq_true rfl) ?_
  refine nd_aload_n B (show decode cX2_init 4 = .ok (.aload_n 0, 1) by decide +kernel) rfl ?_
  refine nd_bipush B (show decode cX2_init 5 = .ok (.bipush 16, 2) by decide +kernel) (by decide) ?_
  refine nd_anew B hF hA (t := 3) (N := 16) (a := (10, g)) (show decode cX2_init 7 = .ok (.anewarray 9, 3) by decide +kernel) rfl (gW_at 255 (by decide +kernel) rfl) (by decide) (by decide +kernel) (by decide +kernel) (Nat.le_of_ble_eq_true rfl) h2 (by dsimp only; omega) (by dsimp only; omega) ?_
  refine nW.sub (M' := eUp (eUp M (10, g) (eY 3 16 (fun _ => eN))) (9, g) (eO 2 [eN, eN])) ?_ (fun a c hc => ?_)
  rotate_left
  · unfold eUp at hc ⊢
    by_cases ha : a = (9, g)
    · subst ha
      rw [if_pos rfl] at hc
      rw [if_neg (fun h => by cases h), ← hc]
      exact h1
    · rw [if_neg ha] at hc
      exact hc
  refine nt_putF B hin (ci := 2) (f := 0) (show decode cX2_init 10 = .ok (.putfield 11, 3) by decide +kernel) (by decide +kernel) (fun q h => by cases h; exact ⟨rfl, rfl⟩) rfl ?_
  refine nd_iconst B (show decode cX2_init 13 = .ok (.iconst 0, 1) by decide +kernel) ?_
  refine nd_istore_n B (show decode cX2_init 14 = .ok (.istore_n 2, 1) by decide +kernel) (by decide) ?_
  refine (loop 16 0 (by omega)).cast rfl (by omega) ?_ rfl
  rw [fjr_0 lo]
  rfl
