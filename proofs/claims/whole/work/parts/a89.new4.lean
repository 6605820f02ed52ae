/-! Rows, grids, the desk. -/
def whs (M : eM) (lo : Nat) : Nat → eM
  | 0 => M
  | n + 1 => wh (whs M lo n) (lo + n)
def fjr (lo j : Nat) : Int → eV := fun i => if 0 ≤ i ∧ i < (j : Int) then eR (2, lo + i.toNat) else eN
theorem fjr_u (lo j : Nat) : fUp (fjr lo j) (j : Int) (eR (2, lo + j)) = fjr lo (j + 1) := by
  funext i
  unfold fUp fjr
  by_cases h : i = (j : Int)
  · subst h
    rw [if_pos rfl, if_pos ⟨by omega, by omega⟩]
    rfl
  · rw [if_neg h]
    by_cases h2 : 0 ≤ i ∧ i < (j : Int)
    · rw [if_pos h2, if_pos ⟨h2.1, by omega⟩]
    · rw [if_neg h2, if_neg (fun q => h2 ⟨q.1, by omega⟩)]
theorem fjr_0 (lo : Nat) : (fun _ => eN) = fjr lo 0 := by
  funext i
  unfold fjr
  rw [if_neg (by omega)]
/-- a Row that is 0 -/
def rwM (M : eM) (r lo N : Nat) : eM := eUp (eUp (whs M lo N) (8, r) (eY 3 N (fjr lo N))) (7, r) (eO 6 [eR (8, r)])
def sp7 (N : Nat) : nSp := fun G sz as M M' => ∃ r lo : Nat, as = [eR (7, r), eI (N : Int)] ∧ M (7, r) = some (eO 6 [eN]) ∧ G.2.2 (8, r) = sz ∧ (∀ j, j < N → lw (lo + j) = 32 ∧ G.2.2 (2, lo + j) = sz + 1 + 2 * j ∧ G.2.2 (3, lo + j) = sz + 2 + 2 * j) ∧ M' = rwM M r lo N
theorem wh_r {X : eM} {r k : Nat} {a b o w : eC} : eUp (wh (eUp (eUp (eUp X (8, r) a) (7, r) o) (2, k) w) k) (8, r) b = eUp (eUp (wh X k) (8, r) b) (7, r) o := by
  funext x
  unfold wh eUp
  by_cases h1 : x = (8, r) <;> by_cases h2 : x = (7, r) <;> by_cases h3 : x = (2, k) <;> by_cases h4 : x = (3, k) <;> simp_all
set_option maxRecDepth 100000 in
theorem c7_init {N : Nat} (hN : N ≤ 80) : nMet yX7_init cX7_init 3 2 42 (1 + 2 * N) (N + 35 * N) (sp7 N) := by
  refine nMet_of (T := (fl_RX7, cl_RX7, dl_RX7, fun _ => none, fun _ => none)) (by decide) rfl tb_RX7 ?_
  rintro p l e s m below meth c G A as M M' B hF hA hin hr hlk ⟨r, lo, rfl, h1, h2, h3, rfl⟩
  refine ⟨show 2 ≤ 3 by decide, ?_⟩
  have loop : ∀ (d j : Nat), j + d = N → nW G A p l e { frames := 2, cells := 1 + 2 * N, slots := N + 35 * N, locals := 42 } s m ([eR (7, r), eI (N : Int)].map (cv G)).toArray below meth c 3 (MQ below (nwQ G A (1 + 2 * N) (rwM M r lo N)) ([eR (7, r), eI (N : Int)].map (cv G)).toArray s (1 + 2 * N) (N + 35 * N) A) (1 + 2 * j) (N + 35 * j) 18 [some (eR (7, r)), some (eI (N : Int)), some (eI (j : Int))] [] (eUp (eUp (whs M lo j) (8, r) (eY 3 N (fjr lo j))) (7, r) (eO 6 [eR (8, r)])) := by
    intro d
    induction d with
    | zero =>
      intro j hj
      have hj' : j = N := by omega
      subst hj'
      refine nd_iload_n B (show decode cX7_init 18 = .ok (.iload_n 2, 1) by decide +kernel) rfl ?_
      refine nd_aload_n B (show decode cX7_init 19 = .ok (.aload_n 0, 1) by decide +kernel) rfl ?_
      refine nt_get B (ci := 6) (f := 0) (show decode cX7_init 20 = .ok (.getfield 15, 3) by decide +kernel) (by decide +kernel) rfl ?_
      refine nt_len B (show decode cX7_init 23 = .ok (.arraylength, 1) by decide +kernel) ((eUp_n (fun h => by cases h)).trans eUp_s) (by decide) (by omega) ?_
      refine nd_icmp_ge B (show decode cX7_init 24 = .ok (.if_icmp .ge 24, 3) by decide +kernel) (by constructor <;> (unfold w32; omega)) (by decide) (fun hT => ?_) (fun hT => ?_)
      · exact nd_ret B hr hlk (show decode cX7_init 48 = .ok (.return_, 1) by decide +kernel)
      · exact absurd (Int.le_refl _) hT
    | succ d ih =>
      intro j hj
      have hlt : j < N := by omega
      refine nd_iload_n B (show decode cX7_init 18 = .ok (.iload_n 2, 1) by decide +kernel) rfl ?_
      refine nd_aload_n B (show decode cX7_init 19 = .ok (.aload_n 0, 1) by decide +kernel) rfl ?_
      refine nt_get B (ci := 6) (f := 0) (show decode cX7_init 20 = .ok (.getfield 15, 3) by decide +kernel) (by decide +kernel) rfl ?_
      refine nt_len B (show decode cX7_init 23 = .ok (.arraylength, 1) by decide +kernel) ((eUp_n (fun h => by cases h)).trans eUp_s) (by decide) (by omega) ?_
      refine nd_icmp_ge B (show decode cX7_init 24 = .ok (.if_icmp .ge 24, 3) by decide +kernel) (by constructor <;> (unfold w32; omega)) (by decide) (fun hT => ?_) (fun hT => ?_)
      · exact absurd hT (by omega)
      refine nd_aload_n B (show decode cX7_init 27 = .ok (.aload_n 0, 1) by decide +kernel) rfl ?_
      refine nt_get B (ci := 6) (f := 0) (show decode cX7_init 28 = .ok (.getfield 15, 3) by decide +kernel) (by decide +kernel) rfl ?_
      refine nd_iload_n B (show decode cX7_init 31 = .ok (.iload_n 2, 1) by decide +kernel) rfl ?_
      refine nt_new B hA (ci := 7) (N := 3) (a := (2, lo + j)) (show decode cX7_init 32 = .ok (.new 13, 3) by decide +kernel) rfl rfl (gW_at 197 (by decide +kernel) rfl) (gW_at 113 (by decide +kernel) rfl) (gW_at 81 (by decide +kernel) rfl) (by decide +kernel) ((h3 j hlt).2.1.trans (by omega)) (by dsimp only; omega) (by dsimp only; omega) ?_
      refine nd_dup B (show decode cX7_init 35 = .ok (.dup, 1) by decide +kernel) (fun w h => by cases h) ?_
      refine nd_bipush B (show decode cX7_init 36 = .ok (.bipush 32, 2) by decide +kernel) (by decide) ?_
      refine nd_callI B hF hA (as := [eI 32]) (M' := _) (c8_init (L := 32) (by decide)) (gW_at 116 (by decide +kernel) rfl) (gW_at 81 (by decide +kernel) rfl) (gW_at 115 (by decide +kernel) rfl) (Or.inl (gW_at 199 (by decide +kernel) rfl)) rfl ⟨by decide, by decide, by decide +kernel⟩ ⟨Nat.le_of_ble_eq_true rfl, Nat.le_of_ble_eq_true rfl⟩ (show decode cX7_init 38 = .ok (.invokespecial 21, 3) by decide +kernel) rfl (Nat.le_of_ble_eq_true rfl) ⟨lo + j, (h3 j hlt).1, rfl, eUp_s, (h3 j hlt).2.2.trans (by omega), rfl⟩ (by dsimp only; omega) (by dsimp only; omega) ?_
      refine nd_aast B hF (t := 3) (ci := 7) (N := N) (g := fjr lo j) (fs := [eR (3, lo + j), eI 0, eI 0]) (show decode cX7_init 41 = .ok (.aastore, 1) by decide +kernel) rfl rfl (by simp [wh, eUp]) eUp_s ⟨by omega, by omega, by omega⟩ ?_
      refine nd_iinc B (show decode cX7_init 42 = .ok (.iinc 2 1, 3) by decide +kernel) rfl (by decide) ?_
      refine nd_goto B (show decode cX7_init 45 = .ok (.goto (-27), 3) by decide +kernel) (by decide) ?_
      refine (ih (j + 1) (by omega)).cast (by omega) (by omega) ?_ ?_
      · rw [fjr_u]; exact wh_r
      · rfl
  refine nd_aload_n B (show decode cX7_init 0 = .ok (.aload_n 0, 1) by decide +kernel) rfl ?_
  refine nd_obj B (show decode cX7_init 1 = .ok (.invokespecial 1, 3) by decide +kernel) (gW_at 195 (by decide +kernel) rfl) (gW_at 104 (by decide +kernel) rfl) (gW_at 105 (by decide +kernel) rfl) (Nat.le_of_ble_eq_true rfl) (Nat.le_of_ble_eq_true rfl) ?_
  refine nd_aload_n B (show decode cX7_init 4 = .ok (.aload_n 0, 1) by decide +kernel) rfl ?_
  refine nd_iload_n B (show decode cX7_init 5 = .ok (.iload_n 1, 1) by decide +kernel) rfl ?_
  refine nd_iconst B (show decode cX7_init 6 = .ok (.iconst 0, 1) by decide +kernel) ?_
  refine nd_max B ⟨by dsimp only; omega, by dsimp only; omega⟩ (gW_at 196 (by decide +kernel) rfl) (gW_at 119 (by decide +kernel) rfl) (gW_at 82 (by decide +kernel) rfl) (gW_at 120 (by decide +kernel) rfl) (Nat.le_of_ble_eq_true rfl) (by dsimp only; omega) (by dsimp only; omega) (by unfold w32; omega) (by decide) (show decode cX7_init 7 = .ok (.invokestatic 7, 3) by decide +kernel) ?_
  rw [show max (N : Int) 0 = (N : Int) by omega]
  refine nd_anew B hF hA (t := 3) (N := N) (a := (8, r)) (show decode cX7_init 10 = .ok (.anewarray 13, 3) by decide +kernel) rfl (gW_at 197 (by decide +kernel) rfl) (by decide) (nn_c hN).1 (nn_c hN).2 (by omega) h2 (by dsimp only; omega) (by dsimp only; omega) ?_
  refine nW.sub (M' := eUp (eUp M (8, r) (eY 3 N (fun _ => eN))) (7, r) (eO 6 [eN])) ?_ (fun a c hc => ?_)
  rotate_left
  · unfold eUp at hc ⊢
    by_cases ha : a = (7, r)
    · subst ha
      rw [if_pos rfl] at hc
      rw [if_neg (fun h => by cases h), ← hc]
      exact h1
    · rw [if_neg ha] at hc
      exact hc
  refine nt_putF B hin (ci := 6) (f := 0) (show decode cX7_init 13 = .ok (.putfield 15, 3) by decide +kernel) (by decide +kernel) (fun q h => by cases h; exact ⟨rfl, rfl⟩) rfl ?_
  refine nd_iconst B (show decode cX7_init 16 = .ok (.iconst 0, 1) by decide +kernel) ?_
  refine nd_istore_n B (show decode cX7_init 17 = .ok (.istore_n 2, 1) by decide +kernel) (by decide) ?_
  refine (loop N 0 (by omega)).cast rfl (by omega) ?_ rfl
  rw [fjr_0 lo]
  rfl
