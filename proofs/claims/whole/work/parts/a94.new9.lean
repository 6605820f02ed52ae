/-! The inertia and the algebra made. -/
def inO : List eV := [eR (1, 2), eR (9, 10), eR (1, 22), eR (2, 330), eR (2, 331), eI 0, eI 0]
def inX (M : eM) : eM := wh (wh (eUp (grM M 10 311) (1, 22) (eY 2 4 fun _ => eI 0)) 330) 331
def inM (M : eM) : eM := eUp (inX M) (1, 5) (eO 4 inO)
def sp4 : nSp := fun G sz as M M' => as = [eR (1, 5), eR (1, 2)] ∧ M (1, 5) = some (eO 4 [eN, eN, eN, eN, eN, eI 0, eI 0]) ∧ G.2.2 (9, 10) = sz ∧ aGrd G 10 311 64 (sz + 1) ∧ G.2.2 (1, 22) = sz + 36 ∧ G.2.2 (2, 330) = sz + 37 ∧ G.2.2 (3, 330) = sz + 38 ∧ G.2.2 (2, 331) = sz + 39 ∧ G.2.2 (3, 331) = sz + 40 ∧ M' = inM M
set_option maxRecDepth 100000 in
theorem c4_init : nMet yX4_init cX4_init 2 3 64 41 1295 sp4 := by
  refine nMet_of (T := (fl_RX4, cl_RX4, dl_RX4, fun _ => none, fun _ => none)) (by decide) rfl tb_RX4 ?_
  rintro p l e s m below meth c G A as M M' B hF hA hin hr hlk ⟨rfl, h1, h2, h3, h4, h5, h6, h7, h8, rfl⟩
  refine ⟨Nat.le_refl 2, ?_⟩
  refine nd_aload_n B (show decode cX4_init 0 = .ok (.aload_n 0, 1) by decide +kernel) rfl ?_
  refine nd_obj B (show decode cX4_init 1 = .ok (.invokespecial 5, 3) by decide +kernel) (gW_at 248 (by decide +kernel) rfl) (gW_at 104 (by decide +kernel) rfl) (gW_at 105 (by decide +kernel) rfl) (Nat.le_of_ble_eq_true rfl) (Nat.le_of_ble_eq_true rfl) ?_
  refine (nW.cast (M' := eUp M (1, 5) (eO 4 [eN, eN, eN, eN, eN, eI 0, eI 0])) ?_ rfl rfl (eUp_id h1) rfl)
  refine nd_aload_n B (show decode cX4_init 4 = .ok (.aload_n 0, 1) by decide +kernel) rfl ?_
  refine nt_new B hA (ci := 2) (N := 2) (a := (9, 10)) (show decode cX4_init 5 = .ok (.new 1, 3) by decide +kernel) rfl rfl (gW_at 249 (by decide +kernel) rfl) (gW_at 250 (by decide +kernel) rfl) (gW_at 88 (by decide +kernel) rfl) (by decide +kernel) (h2.trans (by omega)) (by dsimp only; omega) (by dsimp only; omega) ?_
  refine nd_dup B (show decode cX4_init 8 = .ok (.dup, 1) by decide +kernel) (fun w h => by cases h) ?_
  refine nd_bipush B (show decode cX4_init 9 = .ok (.bipush 64, 2) by decide +kernel) (by decide) ?_
  refine nd_callI B hF hA (na := 1) (as := [eI 64]) (M' := _) (c2_init (L := 64) (by decide)) (gW_at 253 (by decide +kernel) rfl) (gW_at 88 (by decide +kernel) rfl) (gW_at 252 (by decide +kernel) rfl) (Or.inl (gW_at 251 (by decide +kernel) rfl)) rfl ⟨by decide, by decide, by decide +kernel⟩ ⟨Nat.le_of_ble_eq_true rfl, Nat.le_of_ble_eq_true rfl⟩ (show decode cX4_init 11 = .ok (.invokespecial 13, 3) by decide +kernel) rfl (Nat.le_of_ble_eq_true rfl) ⟨10, 311, rfl, eUp_s, (h3.cast (by omega)).1, (h3.cast (by omega)).2, gr_d (by decide)⟩ (by dsimp only; omega) (by dsimp only; omega) ?_
  refine nt_putF B hin (ci := 4) (f := 1) (show decode cX4_init 14 = .ok (.putfield 16, 3) by decide +kernel) (by decide +kernel) (fun q h => by cases h; exact ⟨rfl, rfl⟩) rfl ?_
  refine nd_aload_n B (show decode cX4_init 17 = .ok (.aload_n 0, 1) by decide +kernel) rfl ?_
  refine nd_iconst B (show decode cX4_init 18 = .ok (.iconst 4, 1) by decide +kernel) ?_
  refine nd_newa B hF hA (t := 2) (v := eI 0) (a := (1, 22)) (show decode cX4_init 19 = .ok (.newarray .boolean, 2) by decide +kernel) rfl rfl (fun C h => by cases h) (gW_at 206 (by decide +kernel) rfl) (N := 4) (by decide +kernel) (by decide +kernel) (Nat.le_of_ble_eq_true rfl) (by rfl) (h4.trans (by omega)) (by dsimp only; omega) (by dsimp only; omega) ?_
  refine nW.cast ?_ rfl rfl (eUp_c (by decide)) rfl
  refine nt_putF B hin (ci := 4) (f := 2) (show decode cX4_init 21 = .ok (.putfield 22, 3) by decide +kernel) (by decide +kernel) (fun q h => by cases h; exact ⟨rfl, rfl⟩) rfl ?_
  refine nd_aload_n B (show decode cX4_init 24 = .ok (.aload_n 0, 1) by decide +kernel) rfl ?_
  refine nt_new B hA (ci := 7) (N := 3) (a := (2, 330)) (show decode cX4_init 25 = .ok (.new 11, 3) by decide +kernel) rfl rfl (gW_at 272 (by decide +kernel) rfl) (gW_at 113 (by decide +kernel) rfl) (gW_at 81 (by decide +kernel) rfl) (by decide +kernel) (h5.trans (by omega)) (by dsimp only; omega) (by dsimp only; omega) ?_
  refine nd_dup B (show decode cX4_init 28 = .ok (.dup, 1) by decide +kernel) (fun w h => by cases h) ?_
  refine nd_bipush B (show decode cX4_init 29 = .ok (.bipush 64, 2) by decide +kernel) (by decide) ?_
  refine nd_callI B hF hA (na := 1) (as := [eI 64]) (M' := _) (c8_init (L := 64) (by decide)) (gW_at 116 (by decide +kernel) rfl) (gW_at 81 (by decide +kernel) rfl) (gW_at 115 (by decide +kernel) rfl) (Or.inl (gW_at 273 (by decide +kernel) rfl)) rfl ⟨by decide, by decide, by decide +kernel⟩ ⟨Nat.le_of_ble_eq_true rfl, Nat.le_of_ble_eq_true rfl⟩ (show decode cX4_init 31 = .ok (.invokespecial 26, 3) by decide +kernel) rfl (Nat.le_of_ble_eq_true rfl) ⟨330, rfl, rfl, eUp_s, h6.trans (by omega), wh_d (by decide) (by decide)⟩ (by dsimp only; omega) (by dsimp only; omega) ?_
  refine nt_putF B hin (ci := 4) (f := 3) (show decode cX4_init 34 = .ok (.putfield 27, 3) by decide +kernel) (by decide +kernel) (fun q h => by cases h; exact ⟨rfl, rfl⟩) rfl ?_
  refine nd_aload_n B (show decode cX4_init 37 = .ok (.aload_n 0, 1) by decide +kernel) rfl ?_
  refine nt_new B hA (ci := 7) (N := 3) (a := (2, 331)) (show decode cX4_init 38 = .ok (.new 11, 3) by decide +kernel) rfl rfl (gW_at 272 (by decide +kernel) rfl) (gW_at 113 (by decide +kernel) rfl) (gW_at 81 (by decide +kernel) rfl) (by decide +kernel) (h7.trans (by omega)) (by dsimp only; omega) (by dsimp only; omega) ?_
  refine nd_dup B (show decode cX4_init 41 = .ok (.dup, 1) by decide +kernel) (fun w h => by cases h) ?_
  refine nd_bipush B (show decode cX4_init 42 = .ok (.bipush 64, 2) by decide +kernel) (by decide) ?_
  refine nd_callI B hF hA (na := 1) (as := [eI 64]) (M' := _) (c8_init (L := 64) (by decide)) (gW_at 116 (by decide +kernel) rfl) (gW_at 81 (by decide +kernel) rfl) (gW_at 115 (by decide +kernel) rfl) (Or.inl (gW_at 273 (by decide +kernel) rfl)) rfl ⟨by decide, by decide, by decide +kernel⟩ ⟨Nat.le_of_ble_eq_true rfl, Nat.le_of_ble_eq_true rfl⟩ (show decode cX4_init 44 = .ok (.invokespecial 26, 3) by decide +kernel) rfl (Nat.le_of_ble_eq_true rfl) ⟨331, rfl, rfl, eUp_s, h8.trans (by omega), wh_d (by decide) (by decide)⟩ (by dsimp only; omega) (by dsimp only; omega) ?_
  refine nt_putF B hin (ci := 4) (f := 4) (show decode cX4_init 47 = .ok (.putfield 31, 3) by decide +kernel) (by decide +kernel) (fun q h => by cases h; exact ⟨rfl, rfl⟩) rfl ?_
  refine nd_aload_n B (show decode cX4_init 50 = .ok (.aload_n 0, 1) by decide +kernel) rfl ?_
  refine nd_iconst B (show decode cX4_init 51 = .ok (.iconst 0, 1) by decide +kernel) ?_
  refine nt_putI B (ci := 4) (f := 5) (show decode cX4_init 52 = .ok (.putfield 34, 3) by decide +kernel) (by decide +kernel) (by decide +kernel) ?_
  refine nd_aload_n B (show decode cX4_init 55 = .ok (.aload_n 0, 1) by decide +kernel) rfl ?_
  refine nd_iconst B (show decode cX4_init 56 = .ok (.iconst 0, 1) by decide +kernel) ?_
  refine nt_putI B (ci := 4) (f := 6) (show decode cX4_init 57 = .ok (.putfield 38, 3) by decide +kernel) (by decide +kernel) (by decide +kernel) ?_
  refine nd_aload_n B (show decode cX4_init 60 = .ok (.aload_n 0, 1) by decide +kernel) rfl ?_
  refine nd_aload_n B (show decode cX4_init 61 = .ok (.aload_n 1, 1) by decide +kernel) rfl ?_
  refine nt_putF B hin (ci := 4) (f := 0) (show decode cX4_init 62 = .ok (.putfield 41, 3) by decide +kernel) (by decide +kernel) (fun q h => by cases h; exact ⟨rfl, rfl⟩) rfl ?_
  exact nd_ret B hr hlk (show decode cX4_init 65 = .ok (.return_, 1) by decide +kernel)
def st5 (Y : eM) (a b c d o : eC) : eM := eUp (eUp (eUp (eUp (eUp Y (1, 16) a) (1, 17) b) (1, 18) c) (1, 19) d) (1, 4) o
section S5
variable {Y : eM} {a b c d o w : eC}
theorem st_rw {r lo N : Nat} : st5 (rwM Y r lo N) a b c d o = rwM (eUp (st5 Y a b c d o) (7, r) w) r lo N := by
  unfold st5
  rw [rw_w, rw_c (by decide), rw_c (by decide), rw_c (by decide), rw_c (by decide), rw_c (by decide)]
theorem st_gr {g lo : Nat} : st5 (grM Y g lo) a b c d o = grM (eUp (st5 Y a b c d o) (9, g) w) g lo := by
  unfold st5
  rw [gr_w, gr_c (by decide), gr_c (by decide), gr_c (by decide), gr_c (by decide), gr_c (by decide)]
theorem wh_w {X : eM} {k : Nat} : wh (eUp X (2, k) w) k = wh X k := by
  funext x
  unfold wh eUp
  by_cases e2 : x = (2, k) <;> by_cases e3 : x = (3, k) <;> simp_all
theorem st_wh {k : Nat} : st5 (wh Y k) a b c d o = wh (eUp (st5 Y a b c d o) (2, k) w) k := by
  unfold st5
  rw [wh_w, wh_c (by decide), wh_c (by decide), wh_c (by decide), wh_c (by decide), wh_c (by decide)]
theorem inM_c {X : eM} {x : eA} {p : eC} (h : x.1 ∉ [2, 3, 9, 10]) (h2 : x ≠ (1, 22)) (h3 : x ≠ (1, 5)) : inM (eUp X x p) = eUp (inM X) x p := by
  have h4 : x.1 ∉ [2, 3] := fun e => h (by simp at e ⊢; omega)
  unfold inM inX
  rw [gr_c h, eUp_c h2, wh_c h4, wh_c h4, eUp_c h3]
theorem inM_w {X : eM} : inM (eUp X (1, 5) w) = inM X := by
  unfold inM inX
  rw [gr_c (by decide), eUp_c (by decide), wh_c (by decide), wh_c (by decide), eUp_u]
theorem st_in : st5 (inM Y) a b c d o = inM (eUp (st5 Y a b c d o) (1, 5) w) := by
  unfold st5
  rw [inM_w, inM_c (by decide) (by decide) (by decide), inM_c (by decide) (by decide) (by decide), inM_c (by decide) (by decide) (by decide), inM_c (by decide) (by decide) (by decide), inM_c (by decide) (by decide) (by decide)]
theorem st_up {k : Nat} (h : 20 ≤ k) : eUp (st5 Y a b c d o) (1, k) w = st5 (eUp Y (1, k) w) a b c d o := by
  have n : ∀ j, j < 20 → ((1, j) : eA) ≠ (1, k) := fun j hj e => by
    have := congrArg Prod.snd e
    simp at this
    omega
  unfold st5
  rw [eUp_c (n 4 (by decide)), eUp_c (n 19 (by decide)), eUp_c (n 18 (by decide)), eUp_c (n 17 (by decide)), eUp_c (n 16 (by decide))]
theorem st_16 : eUp (st5 Y a b c d o) (1, 16) w = st5 Y w b c d o := by
  unfold st5
  rw [eUp_c (show ((1, 4) : eA) ≠ (1, 16) by decide), eUp_c (show ((1, 19) : eA) ≠ (1, 16) by decide), eUp_c (show ((1, 18) : eA) ≠ (1, 16) by decide), eUp_c (show ((1, 17) : eA) ≠ (1, 16) by decide), eUp_u]
theorem st_17 : eUp (st5 Y a b c d o) (1, 17) w = st5 Y a w c d o := by
  unfold st5
  rw [eUp_c (show ((1, 4) : eA) ≠ (1, 17) by decide), eUp_c (show ((1, 19) : eA) ≠ (1, 17) by decide), eUp_c (show ((1, 18) : eA) ≠ (1, 17) by decide), eUp_u]
theorem st_18 : eUp (st5 Y a b c d o) (1, 18) w = st5 Y a b w d o := by
  unfold st5
  rw [eUp_c (show ((1, 4) : eA) ≠ (1, 18) by decide), eUp_c (show ((1, 19) : eA) ≠ (1, 18) by decide), eUp_u]
theorem st_19 : eUp (st5 Y a b c d o) (1, 19) w = st5 Y a b c w o := by
  unfold st5
  rw [eUp_c (show ((1, 4) : eA) ≠ (1, 19) by decide), eUp_u]
theorem st_a : st5 Y a b c d o (1, 16) = some a ∧ st5 Y a b c d o (1, 17) = some b ∧ st5 Y a b c d o (1, 18) = some c ∧ st5 Y a b c d o (1, 19) = some d := ⟨rfl, rfl, rfl, rfl⟩
theorem st_n {x : eA} (h : x.1 ≠ 1) : st5 Y a b c d o x = Y x := by
  have n : ∀ j, x ≠ (1, j) := fun j e => h (by rw [e])
  unfold st5
  rw [eUp_n (n _), eUp_n (n _), eUp_n (n _), eUp_n (n _), eUp_n (n _)]
end S5
theorem gr_s {X : eM} {g lo : Nat} : grM X g lo (9, g) = some (eO 2 [eR (10, g), eR (2, lo + 16)]) := by
  unfold grM wo
  rw [eUp_n (fun e => by cases e), eUp_n (fun e => by cases e), eUp_s]
def alO : List eV := [eR (1, 2), eR (1, 5), eR (1, 15), eI 0, eR (1, 16), eR (1, 17), eR (1, 18), eR (1, 19), eR (7, 14), eR (7, 15), eR (2, 328), eR (2, 329), eR (1, 20), eR (1, 21)]
def alX (M : eM) : eM := inM (eUp (eUp (wh (wh (rwM (rwM (eUp M (1, 15) (eY 0 4 fun _ => eI 0)) 14 133 4) 15 137 4) 328) 329) (1, 20) (eY 0 3 fun _ => eI 0)) (1, 21) (eY 0 3 fun _ => eI 0))
def alY (X : eM) : Nat → eM
  | 0 => X
  | j + 1 => rwM (grM (grM (alY X j) (0 + j) (141 + 17 * j)) (7 + j) (260 + 17 * j)) (11 + j) (121 + 4 * j) 4
def alZ (X : eM) : Nat → eM
  | 0 => X
  | j + 1 => grM (alZ X j) (3 + j) (192 + 17 * j)
def alM (M : eM) : eM := st5 (alZ (alY (alX M) 3) 4) (eY 5 3 (frj 9 0 3)) (eY 5 4 (frj 9 3 4)) (eY 5 3 (frj 9 7 3)) (eY 4 3 (frj 7 11 3)) (eO 0 alO)
def sp0 : nSp := fun G sz as M M' => as = [eR (1, 4), eR (1, 2)] ∧ M (1, 4) = some (eO 0 [eN, eN, eN, eI 0, eN, eN, eN, eN, eN, eN, eN, eN, eN, eN]) ∧ (∀ j, j < 5 → G.2.2 (1, 15 + j) = sz + j) ∧ (∀ j, j < 2 → G.2.2 (7, 14 + j) = sz + 5 + 10 * j ∧ aRow G (14 + j) (133 + 4 * j) 4 (sz + 6 + 10 * j) ∧ G.2.2 (2, 328 + j) = sz + 25 + 2 * j ∧ G.2.2 (3, 328 + j) = sz + 26 + 2 * j ∧ G.2.2 (1, 20 + j) = sz + 29 + j) ∧ G.2.2 (1, 5) = sz + 31 ∧ (G.2.2 (9, 10) = sz + 32 ∧ aGrd G 10 311 64 (sz + 33) ∧ G.2.2 (1, 22) = sz + 68 ∧ G.2.2 (2, 330) = sz + 69 ∧ G.2.2 (3, 330) = sz + 70 ∧ G.2.2 (2, 331) = sz + 71 ∧ G.2.2 (3, 331) = sz + 72) ∧ (∀ j, j < 3 → G.2.2 (9, 0 + j) = sz + 73 + 82 * j ∧ aGrd G (0 + j) (141 + 17 * j) 32 (sz + 74 + 82 * j) ∧ G.2.2 (9, 7 + j) = sz + 109 + 82 * j ∧ aGrd G (7 + j) (260 + 17 * j) 32 (sz + 110 + 82 * j) ∧ G.2.2 (7, 11 + j) = sz + 145 + 82 * j ∧ aRow G (11 + j) (121 + 4 * j) 4 (sz + 146 + 82 * j)) ∧ (∀ j, j < 4 → G.2.2 (9, 3 + j) = sz + 319 + 36 * j ∧ aGrd G (3 + j) (192 + 17 * j) 32 (sz + 320 + 36 * j)) ∧ M' = alM M
set_option maxRecDepth 100000 in
theorem c0_init : nMet yX0_init cX0_init 3 4 85 463 8250 sp0 := by
  refine nMet_of (T := (fl_RX0, cl_RX0, dl_RX0, fun _ => none, fun _ => none)) (by decide) rfl tb_RX0 ?_
  rintro p l e s m below meth c G A as M M' B hF hA hin hr hlk ⟨rfl, h1, h2, h3, h4, h5, h6, h7, rfl⟩
  refine ⟨show 2 ≤ 3 by decide, ?_⟩
  have loop2 : ∀ (d j : Nat), j + d = 4 → nW G A p l e { frames := 4, cells := 463, slots := 8250, locals := 85 } s m ([eR (1, 4), eR (1, 2)].map (cv G)).toArray below meth c 3 (MQ below (nwQ G A 463 (alM M)) ([eR (1, 4), eR (1, 2)].map (cv G)).toArray s 463 8250 A) (319 + 36 * j) (5798 + 613 * j) 188 [some (eR (1, 4)), some (eR (1, 2)), some (eI (j : Int))] [] (st5 (alZ (alY (alX M) 3) j) (eY 5 3 (frj 9 0 3)) (eY 5 4 (frj 9 3 j)) (eY 5 3 (frj 9 7 3)) (eY 4 3 (frj 7 11 3)) (eO 0 alO)) := by
    intro d
    induction d with
    | zero =>
      intro j hj
      have hj' : j = 4 := by omega
      subst hj'
      refine nd_iload_n B (show decode cX0_init 188 = .ok (.iload_n 2, 1) by decide +kernel) rfl ?_
      refine nd_iconst B (show decode cX0_init 189 = .ok (.iconst 4, 1) by decide +kernel) ?_
      refine nd_icmp_ge B (show decode cX0_init 190 = .ok (.if_icmp .ge 24, 3) by decide +kernel) (by decide) (by decide) (fun hT => ?_) (fun hT => ?_)
      · exact nd_ret B hr hlk (show decode cX0_init 214 = .ok (.return_, 1) by decide +kernel)
      · exact absurd (Int.le_refl _) hT
    | succ d ih =>
      intro j hj
      have hlt : j < 4 := by omega
      refine nd_iload_n B (show decode cX0_init 188 = .ok (.iload_n 2, 1) by decide +kernel) rfl ?_
      refine nd_iconst B (show decode cX0_init 189 = .ok (.iconst 4, 1) by decide +kernel) ?_
      refine nd_icmp_ge B (show decode cX0_init 190 = .ok (.if_icmp .ge 24, 3) by decide +kernel) (by constructor <;> (unfold w32; omega)) (by decide) (fun hT => ?_) (fun hT => ?_)
      · exact absurd hT (by omega)
      refine nd_aload_n B (show decode cX0_init 193 = .ok (.aload_n 0, 1) by decide +kernel) rfl ?_
      refine nt_get B (ci := 0) (f := 5) (show decode cX0_init 194 = .ok (.getfield 25, 3) by decide +kernel) (by decide +kernel) rfl ?_
      refine nd_iload_n B (show decode cX0_init 197 = .ok (.iload_n 2, 1) by decide +kernel) rfl ?_
      refine nt_new B hA (ci := 2) (N := 2) (a := (9, 3 + j)) (show decode cX0_init 198 = .ok (.new 1, 3) by decide +kernel) rfl rfl (gW_at 237 (by decide +kernel) rfl) (gW_at 250 (by decide +kernel) rfl) (gW_at 88 (by decide +kernel) rfl) (by decide +kernel) ((h7 j hlt).1.trans (by omega)) (by dsimp only; omega) (by dsimp only; omega) ?_
      refine nd_dup B (show decode cX0_init 201 = .ok (.dup, 1) by decide +kernel) (fun w h => by cases h) ?_
      refine nd_bipush B (show decode cX0_init 202 = .ok (.bipush 32, 2) by decide +kernel) (by decide) ?_
      refine nd_callI B hF hA (na := 1) (as := [eI 32]) (M' := _) (c2_init (L := 32) (by decide)) (gW_at 253 (by decide +kernel) rfl) (gW_at 88 (by decide +kernel) rfl) (gW_at 252 (by decide +kernel) rfl) (Or.inl (gW_at 298 (by decide +kernel) rfl)) rfl ⟨by decide, by decide, by decide +kernel⟩ ⟨Nat.le_of_ble_eq_true rfl, Nat.le_of_ble_eq_true rfl⟩ (show decode cX0_init 204 = .ok (.invokespecial 76, 3) by decide +kernel) rfl (Nat.le_of_ble_eq_true rfl) ⟨3 + j, 192 + 17 * j, rfl, eUp_s, ((h7 j hlt).2.cast (by omega)).1, ((h7 j hlt).2.cast (by omega)).2, st_gr⟩ (by dsimp only; omega) (by dsimp only; omega) ?_
      refine nd_aast B hF (t := 5) (ci := 2) (N := 4) (g := frj 9 3 j) (fs := [eR (10, 3 + j), eR (2, 192 + 17 * j + 16)]) (show decode cX0_init 207 = .ok (.aastore, 1) by decide +kernel) rfl rfl st_a.2.1 ((st_n (show (9 : Nat) ≠ 1 by decide)).trans gr_s) ⟨by omega, by omega, by omega⟩ ?_
      refine nd_iinc B (show decode cX0_init 208 = .ok (.iinc 2 1, 3) by decide +kernel) rfl (by decide) ?_
      refine nd_goto B (show decode cX0_init 211 = .ok (.goto (-23), 3) by decide +kernel) (by decide) ?_
      refine (ih (j + 1) (by omega)).cast (by omega) (by omega) ?_ ?_
      · rw [st_17, frj_u]; rfl
      · rfl
  have loop1 : ∀ (d j : Nat), j + d = 3 → nW G A p l e { frames := 4, cells := 463, slots := 8250, locals := 85 } s m ([eR (1, 4), eR (1, 2)].map (cv G)).toArray below meth c 3 (MQ below (nwQ G A 463 (alM M)) ([eR (1, 4), eR (1, 2)].map (cv G)).toArray s 463 8250 A) (73 + 82 * j) (1685 + 1371 * j) 131 [some (eR (1, 4)), some (eR (1, 2)), some (eI (j : Int))] [] (st5 (alY (alX M) j) (eY 5 3 (frj 9 0 j)) (eY 5 4 (frj 9 3 0)) (eY 5 3 (frj 9 7 j)) (eY 4 3 (frj 7 11 j)) (eO 0 alO)) := by
    intro d
    induction d with
    | zero =>
      intro j hj
      have hj' : j = 3 := by omega
      subst hj'
      refine nd_iload_n B (show decode cX0_init 131 = .ok (.iload_n 2, 1) by decide +kernel) rfl ?_
      refine nd_iconst B (show decode cX0_init 132 = .ok (.iconst 3, 1) by decide +kernel) ?_
      refine nd_icmp_ge B (show decode cX0_init 133 = .ok (.if_icmp .ge 53, 3) by decide +kernel) (by decide) (by decide) (fun hT => ?_) (fun hT => ?_)
      · refine nd_iconst B (show decode cX0_init 186 = .ok (.iconst 0, 1) by decide +kernel) ?_
        refine nd_istore_n B (show decode cX0_init 187 = .ok (.istore_n 2, 1) by decide +kernel) (by decide) ?_
        exact (loop2 4 0 (by omega)).cast rfl rfl rfl rfl
      · exact absurd (Int.le_refl _) hT
    | succ d ih =>
      intro j hj
      have hlt : j < 3 := by omega
      refine nd_iload_n B (show decode cX0_init 131 = .ok (.iload_n 2, 1) by decide +kernel) rfl ?_
      refine nd_iconst B (show decode cX0_init 132 = .ok (.iconst 3, 1) by decide +kernel) ?_
      refine nd_icmp_ge B (show decode cX0_init 133 = .ok (.if_icmp .ge 53, 3) by decide +kernel) (by constructor <;> (unfold w32; omega)) (by decide) (fun hT => ?_) (fun hT => ?_)
      · exact absurd hT (by omega)
      refine nd_aload_n B (show decode cX0_init 136 = .ok (.aload_n 0, 1) by decide +kernel) rfl ?_
      refine nt_get B (ci := 0) (f := 4) (show decode cX0_init 137 = .ok (.getfield 21, 3) by decide +kernel) (by decide +kernel) rfl ?_
      refine nd_iload_n B (show decode cX0_init 140 = .ok (.iload_n 2, 1) by decide +kernel) rfl ?_
      refine nt_new B hA (ci := 2) (N := 2) (a := (9, 0 + j)) (show decode cX0_init 141 = .ok (.new 1, 3) by decide +kernel) rfl rfl (gW_at 237 (by decide +kernel) rfl) (gW_at 250 (by decide +kernel) rfl) (gW_at 88 (by decide +kernel) rfl) (by decide +kernel) ((h6 j hlt).1.trans (by omega)) (by dsimp only; omega) (by dsimp only; omega) ?_
      refine nd_dup B (show decode cX0_init 144 = .ok (.dup, 1) by decide +kernel) (fun w h => by cases h) ?_
      refine nd_bipush B (show decode cX0_init 145 = .ok (.bipush 32, 2) by decide +kernel) (by decide) ?_
      refine nd_callI B hF hA (na := 1) (as := [eI 32]) (M' := _) (c2_init (L := 32) (by decide)) (gW_at 253 (by decide +kernel) rfl) (gW_at 88 (by decide +kernel) rfl) (gW_at 252 (by decide +kernel) rfl) (Or.inl (gW_at 298 (by decide +kernel) rfl)) rfl ⟨by decide, by decide, by decide +kernel⟩ ⟨Nat.le_of_ble_eq_true rfl, Nat.le_of_ble_eq_true rfl⟩ (show decode cX0_init 147 = .ok (.invokespecial 76, 3) by decide +kernel) rfl (Nat.le_of_ble_eq_true rfl) ⟨0 + j, 141 + 17 * j, rfl, eUp_s, ((h6 j hlt).2.1.cast (by omega)).1, ((h6 j hlt).2.1.cast (by omega)).2, st_gr⟩ (by dsimp only; omega) (by dsimp only; omega) ?_
      refine nd_aast B hF (t := 5) (ci := 2) (N := 3) (g := frj 9 0 j) (fs := [eR (10, 0 + j), eR (2, 141 + 17 * j + 16)]) (show decode cX0_init 150 = .ok (.aastore, 1) by decide +kernel) rfl rfl st_a.1 ((st_n (show (9 : Nat) ≠ 1 by decide)).trans gr_s) ⟨by omega, by omega, by omega⟩ ?_
      rw [st_16, frj_u]
      refine nd_aload_n B (show decode cX0_init 151 = .ok (.aload_n 0, 1) by decide +kernel) rfl ?_
      refine nt_get B (ci := 0) (f := 6) (show decode cX0_init 152 = .ok (.getfield 28, 3) by decide +kernel) (by decide +kernel) rfl ?_
      refine nd_iload_n B (show decode cX0_init 155 = .ok (.iload_n 2, 1) by decide +kernel) rfl ?_
      refine nt_new B hA (ci := 2) (N := 2) (a := (9, 7 + j)) (show decode cX0_init 156 = .ok (.new 1, 3) by decide +kernel) rfl rfl (gW_at 237 (by decide +kernel) rfl) (gW_at 250 (by decide +kernel) rfl) (gW_at 88 (by decide +kernel) rfl) (by decide +kernel) ((h6 j hlt).2.2.1.trans (by omega)) (by dsimp only; omega) (by dsimp only; omega) ?_
      refine nd_dup B (show decode cX0_init 159 = .ok (.dup, 1) by decide +kernel) (fun w h => by cases h) ?_
      refine nd_bipush B (show decode cX0_init 160 = .ok (.bipush 32, 2) by decide +kernel) (by decide) ?_
      refine nd_callI B hF hA (na := 1) (as := [eI 32]) (M' := _) (c2_init (L := 32) (by decide)) (gW_at 253 (by decide +kernel) rfl) (gW_at 88 (by decide +kernel) rfl) (gW_at 252 (by decide +kernel) rfl) (Or.inl (gW_at 298 (by decide +kernel) rfl)) rfl ⟨by decide, by decide, by decide +kernel⟩ ⟨Nat.le_of_ble_eq_true rfl, Nat.le_of_ble_eq_true rfl⟩ (show decode cX0_init 162 = .ok (.invokespecial 76, 3) by decide +kernel) rfl (Nat.le_of_ble_eq_true rfl) ⟨7 + j, 260 + 17 * j, rfl, eUp_s, ((h6 j hlt).2.2.2.1.cast (by omega)).1, ((h6 j hlt).2.2.2.1.cast (by omega)).2, st_gr⟩ (by dsimp only; omega) (by dsimp only; omega) ?_
      refine nd_aast B hF (t := 5) (ci := 2) (N := 3) (g := frj 9 7 j) (fs := [eR (10, 7 + j), eR (2, 260 + 17 * j + 16)]) (show decode cX0_init 165 = .ok (.aastore, 1) by decide +kernel) rfl rfl st_a.2.2.1 ((st_n (show (9 : Nat) ≠ 1 by decide)).trans gr_s) ⟨by omega, by omega, by omega⟩ ?_
      rw [st_18, frj_u]
      refine nd_aload_n B (show decode cX0_init 166 = .ok (.aload_n 0, 1) by decide +kernel) rfl ?_
      refine nt_get B (ci := 0) (f := 7) (show decode cX0_init 167 = .ok (.getfield 33, 3) by decide +kernel) (by decide +kernel) rfl ?_
      refine nd_iload_n B (show decode cX0_init 170 = .ok (.iload_n 2, 1) by decide +kernel) rfl ?_
      refine nt_new B hA (ci := 6) (N := 1) (a := (7, 11 + j)) (show decode cX0_init 171 = .ok (.new 31, 3) by decide +kernel) rfl rfl (gW_at 239 (by decide +kernel) rfl) (gW_at 191 (by decide +kernel) rfl) (gW_at 85 (by decide +kernel) rfl) (by decide +kernel) ((h6 j hlt).2.2.2.2.1.trans (by omega)) (by dsimp only; omega) (by dsimp only; omega) ?_
      refine nd_dup B (show decode cX0_init 174 = .ok (.dup, 1) by decide +kernel) (fun w h => by cases h) ?_
      refine nd_iconst B (show decode cX0_init 175 = .ok (.iconst 4, 1) by decide +kernel) ?_
      refine nd_callI B hF hA (na := 1) (as := [eI 4]) (M' := _) (c7_init (N := 4) (by decide)) (gW_at 194 (by decide +kernel) rfl) (gW_at 85 (by decide +kernel) rfl) (gW_at 193 (by decide +kernel) rfl) (Or.inl (gW_at 240 (by decide +kernel) rfl)) rfl ⟨by decide, by decide, by decide +kernel⟩ ⟨Nat.le_of_ble_eq_true rfl, Nat.le_of_ble_eq_true rfl⟩ (show decode cX0_init 176 = .ok (.invokespecial 37, 3) by decide +kernel) rfl (Nat.le_of_ble_eq_true rfl) ⟨11 + j, 121 + 4 * j, rfl, eUp_s, ((h6 j hlt).2.2.2.2.2.cast (by omega)).1, ((h6 j hlt).2.2.2.2.2.cast (by omega)).2, st_rw⟩ (by dsimp only; omega) (by dsimp only; omega) ?_
      refine nd_aast B hF (t := 4) (ci := 6) (N := 3) (g := frj 7 11 j) (fs := [eR (8, 11 + j)]) (show decode cX0_init 179 = .ok (.aastore, 1) by decide +kernel) rfl rfl st_a.2.2.2 ((st_n (show (7 : Nat) ≠ 1 by decide)).trans eUp_s) ⟨by omega, by omega, by omega⟩ ?_
      rw [st_19, frj_u]
      refine nd_iinc B (show decode cX0_init 180 = .ok (.iinc 2 1, 3) by decide +kernel) rfl (by decide) ?_
      refine nd_goto B (show decode cX0_init 183 = .ok (.goto (-52), 3) by decide +kernel) (by decide) ?_
      exact (ih (j + 1) (by omega)).cast (by omega) (by omega) rfl rfl
  refine nd_aload_n B (show decode cX0_init 0 = .ok (.aload_n 0, 1) by decide +kernel) rfl ?_
  refine nd_obj B (show decode cX0_init 1 = .ok (.invokespecial 5, 3) by decide +kernel) (gW_at 236 (by decide +kernel) rfl) (gW_at 104 (by decide +kernel) rfl) (gW_at 105 (by decide +kernel) rfl) (Nat.le_of_ble_eq_true rfl) (Nat.le_of_ble_eq_true rfl) ?_
  refine (nW.cast (M' := eUp M (1, 4) (eO 0 [eN, eN, eN, eI 0, eN, eN, eN, eN, eN, eN, eN, eN, eN, eN])) ?_ rfl rfl (eUp_id h1) rfl)
  refine nd_aload_n B (show decode cX0_init 4 = .ok (.aload_n 0, 1) by decide +kernel) rfl ?_
  refine nd_iconst B (show decode cX0_init 5 = .ok (.iconst 4, 1) by decide +kernel) ?_
  refine nd_newa B hF hA (t := 0) (v := eI 0) (a := (1, 15)) (show decode cX0_init 6 = .ok (.newarray .int, 2) by decide +kernel) rfl rfl (fun C h => by cases h) (gW_at 136 (by decide +kernel) rfl) (N := 4) (by decide +kernel) (by decide +kernel) (Nat.le_of_ble_eq_true rfl) (by rfl) ((h2 0 (by decide)).trans (by omega)) (by dsimp only; omega) (by dsimp only; omega) ?_
  refine nW.cast ?_ rfl rfl (eUp_c (by decide)) rfl
  refine nt_putF B hin (ci := 0) (f := 2) (show decode cX0_init 8 = .ok (.putfield 13, 3) by decide +kernel) (by decide +kernel) (fun q h => by cases h; exact ⟨rfl, rfl⟩) rfl ?_
  refine nd_aload_n B (show decode cX0_init 11 = .ok (.aload_n 0, 1) by decide +kernel) rfl ?_
  refine nd_iconst B (show decode cX0_init 12 = .ok (.iconst 0, 1) by decide +kernel) ?_
  refine nt_putI B (ci := 0) (f := 3) (show decode cX0_init 13 = .ok (.putfield 17, 3) by decide +kernel) (by decide +kernel) (by decide +kernel) ?_
  refine nd_aload_n B (show decode cX0_init 16 = .ok (.aload_n 0, 1) by decide +kernel) rfl ?_
  refine nd_iconst B (show decode cX0_init 17 = .ok (.iconst 3, 1) by decide +kernel) ?_
  refine nd_anew B hF hA (t := 5) (N := 3) (a := (1, 16)) (show decode cX0_init 18 = .ok (.anewarray 1, 3) by decide +kernel) rfl (gW_at 237 (by decide +kernel) rfl) (by decide) (by decide +kernel) (by decide +kernel) (Nat.le_of_ble_eq_true rfl) ((h2 1 (by decide)).trans (by omega)) (by dsimp only; omega) (by dsimp only; omega) ?_
  refine nW.cast ?_ rfl rfl (eUp_c (by decide)) rfl
  refine nt_putF B hin (ci := 0) (f := 4) (show decode cX0_init 21 = .ok (.putfield 21, 3) by decide +kernel) (by decide +kernel) (fun q h => by cases h; exact ⟨rfl, rfl⟩) rfl ?_
  refine nd_aload_n B (show decode cX0_init 24 = .ok (.aload_n 0, 1) by decide +kernel) rfl ?_
  refine nd_iconst B (show decode cX0_init 25 = .ok (.iconst 4, 1) by decide +kernel) ?_
  refine nd_anew B hF hA (t := 5) (N := 4) (a := (1, 17)) (show decode cX0_init 26 = .ok (.anewarray 1, 3) by decide +kernel) rfl (gW_at 237 (by decide +kernel) rfl) (by decide) (by decide +kernel) (by decide +kernel) (Nat.le_of_ble_eq_true rfl) ((h2 2 (by decide)).trans (by omega)) (by dsimp only; omega) (by dsimp only; omega) ?_
  refine nW.cast ?_ rfl rfl (eUp_c (by decide)) rfl
  refine nt_putF B hin (ci := 0) (f := 5) (show decode cX0_init 29 = .ok (.putfield 25, 3) by decide +kernel) (by decide +kernel) (fun q h => by cases h; exact ⟨rfl, rfl⟩) rfl ?_
  refine nd_aload_n B (show decode cX0_init 32 = .ok (.aload_n 0, 1) by decide +kernel) rfl ?_
  refine nd_iconst B (show decode cX0_init 33 = .ok (.iconst 3, 1) by decide +kernel) ?_
  refine nd_anew B hF hA (t := 5) (N := 3) (a := (1, 18)) (show decode cX0_init 34 = .ok (.anewarray 1, 3) by decide +kernel) rfl (gW_at 237 (by decide +kernel) rfl) (by decide) (by decide +kernel) (by decide +kernel) (Nat.le_of_ble_eq_true rfl) ((h2 3 (by decide)).trans (by omega)) (by dsimp only; omega) (by dsimp only; omega) ?_
  refine nW.cast ?_ rfl rfl (eUp_c (by decide)) rfl
  refine nt_putF B hin (ci := 0) (f := 6) (show decode cX0_init 37 = .ok (.putfield 28, 3) by decide +kernel) (by decide +kernel) (fun q h => by cases h; exact ⟨rfl, rfl⟩) rfl ?_
  refine nd_aload_n B (show decode cX0_init 40 = .ok (.aload_n 0, 1) by decide +kernel) rfl ?_
  refine nd_iconst B (show decode cX0_init 41 = .ok (.iconst 3, 1) by decide +kernel) ?_
  refine nd_anew B hF hA (t := 4) (N := 3) (a := (1, 19)) (show decode cX0_init 42 = .ok (.anewarray 31, 3) by decide +kernel) rfl (gW_at 239 (by decide +kernel) rfl) (by decide) (by decide +kernel) (by decide +kernel) (Nat.le_of_ble_eq_true rfl) ((h2 4 (by decide)).trans (by omega)) (by dsimp only; omega) (by dsimp only; omega) ?_
  refine nW.cast ?_ rfl rfl (eUp_c (by decide)) rfl
  refine nt_putF B hin (ci := 0) (f := 7) (show decode cX0_init 45 = .ok (.putfield 33, 3) by decide +kernel) (by decide +kernel) (fun q h => by cases h; exact ⟨rfl, rfl⟩) rfl ?_
  refine nd_aload_n B (show decode cX0_init 48 = .ok (.aload_n 0, 1) by decide +kernel) rfl ?_
  refine nt_new B hA (ci := 6) (N := 1) (a := (7, 14)) (show decode cX0_init 49 = .ok (.new 31, 3) by decide +kernel) rfl rfl (gW_at 239 (by decide +kernel) rfl) (gW_at 191 (by decide +kernel) rfl) (gW_at 85 (by decide +kernel) rfl) (by decide +kernel) ((h3 0 (by decide)).1.trans (by omega)) (by dsimp only; omega) (by dsimp only; omega) ?_
  refine nd_dup B (show decode cX0_init 52 = .ok (.dup, 1) by decide +kernel) (fun w h => by cases h) ?_
  refine nd_iconst B (show decode cX0_init 53 = .ok (.iconst 4, 1) by decide +kernel) ?_
  refine nd_callI B hF hA (na := 1) (as := [eI 4]) (M' := _) (c7_init (N := 4) (by decide)) (gW_at 194 (by decide +kernel) rfl) (gW_at 85 (by decide +kernel) rfl) (gW_at 193 (by decide +kernel) rfl) (Or.inl (gW_at 240 (by decide +kernel) rfl)) rfl ⟨by decide, by decide, by decide +kernel⟩ ⟨Nat.le_of_ble_eq_true rfl, Nat.le_of_ble_eq_true rfl⟩ (show decode cX0_init 54 = .ok (.invokespecial 37, 3) by decide +kernel) rfl (Nat.le_of_ble_eq_true rfl) ⟨14, 133, rfl, eUp_s, ((h3 0 (by decide)).2.1.cast (by omega)).1, ((h3 0 (by decide)).2.1.cast (by omega)).2, st_rw⟩ (by dsimp only; omega) (by dsimp only; omega) ?_
  refine nt_putF B hin (ci := 0) (f := 8) (show decode cX0_init 57 = .ok (.putfield 40, 3) by decide +kernel) (by decide +kernel) (fun q h => by cases h; exact ⟨rfl, rfl⟩) rfl ?_
  refine nd_aload_n B (show decode cX0_init 60 = .ok (.aload_n 0, 1) by decide +kernel) rfl ?_
  refine nt_new B hA (ci := 6) (N := 1) (a := (7, 15)) (show decode cX0_init 61 = .ok (.new 31, 3) by decide +kernel) rfl rfl (gW_at 239 (by decide +kernel) rfl) (gW_at 191 (by decide +kernel) rfl) (gW_at 85 (by decide +kernel) rfl) (by decide +kernel) ((h3 1 (by decide)).1.trans (by omega)) (by dsimp only; omega) (by dsimp only; omega) ?_
  refine nd_dup B (show decode cX0_init 64 = .ok (.dup, 1) by decide +kernel) (fun w h => by cases h) ?_
  refine nd_iconst B (show decode cX0_init 65 = .ok (.iconst 4, 1) by decide +kernel) ?_
  refine nd_callI B hF hA (na := 1) (as := [eI 4]) (M' := _) (c7_init (N := 4) (by decide)) (gW_at 194 (by decide +kernel) rfl) (gW_at 85 (by decide +kernel) rfl) (gW_at 193 (by decide +kernel) rfl) (Or.inl (gW_at 240 (by decide +kernel) rfl)) rfl ⟨by decide, by decide, by decide +kernel⟩ ⟨Nat.le_of_ble_eq_true rfl, Nat.le_of_ble_eq_true rfl⟩ (show decode cX0_init 66 = .ok (.invokespecial 37, 3) by decide +kernel) rfl (Nat.le_of_ble_eq_true rfl) ⟨15, 137, rfl, eUp_s, ((h3 1 (by decide)).2.1.cast (by omega)).1, ((h3 1 (by decide)).2.1.cast (by omega)).2, st_rw⟩ (by dsimp only; omega) (by dsimp only; omega) ?_
  refine nt_putF B hin (ci := 0) (f := 9) (show decode cX0_init 69 = .ok (.putfield 44, 3) by decide +kernel) (by decide +kernel) (fun q h => by cases h; exact ⟨rfl, rfl⟩) rfl ?_
  refine nd_aload_n B (show decode cX0_init 72 = .ok (.aload_n 0, 1) by decide +kernel) rfl ?_
  refine nt_new B hA (ci := 7) (N := 3) (a := (2, 328)) (show decode cX0_init 73 = .ok (.new 47, 3) by decide +kernel) rfl rfl (gW_at 241 (by decide +kernel) rfl) (gW_at 113 (by decide +kernel) rfl) (gW_at 81 (by decide +kernel) rfl) (by decide +kernel) ((h3 0 (by decide)).2.2.1.trans (by omega)) (by dsimp only; omega) (by dsimp only; omega) ?_
  refine nd_dup B (show decode cX0_init 76 = .ok (.dup, 1) by decide +kernel) (fun w h => by cases h) ?_
  refine nd_bipush B (show decode cX0_init 77 = .ok (.bipush 32, 2) by decide +kernel) (by decide) ?_
  refine nd_callI B hF hA (na := 1) (as := [eI 32]) (M' := _) (c8_init (L := 32) (by decide)) (gW_at 116 (by decide +kernel) rfl) (gW_at 81 (by decide +kernel) rfl) (gW_at 115 (by decide +kernel) rfl) (Or.inl (gW_at 242 (by decide +kernel) rfl)) rfl ⟨by decide, by decide, by decide +kernel⟩ ⟨Nat.le_of_ble_eq_true rfl, Nat.le_of_ble_eq_true rfl⟩ (show decode cX0_init 79 = .ok (.invokespecial 49, 3) by decide +kernel) rfl (Nat.le_of_ble_eq_true rfl) ⟨328, rfl, rfl, eUp_s, (h3 0 (by decide)).2.2.2.1.trans (by omega), st_wh⟩ (by dsimp only; omega) (by dsimp only; omega) ?_
  refine nt_putF B hin (ci := 0) (f := 10) (show decode cX0_init 82 = .ok (.putfield 50, 3) by decide +kernel) (by decide +kernel) (fun q h => by cases h; exact ⟨rfl, rfl⟩) rfl ?_
  refine nd_aload_n B (show decode cX0_init 85 = .ok (.aload_n 0, 1) by decide +kernel) rfl ?_
  refine nt_new B hA (ci := 7) (N := 3) (a := (2, 329)) (show decode cX0_init 86 = .ok (.new 47, 3) by decide +kernel) rfl rfl (gW_at 241 (by decide +kernel) rfl) (gW_at 113 (by decide +kernel) rfl) (gW_at 81 (by decide +kernel) rfl) (by decide +kernel) ((h3 1 (by decide)).2.2.1.trans (by omega)) (by dsimp only; omega) (by dsimp only; omega) ?_
  refine nd_dup B (show decode cX0_init 89 = .ok (.dup, 1) by decide +kernel) (fun w h => by cases h) ?_
  refine nd_bipush B (show decode cX0_init 90 = .ok (.bipush 32, 2) by decide +kernel) (by decide) ?_
  refine nd_callI B hF hA (na := 1) (as := [eI 32]) (M' := _) (c8_init (L := 32) (by decide)) (gW_at 116 (by decide +kernel) rfl) (gW_at 81 (by decide +kernel) rfl) (gW_at 115 (by decide +kernel) rfl) (Or.inl (gW_at 242 (by decide +kernel) rfl)) rfl ⟨by decide, by decide, by decide +kernel⟩ ⟨Nat.le_of_ble_eq_true rfl, Nat.le_of_ble_eq_true rfl⟩ (show decode cX0_init 92 = .ok (.invokespecial 49, 3) by decide +kernel) rfl (Nat.le_of_ble_eq_true rfl) ⟨329, rfl, rfl, eUp_s, (h3 1 (by decide)).2.2.2.1.trans (by omega), st_wh⟩ (by dsimp only; omega) (by dsimp only; omega) ?_
  refine nt_putF B hin (ci := 0) (f := 11) (show decode cX0_init 95 = .ok (.putfield 54, 3) by decide +kernel) (by decide +kernel) (fun q h => by cases h; exact ⟨rfl, rfl⟩) rfl ?_
  refine nd_aload_n B (show decode cX0_init 98 = .ok (.aload_n 0, 1) by decide +kernel) rfl ?_
  refine nd_iconst B (show decode cX0_init 99 = .ok (.iconst 3, 1) by decide +kernel) ?_
  refine nd_newa B hF hA (t := 0) (v := eI 0) (a := (1, 20)) (show decode cX0_init 100 = .ok (.newarray .int, 2) by decide +kernel) rfl rfl (fun C h => by cases h) (gW_at 136 (by decide +kernel) rfl) (N := 3) (by decide +kernel) (by decide +kernel) (Nat.le_of_ble_eq_true rfl) (by rfl) ((h3 0 (by decide)).2.2.2.2.trans (by omega)) (by dsimp only; omega) (by dsimp only; omega) ?_
  refine nW.cast ?_ rfl rfl (st_up (by decide)) rfl
  refine nt_putF B hin (ci := 0) (f := 12) (show decode cX0_init 102 = .ok (.putfield 57, 3) by decide +kernel) (by decide +kernel) (fun q h => by cases h; exact ⟨rfl, rfl⟩) rfl ?_
  refine nd_aload_n B (show decode cX0_init 105 = .ok (.aload_n 0, 1) by decide +kernel) rfl ?_
  refine nd_iconst B (show decode cX0_init 106 = .ok (.iconst 3, 1) by decide +kernel) ?_
  refine nd_newa B hF hA (t := 0) (v := eI 0) (a := (1, 21)) (show decode cX0_init 107 = .ok (.newarray .int, 2) by decide +kernel) rfl rfl (fun C h => by cases h) (gW_at 136 (by decide +kernel) rfl) (N := 3) (by decide +kernel) (by decide +kernel) (Nat.le_of_ble_eq_true rfl) (by rfl) ((h3 1 (by decide)).2.2.2.2.trans (by omega)) (by dsimp only; omega) (by dsimp only; omega) ?_
  refine nW.cast ?_ rfl rfl (st_up (by decide)) rfl
  refine nt_putF B hin (ci := 0) (f := 13) (show decode cX0_init 109 = .ok (.putfield 60, 3) by decide +kernel) (by decide +kernel) (fun q h => by cases h; exact ⟨rfl, rfl⟩) rfl ?_
  refine nd_aload_n B (show decode cX0_init 112 = .ok (.aload_n 0, 1) by decide +kernel) rfl ?_
  refine nd_aload_n B (show decode cX0_init 113 = .ok (.aload_n 1, 1) by decide +kernel) rfl ?_
  refine nt_putF B hin (ci := 0) (f := 0) (show decode cX0_init 114 = .ok (.putfield 63, 3) by decide +kernel) (by decide +kernel) (fun q h => by cases h; exact ⟨rfl, rfl⟩) rfl ?_
  refine nd_aload_n B (show decode cX0_init 117 = .ok (.aload_n 0, 1) by decide +kernel) rfl ?_
  refine nt_new B hA (ci := 4) (N := 7) (a := (1, 5)) (show decode cX0_init 118 = .ok (.new 67, 3) by decide +kernel) rfl rfl (gW_at 243 (by decide +kernel) rfl) (gW_at 244 (by decide +kernel) rfl) (gW_at 87 (by decide +kernel) rfl) (by decide +kernel) (h4.trans (by omega)) (by dsimp only; omega) (by dsimp only; omega) ?_
  refine nd_dup B (show decode cX0_init 121 = .ok (.dup, 1) by decide +kernel) (fun w h => by cases h) ?_
  refine nd_aload_n B (show decode cX0_init 122 = .ok (.aload_n 1, 1) by decide +kernel) rfl ?_
  refine nd_callI B hF hA (na := 1) (as := [eR (1, 2)]) (M' := _) c4_init (gW_at 247 (by decide +kernel) rfl) (gW_at 87 (by decide +kernel) rfl) (gW_at 246 (by decide +kernel) rfl) (Or.inl (gW_at 245 (by decide +kernel) rfl)) rfl ⟨by decide, by decide, by decide +kernel⟩ ⟨Nat.le_of_ble_eq_true rfl, Nat.le_of_ble_eq_true rfl⟩ (show decode cX0_init 123 = .ok (.invokespecial 69, 3) by decide +kernel) rfl (Nat.le_of_ble_eq_true rfl) ⟨rfl, eUp_s, h5.1.trans (by omega), h5.2.1.cast (by omega), h5.2.2.1.trans (by omega), h5.2.2.2.1.trans (by omega), h5.2.2.2.2.1.trans (by omega), h5.2.2.2.2.2.1.trans (by omega), h5.2.2.2.2.2.2.trans (by omega), st_in⟩ (by dsimp only; omega) (by dsimp only; omega) ?_
  refine nt_putF B hin (ci := 0) (f := 1) (show decode cX0_init 126 = .ok (.putfield 72, 3) by decide +kernel) (by decide +kernel) (fun q h => by cases h; exact ⟨rfl, rfl⟩) rfl ?_
  refine nd_iconst B (show decode cX0_init 129 = .ok (.iconst 0, 1) by decide +kernel) ?_
  refine nd_istore_n B (show decode cX0_init 130 = .ok (.istore_n 2, 1) by decide +kernel) (by decide) ?_
  refine (loop1 3 0 (by omega)).cast (by omega) (by omega) ?_ rfl
  rw [← frj_0, ← frj_0, ← frj_0, ← frj_0]
  rfl
