/-! The ideal and the inertia made. -/
theorem eUp_3 {Y : eM} {a b : eA} {o p q : eC} (h : b ≠ a) : eUp (eUp (eUp Y b p) a o) b q = eUp (eUp Y b q) a o := by
  rw [eUp_c (fun e => h e.symm), eUp_u]
theorem wh_c {X : eM} {a : eA} {o : eC} {k : Nat} (h : a.1 ∉ [2, 3]) : wh (eUp X a o) k = eUp (wh X k) a o := by
  have h2 : a ≠ (2, k) := fun e => h (by rw [e]; simp)
  have h3 : a ≠ (3, k) := fun e => h (by rw [e]; simp)
  funext x
  unfold wh eUp
  by_cases e1 : x = a <;> by_cases e2 : x = (2, k) <;> by_cases e3 : x = (3, k) <;> simp_all
theorem whs_c {X : eM} {a : eA} {o : eC} {lo : Nat} (h : a.1 ∉ [2, 3]) : ∀ n, whs (eUp X a o) lo n = eUp (whs X lo n) a o
  | 0 => rfl
  | n + 1 => by
    show wh (whs (eUp X a o) lo n) (lo + n) = eUp (wh (whs X lo n) (lo + n)) a o
    rw [whs_c h n, wh_c h]
theorem wo_c {X : eM} {a : eA} {o : eC} {k : Nat} (h : a.1 ∉ [2, 3]) : wo (eUp X a o) k = eUp (wo X k) a o := by
  have h2 : a ≠ (2, k) := fun e => h (by rw [e]; simp)
  have h3 : a ≠ (3, k) := fun e => h (by rw [e]; simp)
  funext x
  unfold wo eUp
  by_cases e1 : x = a <;> by_cases e2 : x = (2, k) <;> by_cases e3 : x = (3, k) <;> simp_all
theorem rw_c {X : eM} {a : eA} {o : eC} {r lo N : Nat} (h : a.1 ∉ [2, 3, 7, 8]) : rwM (eUp X a o) r lo N = eUp (rwM X r lo N) a o := by
  have h2 : a ≠ (7, r) := fun e => h (by rw [e]; simp)
  have h3 : a ≠ (8, r) := fun e => h (by rw [e]; simp)
  unfold rwM
  rw [whs_c (fun e => h (by simp at e ⊢; omega))]
  generalize whs X lo N = Y
  funext x
  unfold eUp
  by_cases e1 : x = a <;> by_cases e2 : x = (7, r) <;> by_cases e3 : x = (8, r) <;> simp_all
theorem rw_w {X : eM} {w : eC} {r lo N : Nat} : rwM (eUp X (7, r) w) r lo N = rwM X r lo N := by
  unfold rwM
  rw [whs_c (by simp)]
  generalize whs X lo N = Y
  funext x
  unfold eUp
  by_cases e2 : x = (7, r) <;> by_cases e3 : x = (8, r) <;> simp_all
theorem rw_d {X : eM} {a : eA} {o w : eC} {r lo N : Nat} (h : a.1 ∉ [2, 3, 7, 8]) : eUp (rwM X r lo N) a o = rwM (eUp (eUp X a o) (7, r) w) r lo N := by rw [rw_w, rw_c h]
theorem rw_d2 {X : eM} {a b : eA} {o p w : eC} {r lo N : Nat} (h : a.1 ∉ [2, 3, 7, 8]) (hb : b.1 ∉ [2, 3, 7, 8]) : eUp (eUp (rwM X r lo N) b p) a o = rwM (eUp (eUp (eUp X b p) a o) (7, r) w) r lo N := by rw [rw_w, rw_c h, rw_c hb]
theorem gr_c {X : eM} {a : eA} {o : eC} {g lo : Nat} (h : a.1 ∉ [2, 3, 9, 10]) : grM (eUp X a o) g lo = eUp (grM X g lo) a o := by
  have h2 : a ≠ (9, g) := fun e => h (by rw [e]; simp)
  have h3 : a ≠ (10, g) := fun e => h (by rw [e]; simp)
  have h4 : a.1 ∉ [2, 3] := fun e => h (by simp at e ⊢; omega)
  unfold grM
  rw [whs_c h4, ← wo_c h4]
  generalize whs X lo 16 = Y
  refine congrArg (fun M => wo M (lo + 16)) ?_
  funext x
  unfold eUp
  by_cases e1 : x = a <;> by_cases e2 : x = (9, g) <;> by_cases e3 : x = (10, g) <;> simp_all
theorem gr_w {X : eM} {w : eC} {g lo : Nat} : grM (eUp X (9, g) w) g lo = grM X g lo := by
  unfold grM
  rw [whs_c (by simp)]
  generalize whs X lo 16 = Y
  refine congrArg (fun M => wo M (lo + 16)) ?_
  funext x
  unfold eUp
  by_cases e2 : x = (9, g) <;> by_cases e3 : x = (10, g) <;> simp_all
theorem gr_d {X : eM} {a : eA} {o w : eC} {g lo : Nat} (h : a.1 ∉ [2, 3, 9, 10]) : eUp (grM X g lo) a o = grM (eUp (eUp X a o) (9, g) w) g lo := by rw [gr_w, gr_c h]
/-- an array made beside the object that is made -/
theorem sub_1 {M : eM} {a b : eA} {o c : eC} (h : a ≠ b) (h1 : M a = some o) (x : eA) (d : eC) (hx : eUp (eUp M b c) a o x = some d) : eUp M b c x = some d := by
  unfold eUp at hx ⊢
  by_cases ha : x = a
  · subst ha
    rw [if_pos rfl] at hx
    rw [if_neg h, ← hx]
    exact h1
  · rw [if_neg ha] at hx
    exact hx
def frj (t lo j : Nat) : Int → eV := fun i => if 0 ≤ i ∧ i < (j : Int) then eR (t, lo + i.toNat) else eN
theorem frj_u (t lo j : Nat) : fUp (frj t lo j) (j : Int) (eR (t, lo + j)) = frj t lo (j + 1) := by
  funext i
  unfold fUp frj
  by_cases h : i = (j : Int)
  · subst h
    rw [if_pos rfl, if_pos ⟨by omega, by omega⟩]
    rfl
  · rw [if_neg h]
    by_cases h2 : 0 ≤ i ∧ i < (j : Int)
    · rw [if_pos h2, if_pos ⟨h2.1, by omega⟩]
    · rw [if_neg h2, if_neg (fun q => h2 ⟨q.1, by omega⟩)]
theorem frj_0 (t lo : Nat) : (fun _ => eN) = frj t lo 0 := by
  funext i
  unfold frj
  rw [if_neg (by omega)]
def aRow (G : eG) (r lo N sz : Nat) : Prop := G.2.2 (8, r) = sz ∧ ∀ j, j < N → lw (lo + j) = 32 ∧ G.2.2 (2, lo + j) = sz + 1 + 2 * j ∧ G.2.2 (3, lo + j) = sz + 2 + 2 * j
def aGrd (G : eG) (g lo L sz : Nat) : Prop := G.2.2 (10, g) = sz ∧ ∀ j, j < 17 → lw (lo + j) = L ∧ G.2.2 (2, lo + j) = sz + 1 + 2 * j ∧ G.2.2 (3, lo + j) = sz + 2 + 2 * j
theorem aRow.cast {G : eG} {r lo N sz sz' : Nat} (h : aRow G r lo N sz) (e : sz = sz') : aRow G r lo N sz' := e ▸ h
theorem aGrd.cast {G : eG} {g lo L sz sz' : Nat} (h : aGrd G g lo L sz) (e : sz = sz') : aGrd G g lo L sz' := e ▸ h
def rws (X : eM) : Nat → eM
  | 0 => X
  | n + 1 => rwM (rws X n) n (10 + 10 * n) 10
def idX (M : eM) : eM := wh (rwM (eUp (eUp M (1, 13) (eY 2 10 fun _ => eI 0)) (1, 14) (eY 2 6 fun _ => eI 0)) 10 110 10) 120
theorem idX_e {M : eM} {a : eC} : wh (rwM (eUp (eUp (eUp M (1, 12) a) (1, 13) (eY 2 10 fun _ => eI 0)) (1, 14) (eY 2 6 fun _ => eI 0)) 10 110 10) 120 = eUp (idX M) (1, 12) a := by
  unfold idX
  rw [eUp_c (show ((1, 12) : eA) ≠ (1, 13) by decide), eUp_c (show ((1, 12) : eA) ≠ (1, 14) by decide), rw_c (by decide), wh_c (by decide)]
def idO : List eV := [eR (1, 2), eR (1, 12), eR (1, 13), eR (1, 14), eR (7, 10), eR (2, 120), eI 0]
def idMk (M : eM) : eM := eUp (eUp (rws (idX M) 10) (1, 12) (eY 4 10 (frj 7 0 10))) (1, 3) (eO 3 idO)
def sp3 : nSp := fun G sz as M M' => as = [eR (1, 3), eR (1, 2)] ∧ M (1, 3) = some (eO 3 [eN, eN, eN, eN, eN, eN, eI 0]) ∧ G.2.2 (1, 12) = sz ∧ G.2.2 (1, 13) = sz + 1 ∧ G.2.2 (1, 14) = sz + 2 ∧ G.2.2 (7, 10) = sz + 3 ∧ aRow G 10 110 10 (sz + 4) ∧ G.2.2 (2, 120) = sz + 25 ∧ G.2.2 (3, 120) = sz + 26 ∧ (∀ r, r < 10 → G.2.2 (7, r) = sz + 27 + 22 * r ∧ aRow G r (10 + 10 * r) 10 (sz + 28 + 22 * r)) ∧ M' = idMk M
set_option maxRecDepth 100000 in
theorem c3_init : nMet yX3_init cX3_init 3 3 64 247 4032 sp3 := by
  refine nMet_of (T := (fl_RX3, cl_RX3, dl_RX3, fun _ => none, fun _ => none)) (by decide) rfl tb_RX3 ?_
  rintro p l e s m below meth c G A as M M' B hF hA hin hr hlk ⟨rfl, h1, h2, h3, h4, h5, h6, h7, h8, h9, rfl⟩
  refine ⟨show 2 ≤ 3 by decide, ?_⟩
  have loop : ∀ (d j : Nat), j + d = 10 → nW G A p l e { frames := 3, cells := 247, slots := 4032, locals := 64 } s m ([eR (1, 3), eR (1, 2)].map (cv G)).toArray below meth c 3 (MQ below (nwQ G A 247 (idMk M)) ([eR (1, 3), eR (1, 2)].map (cv G)).toArray s 247 4032 A) (27 + 22 * j) (422 + 361 * j) 67 [some (eR (1, 3)), some (eR (1, 2)), some (eI (j : Int))] [] (eUp (eUp (rws (idX M) j) (1, 12) (eY 4 10 (frj 7 0 j))) (1, 3) (eO 3 idO)) := by
    intro d
    induction d with
    | zero =>
      intro j hj
      have hj' : j = 10 := by omega
      subst hj'
      refine nd_iload_n B (show decode cX3_init 67 = .ok (.iload_n 2, 1) by decide +kernel) rfl ?_
      refine nd_bipush B (show decode cX3_init 68 = .ok (.bipush 10, 2) by decide +kernel) (by decide) ?_
      refine nd_icmp_ge B (show decode cX3_init 70 = .ok (.if_icmp .ge 24, 3) by decide +kernel) (by decide) (by decide) (fun hT => ?_) (fun hT => ?_)
      · exact nd_ret B hr hlk (show decode cX3_init 94 = .ok (.return_, 1) by decide +kernel)
      · exact absurd (Int.le_refl _) hT
    | succ d ih =>
      intro j hj
      have hlt : j < 10 := by omega
      refine nd_iload_n B (show decode cX3_init 67 = .ok (.iload_n 2, 1) by decide +kernel) rfl ?_
      refine nd_bipush B (show decode cX3_init 68 = .ok (.bipush 10, 2) by decide +kernel) (by decide) ?_
      refine nd_icmp_ge B (show decode cX3_init 70 = .ok (.if_icmp .ge 24, 3) by decide +kernel) (by constructor <;> (unfold w32; omega)) (by decide) (fun hT => ?_) (fun hT => ?_)
      · exact absurd hT (by omega)
      refine nd_aload_n B (show decode cX3_init 73 = .ok (.aload_n 0, 1) by decide +kernel) rfl ?_
      refine nt_get B (ci := 3) (f := 1) (show decode cX3_init 74 = .ok (.getfield 15, 3) by decide +kernel) (by decide +kernel) rfl ?_
      refine nd_iload_n B (show decode cX3_init 77 = .ok (.iload_n 2, 1) by decide +kernel) rfl ?_
      refine nt_new B hA (ci := 6) (N := 1) (a := (7, j)) (show decode cX3_init 78 = .ok (.new 13, 3) by decide +kernel) rfl rfl (gW_at 189 (by decide +kernel) rfl) (gW_at 191 (by decide +kernel) rfl) (gW_at 85 (by decide +kernel) rfl) (by decide +kernel) ((h9 j hlt).1.trans (by omega)) (by dsimp only; omega) (by dsimp only; omega) ?_
      refine nd_dup B (show decode cX3_init 81 = .ok (.dup, 1) by decide +kernel) (fun w h => by cases h) ?_
      refine nd_bipush B (show decode cX3_init 82 = .ok (.bipush 10, 2) by decide +kernel) (by decide) ?_
      refine nd_callI B hF hA (na := 1) (as := [eI 10]) (M' := _) (c7_init (N := 10) (by decide)) (gW_at 194 (by decide +kernel) rfl) (gW_at 85 (by decide +kernel) rfl) (gW_at 193 (by decide +kernel) rfl) (Or.inl (gW_at 192 (by decide +kernel) rfl)) rfl ⟨by decide, by decide, by decide +kernel⟩ ⟨Nat.le_of_ble_eq_true rfl, Nat.le_of_ble_eq_true rfl⟩ (show decode cX3_init 84 = .ok (.invokespecial 26, 3) by decide +kernel) rfl (Nat.le_of_ble_eq_true rfl) ⟨j, 10 + 10 * j, rfl, eUp_s, ((h9 j hlt).2.cast (by omega)).1, ((h9 j hlt).2.cast (by omega)).2, rw_d2 (by decide) (by decide)⟩ (by dsimp only; omega) (by dsimp only; omega) ?_
      refine nd_aast B hF (t := 4) (ci := 6) (N := 10) (g := frj 7 0 j) (fs := [eR (8, j)]) (show decode cX3_init 87 = .ok (.aastore, 1) by decide +kernel) rfl rfl ((eUp_n (by decide)).trans eUp_s) ((eUp_n (by simp)).trans ((eUp_n (by simp)).trans eUp_s)) ⟨by omega, by omega, by omega⟩ ?_
      refine nd_iinc B (show decode cX3_init 88 = .ok (.iinc 2 1, 3) by decide +kernel) rfl (by decide) ?_
      refine nd_goto B (show decode cX3_init 91 = .ok (.goto (-24), 3) by decide +kernel) (by decide) ?_
      refine (ih (j + 1) (by omega)).cast (by omega) (by omega) ?_ ?_
      · rw [eUp_3 (by decide), ← frj_u, Nat.zero_add]; rfl
      · rfl
  refine nd_aload_n B (show decode cX3_init 0 = .ok (.aload_n 0, 1) by decide +kernel) rfl ?_
  refine nd_obj B (show decode cX3_init 1 = .ok (.invokespecial 5, 3) by decide +kernel) (gW_at 188 (by decide +kernel) rfl) (gW_at 104 (by decide +kernel) rfl) (gW_at 105 (by decide +kernel) rfl) (Nat.le_of_ble_eq_true rfl) (Nat.le_of_ble_eq_true rfl) ?_
  refine nd_aload_n B (show decode cX3_init 4 = .ok (.aload_n 0, 1) by decide +kernel) rfl ?_
  refine nd_bipush B (show decode cX3_init 5 = .ok (.bipush 10, 2) by decide +kernel) (by decide) ?_
  refine nd_anew B hF hA (t := 4) (N := 10) (a := (1, 12)) (show decode cX3_init 7 = .ok (.anewarray 13, 3) by decide +kernel) rfl (gW_at 189 (by decide +kernel) rfl) (by decide) (by decide +kernel) (by decide +kernel) (Nat.le_of_ble_eq_true rfl) h2 (by dsimp only; omega) (by dsimp only; omega) ?_
  refine nW.sub ?_ (sub_1 (by decide) h1)
  refine nt_putF B hin (ci := 3) (f := 1) (show decode cX3_init 10 = .ok (.putfield 15, 3) by decide +kernel) (by decide +kernel) (fun q h => by cases h; exact ⟨rfl, rfl⟩) rfl ?_
  refine nd_aload_n B (show decode cX3_init 13 = .ok (.aload_n 0, 1) by decide +kernel) rfl ?_
  refine nd_bipush B (show decode cX3_init 14 = .ok (.bipush 10, 2) by decide +kernel) (by decide) ?_
  refine nd_newa B hF hA (t := 2) (v := eI 0) (a := (1, 13)) (show decode cX3_init 16 = .ok (.newarray .boolean, 2) by decide +kernel) rfl rfl (fun C h => by cases h) (gW_at 206 (by decide +kernel) rfl) (N := 10) (by decide +kernel) (by decide +kernel) (Nat.le_of_ble_eq_true rfl) (by rfl) (h3.trans (by omega)) (by dsimp only; omega) (by dsimp only; omega) ?_
  refine nW.cast ?_ rfl rfl (eUp_c (by decide)) rfl
  refine nt_putF B hin (ci := 3) (f := 2) (show decode cX3_init 18 = .ok (.putfield 19, 3) by decide +kernel) (by decide +kernel) (fun q h => by cases h; exact ⟨rfl, rfl⟩) rfl ?_
  refine nd_aload_n B (show decode cX3_init 21 = .ok (.aload_n 0, 1) by decide +kernel) rfl ?_
  refine nd_bipush B (show decode cX3_init 22 = .ok (.bipush 6, 2) by decide +kernel) (by decide) ?_
  refine nd_newa B hF hA (t := 2) (v := eI 0) (a := (1, 14)) (show decode cX3_init 24 = .ok (.newarray .boolean, 2) by decide +kernel) rfl rfl (fun C h => by cases h) (gW_at 206 (by decide +kernel) rfl) (N := 6) (by decide +kernel) (by decide +kernel) (Nat.le_of_ble_eq_true rfl) (by rfl) (h4.trans (by omega)) (by dsimp only; omega) (by dsimp only; omega) ?_
  refine nW.cast ?_ rfl rfl (eUp_c (by decide)) rfl
  refine nt_putF B hin (ci := 3) (f := 3) (show decode cX3_init 26 = .ok (.putfield 23, 3) by decide +kernel) (by decide +kernel) (fun q h => by cases h; exact ⟨rfl, rfl⟩) rfl ?_
  refine nd_aload_n B (show decode cX3_init 29 = .ok (.aload_n 0, 1) by decide +kernel) rfl ?_
  refine nt_new B hA (ci := 6) (N := 1) (a := (7, 10)) (show decode cX3_init 30 = .ok (.new 13, 3) by decide +kernel) rfl rfl (gW_at 189 (by decide +kernel) rfl) (gW_at 191 (by decide +kernel) rfl) (gW_at 85 (by decide +kernel) rfl) (by decide +kernel) (h5.trans (by omega)) (by dsimp only; omega) (by dsimp only; omega) ?_
  refine nd_dup B (show decode cX3_init 33 = .ok (.dup, 1) by decide +kernel) (fun w h => by cases h) ?_
  refine nd_bipush B (show decode cX3_init 34 = .ok (.bipush 10, 2) by decide +kernel) (by decide) ?_
  refine nd_callI B hF hA (na := 1) (as := [eI 10]) (M' := _) (c7_init (N := 10) (by decide)) (gW_at 194 (by decide +kernel) rfl) (gW_at 85 (by decide +kernel) rfl) (gW_at 193 (by decide +kernel) rfl) (Or.inl (gW_at 192 (by decide +kernel) rfl)) rfl ⟨by decide, by decide, by decide +kernel⟩ ⟨Nat.le_of_ble_eq_true rfl, Nat.le_of_ble_eq_true rfl⟩ (show decode cX3_init 36 = .ok (.invokespecial 26, 3) by decide +kernel) rfl (Nat.le_of_ble_eq_true rfl) ⟨10, 110, rfl, eUp_s, (h6.cast (by omega)).1, (h6.cast (by omega)).2, rw_d (by decide)⟩ (by dsimp only; omega) (by dsimp only; omega) ?_
  refine nt_putF B hin (ci := 3) (f := 4) (show decode cX3_init 39 = .ok (.putfield 29, 3) by decide +kernel) (by decide +kernel) (fun q h => by cases h; exact ⟨rfl, rfl⟩) rfl ?_
  refine nd_aload_n B (show decode cX3_init 42 = .ok (.aload_n 0, 1) by decide +kernel) rfl ?_
  refine nt_new B hA (ci := 7) (N := 3) (a := (2, 120)) (show decode cX3_init 43 = .ok (.new 33, 3) by decide +kernel) rfl rfl (gW_at 207 (by decide +kernel) rfl) (gW_at 113 (by decide +kernel) rfl) (gW_at 81 (by decide +kernel) rfl) (by decide +kernel) (h7.trans (by omega)) (by dsimp only; omega) (by dsimp only; omega) ?_
  refine nd_dup B (show decode cX3_init 46 = .ok (.dup, 1) by decide +kernel) (fun w h => by cases h) ?_
  refine nd_bipush B (show decode cX3_init 47 = .ok (.bipush 32, 2) by decide +kernel) (by decide) ?_
  refine nd_callI B hF hA (na := 1) (as := [eI 32]) (M' := _) (c8_init (L := 32) (by decide)) (gW_at 116 (by decide +kernel) rfl) (gW_at 81 (by decide +kernel) rfl) (gW_at 115 (by decide +kernel) rfl) (Or.inl (gW_at 208 (by decide +kernel) rfl)) rfl ⟨by decide, by decide, by decide +kernel⟩ ⟨Nat.le_of_ble_eq_true rfl, Nat.le_of_ble_eq_true rfl⟩ (show decode cX3_init 49 = .ok (.invokespecial 35, 3) by decide +kernel) rfl (Nat.le_of_ble_eq_true rfl) ⟨120, rfl, rfl, eUp_s, h8.trans (by omega), wh_d (by decide) (by decide)⟩ (by dsimp only; omega) (by dsimp only; omega) ?_
  refine nt_putF B hin (ci := 3) (f := 5) (show decode cX3_init 52 = .ok (.putfield 36, 3) by decide +kernel) (by decide +kernel) (fun q h => by cases h; exact ⟨rfl, rfl⟩) rfl ?_
  refine nd_aload_n B (show decode cX3_init 55 = .ok (.aload_n 0, 1) by decide +kernel) rfl ?_
  refine nd_iconst B (show decode cX3_init 56 = .ok (.iconst 0, 1) by decide +kernel) ?_
  refine nt_putI B (ci := 3) (f := 6) (show decode cX3_init 57 = .ok (.putfield 40, 3) by decide +kernel) (by decide +kernel) (by decide +kernel) ?_
  refine nd_aload_n B (show decode cX3_init 60 = .ok (.aload_n 0, 1) by decide +kernel) rfl ?_
  refine nd_aload_n B (show decode cX3_init 61 = .ok (.aload_n 1, 1) by decide +kernel) rfl ?_
  refine nt_putF B hin (ci := 3) (f := 0) (show decode cX3_init 62 = .ok (.putfield 44, 3) by decide +kernel) (by decide +kernel) (fun q h => by cases h; exact ⟨rfl, rfl⟩) rfl ?_
  refine nd_iconst B (show decode cX3_init 65 = .ok (.iconst 0, 1) by decide +kernel) ?_
  refine nd_istore_n B (show decode cX3_init 66 = .ok (.istore_n 2, 1) by decide +kernel) (by decide) ?_
  refine (loop 10 0 (by omega)).cast (by omega) (by omega) ?_ rfl
  rw [← frj_0, idX_e]
  rfl
