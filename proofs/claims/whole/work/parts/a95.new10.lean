/-! The whole class made; the reference made. -/
theorem rws_c {X : eM} {a : eA} {o : eC} (h : a.1 ∉ [2, 3, 7, 8]) : ∀ n, rws (eUp X a o) n = eUp (rws X n) a o
  | 0 => rfl
  | n + 1 => by
    show rwM (rws (eUp X a o) n) n _ 10 = eUp (rwM (rws X n) n _ 10) a o
    rw [rws_c h n, rw_c h]
theorem id_c {X : eM} {a : eA} {o : eC} (h : a.1 ∉ [1, 2, 3, 7, 8]) : idMk (eUp X a o) = eUp (idMk X) a o := by
  have h1 : a.1 ∉ [2, 3, 7, 8] := fun e => h (by simp at e ⊢; omega)
  have h2 : a.1 ∉ [2, 3] := fun e => h (by simp at e ⊢; omega)
  have n : ∀ j, a ≠ (1, j) := fun j e => h (by rw [e]; simp)
  unfold idMk idX
  rw [eUp_c (n _), eUp_c (n _), rw_c h1, wh_c h2, rws_c h1, eUp_c (n _), eUp_c (n _)]
theorem id_w {X : eM} {w : eC} : idMk (eUp X (1, 3) w) = idMk X := by
  unfold idMk idX
  rw [eUp_c (show ((1, 3) : eA) ≠ (1, 13) by decide), eUp_c (show ((1, 3) : eA) ≠ (1, 14) by decide), rw_c (by decide), wh_c (by decide), rws_c (by decide), eUp_c (show ((1, 3) : eA) ≠ (1, 12) by decide), eUp_u]
theorem id_d {X : eM} {o w : eC} : eUp (idMk X) (0, 0) o = idMk (eUp (eUp X (0, 0) o) (1, 3) w) := by rw [id_w, id_c (by decide)]
theorem alY_c {X : eM} {a : eA} {o : eC} (h : a.1 ∉ [2, 3, 7, 8]) (h2 : a.1 ∉ [2, 3, 9, 10]) : ∀ n, alY (eUp X a o) n = eUp (alY X n) a o
  | 0 => rfl
  | n + 1 => by
    show rwM (grM (grM (alY (eUp X a o) n) _ _) _ _) _ _ 4 = eUp (rwM (grM (grM (alY X n) _ _) _ _) _ _ 4) a o
    rw [alY_c h h2 n, gr_c h2, gr_c h2, rw_c h]
theorem alZ_c {X : eM} {a : eA} {o : eC} (h2 : a.1 ∉ [2, 3, 9, 10]) : ∀ n, alZ (eUp X a o) n = eUp (alZ X n) a o
  | 0 => rfl
  | n + 1 => by
    show grM (alZ (eUp X a o) n) _ _ = eUp (grM (alZ X n) _ _) a o
    rw [alZ_c h2 n, gr_c h2]
theorem al_c {X : eM} {a : eA} {o : eC} (h : a.1 ∉ [1, 2, 3, 7, 8, 9, 10]) : alM (eUp X a o) = eUp (alM X) a o := by
  have h1 : a.1 ∉ [2, 3, 7, 8] := fun e => h (by simp at e ⊢; omega)
  have h2 : a.1 ∉ [2, 3] := fun e => h (by simp at e ⊢; omega)
  have h3 : a.1 ∉ [2, 3, 9, 10] := fun e => h (by simp at e ⊢; omega)
  have n : ∀ j, a ≠ (1, j) := fun j e => h (by rw [e]; simp)
  unfold alM alX st5
  rw [eUp_c (n _), rw_c h1, rw_c h1, wh_c h2, wh_c h2, eUp_c (n _), eUp_c (n _), inM_c h3 (n _) (n _), alY_c h1 h3, alZ_c h3, eUp_c (n _), eUp_c (n _), eUp_c (n _), eUp_c (n _), eUp_c (n _)]
theorem al_w {X : eM} {w : eC} : alM (eUp X (1, 4) w) = alM X := by
  have n : ∀ j, j ≠ 4 → ((1, 4) : eA) ≠ (1, j) := fun j hj e => hj (congrArg Prod.snd e).symm
  unfold alM alX st5
  rw [eUp_c (n 15 (by decide)), rw_c (by decide), rw_c (by decide), wh_c (by decide), wh_c (by decide), eUp_c (n 20 (by decide)), eUp_c (n 21 (by decide)), inM_c (by decide) (by decide) (by decide), alY_c (by decide) (by decide), alZ_c (by decide), eUp_c (n 16 (by decide)), eUp_c (n 17 (by decide)), eUp_c (n 18 (by decide)), eUp_c (n 19 (by decide)), eUp_u]
theorem al_d {X : eM} {o w : eC} : eUp (alM X) (0, 0) o = alM (eUp (eUp X (0, 0) o) (1, 4) w) := by rw [al_w, al_c (by decide)]
theorem de_d {X : eM} {o w : eC} : eUp (eUp (whs X 0 10) (1, 2) deO) (0, 0) o = eUp (whs (eUp (eUp X (0, 0) o) (1, 2) w) 0 10) (1, 2) deO := by
  rw [whs_c (by decide), whs_c (by decide), eUp_u, eUp_c (by decide)]
theorem pr_d {X : eM} {o w : eC} {b q : eA} {t : Nat} (hb : b ≠ (0, 0)) (hq : q ≠ (0, 0)) (ht : t ≠ 0) : eUp (prM X b q t 0) (0, 0) o = prM (eUp (eUp X (0, 0) o) b w) b q t 0 := by
  funext x
  unfold prM eUp
  by_cases e1 : x = (0, 0)
  · subst e1
    rw [if_pos rfl, if_neg (fun e => hb e.symm), if_neg (fun e => hq e.symm), if_neg (fun e => ht e.1.symm), if_neg (fun e => hb e.symm), if_pos rfl]
  · rw [if_neg e1]
    dsimp only
    by_cases e2 : x = b
    · rw [if_pos e2, if_pos e2]
    · rw [if_neg e2, if_neg e2, if_neg e2, if_neg e1]
def coO : List eV := [eR (1, 0), eR (1, 1), eR (1, 2), eR (1, 3), eR (1, 4), eI 0, eI (-1)]
def coM (M : eM) : eM := eUp (alM (idMk (prM (prM (eUp (whs M 0 10) (1, 2) deO) (1, 0) (1, 10) 5 0) (1, 1) (1, 11) 6 0))) (0, 0) (eO 8 coO)
def sp9 : nSp := fun G sz as M M' => as = [eR (0, 0)] ∧ M (0, 0) = some (eO 8 [eN, eN, eN, eN, eN, eI 0, eI 0]) ∧ (G.2.2 (1, 2) = sz ∧ G.2.2 (1, 0) = sz + 21 ∧ G.2.2 (1, 1) = sz + 28 ∧ G.2.2 (1, 3) = sz + 35 ∧ G.2.2 (1, 4) = sz + 283) ∧
  (∀ X : eM, X (1, 2) = some (eO 1 [eN, eN, eN, eN, eN, eN, eN, eN, eN, eN]) → sp1 G (sz + 1) [eR (1, 2)] X (eUp (whs X 0 10) (1, 2) deO)) ∧
  (∀ X : eM, X (1, 0) = some (eO 5 [eN, eI 0]) → sp6 (1, 0) (1, 10) 5 G (sz + 22) [eR (1, 0)] X (prM X (1, 0) (1, 10) 5 0)) ∧
  (∀ X : eM, X (1, 1) = some (eO 5 [eN, eI 0]) → sp6 (1, 1) (1, 11) 6 G (sz + 29) [eR (1, 1)] X (prM X (1, 1) (1, 11) 6 0)) ∧
  (∀ X : eM, X (1, 3) = some (eO 3 [eN, eN, eN, eN, eN, eN, eI 0]) → sp3 G (sz + 36) [eR (1, 3), eR (1, 2)] X (idMk X)) ∧
  (∀ X : eM, X (1, 4) = some (eO 0 [eN, eN, eN, eI 0, eN, eN, eN, eN, eN, eN, eN, eN, eN, eN]) → sp0 G (sz + 284) [eR (1, 4), eR (1, 2)] X (alM X)) ∧ M' = coM M
set_option maxRecDepth 100000 in
theorem c9_init : nMet yX9_init cX9_init 2 5 107 747 13057 sp9 := by
  refine nMet_of (T := (fl_RX9, cl_RX9, dl_RX9, fun _ => none, fun _ => none)) (by decide) rfl tb_RX9 ?_
  rintro p l e s m below meth c G A as M M' B hF hA hin hr hlk ⟨rfl, h1, ⟨a1, a2, a3, a4, a5⟩, h2, h3, h4, h5, h6, rfl⟩
  refine ⟨show 1 ≤ 2 by decide, ?_⟩
  refine nd_aload_n B (show decode cX9_init 0 = .ok (.aload_n 0, 1) by decide +kernel) rfl ?_
  refine nd_obj B (show decode cX9_init 1 = .ok (.invokespecial 3, 3) by decide +kernel) (gW_at 103 (by decide +kernel) rfl) (gW_at 104 (by decide +kernel) rfl) (gW_at 105 (by decide +kernel) rfl) (Nat.le_of_ble_eq_true rfl) (Nat.le_of_ble_eq_true rfl) ?_
  refine (nW.cast (M' := eUp M (0, 0) (eO 8 [eN, eN, eN, eN, eN, eI 0, eI 0])) ?_ rfl rfl (eUp_id h1) rfl)
  refine nt_new B hA (ci := 1) (N := 10) (a := (1, 2)) (show decode cX9_init 4 = .ok (.new 9, 3) by decide +kernel) rfl rfl (gW_at 106 (by decide +kernel) rfl) (gW_at 107 (by decide +kernel) rfl) (gW_at 80 (by decide +kernel) rfl) (by decide +kernel) (a1.trans (by omega)) (by dsimp only; omega) (by dsimp only; omega) ?_
  refine nd_dup B (show decode cX9_init 7 = .ok (.dup, 1) by decide +kernel) (fun w h => by cases h) ?_
  refine nd_callI B hF hA (na := 0) (as := []) (M' := _) c1_init (gW_at 110 (by decide +kernel) rfl) (gW_at 80 (by decide +kernel) rfl) (gW_at 109 (by decide +kernel) rfl) (Or.inr ⟨RX9, by decide⟩) rfl ⟨by decide, by decide, by decide +kernel⟩ ⟨Nat.le_of_ble_eq_true rfl, Nat.le_of_ble_eq_true rfl⟩ (show decode cX9_init 8 = .ok (.invokespecial 11, 3) by decide +kernel) rfl (Nat.le_of_ble_eq_true rfl) (h2 _ eUp_s) (by dsimp only; omega) (by dsimp only; omega) ?_
  refine nW.cast ?_ rfl rfl de_d.symm rfl
  refine nd_astore_n B (show decode cX9_init 11 = .ok (.astore_n 1, 1) by decide +kernel) (by decide) ?_
  refine nd_aload_n B (show decode cX9_init 12 = .ok (.aload_n 0, 1) by decide +kernel) rfl ?_
  refine nt_new B hA (ci := 5) (N := 2) (a := (1, 0)) (show decode cX9_init 13 = .ok (.new 12, 3) by decide +kernel) rfl rfl (gW_at 168 (by decide +kernel) rfl) (gW_at 169 (by decide +kernel) rfl) (gW_at 83 (by decide +kernel) rfl) (by decide +kernel) (a2.trans (by omega)) (by dsimp only; omega) (by dsimp only; omega) ?_
  refine nd_dup B (show decode cX9_init 16 = .ok (.dup, 1) by decide +kernel) (fun w h => by cases h) ?_
  refine nd_callI B hF hA (na := 0) (as := []) (M' := _) (c6_init (by decide) (by decide) (by decide)) (gW_at 172 (by decide +kernel) rfl) (gW_at 83 (by decide +kernel) rfl) (gW_at 171 (by decide +kernel) rfl) (Or.inr ⟨RX9, by decide⟩) rfl ⟨by decide, by decide, by decide +kernel⟩ ⟨Nat.le_of_ble_eq_true rfl, Nat.le_of_ble_eq_true rfl⟩ (show decode cX9_init 17 = .ok (.invokespecial 14, 3) by decide +kernel) rfl (Nat.le_of_ble_eq_true rfl) (h3 _ eUp_s) (by dsimp only; omega) (by dsimp only; omega) ?_
  refine nW.cast ?_ rfl rfl (pr_d (by decide) (by decide) (by decide)).symm rfl
  refine nt_putF B hin (ci := 8) (f := 0) (show decode cX9_init 20 = .ok (.putfield 15, 3) by decide +kernel) (by decide +kernel) (fun q h => by cases h; exact ⟨rfl, rfl⟩) rfl ?_
  refine nd_aload_n B (show decode cX9_init 23 = .ok (.aload_n 0, 1) by decide +kernel) rfl ?_
  refine nt_new B hA (ci := 5) (N := 2) (a := (1, 1)) (show decode cX9_init 24 = .ok (.new 12, 3) by decide +kernel) rfl rfl (gW_at 168 (by decide +kernel) rfl) (gW_at 169 (by decide +kernel) rfl) (gW_at 83 (by decide +kernel) rfl) (by decide +kernel) (a3.trans (by omega)) (by dsimp only; omega) (by dsimp only; omega) ?_
  refine nd_dup B (show decode cX9_init 27 = .ok (.dup, 1) by decide +kernel) (fun w h => by cases h) ?_
  refine nd_callI B hF hA (na := 0) (as := []) (M' := _) (c6_init (by decide) (by decide) (by decide)) (gW_at 172 (by decide +kernel) rfl) (gW_at 83 (by decide +kernel) rfl) (gW_at 171 (by decide +kernel) rfl) (Or.inr ⟨RX9, by decide⟩) rfl ⟨by decide, by decide, by decide +kernel⟩ ⟨Nat.le_of_ble_eq_true rfl, Nat.le_of_ble_eq_true rfl⟩ (show decode cX9_init 28 = .ok (.invokespecial 14, 3) by decide +kernel) rfl (Nat.le_of_ble_eq_true rfl) (h4 _ eUp_s) (by dsimp only; omega) (by dsimp only; omega) ?_
  refine nW.cast ?_ rfl rfl (pr_d (by decide) (by decide) (by decide)).symm rfl
  refine nt_putF B hin (ci := 8) (f := 1) (show decode cX9_init 31 = .ok (.putfield 21, 3) by decide +kernel) (by decide +kernel) (fun q h => by cases h; exact ⟨rfl, rfl⟩) rfl ?_
  refine nd_aload_n B (show decode cX9_init 34 = .ok (.aload_n 0, 1) by decide +kernel) rfl ?_
  refine nd_aload_n B (show decode cX9_init 35 = .ok (.aload_n 1, 1) by decide +kernel) rfl ?_
  refine nt_putF B hin (ci := 8) (f := 2) (show decode cX9_init 36 = .ok (.putfield 24, 3) by decide +kernel) (by decide +kernel) (fun q h => by cases h; exact ⟨rfl, rfl⟩) rfl ?_
  refine nd_aload_n B (show decode cX9_init 39 = .ok (.aload_n 0, 1) by decide +kernel) rfl ?_
  refine nt_new B hA (ci := 3) (N := 7) (a := (1, 3)) (show decode cX9_init 40 = .ok (.new 28, 3) by decide +kernel) rfl rfl (gW_at 183 (by decide +kernel) rfl) (gW_at 184 (by decide +kernel) rfl) (gW_at 84 (by decide +kernel) rfl) (by decide +kernel) (a4.trans (by omega)) (by dsimp only; omega) (by dsimp only; omega) ?_
  refine nd_dup B (show decode cX9_init 43 = .ok (.dup, 1) by decide +kernel) (fun w h => by cases h) ?_
  refine nd_aload_n B (show decode cX9_init 44 = .ok (.aload_n 1, 1) by decide +kernel) rfl ?_
  refine nd_callI B hF hA (na := 1) (as := [eR (1, 2)]) (M' := _) c3_init (gW_at 187 (by decide +kernel) rfl) (gW_at 84 (by decide +kernel) rfl) (gW_at 186 (by decide +kernel) rfl) (Or.inl (gW_at 185 (by decide +kernel) rfl)) rfl ⟨by decide, by decide, by decide +kernel⟩ ⟨Nat.le_of_ble_eq_true rfl, Nat.le_of_ble_eq_true rfl⟩ (show decode cX9_init 45 = .ok (.invokespecial 30, 3) by decide +kernel) rfl (Nat.le_of_ble_eq_true rfl) (h5 _ eUp_s) (by dsimp only; omega) (by dsimp only; omega) ?_
  refine nW.cast ?_ rfl rfl id_d.symm rfl
  refine nt_putF B hin (ci := 8) (f := 3) (show decode cX9_init 48 = .ok (.putfield 33, 3) by decide +kernel) (by decide +kernel) (fun q h => by cases h; exact ⟨rfl, rfl⟩) rfl ?_
  refine nd_aload_n B (show decode cX9_init 51 = .ok (.aload_n 0, 1) by decide +kernel) rfl ?_
  refine nt_new B hA (ci := 0) (N := 14) (a := (1, 4)) (show decode cX9_init 52 = .ok (.new 37, 3) by decide +kernel) rfl rfl (gW_at 231 (by decide +kernel) rfl) (gW_at 232 (by decide +kernel) rfl) (gW_at 86 (by decide +kernel) rfl) (by decide +kernel) (a5.trans (by omega)) (by dsimp only; omega) (by dsimp only; omega) ?_
  refine nd_dup B (show decode cX9_init 55 = .ok (.dup, 1) by decide +kernel) (fun w h => by cases h) ?_
  refine nd_aload_n B (show decode cX9_init 56 = .ok (.aload_n 1, 1) by decide +kernel) rfl ?_
  refine nd_callI B hF hA (na := 1) (as := [eR (1, 2)]) (M' := _) c0_init (gW_at 235 (by decide +kernel) rfl) (gW_at 86 (by decide +kernel) rfl) (gW_at 234 (by decide +kernel) rfl) (Or.inl (gW_at 233 (by decide +kernel) rfl)) rfl ⟨by decide, by decide, by decide +kernel⟩ ⟨Nat.le_of_ble_eq_true rfl, Nat.le_of_ble_eq_true rfl⟩ (show decode cX9_init 57 = .ok (.invokespecial 39, 3) by decide +kernel) rfl (Nat.le_of_ble_eq_true rfl) (h6 _ eUp_s) (by dsimp only; omega) (by dsimp only; omega) ?_
  refine nW.cast ?_ rfl rfl al_d.symm rfl
  refine nt_putF B hin (ci := 8) (f := 4) (show decode cX9_init 60 = .ok (.putfield 40, 3) by decide +kernel) (by decide +kernel) (fun q h => by cases h; exact ⟨rfl, rfl⟩) rfl ?_
  refine nd_aload_n B (show decode cX9_init 63 = .ok (.aload_n 0, 1) by decide +kernel) rfl ?_
  refine nd_iconst B (show decode cX9_init 64 = .ok (.iconst 0, 1) by decide +kernel) ?_
  refine nt_putI B (ci := 8) (f := 5) (show decode cX9_init 65 = .ok (.putfield 44, 3) by decide +kernel) (by decide +kernel) (by decide +kernel) ?_
  refine nd_aload_n B (show decode cX9_init 68 = .ok (.aload_n 0, 1) by decide +kernel) rfl ?_
  refine nd_iconst B (show decode cX9_init 69 = .ok (.iconst (-1), 1) by decide +kernel) ?_
  refine nt_putI B (ci := 8) (f := 6) (show decode cX9_init 70 = .ok (.putfield 48, 3) by decide +kernel) (by decide +kernel) (by decide +kernel) ?_
  exact nd_ret B hr hlk (show decode cX9_init 73 = .ok (.return_, 1) by decide +kernel)
def moI : List eA := [(1, 0), (1, 1), (1, 2), (1, 3), (1, 4), (1, 5), (1, 7), (1, 8), (1, 15), (1, 16), (1, 18), (1, 20), (1, 21)]
def moM (M : eM) : eM := eUp (eUp (eUp (eUp (eUp (eUp (eUp (eUp (eUp (eUp (eUp (eUp (eUp (eUp M (1, 0) (eY 0 1602266 fun _ => eI 0)) (1, 1) (eY 1 1204 fun _ => eL 0)) (1, 2) (eY 0 602 fun _ => eI 0)) (1, 3) (eY 0 602 fun _ => eI 0)) (1, 4) (eY 0 24 fun _ => eI 0)) (1, 5) (eY 0 6 fun _ => eI 0)) (1, 7) (eY 0 24 fun _ => eI 0)) (1, 8) (eY 0 6 fun _ => eI 0)) (1, 15) (eY 2 45 fun _ => eI 0)) (1, 16) (eY 0 45 fun _ => eI 0)) (1, 18) (eY 0 6 fun _ => eI 0)) (1, 20) (eY 0 3 fun _ => eI 0)) (1, 21) (eY 0 3 fun _ => eI 0)) (0, 0) (eO 9 [eR (1, 0), eR (1, 1), eR (1, 2), eR (1, 3), eR (1, 4), eR (1, 5), eI 0, eR (1, 7), eR (1, 8), eI (-1), eI (-1), eI 0, eI 0, eI 0, eI 0, eR (1, 15), eR (1, 16), eI 0, eR (1, 18), eI 0, eR (1, 20), eR (1, 21), eI 0])
def sp10 : nSp := fun G sz as M M' => as = [eR (0, 0)] ∧ M (0, 0) = some (eO 9 [eN, eN, eN, eN, eN, eN, eI 0, eN, eN, eI 0, eI 0, eI 0, eI 0, eI 0, eI 0, eN, eN, eI 0, eN, eI 0, eN, eN, eI 0]) ∧ (∀ (j : Nat) (a : eA), moI[j]? = some a → G.2.2 a = sz + j) ∧ M' = moM M
set_option maxRecDepth 100000 in
theorem c10_init : nMet yX10_init cX10_init 1 1 21 13 1604836 sp10 := by
  refine nMet_of (T := (fl_RX10, cl_RX10, dl_RX10, fun _ => none, fun _ => none)) (by decide) rfl tb_RX10 ?_
  rintro p l e s m below meth c G A as M M' B hF hA hin hr hlk ⟨rfl, h1, h2, rfl⟩
  refine ⟨Nat.le_refl 1, ?_⟩
  refine nd_aload_n B (show decode cX10_init 0 = .ok (.aload_n 0, 1) by decide +kernel) rfl ?_
  refine nd_obj B (show decode cX10_init 1 = .ok (.invokespecial 5, 3) by decide +kernel) (gW_at 977 (by decide +kernel) rfl) (gW_at 104 (by decide +kernel) rfl) (gW_at 105 (by decide +kernel) rfl) (Nat.le_of_ble_eq_true rfl) (Nat.le_of_ble_eq_true rfl) ?_
  refine (nW.cast (M' := eUp M (0, 0) (eO 9 [eN, eN, eN, eN, eN, eN, eI 0, eN, eN, eI 0, eI 0, eI 0, eI 0, eI 0, eI 0, eN, eN, eI 0, eN, eI 0, eN, eN, eI 0])) ?_ rfl rfl (eUp_id h1) rfl)
  refine nd_aload_n B (show decode cX10_init 4 = .ok (.aload_n 0, 1) by decide +kernel) rfl ?_
  refine nd_ldc B (show decode cX10_init 5 = .ok (.ldc 11, 2) by decide +kernel) (show cl_RX10 11 = some 1602266 from lc_RX10_11) ?_
  refine nd_newa B hF hA (t := 0) (v := eI 0) (a := (1, 0)) (show decode cX10_init 7 = .ok (.newarray .int, 2) by decide +kernel) rfl rfl (fun C h => by cases h) (gW_at 136 (by decide +kernel) rfl) (N := 1602266) (by decide +kernel) (by decide +kernel) (Nat.le_of_ble_eq_true rfl) (by rfl) ((h2 0 (1, 0) rfl).trans (by omega)) (by dsimp only; omega) (by dsimp only; omega) ?_
  refine nW.cast ?_ rfl rfl (eUp_c (by decide)) rfl
  refine nt_putF B hin (ci := 9) (f := 0) (show decode cX10_init 9 = .ok (.putfield 12, 3) by decide +kernel) (by decide +kernel) (fun q h => by cases h; exact ⟨rfl, rfl⟩) rfl ?_
  refine nd_aload_n B (show decode cX10_init 12 = .ok (.aload_n 0, 1) by decide +kernel) rfl ?_
  refine nd_sipush B (show decode cX10_init 13 = .ok (.sipush 1204, 3) by decide +kernel) (by decide) ?_
  refine nd_newa B hF hA (t := 1) (v := eL 0) (a := (1, 1)) (show decode cX10_init 16 = .ok (.newarray .long, 2) by decide +kernel) rfl rfl (fun C h => by cases h) (gW_at 1049 (by decide +kernel) rfl) (N := 1204) (by decide +kernel) (by decide +kernel) (Nat.le_of_ble_eq_true rfl) (by rfl) ((h2 1 (1, 1) rfl).trans (by omega)) (by dsimp only; omega) (by dsimp only; omega) ?_
  refine nW.cast ?_ rfl rfl (eUp_c (by decide)) rfl
  refine nt_putF B hin (ci := 9) (f := 1) (show decode cX10_init 18 = .ok (.putfield 16, 3) by decide +kernel) (by decide +kernel) (fun q h => by cases h; exact ⟨rfl, rfl⟩) rfl ?_
  refine nd_aload_n B (show decode cX10_init 21 = .ok (.aload_n 0, 1) by decide +kernel) rfl ?_
  refine nd_sipush B (show decode cX10_init 22 = .ok (.sipush 602, 3) by decide +kernel) (by decide) ?_
  refine nd_newa B hF hA (t := 0) (v := eI 0) (a := (1, 2)) (show decode cX10_init 25 = .ok (.newarray .int, 2) by decide +kernel) rfl rfl (fun C h => by cases h) (gW_at 136 (by decide +kernel) rfl) (N := 602) (by decide +kernel) (by decide +kernel) (Nat.le_of_ble_eq_true rfl) (by rfl) ((h2 2 (1, 2) rfl).trans (by omega)) (by dsimp only; omega) (by dsimp only; omega) ?_
  refine nW.cast ?_ rfl rfl (eUp_c (by decide)) rfl
  refine nt_putF B hin (ci := 9) (f := 2) (show decode cX10_init 27 = .ok (.putfield 20, 3) by decide +kernel) (by decide +kernel) (fun q h => by cases h; exact ⟨rfl, rfl⟩) rfl ?_
  refine nd_aload_n B (show decode cX10_init 30 = .ok (.aload_n 0, 1) by decide +kernel) rfl ?_
  refine nd_sipush B (show decode cX10_init 31 = .ok (.sipush 602, 3) by decide +kernel) (by decide) ?_
  refine nd_newa B hF hA (t := 0) (v := eI 0) (a := (1, 3)) (show decode cX10_init 34 = .ok (.newarray .int, 2) by decide +kernel) rfl rfl (fun C h => by cases h) (gW_at 136 (by decide +kernel) rfl) (N := 602) (by decide +kernel) (by decide +kernel) (Nat.le_of_ble_eq_true rfl) (by rfl) ((h2 3 (1, 3) rfl).trans (by omega)) (by dsimp only; omega) (by dsimp only; omega) ?_
  refine nW.cast ?_ rfl rfl (eUp_c (by decide)) rfl
  refine nt_putF B hin (ci := 9) (f := 3) (show decode cX10_init 36 = .ok (.putfield 23, 3) by decide +kernel) (by decide +kernel) (fun q h => by cases h; exact ⟨rfl, rfl⟩) rfl ?_
  refine nd_aload_n B (show decode cX10_init 39 = .ok (.aload_n 0, 1) by decide +kernel) rfl ?_
  refine nd_bipush B (show decode cX10_init 40 = .ok (.bipush 24, 2) by decide +kernel) (by decide) ?_
  refine nd_newa B hF hA (t := 0) (v := eI 0) (a := (1, 4)) (show decode cX10_init 42 = .ok (.newarray .int, 2) by decide +kernel) rfl rfl (fun C h => by cases h) (gW_at 136 (by decide +kernel) rfl) (N := 24) (by decide +kernel) (by decide +kernel) (Nat.le_of_ble_eq_true rfl) (by rfl) ((h2 4 (1, 4) rfl).trans (by omega)) (by dsimp only; omega) (by dsimp only; omega) ?_
  refine nW.cast ?_ rfl rfl (eUp_c (by decide)) rfl
  refine nt_putF B hin (ci := 9) (f := 4) (show decode cX10_init 44 = .ok (.putfield 26, 3) by decide +kernel) (by decide +kernel) (fun q h => by cases h; exact ⟨rfl, rfl⟩) rfl ?_
  refine nd_aload_n B (show decode cX10_init 47 = .ok (.aload_n 0, 1) by decide +kernel) rfl ?_
  refine nd_bipush B (show decode cX10_init 48 = .ok (.bipush 6, 2) by decide +kernel) (by decide) ?_
  refine nd_newa B hF hA (t := 0) (v := eI 0) (a := (1, 5)) (show decode cX10_init 50 = .ok (.newarray .int, 2) by decide +kernel) rfl rfl (fun C h => by cases h) (gW_at 136 (by decide +kernel) rfl) (N := 6) (by decide +kernel) (by decide +kernel) (Nat.le_of_ble_eq_true rfl) (by rfl) ((h2 5 (1, 5) rfl).trans (by omega)) (by dsimp only; omega) (by dsimp only; omega) ?_
  refine nW.cast ?_ rfl rfl (eUp_c (by decide)) rfl
  refine nt_putF B hin (ci := 9) (f := 5) (show decode cX10_init 52 = .ok (.putfield 29, 3) by decide +kernel) (by decide +kernel) (fun q h => by cases h; exact ⟨rfl, rfl⟩) rfl ?_
  refine nd_aload_n B (show decode cX10_init 55 = .ok (.aload_n 0, 1) by decide +kernel) rfl ?_
  refine nd_bipush B (show decode cX10_init 56 = .ok (.bipush 24, 2) by decide +kernel) (by decide) ?_
  refine nd_newa B hF hA (t := 0) (v := eI 0) (a := (1, 7)) (show decode cX10_init 58 = .ok (.newarray .int, 2) by decide +kernel) rfl rfl (fun C h => by cases h) (gW_at 136 (by decide +kernel) rfl) (N := 24) (by decide +kernel) (by decide +kernel) (Nat.le_of_ble_eq_true rfl) (by rfl) ((h2 6 (1, 7) rfl).trans (by omega)) (by dsimp only; omega) (by dsimp only; omega) ?_
  refine nW.cast ?_ rfl rfl (eUp_c (by decide)) rfl
  refine nt_putF B hin (ci := 9) (f := 7) (show decode cX10_init 60 = .ok (.putfield 32, 3) by decide +kernel) (by decide +kernel) (fun q h => by cases h; exact ⟨rfl, rfl⟩) rfl ?_
  refine nd_aload_n B (show decode cX10_init 63 = .ok (.aload_n 0, 1) by decide +kernel) rfl ?_
  refine nd_bipush B (show decode cX10_init 64 = .ok (.bipush 6, 2) by decide +kernel) (by decide) ?_
  refine nd_newa B hF hA (t := 0) (v := eI 0) (a := (1, 8)) (show decode cX10_init 66 = .ok (.newarray .int, 2) by decide +kernel) rfl rfl (fun C h => by cases h) (gW_at 136 (by decide +kernel) rfl) (N := 6) (by decide +kernel) (by decide +kernel) (Nat.le_of_ble_eq_true rfl) (by rfl) ((h2 7 (1, 8) rfl).trans (by omega)) (by dsimp only; omega) (by dsimp only; omega) ?_
  refine nW.cast ?_ rfl rfl (eUp_c (by decide)) rfl
  refine nt_putF B hin (ci := 9) (f := 8) (show decode cX10_init 68 = .ok (.putfield 35, 3) by decide +kernel) (by decide +kernel) (fun q h => by cases h; exact ⟨rfl, rfl⟩) rfl ?_
  refine nd_aload_n B (show decode cX10_init 71 = .ok (.aload_n 0, 1) by decide +kernel) rfl ?_
  refine nd_iconst B (show decode cX10_init 72 = .ok (.iconst (-1), 1) by decide +kernel) ?_
  refine nt_putI B (ci := 9) (f := 9) (show decode cX10_init 73 = .ok (.putfield 38, 3) by decide +kernel) (by decide +kernel) (by decide +kernel) ?_
  refine nd_aload_n B (show decode cX10_init 76 = .ok (.aload_n 0, 1) by decide +kernel) rfl ?_
  refine nd_iconst B (show decode cX10_init 77 = .ok (.iconst (-1), 1) by decide +kernel) ?_
  refine nt_putI B (ci := 9) (f := 10) (show decode cX10_init 78 = .ok (.putfield 42, 3) by decide +kernel) (by decide +kernel) (by decide +kernel) ?_
  refine nd_aload_n B (show decode cX10_init 81 = .ok (.aload_n 0, 1) by decide +kernel) rfl ?_
  refine nd_bipush B (show decode cX10_init 82 = .ok (.bipush 45, 2) by decide +kernel) (by decide) ?_
  refine nd_newa B hF hA (t := 2) (v := eI 0) (a := (1, 15)) (show decode cX10_init 84 = .ok (.newarray .boolean, 2) by decide +kernel) rfl rfl (fun C h => by cases h) (gW_at 206 (by decide +kernel) rfl) (N := 45) (by decide +kernel) (by decide +kernel) (Nat.le_of_ble_eq_true rfl) (by rfl) ((h2 8 (1, 15) rfl).trans (by omega)) (by dsimp only; omega) (by dsimp only; omega) ?_
  refine nW.cast ?_ rfl rfl (eUp_c (by decide)) rfl
  refine nt_putF B hin (ci := 9) (f := 15) (show decode cX10_init 86 = .ok (.putfield 45, 3) by decide +kernel) (by decide +kernel) (fun q h => by cases h; exact ⟨rfl, rfl⟩) rfl ?_
  refine nd_aload_n B (show decode cX10_init 89 = .ok (.aload_n 0, 1) by decide +kernel) rfl ?_
  refine nd_bipush B (show decode cX10_init 90 = .ok (.bipush 45, 2) by decide +kernel) (by decide) ?_
  refine nd_newa B hF hA (t := 0) (v := eI 0) (a := (1, 16)) (show decode cX10_init 92 = .ok (.newarray .int, 2) by decide +kernel) rfl rfl (fun C h => by cases h) (gW_at 136 (by decide +kernel) rfl) (N := 45) (by decide +kernel) (by decide +kernel) (Nat.le_of_ble_eq_true rfl) (by rfl) ((h2 9 (1, 16) rfl).trans (by omega)) (by dsimp only; omega) (by dsimp only; omega) ?_
  refine nW.cast ?_ rfl rfl (eUp_c (by decide)) rfl
  refine nt_putF B hin (ci := 9) (f := 16) (show decode cX10_init 94 = .ok (.putfield 49, 3) by decide +kernel) (by decide +kernel) (fun q h => by cases h; exact ⟨rfl, rfl⟩) rfl ?_
  refine nd_aload_n B (show decode cX10_init 97 = .ok (.aload_n 0, 1) by decide +kernel) rfl ?_
  refine nd_bipush B (show decode cX10_init 98 = .ok (.bipush 6, 2) by decide +kernel) (by decide) ?_
  refine nd_newa B hF hA (t := 0) (v := eI 0) (a := (1, 18)) (show decode cX10_init 100 = .ok (.newarray .int, 2) by decide +kernel) rfl rfl (fun C h => by cases h) (gW_at 136 (by decide +kernel) rfl) (N := 6) (by decide +kernel) (by decide +kernel) (Nat.le_of_ble_eq_true rfl) (by rfl) ((h2 10 (1, 18) rfl).trans (by omega)) (by dsimp only; omega) (by dsimp only; omega) ?_
  refine nW.cast ?_ rfl rfl (eUp_c (by decide)) rfl
  refine nt_putF B hin (ci := 9) (f := 18) (show decode cX10_init 102 = .ok (.putfield 52, 3) by decide +kernel) (by decide +kernel) (fun q h => by cases h; exact ⟨rfl, rfl⟩) rfl ?_
  refine nd_aload_n B (show decode cX10_init 105 = .ok (.aload_n 0, 1) by decide +kernel) rfl ?_
  refine nd_iconst B (show decode cX10_init 106 = .ok (.iconst 3, 1) by decide +kernel) ?_
  refine nd_newa B hF hA (t := 0) (v := eI 0) (a := (1, 20)) (show decode cX10_init 107 = .ok (.newarray .int, 2) by decide +kernel) rfl rfl (fun C h => by cases h) (gW_at 136 (by decide +kernel) rfl) (N := 3) (by decide +kernel) (by decide +kernel) (Nat.le_of_ble_eq_true rfl) (by rfl) ((h2 11 (1, 20) rfl).trans (by omega)) (by dsimp only; omega) (by dsimp only; omega) ?_
  refine nW.cast ?_ rfl rfl (eUp_c (by decide)) rfl
  refine nt_putF B hin (ci := 9) (f := 20) (show decode cX10_init 109 = .ok (.putfield 55, 3) by decide +kernel) (by decide +kernel) (fun q h => by cases h; exact ⟨rfl, rfl⟩) rfl ?_
  refine nd_aload_n B (show decode cX10_init 112 = .ok (.aload_n 0, 1) by decide +kernel) rfl ?_
  refine nd_iconst B (show decode cX10_init 113 = .ok (.iconst 3, 1) by decide +kernel) ?_
  refine nd_newa B hF hA (t := 0) (v := eI 0) (a := (1, 21)) (show decode cX10_init 114 = .ok (.newarray .int, 2) by decide +kernel) rfl rfl (fun C h => by cases h) (gW_at 136 (by decide +kernel) rfl) (N := 3) (by decide +kernel) (by decide +kernel) (Nat.le_of_ble_eq_true rfl) (by rfl) ((h2 12 (1, 21) rfl).trans (by omega)) (by dsimp only; omega) (by dsimp only; omega) ?_
  refine nW.cast ?_ rfl rfl (eUp_c (by decide)) rfl
  refine nt_putF B hin (ci := 9) (f := 21) (show decode cX10_init 116 = .ok (.putfield 58, 3) by decide +kernel) (by decide +kernel) (fun q h => by cases h; exact ⟨rfl, rfl⟩) rfl ?_
  exact nd_ret B hr hlk (show decode cX10_init 119 = .ok (.return_, 1) by decide +kernel)
