/-! A Whole that is 0 becomes 1; the desk; a problem. -/
theorem px_I {X : eM} {a : eA} {fs : List eV} {x : Option (Nat × Nat)} {ci f : Nat} {z : Int} {g : eM → Prop} (hT : x = some (ci, f)) (hk : fK ci f = some 0) (h : g (eUp X a (.inl (ci, uV fs f (eI z))))) : pF (eUp X a (.inl (ci, fs))) a x z g := by
  unfold pF
  rw [eUp_s, hT]
  refine ⟨rfl, by rw [hk]; trivial, ?_⟩
  rw [eUp_u]
  exact h
theorem gx_I {X : eM} {a : eA} {fs : List eV} {x : Option (Nat × Nat)} {ci f : Nat} {v : eV} {g : eV → Prop} (hT : x = some (ci, f)) (hv : nV fs f = some v) (h : g v) : gF (eUp X a (.inl (ci, fs))) a x g := by
  unfold gF
  rw [eUp_s, hT]
  refine ⟨rfl, ?_⟩
  rw [hv]
  exact h
theorem py_I {X : eM} {a b : eA} {o : eC} {t n : Nat} {f : Int → eV} {i : Int} {v : eV} {g : eM → Prop} (hab : a ≠ b) (hi : 0 ≤ i ∧ i < (n : Int) ∧ n ≤ 2147483647) (h : g (eUp (eUp X b (.inr (t, n, fUp f i v))) a o)) : pY (eUp (eUp X b (.inr (t, n, f))) a o) b t i v g := by
  unfold pY
  rw [eUp_n (fun e => hab e.symm), eUp_s]
  refine ⟨rfl, hi, ?_⟩
  rw [eUp_c hab, eUp_u]
  exact h
/-- a Whole that is 1 -/
def wo (M : eM) (k : Nat) : eM := eUp (eUp M (3, k) (eY 0 (lw k) (fUp (fun _ => eI 0) 0 (eI 1)))) (2, k) (eO 7 [eR (3, k), eI 1, eI 1])
theorem gN_I {X : eM} {a b : eA} {o : eC} {t n : Nat} {f : Int → eV} {g : Int → Prop} (hab : a ≠ b) (h1 : t ≤ 6) (h2 : n ≤ 2147483647) (h : g (n : Int)) : gN (eUp (eUp X b (.inr (t, n, f))) a o) b g := by
  unfold gN
  rw [eUp_n (fun e => hab e.symm), eUp_s]
  exact ⟨h1, h2, h⟩
def SX8_one : eSp := fun as M rt => ∃ (M0 : eM) (k : Nat), as = [eR (2, k), eL 1] ∧ M = wh M0 k ∧ rt none (wo M0 k)
set_option maxRecDepth 100000 in
set_option maxRecDepth 100000 in
set_option maxHeartbeats 4000000 in
theorem sX8_one : eSafe TX8_set (cdOf kX8_set) 8 none SX8_one := by
  rintro K rt hK as M ⟨M0, k, rfl, rfl, hrt⟩
  refine ⟨by show 3 ≤ 8; decide, ?_⟩
  have hL := lw_b k
  unfold wh
  unfold wo at hrt
  revert hL hrt
  generalize lw k = L
  intro hrt hL
  have hL1 : L ≤ 2147483647 := by omega
  have hL2 : w32 (L : Int) := by unfold w32; omega
  refine x_lload_n hK kX8_set_0 rfl rfl ?_
  refine x_lstore_n hK kX8_set_1 rfl rfl ?_
  refine x_aload_n hK kX8_set_2 rfl rfl ?_
  refine x_iconst hK kX8_set_3 rfl ?_
  refine x_putfield hK kX8_set_4 rfl (px_I (ci := 7) (f := 1) (by decide +kernel) (by decide +kernel) ?_)
  refine x_aload_n hK kX8_set_7 rfl rfl ?_
  refine x_lload_n hK kX8_set_8 rfl rfl ?_
  refine x_lconst0 hK kX8_set_9 rfl ?_
  refine x_lcmp hK kX8_set_10 rfl (by decide) ?_
  refine x_if_le hK kX8_set_11 rfl rfl (by decide) (fun h => absurd h (by decide)) (fun _ => ?_)
  refine x_iconst hK kX8_set_14 rfl ?_
  refine x_goto hK kX8_set_15 rfl ?_
  refine x_putfield hK kX8_set_29 rfl (px_I (ci := 7) (f := 2) (by decide +kernel) (by decide +kernel) ?_)
  refine x_iconst hK kX8_set_32 rfl ?_
  refine x_istore hK kX8_set_33 rfl ?_
  refine x_iload hK kX8_set_35 rfl rfl ?_
  refine x_iconst hK kX8_set_37 rfl ?_
  refine x_icmp_ge hK kX8_set_38 rfl rfl (by decide) (fun h => absurd h (by decide)) (fun _ => ?_)
  refine x_iload hK kX8_set_41 rfl rfl ?_
  refine x_aload_n hK kX8_set_43 rfl rfl ?_
  refine x_getfield hK kX8_set_44 rfl (gx_I (ci := 7) (f := 0) (by decide +kernel) rfl ?_)
  refine x_arraylength hK kX8_set_47 rfl (gN_I (ne_23 k k) (by decide) hL1 ?_)
  refine x_icmp_ge hK kX8_set_48 rfl rfl ⟨by decide, hL2⟩ (fun h => absurd h (by omega)) (fun _ => ?_)
  refine x_lload_n hK kX8_set_51 rfl rfl ?_
  refine x_lconst0 hK kX8_set_52 rfl ?_
  refine x_lcmp hK kX8_set_53 rfl (by decide) ?_
  refine x_if_eq hK kX8_set_54 rfl rfl (by decide) (fun h => absurd h (by decide)) (fun _ => ?_)
  refine x_lload_n hK kX8_set_57 rfl rfl ?_
  refine x_ldc2_w (z := 2147483648) hK kX8_set_58 rfl (by decide +kernel) ?_
  refine x_lrem hK kX8_set_61 rfl (by decide) ?_
  refine x_lstore hK kX8_set_62 rfl ?_
  refine x_aload_n hK kX8_set_64 rfl rfl ?_
  refine x_getfield hK kX8_set_65 rfl (gx_I (ci := 7) (f := 0) (by decide +kernel) rfl ?_)
  refine x_iload hK kX8_set_68 rfl rfl ?_
  refine x_lload hK kX8_set_70 rfl rfl ?_
  refine x_lconst0 hK kX8_set_72 rfl ?_
  refine x_lcmp hK kX8_set_73 rfl (by decide) ?_
  refine x_if_ge hK kX8_set_74 rfl rfl (by decide) (fun _ => ?_) (fun h => absurd (by decide) h)
  refine x_lload hK kX8_set_83 rfl rfl ?_
  refine x_l2i hK kX8_set_85 rfl ?_
  refine x_iastore hK kX8_set_86 rfl (py_I (ne_23 k k) ⟨by omega, by omega, hL1⟩ ?_)
  refine x_lload_n hK kX8_set_87 rfl rfl ?_
  refine x_ldc2_w (z := 2147483648) hK kX8_set_88 rfl (by decide +kernel) ?_
  refine x_ldiv hK kX8_set_91 rfl (by decide) ?_
  refine x_lstore_n hK kX8_set_92 rfl rfl ?_
  refine x_aload_n hK kX8_set_93 rfl rfl ?_
  refine x_iload hK kX8_set_94 rfl rfl ?_
  refine x_iconst hK kX8_set_96 rfl ?_
  refine x_iadd hK kX8_set_97 rfl ?_
  refine x_putfield hK kX8_set_98 rfl (px_I (ci := 7) (f := 1) (by decide +kernel) (by decide +kernel) ?_)
  refine x_iinc hK kX8_set_101 rfl rfl ?_
  refine x_goto hK kX8_set_104 rfl ?_
  refine x_iload hK kX8_set_35 rfl rfl ?_
  refine x_iconst hK kX8_set_37 rfl ?_
  refine x_icmp_ge hK kX8_set_38 rfl rfl (by decide) (fun h => absurd h (by decide)) (fun _ => ?_)
  refine x_iload hK kX8_set_41 rfl rfl ?_
  refine x_aload_n hK kX8_set_43 rfl rfl ?_
  refine x_getfield hK kX8_set_44 rfl (gx_I (ci := 7) (f := 0) (by decide +kernel) rfl ?_)
  refine x_arraylength hK kX8_set_47 rfl (gN_I (ne_23 k k) (by decide) hL1 ?_)
  refine x_icmp_ge hK kX8_set_48 rfl rfl ⟨by decide, hL2⟩ (fun h => absurd h (by omega)) (fun _ => ?_)
  refine x_lload_n hK kX8_set_51 rfl rfl ?_
  refine x_lconst0 hK kX8_set_52 rfl ?_
  refine x_lcmp hK kX8_set_53 rfl (by decide) ?_
  refine x_if_eq hK kX8_set_54 rfl rfl (by decide) (fun _ => ?_) (fun h => absurd (by decide) h)
  exact x_return_ hK kX8_set_107 trivial hrt
theorem mX8_one : eMet yX8_set cX8_set 8 none 0 0 SX8_one := eMet_of (by decide +kernel) sX8_one kX8_set_ok caX8_set tb_RX8
theorem wX8_one : eWV yX8_set cX8_set 8 none 2 7 SX8_one := ⟨(gW_at 260 (by decide +kernel) rfl), (gW_at 81 (by decide +kernel) rfl), (gW_at 258 (by decide +kernel) rfl), ⟨_, rfl, (gW_at 259 (by decide +kernel) rfl)⟩, by decide +kernel, by
  rintro as M rt ⟨M0, k, rfl, rfl, -⟩
  exact ⟨_, _, _, rfl, eUp_s⟩⟩

theorem wh_d {X : eM} {a : eA} {o w : eC} {k : Nat} (h2 : a ≠ (2, k)) (h3 : a ≠ (3, k)) : eUp (wh X k) a o = wh (eUp (eUp X a o) (2, k) w) k := by
  funext x
  unfold wh eUp
  by_cases e1 : x = a <;> by_cases e2 : x = (2, k) <;> by_cases e3 : x = (3, k) <;> simp_all
def deO : eC := eO 1 [eR (2, 0), eR (2, 1), eR (2, 2), eR (2, 3), eR (2, 4), eR (2, 5), eR (2, 6), eR (2, 7), eR (2, 8), eR (2, 9)]
def sp1 : nSp := fun G sz as M M' => as = [eR (1, 2)] ∧ M (1, 2) = some (eO 1 [eN, eN, eN, eN, eN, eN, eN, eN, eN, eN]) ∧ (∀ j, j < 10 → G.2.2 (2, j) = sz + 2 * j ∧ G.2.2 (3, j) = sz + 2 * j + 1) ∧ M' = eUp (whs M 0 10) (1, 2) deO
set_option maxRecDepth 100000 in
theorem c1_init : nMet yX1_init cX1_init 1 2 42 20 670 sp1 := by
  refine nMet_of (T := (fl_RX1, cl_RX1, dl_RX1, fun _ => none, fun _ => none)) (by decide) rfl tb_RX1 ?_
  rintro p l e s m below meth c G A as M M' B hF hA hin hr hlk ⟨rfl, h1, h2, rfl⟩
  refine ⟨Nat.le_refl 1, ?_⟩
  refine nd_aload_n B (show decode cX1_init 0 = .ok (.aload_n 0, 1) by decide +kernel) rfl ?_
  refine nd_obj B (show decode cX1_init 1 = .ok (.invokespecial 3, 3) by decide +kernel) (gW_at 111 (by decide +kernel) rfl) (gW_at 104 (by decide +kernel) rfl) (gW_at 105 (by decide +kernel) rfl) (Nat.le_of_ble_eq_true rfl) (Nat.le_of_ble_eq_true rfl) ?_
  refine (nW.cast (M' := eUp (whs M 0 0) (1, 2) (eO 1 [eN, eN, eN, eN, eN, eN, eN, eN, eN, eN])) ?_ rfl rfl (eUp_id h1) rfl)
  refine nd_aload_n B (show decode cX1_init 4 = .ok (.aload_n 0, 1) by decide +kernel) rfl ?_
  refine nt_new B hA (ci := 7) (N := 3) (a := (2, 0)) (show decode cX1_init 5 = .ok (.new 9, 3) by decide +kernel) rfl rfl (gW_at 112 (by decide +kernel) rfl) (gW_at 113 (by decide +kernel) rfl) (gW_at 81 (by decide +kernel) rfl) (by decide +kernel) ((h2 0 (by decide)).1.trans (by omega)) (by dsimp only; omega) (by dsimp only; omega) ?_
  refine nd_dup B (show decode cX1_init 8 = .ok (.dup, 1) by decide +kernel) (fun w h => by cases h) ?_
  refine nd_bipush B (show decode cX1_init 9 = .ok (.bipush 64, 2) by decide +kernel) (by decide) ?_
  refine nd_callI B hF hA (as := [eI 64]) (M' := _) (c8_init (L := 64) (by decide)) (gW_at 116 (by decide +kernel) rfl) (gW_at 81 (by decide +kernel) rfl) (gW_at 115 (by decide +kernel) rfl) (Or.inl (gW_at 114 (by decide +kernel) rfl)) rfl ⟨by decide, by decide, by decide +kernel⟩ ⟨Nat.le_of_ble_eq_true rfl, Nat.le_of_ble_eq_true rfl⟩ (show decode cX1_init 11 = .ok (.invokespecial 11, 3) by decide +kernel) rfl (Nat.le_of_ble_eq_true rfl) ⟨0, lw_d (by decide), rfl, eUp_s, (h2 0 (by decide)).2.trans (by omega), wh_d (by decide) (by decide)⟩ (by dsimp only; omega) (by dsimp only; omega) ?_
  refine nt_putF B hin (ci := 1) (f := 0) (show decode cX1_init 14 = .ok (.putfield 14, 3) by decide +kernel) (by decide +kernel) (fun q h => by cases h; exact ⟨rfl, rfl⟩) rfl ?_
  refine nd_aload_n B (show decode cX1_init 17 = .ok (.aload_n 0, 1) by decide +kernel) rfl ?_
  refine nt_new B hA (ci := 7) (N := 3) (a := (2, 1)) (show decode cX1_init 18 = .ok (.new 9, 3) by decide +kernel) rfl rfl (gW_at 112 (by decide +kernel) rfl) (gW_at 113 (by decide +kernel) rfl) (gW_at 81 (by decide +kernel) rfl) (by decide +kernel) ((h2 1 (by decide)).1.trans (by omega)) (by dsimp only; omega) (by dsimp only; omega) ?_
  refine nd_dup B (show decode cX1_init 21 = .ok (.dup, 1) by decide +kernel) (fun w h => by cases h) ?_
  refine nd_bipush B (show decode cX1_init 22 = .ok (.bipush 64, 2) by decide +kernel) (by decide) ?_
  refine nd_callI B hF hA (as := [eI 64]) (M' := _) (c8_init (L := 64) (by decide)) (gW_at 116 (by decide +kernel) rfl) (gW_at 81 (by decide +kernel) rfl) (gW_at 115 (by decide +kernel) rfl) (Or.inl (gW_at 114 (by decide +kernel) rfl)) rfl ⟨by decide, by decide, by decide +kernel⟩ ⟨Nat.le_of_ble_eq_true rfl, Nat.le_of_ble_eq_true rfl⟩ (show decode cX1_init 24 = .ok (.invokespecial 11, 3) by decide +kernel) rfl (Nat.le_of_ble_eq_true rfl) ⟨1, lw_d (by decide), rfl, eUp_s, (h2 1 (by decide)).2.trans (by omega), wh_d (by decide) (by decide)⟩ (by dsimp only; omega) (by dsimp only; omega) ?_
  refine nt_putF B hin (ci := 1) (f := 1) (show decode cX1_init 27 = .ok (.putfield 20, 3) by decide +kernel) (by decide +kernel) (fun q h => by cases h; exact ⟨rfl, rfl⟩) rfl ?_
  refine nd_aload_n B (show decode cX1_init 30 = .ok (.aload_n 0, 1) by decide +kernel) rfl ?_
  refine nt_new B hA (ci := 7) (N := 3) (a := (2, 2)) (show decode cX1_init 31 = .ok (.new 9, 3) by decide +kernel) rfl rfl (gW_at 112 (by decide +kernel) rfl) (gW_at 113 (by decide +kernel) rfl) (gW_at 81 (by decide +kernel) rfl) (by decide +kernel) ((h2 2 (by decide)).1.trans (by omega)) (by dsimp only; omega) (by dsimp only; omega) ?_
  refine nd_dup B (show decode cX1_init 34 = .ok (.dup, 1) by decide +kernel) (fun w h => by cases h) ?_
  refine nd_bipush B (show decode cX1_init 35 = .ok (.bipush 64, 2) by decide +kernel) (by decide) ?_
  refine nd_callI B hF hA (as := [eI 64]) (M' := _) (c8_init (L := 64) (by decide)) (gW_at 116 (by decide +kernel) rfl) (gW_at 81 (by decide +kernel) rfl) (gW_at 115 (by decide +kernel) rfl) (Or.inl (gW_at 114 (by decide +kernel) rfl)) rfl ⟨by decide, by decide, by decide +kernel⟩ ⟨Nat.le_of_ble_eq_true rfl, Nat.le_of_ble_eq_true rfl⟩ (show decode cX1_init 37 = .ok (.invokespecial 11, 3) by decide +kernel) rfl (Nat.le_of_ble_eq_true rfl) ⟨2, lw_d (by decide), rfl, eUp_s, (h2 2 (by decide)).2.trans (by omega), wh_d (by decide) (by decide)⟩ (by dsimp only; omega) (by dsimp only; omega) ?_
  refine nt_putF B hin (ci := 1) (f := 2) (show decode cX1_init 40 = .ok (.putfield 23, 3) by decide +kernel) (by decide +kernel) (fun q h => by cases h; exact ⟨rfl, rfl⟩) rfl ?_
  refine nd_aload_n B (show decode cX1_init 43 = .ok (.aload_n 0, 1) by decide +kernel) rfl ?_
  refine nt_new B hA (ci := 7) (N := 3) (a := (2, 3)) (show decode cX1_init 44 = .ok (.new 9, 3) by decide +kernel) rfl rfl (gW_at 112 (by decide +kernel) rfl) (gW_at 113 (by decide +kernel) rfl) (gW_at 81 (by decide +kernel) rfl) (by decide +kernel) ((h2 3 (by decide)).1.trans (by omega)) (by dsimp only; omega) (by dsimp only; omega) ?_
  refine nd_dup B (show decode cX1_init 47 = .ok (.dup, 1) by decide +kernel) (fun w h => by cases h) ?_
  refine nd_bipush B (show decode cX1_init 48 = .ok (.bipush 64, 2) by decide +kernel) (by decide) ?_
  refine nd_callI B hF hA (as := [eI 64]) (M' := _) (c8_init (L := 64) (by decide)) (gW_at 116 (by decide +kernel) rfl) (gW_at 81 (by decide +kernel) rfl) (gW_at 115 (by decide +kernel) rfl) (Or.inl (gW_at 114 (by decide +kernel) rfl)) rfl ⟨by decide, by decide, by decide +kernel⟩ ⟨Nat.le_of_ble_eq_true rfl, Nat.le_of_ble_eq_true rfl⟩ (show decode cX1_init 50 = .ok (.invokespecial 11, 3) by decide +kernel) rfl (Nat.le_of_ble_eq_true rfl) ⟨3, lw_d (by decide), rfl, eUp_s, (h2 3 (by decide)).2.trans (by omega), wh_d (by decide) (by decide)⟩ (by dsimp only; omega) (by dsimp only; omega) ?_
  refine nt_putF B hin (ci := 1) (f := 3) (show decode cX1_init 53 = .ok (.putfield 26, 3) by decide +kernel) (by decide +kernel) (fun q h => by cases h; exact ⟨rfl, rfl⟩) rfl ?_
  refine nd_aload_n B (show decode cX1_init 56 = .ok (.aload_n 0, 1) by decide +kernel) rfl ?_
  refine nt_new B hA (ci := 7) (N := 3) (a := (2, 4)) (show decode cX1_init 57 = .ok (.new 9, 3) by decide +kernel) rfl rfl (gW_at 112 (by decide +kernel) rfl) (gW_at 113 (by decide +kernel) rfl) (gW_at 81 (by decide +kernel) rfl) (by decide +kernel) ((h2 4 (by decide)).1.trans (by omega)) (by dsimp only; omega) (by dsimp only; omega) ?_
  refine nd_dup B (show decode cX1_init 60 = .ok (.dup, 1) by decide +kernel) (fun w h => by cases h) ?_
  refine nd_bipush B (show decode cX1_init 61 = .ok (.bipush 64, 2) by decide +kernel) (by decide) ?_
  refine nd_callI B hF hA (as := [eI 64]) (M' := _) (c8_init (L := 64) (by decide)) (gW_at 116 (by decide +kernel) rfl) (gW_at 81 (by decide +kernel) rfl) (gW_at 115 (by decide +kernel) rfl) (Or.inl (gW_at 114 (by decide +kernel) rfl)) rfl ⟨by decide, by decide, by decide +kernel⟩ ⟨Nat.le_of_ble_eq_true rfl, Nat.le_of_ble_eq_true rfl⟩ (show decode cX1_init 63 = .ok (.invokespecial 11, 3) by decide +kernel) rfl (Nat.le_of_ble_eq_true rfl) ⟨4, lw_d (by decide), rfl, eUp_s, (h2 4 (by decide)).2.trans (by omega), wh_d (by decide) (by decide)⟩ (by dsimp only; omega) (by dsimp only; omega) ?_
  refine nt_putF B hin (ci := 1) (f := 4) (show decode cX1_init 66 = .ok (.putfield 29, 3) by decide +kernel) (by decide +kernel) (fun q h => by cases h; exact ⟨rfl, rfl⟩) rfl ?_
  refine nd_aload_n B (show decode cX1_init 69 = .ok (.aload_n 0, 1) by decide +kernel) rfl ?_
  refine nt_new B hA (ci := 7) (N := 3) (a := (2, 5)) (show decode cX1_init 70 = .ok (.new 9, 3) by decide +kernel) rfl rfl (gW_at 112 (by decide +kernel) rfl) (gW_at 113 (by decide +kernel) rfl) (gW_at 81 (by decide +kernel) rfl) (by decide +kernel) ((h2 5 (by decide)).1.trans (by omega)) (by dsimp only; omega) (by dsimp only; omega) ?_
  refine nd_dup B (show decode cX1_init 73 = .ok (.dup, 1) by decide +kernel) (fun w h => by cases h) ?_
  refine nd_bipush B (show decode cX1_init 74 = .ok (.bipush 64, 2) by decide +kernel) (by decide) ?_
  refine nd_callI B hF hA (as := [eI 64]) (M' := _) (c8_init (L := 64) (by decide)) (gW_at 116 (by decide +kernel) rfl) (gW_at 81 (by decide +kernel) rfl) (gW_at 115 (by decide +kernel) rfl) (Or.inl (gW_at 114 (by decide +kernel) rfl)) rfl ⟨by decide, by decide, by decide +kernel⟩ ⟨Nat.le_of_ble_eq_true rfl, Nat.le_of_ble_eq_true rfl⟩ (show decode cX1_init 76 = .ok (.invokespecial 11, 3) by decide +kernel) rfl (Nat.le_of_ble_eq_true rfl) ⟨5, lw_d (by decide), rfl, eUp_s, (h2 5 (by decide)).2.trans (by omega), wh_d (by decide) (by decide)⟩ (by dsimp only; omega) (by dsimp only; omega) ?_
  refine nt_putF B hin (ci := 1) (f := 5) (show decode cX1_init 79 = .ok (.putfield 32, 3) by decide +kernel) (by decide +kernel) (fun q h => by cases h; exact ⟨rfl, rfl⟩) rfl ?_
  refine nd_aload_n B (show decode cX1_init 82 = .ok (.aload_n 0, 1) by decide +kernel) rfl ?_
  refine nt_new B hA (ci := 7) (N := 3) (a := (2, 6)) (show decode cX1_init 83 = .ok (.new 9, 3) by decide +kernel) rfl rfl (gW_at 112 (by decide +kernel) rfl) (gW_at 113 (by decide +kernel) rfl) (gW_at 81 (by decide +kernel) rfl) (by decide +kernel) ((h2 6 (by decide)).1.trans (by omega)) (by dsimp only; omega) (by dsimp only; omega) ?_
  refine nd_dup B (show decode cX1_init 86 = .ok (.dup, 1) by decide +kernel) (fun w h => by cases h) ?_
  refine nd_bipush B (show decode cX1_init 87 = .ok (.bipush 64, 2) by decide +kernel) (by decide) ?_
  refine nd_callI B hF hA (as := [eI 64]) (M' := _) (c8_init (L := 64) (by decide)) (gW_at 116 (by decide +kernel) rfl) (gW_at 81 (by decide +kernel) rfl) (gW_at 115 (by decide +kernel) rfl) (Or.inl (gW_at 114 (by decide +kernel) rfl)) rfl ⟨by decide, by decide, by decide +kernel⟩ ⟨Nat.le_of_ble_eq_true rfl, Nat.le_of_ble_eq_true rfl⟩ (show decode cX1_init 89 = .ok (.invokespecial 11, 3) by decide +kernel) rfl (Nat.le_of_ble_eq_true rfl) ⟨6, lw_d (by decide), rfl, eUp_s, (h2 6 (by decide)).2.trans (by omega), wh_d (by decide) (by decide)⟩ (by dsimp only; omega) (by dsimp only; omega) ?_
  refine nt_putF B hin (ci := 1) (f := 6) (show decode cX1_init 92 = .ok (.putfield 35, 3) by decide +kernel) (by decide +kernel) (fun q h => by cases h; exact ⟨rfl, rfl⟩) rfl ?_
  refine nd_aload_n B (show decode cX1_init 95 = .ok (.aload_n 0, 1) by decide +kernel) rfl ?_
  refine nt_new B hA (ci := 7) (N := 3) (a := (2, 7)) (show decode cX1_init 96 = .ok (.new 9, 3) by decide +kernel) rfl rfl (gW_at 112 (by decide +kernel) rfl) (gW_at 113 (by decide +kernel) rfl) (gW_at 81 (by decide +kernel) rfl) (by decide +kernel) ((h2 7 (by decide)).1.trans (by omega)) (by dsimp only; omega) (by dsimp only; omega) ?_
  refine nd_dup B (show decode cX1_init 99 = .ok (.dup, 1) by decide +kernel) (fun w h => by cases h) ?_
  refine nd_bipush B (show decode cX1_init 100 = .ok (.bipush 64, 2) by decide +kernel) (by decide) ?_
  refine nd_callI B hF hA (as := [eI 64]) (M' := _) (c8_init (L := 64) (by decide)) (gW_at 116 (by decide +kernel) rfl) (gW_at 81 (by decide +kernel) rfl) (gW_at 115 (by decide +kernel) rfl) (Or.inl (gW_at 114 (by decide +kernel) rfl)) rfl ⟨by decide, by decide, by decide +kernel⟩ ⟨Nat.le_of_ble_eq_true rfl, Nat.le_of_ble_eq_true rfl⟩ (show decode cX1_init 102 = .ok (.invokespecial 11, 3) by decide +kernel) rfl (Nat.le_of_ble_eq_true rfl) ⟨7, lw_d (by decide), rfl, eUp_s, (h2 7 (by decide)).2.trans (by omega), wh_d (by decide) (by decide)⟩ (by dsimp only; omega) (by dsimp only; omega) ?_
  refine nt_putF B hin (ci := 1) (f := 7) (show decode cX1_init 105 = .ok (.putfield 38, 3) by decide +kernel) (by decide +kernel) (fun q h => by cases h; exact ⟨rfl, rfl⟩) rfl ?_
  refine nd_aload_n B (show decode cX1_init 108 = .ok (.aload_n 0, 1) by decide +kernel) rfl ?_
  refine nt_new B hA (ci := 7) (N := 3) (a := (2, 8)) (show decode cX1_init 109 = .ok (.new 9, 3) by decide +kernel) rfl rfl (gW_at 112 (by decide +kernel) rfl) (gW_at 113 (by decide +kernel) rfl) (gW_at 81 (by decide +kernel) rfl) (by decide +kernel) ((h2 8 (by decide)).1.trans (by omega)) (by dsimp only; omega) (by dsimp only; omega) ?_
  refine nd_dup B (show decode cX1_init 112 = .ok (.dup, 1) by decide +kernel) (fun w h => by cases h) ?_
  refine nd_bipush B (show decode cX1_init 113 = .ok (.bipush 64, 2) by decide +kernel) (by decide) ?_
  refine nd_callI B hF hA (as := [eI 64]) (M' := _) (c8_init (L := 64) (by decide)) (gW_at 116 (by decide +kernel) rfl) (gW_at 81 (by decide +kernel) rfl) (gW_at 115 (by decide +kernel) rfl) (Or.inl (gW_at 114 (by decide +kernel) rfl)) rfl ⟨by decide, by decide, by decide +kernel⟩ ⟨Nat.le_of_ble_eq_true rfl, Nat.le_of_ble_eq_true rfl⟩ (show decode cX1_init 115 = .ok (.invokespecial 11, 3) by decide +kernel) rfl (Nat.le_of_ble_eq_true rfl) ⟨8, lw_d (by decide), rfl, eUp_s, (h2 8 (by decide)).2.trans (by omega), wh_d (by decide) (by decide)⟩ (by dsimp only; omega) (by dsimp only; omega) ?_
  refine nt_putF B hin (ci := 1) (f := 8) (show decode cX1_init 118 = .ok (.putfield 41, 3) by decide +kernel) (by decide +kernel) (fun q h => by cases h; exact ⟨rfl, rfl⟩) rfl ?_
  refine nd_aload_n B (show decode cX1_init 121 = .ok (.aload_n 0, 1) by decide +kernel) rfl ?_
  refine nt_new B hA (ci := 7) (N := 3) (a := (2, 9)) (show decode cX1_init 122 = .ok (.new 9, 3) by decide +kernel) rfl rfl (gW_at 112 (by decide +kernel) rfl) (gW_at 113 (by decide +kernel) rfl) (gW_at 81 (by decide +kernel) rfl) (by decide +kernel) ((h2 9 (by decide)).1.trans (by omega)) (by dsimp only; omega) (by dsimp only; omega) ?_
  refine nd_dup B (show decode cX1_init 125 = .ok (.dup, 1) by decide +kernel) (fun w h => by cases h) ?_
  refine nd_bipush B (show decode cX1_init 126 = .ok (.bipush 64, 2) by decide +kernel) (by decide) ?_
  refine nd_callI B hF hA (as := [eI 64]) (M' := _) (c8_init (L := 64) (by decide)) (gW_at 116 (by decide +kernel) rfl) (gW_at 81 (by decide +kernel) rfl) (gW_at 115 (by decide +kernel) rfl) (Or.inl (gW_at 114 (by decide +kernel) rfl)) rfl ⟨by decide, by decide, by decide +kernel⟩ ⟨Nat.le_of_ble_eq_true rfl, Nat.le_of_ble_eq_true rfl⟩ (show decode cX1_init 128 = .ok (.invokespecial 11, 3) by decide +kernel) rfl (Nat.le_of_ble_eq_true rfl) ⟨9, lw_d (by decide), rfl, eUp_s, (h2 9 (by decide)).2.trans (by omega), wh_d (by decide) (by decide)⟩ (by dsimp only; omega) (by dsimp only; omega) ?_
  refine nt_putF B hin (ci := 1) (f := 9) (show decode cX1_init 131 = .ok (.putfield 44, 3) by decide +kernel) (by decide +kernel) (fun q h => by cases h; exact ⟨rfl, rfl⟩) rfl ?_
  exact nd_ret B hr hlk (show decode cX1_init 134 = .ok (.return_, 1) by decide +kernel)
