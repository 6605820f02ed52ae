/-! The law's way to its loop. -/
theorem adr_lt : (dmL.all fun a => decide (adr a < 748)) = true := by decide +kernel
theorem adM_lt {F : Nat → Int} {A : Nat → Int → Int} {a : eA} {c : eC} (h : cR F A a = some c) : adM a < 14 := by
  unfold cR at h
  split at h <;> first | (cases h; done) | decide +kernel
theorem pr_c {X : eM} {o : eC} {b q : eA} {t : Nat} (hb : b ≠ (0, 0)) (hq : q ≠ (0, 0)) (ht : t ≠ 0) : prM (eUp X (0, 0) o) b q t 0 = eUp (prM X b q t 0) (0, 0) o := by
  funext x
  unfold prM eUp
  by_cases e1 : x = (0, 0)
  · subst e1
    dsimp only
    rw [if_neg (fun e => hb e.symm), if_neg (fun e => hq e.symm), if_neg (fun e => ht e.1.symm), if_pos rfl, if_pos rfl]
  · dsimp only
    rw [if_neg e1, if_neg e1]
theorem co_w {X : eM} {w : eC} : coM (eUp X (0, 0) w) = coM X := by
  unfold coM
  rw [whs_c (by decide), eUp_c (by decide), pr_c (by decide) (by decide) (by decide), pr_c (by decide) (by decide) (by decide), id_c (by decide), al_c (by decide), eUp_u]
theorem mo_w {X : eM} {w : eC} : moM (eUp X (0, 0) w) = moM X := by
  funext x
  unfold moM eUp
  by_cases h : x = (0, 0)
  · rw [if_pos h, if_pos h]
  · simp only [if_neg h]
def lwA1 (z : Nat) : Nat → Prop := fun q => z ≤ q ∧ q < z + 748
def lwA2 (z : Nat) : Nat → Prop := fun q => z + 748 ≤ q ∧ q < z + 762
theorem wL : Cond.classLink RL 8 RX9 ∈ gW ∧ Cond.instantiable RX9 7 ∈ gW ∧ Cond.initialized RX9 ∈ gW ∧ Cond.methodLink RL 27 yX9_init ∈ gW ∧ Cond.instanceMethod yX9_init ∈ gW ∧ Cond.code yX9_init cX9_init 2 none ∈ gW := ⟨gW_at 98 (by decide +kernel) rfl, gW_at 99 (by decide +kernel) rfl, gW_at 79 (by decide +kernel) rfl, gW_at 100 (by decide +kernel) rfl, gW_at 101 (by decide +kernel) rfl, gW_at 102 (by decide +kernel) rfl⟩
theorem wL2 : Cond.classLink RL 28 RX10 ∈ gW ∧ Cond.instantiable RX10 23 ∈ gW ∧ Cond.initialized RX10 ∈ gW ∧ Cond.methodLink RL 30 yX10_init ∈ gW ∧ Cond.instanceMethod yX10_init ∈ gW ∧ Cond.code yX10_init cX10_init 1 none ∈ gW ∧ Cond.arrayClass .long ∈ gW := ⟨gW_at 972 (by decide +kernel) rfl, gW_at 973 (by decide +kernel) rfl, gW_at 89 (by decide +kernel) rfl, gW_at 974 (by decide +kernel) rfl, gW_at 975 (by decide +kernel) rfl, gW_at 976 (by decide +kernel) rfl, gW_at 1049 (by decide +kernel) rfl⟩
set_option maxRecDepth 100000 in
/-- from the entry to the loop -/
theorem law_go {p : Program} {e : Env} {s : State} {m : MethodId} {below : List Frame} {meth : Method} {c : Code} (l : Launch) {b : Nat} {Z : State → Prop} (hx : p.tables.exec = Jvm.exec) (hb : c.code = cL_law) (hml : c.maxLocals = 7) (hown : s.vm.findClass RL = some m.cls) (hts : ∀ w ∈ lw_tbl, w.before #[Value.ref b] s = true)
    (hloop : ∀ (gC : va_G) (tC : Nat → ClassId) (H : Heap) (locs : List Loc) (ls : Array Slot), (∀ g : eA → Nat, eKn (gC, tC, g) s ∧ eFC (gC, tC, g) s) → eP (gC, tC, fun id => s.heap.size + adr id) (lwA1 s.heap.size) (cC F00 A00 W00) H → eP (gC, tC, fun id => s.heap.size + 748 + adM id) (lwA2 s.heap.size) (cR F01 A00) H → lO (gC, tC, fun id => s.heap.size + adr id) (s.heap.size + 762) 0 H → va_S (fun q => s.heap.size ≤ q) s.heap H locs → lv_has ls 7 [(4, .int 0), (3, .ref (s.heap.size + 762)), (2, .ref (s.heap.size + 748)), (1, .ref s.heap.size), (0, .ref b)] →
      W p l e room_1 s m #[Value.ref b] below meth c H locs 763 1617924 Z (F0 m 23 ls [])) :
    W p l e room_1 s m #[Value.ref b] below meth c s.heap [] 0 0 Z (entryFrame m ([Value.ref b] : List Value).toArray 7) := by
  obtain ⟨gC, tC, hkn⟩ := law_kn hts
  have hgw : ∀ w ∈ gW, w.before #[Value.ref b] s = true := fun w hw => hts w (List.mem_filter.mp hw).1
  have hB : lB RL cL_law 7 p s m #[Value.ref b] c := ⟨hx, hb, hml, hown, hgw⟩
  have hl := lv_entry ([.ref b]) (n := 7) (Nat.le_of_ble_eq_true rfl)
  rw [lg_entry_eq]
  generalize (lg_sl ([.ref b]) ++ List.replicate (7 - (lg_sl ([.ref b])).length) Slot.unset).toArray = ls at hl ⊢
  have hl : lv_has ls 7 [(0, .ref b)] := hl
  generalize hz : s.heap.size = z at hloop ⊢
  obtain ⟨hK1, hF1⟩ := hkn (fun id => z + adr id)
  obtain ⟨hK2, hF2⟩ := hkn (fun id => z + 748 + adM id)
  generalize hG1 : ((gC, tC, fun id => z + adr id) : eG) = G1 at hK1 hF1
  generalize hG2 : ((gC, tC, fun id => z + 748 + adM id) : eG) = G2 at hK2 hF2
  have g1 : ∀ id, G1.2.2 id = z + adr id := fun id => by rw [← hG1]
  have g2 : ∀ id, G2.2.2 id = z + 748 + adM id := fun id => by rw [← hG2]
  have g10 : G1.2.2 (0, 0) = z := by rw [g1]; rfl
  have g20 : G2.2.2 (0, 0) = z + 748 := by rw [g2]; rfl
  refine lw_new (G := G1) (A := fun q => z ≤ q) (A0 := fun q => z ≤ q) (M := fun _ => none) (a := (0, 0)) (ci := 8) (N := 7) hB hK1 (fun q h => by rw [hz] at h; exact h) (show decode cL_law 0 = .ok (.new 8, 3) by decide +kernel) rfl rfl wL.1 wL.2.1 wL.2.2.1 (by decide +kernel) (by rw [g10, hz]) (Nat.le_of_ble_eq_true rfl) (Nat.le_of_ble_eq_true rfl) ⟨fun a c h => (by cases h), fun a b c d h => (by cases h)⟩ va_S.rf (fun H1 hP1 z1 k1 hS1 => ?_)
  refine lv_dup hx hb (show decode cL_law 3 = .ok (.dup, 1) by decide +kernel) rfl ?_
  refine lw_init (G := G1) (A := fun q => z ≤ q) (A0 := fun q => z ≤ q) (a := (0, 0)) (as := []) (na := 0) hB hl.1 hK1 hF1 (fun q h => (by omega)) c9_init wL.2.2.2.2.2 wL.2.2.1 wL.2.2.2.2.1 wL.2.2.2.1 rfl (by decide +kernel) ⟨Nat.le_of_ble_eq_true rfl, Nat.le_of_ble_eq_true rfl⟩ (show decode cL_law 4 = .ok (.invokespecial 27, 3) by decide +kernel) rfl (Nat.le_of_ble_eq_true rfl) (by rw [z1, hz]; exact sp9_i g1 eUp_s) (Nat.le_of_ble_eq_true rfl) (Nat.le_of_ble_eq_true rfl) hP1 hS1 (fun q h => h) (fun H2 locs2 hP2 z2 k2 hS2 => ?_)
  have hC : eP G1 (lwA1 z) (cC F00 A00 W00) H2 := by
    rw [co_w] at hP2
    have h := hP2.subE (M' := cC F00 A00 W00) (fun a c h => coM_s h)
    refine h.re (fun a c h => ?_)
    have := of_decide_eq_true (List.all_eq_true.mp adr_lt a (cC_dm h))
    rw [g1]
    exact ⟨by omega, by omega⟩
  rw [g10]
  refine lv_astore_n (lv' := [(1, .ref z), (0, .ref b)]) hx hb (show decode cL_law 7 = .ok (.astore_n 1, 1) by decide +kernel) rfl hl (by decide) rfl (fun ls hl => ?_)
  have z22 : H2.size = z + 748 := by rw [z2, z1, hz]
  refine lw_new (G := G2) (A := fun q => z + 748 ≤ q) (A0 := fun q => z ≤ q) (M := fun _ => none) (a := (0, 0)) (ci := 9) (N := 23) hB hK2 (fun q h => by omega) (show decode cL_law 8 = .ok (.new 28, 3) by decide +kernel) rfl rfl wL2.1 wL2.2.1 wL2.2.2.1 (by decide +kernel) (by rw [g20, z22]) (Nat.le_of_ble_eq_true rfl) (Nat.le_of_ble_eq_true rfl) ⟨fun a c h => (by cases h), fun a b c d h => (by cases h)⟩ hS2 (fun H3 hP3 z3 k3 hS3 => ?_)
  refine lv_dup hx hb (show decode cL_law 11 = .ok (.dup, 1) by decide +kernel) rfl ?_
  refine lw_init (G := G2) (A := fun q => z + 748 ≤ q) (A0 := fun q => z ≤ q) (a := (0, 0)) (as := []) (na := 0) hB hl.1 hK2 hF2 (fun q h => (by omega)) c10_init wL2.2.2.2.2.2.1 wL2.2.2.1 wL2.2.2.2.2.1 wL2.2.2.2.1 rfl (by decide +kernel) ⟨Nat.le_of_ble_eq_true rfl, Nat.le_of_ble_eq_true rfl⟩ (show decode cL_law 12 = .ok (.invokespecial 30, 3) by decide +kernel) rfl (Nat.le_of_ble_eq_true rfl) (by rw [z3, z22]; exact sp10_i g2 eUp_s) (Nat.le_of_ble_eq_true rfl) (Nat.le_of_ble_eq_true rfl) hP3 hS3 (fun q h => (by omega)) (fun H4 locs4 hP4 z4 k4 hS4 => ?_)
  have z44 : H4.size = z + 762 := by rw [z4, z3, z22]
  have hR : eP G2 (lwA2 z) (cR F01 A00) H4 := by
    rw [mo_w] at hP4
    have h := hP4.subE (M' := cR F01 A00) (fun a c h => moM_s h)
    refine h.re (fun a c h => ?_)
    have := adM_lt h
    rw [g2]
    exact ⟨by omega, by omega⟩
  have hC4 : eP G1 (lwA1 z) (cC F00 A00 W00) H4 := hC.kept (fun q hq hlt => by
    obtain ⟨q1, q2⟩ := hq
    rw [k4 q (by omega) (by omega), k3 q hlt])
  rw [g20]
  refine lv_astore_n (lv' := [(2, .ref (z + 748)), (1, .ref z), (0, .ref b)]) hx hb (show decode cL_law 15 = .ok (.astore_n 2, 1) by decide +kernel) rfl hl (by decide) rfl (fun ls hl => ?_)
  refine lv_iconst (v := 1) hx hb (show decode cL_law 16 = .ok (.iconst 1, 1) by decide +kernel) (by decide) ?_
  refine va_newaK (atype := .long) hx hb (hgw _ wL2.2.2.2.2.2.2) rfl (show decode cL_law 17 = .ok (.newarray .long, 2) by decide +kernel) rfl (by decide) (N := 1) (by decide) (Nat.le_of_ble_eq_true rfl) (Nat.le_of_ble_eq_true rfl) (Nat.le_of_ble_eq_true rfl) z44 (fun H5 cA e5 z5 k5 hAr hNm => ?_)
  have hcA : cA = G1.2.1 1 := Option.some.inj (hNm.symm.trans (hF1.1 1 .long rfl))
  have hO5 : lO G1 (z + 762) 0 H5 := by
    show H5[z + 762]? = some (arrV (G1.2.1 1) 1 _)
    rw [e5, hcA]
    rfl
  have hS5 : va_S (fun q => z ≤ q) s.heap H5 locs4 := ⟨by rw [z5]; omega, fun x h1 h2 => (k5 x (by omega)).trans (hS4.2.1 x h1 h2), hS4.2.2⟩
  have hC5 := hC4.kept (H1 := H5) (fun q hq hlt => k5 q (by omega))
  have hR5 := hR.kept (H1 := H5) (fun q hq hlt => k5 q (by omega))
  refine W.eq (g2 := F0 m 19 ls [.ref (z + 762)]) rfl ?_
  refine lv_astore_n (lv' := [(3, .ref (z + 762)), (2, .ref (z + 748)), (1, .ref z), (0, .ref b)]) hx hb (show decode cL_law 19 = .ok (.astore_n 3, 1) by decide +kernel) rfl hl (by decide) rfl (fun ls hl => ?_)
  refine lv_iconst (v := 0) hx hb (show decode cL_law 20 = .ok (.iconst 0, 1) by decide +kernel) (by decide) ?_
  refine lv_istore (lv' := [(4, .int 0), (3, .ref (z + 762)), (2, .ref (z + 748)), (1, .ref z), (0, .ref b)]) hx hb (show decode cL_law 21 = .ok (.istore 4, 2) by decide +kernel) hl (by decide) rfl (fun ls hl => ?_)
  subst hG1 hG2
  exact hloop gC tC H5 locs4 ls hkn hC5 hR5 hO5 hS5 hl
