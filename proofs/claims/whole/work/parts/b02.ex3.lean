/-! term and query of the class: raise's answer, or its throw, goes on. -/
section NX
variable {G : eG} {A : Nat → Prop} {p : Program} {l : Launch} {e : Env} {R : Room} {s : State} {m : MethodId} {args : Array Value} {below : List Frame} {meth : Method} {c : Code} {nL : Nat} {cc : ByteArray} {T : eT} {ls : List (Option eV)} {M : eM} {pc : Nat} {rt : Option eV → eM → Prop} {xt : String → Prop}
theorem nd_tailX (B : eB G RX9 cc nL T p s m args c) (hl0 : l.stackTraces = false) (hX : eXF s) (hZ : eXZ A s s.heap) (hne : ∀ x ∈ c.exceptionTable.toList, False) (hr : meth.sig.returnType = some .int) (hlocks : meth.locks = false) {idx na nY fr lo ci : Nat} {q0 : vw_C} {y : MethodName} {cy : ByteArray} {sp : exSp} {a : eA} {fs as : List eV} (hM : exMet y cy nY (some .int) fr lo sp)
    (hq : vwCl[ci]? = some q0) (hMa : M a = some (.inl (ci, fs))) (hcode : Cond.code y cy nY (some .int) ∈ gW) (hini : Cond.initialized y.cls ∈ gW) (hins : Cond.instanceMethod y ∈ gW) (hsel : Cond.selects q0.1 y y ∈ gW) (hlk : Cond.methodLink RX9 idx y ∈ gW)
    (h3 : y.cls ≠ "java/lang/invoke/MethodHandle" ∧ y.cls ≠ "java/lang/invoke/VarHandle" ∧ (parseMethodDescriptor y.desc).map (fun d => d.parameters.length) = some na) (hR : (fr + 1 ≤ R.frames ∧ 8 + (nY + 11) + lo ≤ R.locals) ∧ 1 ≤ R.cells ∧ 6 ≤ R.slots)
    (d0 : decode cc pc = .ok (.invokevirtual idx, 3)) (d3 : decode cc (pc + 3) = .ok (.ireturn, 1)) (hn : as.length = na) (hsp : sp (eR a :: as) M (fun o M' => ∃ z, o = some (eI z) ∧ rt o M') xt) :
    nW G A p l e R s m args below meth c nL (vx_MQ below (exQ G A rt) (exX G A M xt) args s 1 6 A) 0 0 pc ls (as.reverse ++ [eR a]) M := by
  obtain ⟨hx, hb, hml, hown, hts, hK, hfld, hldc, hldc2⟩ := B
  intro H locs lm hP hS hz hl
  have hl2 := hl
  obtain ⟨hl0', hl1, -⟩ := hl2
  have hrecv : ∃ cellB : Cell, H[G.2.2 a]? = some cellB ∧ cellB.vm.isStatics = false ∧ s.vm.findClass q0.1 = some cellB.cls := by
    obtain ⟨⟨q', hq', -, cell, g1, g2, g3, -⟩, -⟩ := hP.1 a _ hMa
    have hqq : q' = q0 := Option.some.inj (hq'.symm.trans hq)
    subst hqq
    exact ⟨cell, g1, by rw [g3]; rfl, by rw [g2]; exact (hK.1 ci q' hq).2.1⟩
  have hpre : PreV s H q0.1 (G.2.2 a) (exPc G A (eR a :: as) M) (as.map (cv G)) := ⟨exPc.blind, hrecv, fun U hU hW => ⟨by simp [cv], by rw [hU]; exact hP, hK.moved hW.alike, hX.warm hW, by rw [hU]; exact vx_Zq.moved hW.alike (hZ.1.kept hS.2.1), by rw [hU]; exact vx_Zq.moved hW.alike (hZ.2.kept hS.2.1)⟩⟩
  have hlen : (as.map (cv G)).length = na := by simpa using hn
  have hstk : (as.reverse ++ [eR a]).map (cv G) = (as.map (cv G)).reverse ++ .ref (G.2.2 a) :: [] := by simp [cv]
  rw [hstk]
  have hWc : 2 * (F0 m pc lm ((as.map (cv G)).reverse ++ .ref (G.2.2 a) :: [])).monitorRoom + (([] : List Value).map fun v => v.category).sum ≤ 8 := by simp [JFrame.monitorRoom]
  intro T hT X
  rcases vx_runV (As := as.map (cv G)) (rest := []) ⟨hx, hb, hml, hown, hts⟩ (hM l hl0 G A _ M _ xt hsp) ⟨callB_of na hts (gW_good hcode) rfl rfl rfl (hts _ hini) (hts _ hlk) h3 hR.1, hts _ hins, hts _ hsel⟩ hpre rfl hlen hl1 rfl hWc d0 ⟨by omega, by omega⟩ T hT X with ⟨v, st₀, t, T', L, h0, X', hL, e1, e2, ⟨⟨r, M', ⟨z, rfl, hrt⟩, hv, hP'⟩, hF⟩, st⟩ | ⟨q, st₀, t, T', L, E, ce, h0, X', hL, e1, e2, ⟨hxt, hP', hF⟩, hce, hcv, hcl, st⟩
  · have hv' : v = some (.int (Int32.ofInt z)) := Outcome.returned.inj hv
    subst hv'
    obtain ⟨k1, k2, k3⟩ := vx_keep h0 e1 hS (fun q _ h => h) (fun q h => h) hL hF
    have w : W p l e R s m args below meth c T'.heap (locs ++ L) (0 + 1) (0 + 6) (vx_MQ below (exQ G A rt) (exX G A M xt) args s 1 6 A) (F0 m (pc + 3) lm [.int (Int32.ofInt z)]) := vx_ret (W.zret hx hb hr (show narrow .int (Value.int (Int32.ofInt z)) = _ from rfl) (fun t9 ht _ => ⟨⟨some (eI z), M', hrt, rfl, by rw [ht, e1]; exact hP'⟩, k3.F ht⟩) k3.2.2 d3 hlocks)
    obtain ⟨t2, a1, b1⟩ := w T' rfl X'
    exact ⟨t2, st t2 a1, b1⟩
  · obtain ⟨k1, k2, k3⟩ := vx_keep h0 e1 hS (fun q _ h => h) (fun q h => h) hL hF
    have w : vx_W p l e R s m args below meth c T'.heap (locs ++ L) (0 + 1) (0 + 6) (vx_MQ below (exQ G A rt) (exX G A M xt) args s 1 6 A) (F0 m pc lm []) q := vx_out (fun x h => (hne x h).elim) hlocks (by rw [e1]; exact hce) hcv hcl (fun t9 ht _ => ⟨hxt, by rw [ht, e1]; exact hP', k3.F ht⟩) k3.2.2 (Nat.le_refl _) (Nat.le_refl _)
    obtain ⟨t2, a1, b1⟩ := w T' rfl X'
    exact ⟨t2, st.trans a1, b1⟩
end NX
def exQue : exSp := fun as M rt xt => ∃ (F : Nat → Int) (A W : Nat → Int → Int) (a b c : Int), as = [eR (0, 0), eI a, eI b, eI c] ∧ M = cC F A W ∧ w32 a ∧ w32 b ∧ w32 c ∧ (∀ i, 0 ≤ i → i < 30 → -5 ≤ A 0 i ∧ A 0 i ≤ 5) ∧ raQ F A W 4 a b c rt xt
theorem raQ_m {F : Nat → Int} {A W : Nat → Int → Int} {k a b c : Int} {rt : Option eV → eM → Prop} {xt : String → Prop} (h : raQ F A W k a b c rt xt) : raQ F A W k a b c (fun o M' => ∃ z, o = some (eI z) ∧ rt o M') xt := ⟨h.1, h.2.1, fun h1 h2 h3 => ⟨_, rfl, h.2.2 h1 h2 h3⟩⟩
set_option maxRecDepth 100000 in
theorem xX9_query : exMet yX9_query cX9_query 4 (some .int) 7 117 exQue := by
  refine exMet_of (T := (fl_RX9, cl_RX9, dl_RX9, fun _ => none, fun _ => none)) (by decide) tb_RX9 ?_
  rintro p l e s m below meth c0 G A as M rt xt hl0 B hX hZ hne hr hlk ⟨F, A1, W, a, b, c, rfl, rfl, ha, hb, hc, hA5, hq⟩
  refine ⟨show 4 ≤ 4 by decide, ?_⟩
  refine nd_aload_n B (show decode cX9_query 0 = .ok (.aload_n 0, 1) by decide +kernel) rfl ?_
  refine nd_iconst B (show decode cX9_query 1 = .ok (.iconst 4, 1) by decide +kernel) ?_
  refine nd_iload_n B (show decode cX9_query 2 = .ok (.iload_n 1, 1) by decide +kernel) rfl ?_
  refine nd_iload_n B (show decode cX9_query 3 = .ok (.iload_n 2, 1) by decide +kernel) rfl ?_
  refine nd_iload_n B (show decode cX9_query 4 = .ok (.iload_n 3, 1) by decide +kernel) rfl ?_
  exact nd_tailX B hl0 hX hZ hne hr hlk (na := 4) (as := [eI 4, eI a, eI b, eI c]) (a := (0, 0)) (ci := 8) xX9_raise rfl (show cC F A1 W (0, 0) = _ from rfl) (gW_at 923 (by decide +kernel) rfl) (gW_at 79 (by decide +kernel) rfl) (gW_at 922 (by decide +kernel) rfl) (gW_at 35 (by decide +kernel) rfl) (gW_at 920 (by decide +kernel) rfl) (by decide +kernel) ⟨⟨Nat.le_of_ble_eq_true rfl, Nat.le_of_ble_eq_true rfl⟩, Nat.le_of_ble_eq_true rfl, Nat.le_of_ble_eq_true rfl⟩ (show decode cX9_query 5 = .ok (.invokevirtual 65, 3) by decide +kernel) (show decode cX9_query 8 = .ok (.ireturn, 1) by decide +kernel) rfl ⟨F, A1, W, 4, a, b, c, rfl, rfl, by decide, ha, hb, hc, hA5, raQ_m hq⟩
def exTer : exSp := fun as M rt xt => ∃ (F : Nat → Int) (A W : Nat → Int → Int) (k a b c : Int), as = [eR (0, 0), eI k, eI a, eI b, eI c] ∧ M = cC F A W ∧ w32 k ∧ (0 ≤ F 2 ∧ F 2 ≤ 4) ∧ w32 a ∧ w32 b ∧ w32 c ∧ (∀ i, 0 ≤ i → i < 30 → -5 ≤ A 0 i ∧ A 0 i ≤ 5) ∧ (¬ (0 ≤ k ∧ k < F 2) → xt xIO) ∧ ((0 ≤ k ∧ k < F 2) → raQ F A W k a b c rt xt)
set_option maxRecDepth 100000 in
theorem xX9_term : exMet yX9_term cX9_term 5 (some .int) 7 117 exTer := by
  refine exMet_of (T := (fl_RX9, cl_RX9, dl_RX9, fun _ => none, fun _ => none)) (by decide) tb_RX9 ?_
  rintro p l e s m below meth c0 G A as M rt xt hl0 B hX hZ hne hr hlk ⟨F, A1, W, k, a, b, c, rfl, rfl, hk, hF, ha, hb, hc, hA5, h1, h2⟩
  refine ⟨show 5 ≤ 5 by decide, ?_⟩
  refine nd_aload_n B (show decode cX9_term 0 = .ok (.aload_n 0, 1) by decide +kernel) rfl ?_
  refine nW.cast ?_ rfl rfl (gC (a := (0, 0)) (ci := 8) rfl) rfl
  refine nt_get B (ci := 8) (f := 0) (show decode cX9_term 1 = .ok (.getfield 15, 3) by decide +kernel) (by decide +kernel) rfl ?_
  refine nW.cast ?_ rfl rfl (gC (a := (0, 0)) (ci := 8) rfl).symm rfl
  refine nd_iload_n B (show decode cX9_term 4 = .ok (.iload_n 1, 1) by decide +kernel) rfl ?_
  refine nd_callV B (as := [eR (1, 0), eI k]) (rest := []) (eV_mk mX6_has wX6_has ⟨Nat.le_of_ble_eq_true rfl, Nat.le_of_ble_eq_true rfl⟩ (Or.inl (gW_at 844 (by decide +kernel) rfl))) (show decode cX9_term 5 = .ok (.invokevirtual 58, 3) by decide +kernel) rfl (Nat.le_of_ble_eq_true rfl) (f := fun o M' => o = some (eI (zE (0 ≤ k ∧ k < F 2))) ∧ M' = cC F A1 W) (SX6_has_i (p := 0) (by decide) hk (show w32 (F 2) by unfold w32; omega) ⟨rfl, rfl⟩) (Nat.zero_le _) (Nat.zero_le _) ?_
  rintro o M' ⟨rfl, rfl⟩
  refine nW.cast (ls' := [some (eR (0, 0)), some (eI k), some (eI a), some (eI b), some (eI c)]) ?_ rfl rfl rfl rfl
  refine nd_if_ne B (show decode cX9_term 8 = .ok (.ifCond .ne 11, 3) by decide +kernel) (zE_w _) (by decide) (fun hT => ?_) (fun hT => ?_)
  rotate_left
  · exact nd_throw B hl0 hX hZ hne hlk (C := "java/lang/IndexOutOfBoundsException") exL_b.1 exL_o.1 (by decide +kernel) (show decode cX9_term 11 = .ok (.new 62, 3) by decide +kernel) (show decode cX9_term 14 = .ok (.dup, 1) by decide +kernel) (show decode cX9_term 15 = .ok (.invokespecial 64, 3) by decide +kernel) (show decode cX9_term 18 = .ok (.athrow, 1) by decide +kernel) (by decide) (h1 (by simpa [zE_0] using hT))
  have hk2 : 0 ≤ k ∧ k < F 2 := by
    by_cases q : 0 ≤ k ∧ k < F 2
    · exact q
    · exact absurd (zE_0.mpr q) hT
  refine nd_aload_n B (show decode cX9_term 19 = .ok (.aload_n 0, 1) by decide +kernel) rfl ?_
  refine nd_iload_n B (show decode cX9_term 20 = .ok (.iload_n 1, 1) by decide +kernel) rfl ?_
  refine nd_iload_n B (show decode cX9_term 21 = .ok (.iload_n 2, 1) by decide +kernel) rfl ?_
  refine nd_iload_n B (show decode cX9_term 22 = .ok (.iload_n 3, 1) by decide +kernel) rfl ?_
  refine nd_iload B (show decode cX9_term 23 = .ok (.iload 4, 2) by decide +kernel) rfl ?_
  exact nd_tailX B hl0 hX hZ hne hr hlk (na := 4) (as := [eI k, eI a, eI b, eI c]) (a := (0, 0)) (ci := 8) xX9_raise rfl (show cC F A1 W (0, 0) = _ from rfl) (gW_at 923 (by decide +kernel) rfl) (gW_at 79 (by decide +kernel) rfl) (gW_at 922 (by decide +kernel) rfl) (gW_at 35 (by decide +kernel) rfl) (gW_at 920 (by decide +kernel) rfl) (by decide +kernel) ⟨⟨Nat.le_of_ble_eq_true rfl, Nat.le_of_ble_eq_true rfl⟩, Nat.le_of_ble_eq_true rfl, Nat.le_of_ble_eq_true rfl⟩ (show decode cX9_term 25 = .ok (.invokevirtual 65, 3) by decide +kernel) (show decode cX9_term 28 = .ok (.ireturn, 1) by decide +kernel) rfl ⟨F, A1, W, k, a, b, c, rfl, rfl, by omega, ha, hb, hc, hA5, raQ_m (h2 hk2)⟩
