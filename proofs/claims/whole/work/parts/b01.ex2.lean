/-! signature, raise, term, query of the class. -/
section NS
variable {G : eG} {A : Nat → Prop} {p : Program} {l : Launch} {e : Env} {R : Room} {s : State} {m : MethodId} {args : Array Value} {below : List Frame} {meth : Method} {c : Code} {nL : Nat} {Q : State → Prop} {own : String} {cc : ByteArray} {T : eT} {ls : List (Option eV)} {st : List eV} {M : eM} {pc : Nat} {n k0 : Nat}
theorem nd_callS (B : eB G own cc nL T p s m args c) {idx na nY fr lo : Nat} {y : MethodName} {cy : ByteArray} {ret : Option FieldType} {sp : eSp} {as rest : List eV} (hM : eMet y cy nY ret fr lo sp) (hw : eWS y cy nY ret na) (hR : fr + 1 ≤ R.frames ∧ 8 + (nY + 11) + lo ≤ R.locals) (hlk : Cond.methodLink own idx y ∈ gW)
    (hd : decode cc pc = .ok (.invokestatic idx, 3)) (hn : as.length = na) (hW : cW rest ≤ 8) {f : Option eV → eM → Prop} (hsp : sp as M f) (hcc : n ≤ R.cells) (hss : k0 ≤ R.slots)
    (kk : ∀ (o : Option eV) (M' : eM), f o M' → nW G A p l e R s m args below meth c nL Q n k0 (pc + 3) ls (o.toList ++ rest) M') : nW G A p l e R s m args below meth c nL Q n k0 pc ls (as.reverse ++ rest) M := by
  obtain ⟨hx, hb, hml, hown, hts, hK, hfld, hldc, hldc2⟩ := B
  obtain ⟨hcode, hini, hsta, h3⟩ := hw
  intro H locs lm hP hS hz hl
  have hl2 := hl
  obtain ⟨hl0, hl1, -⟩ := hl2
  have hpre : PreS s H (ePc G A as M) (as.map (cv G)) := ⟨ePc.blind, fun U hU hW => ⟨rfl, by rw [hU]; exact hP, hK.moved hW.alike⟩⟩
  have hlen : (as.map (cv G)).length = na := by simpa using hn
  have hstk : (as.reverse ++ rest).map (cv G) = (as.map (cv G)).reverse ++ rest.map (cv G) := by simp
  rw [hstk]
  have hWc : 2 * (F0 m pc lm ((as.map (cv G)).reverse ++ rest.map (cv G))).monitorRoom + ((rest.map (cv G)).map fun v => v.category).sum ≤ 8 := by
    rw [cW_cat]; simpa [JFrame.monitorRoom] using hW
  intro S hSt X
  obtain ⟨v, st₀, t, T', L, h0, X', hL, e1, e2, ⟨⟨r2, M', hrt, hv, hP'⟩, ⟨hz1, hk⟩, hz2⟩, stp⟩ := va_runS (As := as.map (cv G)) (rest := rest.map (cv G)) ⟨hx, hb, hml, hown, hts⟩ (hM l G A _ M f hsp) ⟨callB_of na hts (gW_good hcode) rfl rfl rfl (hts _ hini) (hts _ hlk) h3 hR, hts _ hsta⟩ hpre rfl hlen hl1 rfl hWc hd ⟨hcc, hss⟩ S hSt X
  have hv' : v = r2.map (cv G) := Outcome.returned.inj hv
  subst hv'
  rw [h0] at hz1 hk hz2
  have hst : (r2.map (cv G)).toList ++ rest.map (cv G) = (r2.toList ++ rest).map (cv G) := by cases r2 <;> simp
  obtain ⟨t2, a1, b1⟩ := kk r2 M' hrt T'.heap (locs ++ L) lm (by rw [e1]; exact hP') ⟨by rw [e1, hz2]; exact hS.1, fun q h1 h2 => by rw [e1, hk q (Nat.lt_of_lt_of_le h1 hS.1) h2]; exact hS.2.1 q h1 h2, fun q hq => by
      rcases List.mem_append.mp hq with h | h
      · exact hS.2.2 q h
      · exact hL q h⟩ (by rw [e1, hz2, hz]) hl T' rfl X'
  refine ⟨t2, stp t2 ?_, b1⟩
  rw [hst]
  exact a1
end NS
def xIA : String := "java/lang/IllegalArgumentException"
def xIO : String := "java/lang/IndexOutOfBoundsException"
def xIS : String := "java/lang/IllegalStateException"
theorem gC {F : Nat → Int} {A W : Nat → Int → Int} {a : eA} {ci : Nat} {fs : List eV} (h : cC F A W a = some (eO ci fs)) : cC F A W = eUp (cC F A W) a (eO ci fs) := eUp_id h
def exSig : exSp := fun as M rt xt => ∃ (F : Nat → Int) (A W : Nat → Int → Int) (z : Int), as = [eR (0, 0), eI z] ∧ M = cC F A W ∧ w32 z ∧ w32 (F 1) ∧ ((z < 0 ∨ 3 ≤ z) → xt xIA) ∧ (0 ≤ z → z < 3 → ¬ (F 1 = 0 ∨ F 1 = 1) → xt xIS) ∧ (0 ≤ z → z < 3 → (F 1 = 0 ∨ F 1 = 1) → rt (some (eI (A 6 z))) (cC F A W))
set_option maxRecDepth 100000 in
theorem xX9_signature : exMet yX9_signature cX9_signature 2 (some .int) 6 90 exSig := by
  refine exMet_of (T := (fl_RX9, cl_RX9, dl_RX9, fun _ => none, fun _ => none)) (by decide) tb_RX9 ?_
  rintro p l e s m below meth c G A as M rt xt hl0 B hX hZ hne hr hlk ⟨F, A1, W, z, rfl, rfl, hz, hF, h1, h2, h3⟩
  refine ⟨Nat.le_refl 2, ?_⟩
  refine nd_iload_n B (show decode cX9_signature 0 = .ok (.iload_n 1, 1) by decide +kernel) rfl ?_
  refine nd_if_lt B (show decode cX9_signature 1 = .ok (.ifCond .lt 8, 3) by decide +kernel) hz (by decide) (fun hT => ?_) (fun hT => ?_)
  · exact nd_throw B hl0 hX hZ hne hlk (C := "java/lang/IllegalArgumentException") exL_b.2.1 exL_o.2.1 (by decide +kernel) (show decode cX9_signature 9 = .ok (.new 75, 3) by decide +kernel) (show decode cX9_signature 12 = .ok (.dup, 1) by decide +kernel) (show decode cX9_signature 13 = .ok (.invokespecial 77, 3) by decide +kernel) (show decode cX9_signature 16 = .ok (.athrow, 1) by decide +kernel) (by decide) (h1 (Or.inl hT))
  have hT0 : 0 ≤ z := by omega
  refine nd_iload_n B (show decode cX9_signature 4 = .ok (.iload_n 1, 1) by decide +kernel) rfl ?_
  refine nd_iconst B (show decode cX9_signature 5 = .ok (.iconst 3, 1) by decide +kernel) ?_
  refine nd_icmp_lt B (show decode cX9_signature 6 = .ok (.if_icmp .lt 11, 3) by decide +kernel) ⟨hz, by decide⟩ (by decide) (fun hT => ?_) (fun hT => ?_)
  rotate_left
  · exact nd_throw B hl0 hX hZ hne hlk (C := "java/lang/IllegalArgumentException") exL_b.2.1 exL_o.2.1 (by decide +kernel) (show decode cX9_signature 9 = .ok (.new 75, 3) by decide +kernel) (show decode cX9_signature 12 = .ok (.dup, 1) by decide +kernel) (show decode cX9_signature 13 = .ok (.invokespecial 77, 3) by decide +kernel) (show decode cX9_signature 16 = .ok (.athrow, 1) by decide +kernel) (by decide) (h1 (Or.inr (by omega)))
  have hT3 : z < 3 := hT
  refine nd_aload_n B (show decode cX9_signature 17 = .ok (.aload_n 0, 1) by decide +kernel) rfl ?_
  refine nd_callV B (as := [eR (0, 0)]) (rest := []) (eV_mk mX9_isFinite wX9_isFinite ⟨Nat.le_of_ble_eq_true rfl, Nat.le_of_ble_eq_true rfl⟩ (Or.inl (gW_at 720 (by decide +kernel) rfl))) (show decode cX9_signature 18 = .ok (.invokevirtual 111, 3) by decide +kernel) rfl (Nat.le_of_ble_eq_true rfl) (f := fun o M' => o = some (eI (zE (F 1 = 0 ∨ F 1 = 1))) ∧ M' = cC F A1 W) (SX9_isFinite_i hF ⟨rfl, rfl⟩) (Nat.zero_le _) (Nat.zero_le _) ?_
  rintro o M' ⟨rfl, rfl⟩
  refine nW.cast (ls' := [some (eR (0, 0)), some (eI z)]) ?_ rfl rfl rfl rfl
  refine nd_if_ne B (show decode cX9_signature 21 = .ok (.ifCond .ne 11, 3) by decide +kernel) (zE_w _) (by decide) (fun hT => ?_) (fun hT => ?_)
  rotate_left
  · exact nd_throw B hl0 hX hZ hne hlk (C := "java/lang/IllegalStateException") exL_b.2.2 exL_o.2.2 (by decide +kernel) (show decode cX9_signature 24 = .ok (.new 160, 3) by decide +kernel) (show decode cX9_signature 27 = .ok (.dup, 1) by decide +kernel) (show decode cX9_signature 28 = .ok (.invokespecial 162, 3) by decide +kernel) (show decode cX9_signature 31 = .ok (.athrow, 1) by decide +kernel) (by decide) (h2 hT0 hT3 (by simpa [zE_0] using hT))
  have hT4 : F 1 = 0 ∨ F 1 = 1 := by
    by_cases q : F 1 = 0 ∨ F 1 = 1
    · exact q
    · exact absurd (zE_0.mpr q) hT
  refine nd_aload_n B (show decode cX9_signature 32 = .ok (.aload_n 0, 1) by decide +kernel) rfl ?_
  refine nW.cast ?_ rfl rfl (gC (a := (0, 0)) (ci := 8) rfl) rfl
  refine nt_get B (ci := 8) (f := 4) (show decode cX9_signature 33 = .ok (.getfield 40, 3) by decide +kernel) (by decide +kernel) rfl ?_
  refine nW.cast ?_ rfl rfl (gC (a := (0, 0)) (ci := 8) rfl).symm rfl
  refine nd_iload_n B (show decode cX9_signature 36 = .ok (.iload_n 1, 1) by decide +kernel) rfl ?_
  refine nd_callV B (as := [eR (1, 4), eI z]) (rest := []) (eV_mk mX0_balance wX0_balance ⟨Nat.le_of_ble_eq_true rfl, Nat.le_of_ble_eq_true rfl⟩ (Or.inl (gW_at 732 (by decide +kernel) rfl))) (show decode cX9_signature 37 = .ok (.invokevirtual 116, 3) by decide +kernel) rfl (Nat.le_of_ble_eq_true rfl) (f := fun o M' => o = some (eI (p3I (A1 6) 0 z)) ∧ M' = cC F A1 W) (SX0_balance_i hz ⟨rfl, rfl⟩) (Nat.zero_le _) (Nat.zero_le _) ?_
  rintro o M' ⟨rfl, rfl⟩
  refine nW.cast (ls' := [some (eR (0, 0)), some (eI z)]) ?_ rfl rfl rfl rfl
  have e : p3I (A1 6) 0 z = A1 6 z := if_pos ⟨hT0, hT3⟩
  rw [e]
  exact nd_iret B hr hlk (show decode cX9_signature 40 = .ok (.ireturn, 1) by decide +kernel) (h3 hT0 hT3 hT4)
theorem oP_2 (a b : Int) : oP a b 2 = -1 ∨ (0 ≤ oP a b 2 ∧ oP a b 2 < 6) := by
  unfold oP
  by_cases h : a < 0 ∨ b < 0 ∨ 2 < a ∨ 2 - a < b
  · rw [if_pos h]; exact Or.inl rfl
  · rw [if_neg h]
    refine Or.inr ?_
    have h1 : (a = 0 ∧ b = 0) ∨ (a = 0 ∧ b = 1) ∨ (a = 0 ∧ b = 2) ∨ (a = 1 ∧ b = 0) ∨ (a = 1 ∧ b = 1) ∨ (a = 2 ∧ b = 0) := by omega
    rcases h1 with ⟨rfl, rfl⟩ | ⟨rfl, rfl⟩ | ⟨rfl, rfl⟩ | ⟨rfl, rfl⟩ | ⟨rfl, rfl⟩ | ⟨rfl, rfl⟩ <;> decide
/-- what raise does -/
def raQ (F : Nat → Int) (A W : Nat → Int → Int) (k a b c : Int) (rt : Option eV → eM → Prop) (xt : String → Prop) : Prop :=
  (oP a b 2 = -1 → xt xIA) ∧ (oP a b 2 ≠ -1 → A 0 (6 * k + oP a b 2) + c < -5 ∨ 5 < A 0 (6 * k + oP a b 2) + c → xt xIA) ∧ (oP a b 2 ≠ -1 → -5 ≤ A 0 (6 * k + oP a b 2) + c → A 0 (6 * k + oP a b 2) + c ≤ 5 → rt (some (eI (A 0 (6 * k + oP a b 2) + c))) (cC F (uA A 0 (uI (A 0) (6 * k + oP a b 2) (A 0 (6 * k + oP a b 2) + c))) W))
def exRai : exSp := fun as M rt xt => ∃ (F : Nat → Int) (A W : Nat → Int → Int) (k a b c : Int), as = [eR (0, 0), eI k, eI a, eI b, eI c] ∧ M = cC F A W ∧ (0 ≤ k ∧ k ≤ 4) ∧ w32 a ∧ w32 b ∧ w32 c ∧ (∀ i, 0 ≤ i → i < 30 → -5 ≤ A 0 i ∧ A 0 i ≤ 5) ∧ raQ F A W k a b c rt xt
set_option maxRecDepth 100000 in
theorem xX9_raise : exMet yX9_raise cX9_raise 8 (some .int) 6 90 exRai := by
  refine exMet_of (T := (fl_RX9, cl_RX9, dl_RX9, fun _ => none, fun _ => none)) (by decide) tb_RX9 ?_
  rintro p l e s m below meth c0 G A as M rt xt hl0 B hX hZ hne hr hlk ⟨F, A1, W, k, a, b, c, rfl, rfl, hk, ha, hb, hc, hA5, h1, h2, h3⟩
  refine ⟨show 5 ≤ 8 by decide, ?_⟩
  have hk32 : w32 k := by unfold w32; omega
  refine nd_iload_n B (show decode cX9_raise 0 = .ok (.iload_n 2, 1) by decide +kernel) rfl ?_
  refine nd_iload_n B (show decode cX9_raise 1 = .ok (.iload_n 3, 1) by decide +kernel) rfl ?_
  refine nd_iconst B (show decode cX9_raise 2 = .ok (.iconst 2, 1) by decide +kernel) ?_
  refine nd_callS B (as := [eI a, eI b, eI 2]) (rest := []) mX5_place wX5_place ⟨Nat.le_of_ble_eq_true rfl, Nat.le_of_ble_eq_true rfl⟩ (gW_at 773 (by decide +kernel) rfl) (show decode cX9_raise 3 = .ok (.invokestatic 69, 3) by decide +kernel) rfl (Nat.le_of_ble_eq_true rfl) (f := fun o M' => o = some (eI (oP a b 2)) ∧ M' = cC F A1 W) (SX5_place_i ha hb (by decide) ⟨rfl, rfl⟩) (Nat.zero_le _) (Nat.zero_le _) ?_
  rintro o M' ⟨rfl, rfl⟩
  have hp6 := oP_2 a b
  have hpw : w32 (oP a b 2) := by unfold w32; omega
  generalize hpe : oP a b 2 = pl at h1 h2 h3 hp6 hpw ⊢
  refine nW.cast (ls' := [some (eR (0, 0)), some (eI k), some (eI a), some (eI b), some (eI c), none, none, none]) ?_ rfl rfl rfl rfl
  refine nd_istore B (show decode cX9_raise 6 = .ok (.istore 5, 2) by decide +kernel) (by decide) ?_
  refine nd_iload B (show decode cX9_raise 8 = .ok (.iload 5, 2) by decide +kernel) rfl ?_
  refine nd_iconst B (show decode cX9_raise 10 = .ok (.iconst (-1), 1) by decide +kernel) ?_
  refine nd_icmp_ne B (show decode cX9_raise 11 = .ok (.if_icmp .ne 11, 3) by decide +kernel) ⟨hpw, by decide⟩ (by decide) (fun hT => ?_) (fun hT => ?_)
  rotate_left
  · exact nd_throw B hl0 hX hZ hne hlk (C := "java/lang/IllegalArgumentException") exL_b.2.1 exL_o.2.1 (by decide +kernel) (show decode cX9_raise 14 = .ok (.new 75, 3) by decide +kernel) (show decode cX9_raise 17 = .ok (.dup, 1) by decide +kernel) (show decode cX9_raise 18 = .ok (.invokespecial 77, 3) by decide +kernel) (show decode cX9_raise 21 = .ok (.athrow, 1) by decide +kernel) (by decide) (h1 (by omega))
  have hp : pl ≠ -1 := hT
  have hpr : 0 ≤ pl ∧ pl < 6 := by omega
  refine nd_aload_n B (show decode cX9_raise 22 = .ok (.aload_n 0, 1) by decide +kernel) rfl ?_
  refine nW.cast ?_ rfl rfl (gC (a := (0, 0)) (ci := 8) rfl) rfl
  refine nt_get B (ci := 8) (f := 0) (show decode cX9_raise 23 = .ok (.getfield 15, 3) by decide +kernel) (by decide +kernel) rfl ?_
  refine nW.cast ?_ rfl rfl (gC (a := (0, 0)) (ci := 8) rfl).symm rfl
  refine nd_iload_n B (show decode cX9_raise 26 = .ok (.iload_n 1, 1) by decide +kernel) rfl ?_
  refine nd_iload B (show decode cX9_raise 27 = .ok (.iload 5, 2) by decide +kernel) rfl ?_
  refine nd_callV B (as := [eR (1, 0), eI k, eI pl]) (rest := []) (eV_mk mX6_read wX6_read ⟨Nat.le_of_ble_eq_true rfl, Nat.le_of_ble_eq_true rfl⟩ (Or.inl (gW_at 843 (by decide +kernel) rfl))) (show decode cX9_raise 29 = .ok (.invokevirtual 78, 3) by decide +kernel) rfl (Nat.le_of_ble_eq_true rfl) (f := fun o M' => o = some (eI (pr (A1 0) k pl)) ∧ M' = cC F A1 W) (SX6_read_i (p := 0) (by decide) hk32 hpw ⟨rfl, rfl⟩) (Nat.zero_le _) (Nat.zero_le _) ?_
  rintro o M' ⟨rfl, rfl⟩
  have e : pr (A1 0) k pl = A1 0 (6 * k + pl) := if_pos ⟨hk.1, hk.2, hpr.1, hpr.2⟩
  rw [e]
  have hb5 := hA5 (6 * k + pl) (by omega) (by omega)
  generalize A1 0 (6 * k + pl) = v at h2 h3 hb5 ⊢
  refine nW.cast (ls' := [some (eR (0, 0)), some (eI k), some (eI a), some (eI b), some (eI c), some (eI pl), none, none]) ?_ rfl rfl rfl rfl
  refine nd_i2l B (show decode cX9_raise 32 = .ok (.i2l, 1) by decide +kernel) (by unfold w32; omega) ?_
  refine nd_iload B (show decode cX9_raise 33 = .ok (.iload 4, 2) by decide +kernel) rfl ?_
  refine nd_i2l B (show decode cX9_raise 35 = .ok (.i2l, 1) by decide +kernel) hc ?_
  refine nd_ladd B (show decode cX9_raise 36 = .ok (.ladd, 1) by decide +kernel) ?_
  refine nd_lstore B (show decode cX9_raise 37 = .ok (.lstore 6, 2) by decide +kernel) (by decide) ?_
  have hs64 : w64 (v + c) := by unfold w64; unfold w32 at hc; omega
  refine nd_lload B (show decode cX9_raise 39 = .ok (.lload 6, 2) by decide +kernel) rfl ?_
  refine nd_ldc2 B (show decode cX9_raise 41 = .ok (.ldc2_w 82, 3) by decide +kernel) lc2_RX9_82 ?_
  refine nd_lcmp B (show decode cX9_raise 44 = .ok (.lcmp, 1) by decide +kernel) ⟨hs64, by decide⟩ ?_
  refine nd_if_lt B (show decode cX9_raise 45 = .ok (.ifCond .lt 12, 3) by decide +kernel) ((zCmp_w _ _).mpr trivial) (by decide) (fun hT => ?_) (fun hT => ?_)
  · exact nd_throw B hl0 hX hZ hne hlk (C := "java/lang/IllegalArgumentException") exL_b.2.1 exL_o.2.1 (by decide +kernel) (show decode cX9_raise 57 = .ok (.new 75, 3) by decide +kernel) (show decode cX9_raise 60 = .ok (.dup, 1) by decide +kernel) (show decode cX9_raise 61 = .ok (.invokespecial 77, 3) by decide +kernel) (show decode cX9_raise 64 = .ok (.athrow, 1) by decide +kernel) (by decide) (h2 hp (Or.inl ((zCmp_lt _ _).mp hT)))
  have hlo : -5 ≤ v + c := Int.not_lt.mp (fun q => hT ((zCmp_lt _ _).mpr q))
  refine nd_lload B (show decode cX9_raise 48 = .ok (.lload 6, 2) by decide +kernel) rfl ?_
  refine nd_ldc2 B (show decode cX9_raise 50 = .ok (.ldc2_w 84, 3) by decide +kernel) lc2_RX9_84 ?_
  refine nd_lcmp B (show decode cX9_raise 53 = .ok (.lcmp, 1) by decide +kernel) ⟨hs64, by decide⟩ ?_
  refine nd_if_le B (show decode cX9_raise 54 = .ok (.ifCond .le 11, 3) by decide +kernel) ((zCmp_w _ _).mpr trivial) (by decide) (fun hT => ?_) (fun hT => ?_)
  rotate_left
  · exact nd_throw B hl0 hX hZ hne hlk (C := "java/lang/IllegalArgumentException") exL_b.2.1 exL_o.2.1 (by decide +kernel) (show decode cX9_raise 57 = .ok (.new 75, 3) by decide +kernel) (show decode cX9_raise 60 = .ok (.dup, 1) by decide +kernel) (show decode cX9_raise 61 = .ok (.invokespecial 77, 3) by decide +kernel) (show decode cX9_raise 64 = .ok (.athrow, 1) by decide +kernel) (by decide) (h2 hp (Or.inr (Int.not_le.mp (fun q => hT ((zCmp_le _ _).mpr q)))))
  have hhi : v + c ≤ 5 := (zCmp_le _ _).mp hT
  refine nd_aload_n B (show decode cX9_raise 65 = .ok (.aload_n 0, 1) by decide +kernel) rfl ?_
  refine nW.cast ?_ rfl rfl (gC (a := (0, 0)) (ci := 8) rfl) rfl
  refine nt_get B (ci := 8) (f := 0) (show decode cX9_raise 66 = .ok (.getfield 15, 3) by decide +kernel) (by decide +kernel) rfl ?_
  refine nW.cast ?_ rfl rfl (gC (a := (0, 0)) (ci := 8) rfl).symm rfl
  refine nd_iload_n B (show decode cX9_raise 69 = .ok (.iload_n 1, 1) by decide +kernel) rfl ?_
  refine nd_iload B (show decode cX9_raise 70 = .ok (.iload 5, 2) by decide +kernel) rfl ?_
  refine nd_lload B (show decode cX9_raise 72 = .ok (.lload 6, 2) by decide +kernel) rfl ?_
  refine nd_l2i B (show decode cX9_raise 74 = .ok (.l2i, 1) by decide +kernel) ?_
  refine nd_callV B (as := [eR (1, 0), eI k, eI pl, eI (v + c)]) (rest := []) (eV_mk mX6_write wX6_write ⟨Nat.le_of_ble_eq_true rfl, Nat.le_of_ble_eq_true rfl⟩ (Or.inl (gW_at 941 (by decide +kernel) rfl))) (show decode cX9_raise 75 = .ok (.invokevirtual 86, 3) by decide +kernel) rfl (Nat.le_of_ble_eq_true rfl) (f := fun o M' => o = none ∧ M' = cC F (uA A1 0 (uI (A1 0) (6 * k + pl) (v + c))) W) (SX6_write_i (p := 0) (by decide) hk32 hpw ⟨fun _ => ⟨rfl, rfl⟩, fun q => absurd ⟨hk.1, hk.2, hpr.1, hpr.2⟩ q⟩) (Nat.zero_le _) (Nat.zero_le _) ?_
  rintro o M' ⟨rfl, rfl⟩
  refine nW.cast (ls' := [some (eR (0, 0)), some (eI k), some (eI a), some (eI b), some (eI c), some (eI pl), some (eL (v + c)), none]) ?_ rfl rfl rfl rfl
  refine nd_lload B (show decode cX9_raise 78 = .ok (.lload 6, 2) by decide +kernel) rfl ?_
  refine nd_l2i B (show decode cX9_raise 80 = .ok (.l2i, 1) by decide +kernel) ?_
  exact nd_iret B hr hlk (show decode cX9_raise 81 = .ok (.ireturn, 1) by decide +kernel) (h3 hp hlo hhi)
