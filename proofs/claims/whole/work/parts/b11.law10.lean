/-! The law's loop, over any relation of the two memories that every call keeps, with the same answers. -/
def lCas (I : eM → eM → Prop) : Prop := ∀ (M1 M2 : eM) (o x1 x2 x3 x4 : Int), I M1 M2 → w32 x1 → w32 x2 → w32 x3 → w32 x4 →
  (SX9_clear [eR (0, 0)] M1 (fun r M1' => r = none ∧ SX10_clear [eR (0, 0)] M2 (fun r2 M2' => r2 = none ∧ I M1' M2'))) ∧
  (SX9_start [eR (0, 0)] M1 (fun r M1' => ∃ v, r = some (eI v) ∧ SX10_start [eR (0, 0)] M2 (fun r2 M2' => r2 = some (eI v) ∧ I M1' M2'))) ∧
  (lSp exTer [eR (0, 0), eI x1, eI x2, eI x3, eI x4] M1 o (fun k o' M1' => (w32 k ∧ True) ∧ SX10_term [eR (0, 0), eI x1, eI x2, eI x3, eI x4] M2 (fun r2 M2' => ∃ v2, w32 v2 ∧ r2 = some (eI v2) ∧ SX10_thrown [eR (0, 0)] M2' (fun r3 M3 => r3 = some (eI k) ∧ (k = 0 → o' = v2) ∧ I M1' M3))) [(xIO, 1), (xIA, 2)]) ∧
  (lSp exQue [eR (0, 0), eI x1, eI x2, eI x3] M1 o (fun k o' M1' => (w32 k ∧ True) ∧ SX10_query [eR (0, 0), eI x1, eI x2, eI x3] M2 (fun r2 M2' => ∃ v2, w32 v2 ∧ r2 = some (eI v2) ∧ SX10_thrown [eR (0, 0)] M2' (fun r3 M3 => r3 = some (eI k) ∧ (k = 0 → o' = v2) ∧ I M1' M3))) [(xIA, 1)]) ∧
  (SX9_solve [eR (0, 0)] M1 (fun r M1' => ∃ v, r = some (eI v) ∧ SX10_solve [eR (0, 0)] M2 (fun r2 M2' => r2 = some (eI v) ∧ I M1' M2'))) ∧
  (SX9_complex [eR (0, 0)] M1 (fun r M1' => ∃ v, r = some (eI v) ∧ SX10_complex [eR (0, 0)] M2 (fun r2 M2' => r2 = some (eI v) ∧ I M1' M2'))) ∧
  (SX9_real [eR (0, 0), eI x1] M1 (fun r M1' => ∃ v, r = some (eI v) ∧ SX10_real [eR (0, 0), eI x1] M2 (fun r2 M2' => r2 = some (eI v) ∧ I M1' M2'))) ∧
  (SX9_elements [eR (0, 0)] M1 (fun r M1' => ∃ v, r = some (eI v) ∧ SX10_elements [eR (0, 0)] M2 (fun r2 M2' => r2 = some (eI v) ∧ I M1' M2'))) ∧
  (SX9_lead [eR (0, 0), eI x1] M1 (fun r M1' => ∃ v, r = some (eI v) ∧ SX10_lead [eR (0, 0), eI x1] M2 (fun r2 M2' => r2 = some (eI v) ∧ I M1' M2'))) ∧
  (SX9_coefficient [eR (0, 0), eI x1, eI x2, eI x3, eI x4] M1 (fun r M1' => ∃ v, r = some (eL v) ∧ SX10_coefficient [eR (0, 0), eI x1, eI x2, eI x3, eI x4] M2 (fun r2 M2' => r2 = some (eL v) ∧ I M1' M2'))) ∧
  (SX9_standard [eR (0, 0)] M1 (fun r M1' => ∃ v, r = some (eI v) ∧ SX10_standard [eR (0, 0)] M2 (fun r2 M2' => r2 = some (eI v) ∧ I M1' M2'))) ∧
  (SX9_monomial [eR (0, 0), eI x1] M1 (fun r M1' => ∃ v, r = some (eI v) ∧ SX10_monomial_ [eR (0, 0), eI x1] M2 (fun r2 M2' => r2 = some (eI v) ∧ I M1' M2'))) ∧
  (SX9_table [eR (0, 0), eI x1, eI x2, eI x3, eI x4] M1 (fun r M1' => ∃ v, r = some (eL v) ∧ SX10_table [eR (0, 0), eI x1, eI x2, eI x3, eI x4] M2 (fun r2 M2' => r2 = some (eL v) ∧ I M1' M2'))) ∧
  (SX9_form [eR (0, 0), eI x1, eI x2, eI x3, eI x4] M1 (fun r M1' => ∃ v, r = some (eL v) ∧ SX10_form [eR (0, 0), eI x1, eI x2, eI x3, eI x4] M2 (fun r2 M2' => r2 = some (eL v) ∧ I M1' M2'))) ∧
  (SX9_rank [eR (0, 0), eI x1] M1 (fun r M1' => ∃ v, r = some (eI v) ∧ SX10_rank [eR (0, 0), eI x1] M2 (fun r2 M2' => r2 = some (eI v) ∧ I M1' M2'))) ∧
  (lSp exSig [eR (0, 0), eI x1] M1 o (fun k o' M1' => (w32 k ∧ True) ∧ SX10_signature [eR (0, 0), eI x1] M2 (fun r2 M2' => ∃ v2, w32 v2 ∧ r2 = some (eI v2) ∧ SX10_thrown [eR (0, 0)] M2' (fun r3 M3 => r3 = some (eI k) ∧ (k = 0 → o' = v2) ∧ I M1' M3))) [(xIA, 1), (xIS, 2)]) ∧
  (SX9_remainder [eR (0, 0), eI x1, eI x2] M1 (fun r M1' => ∃ v, r = some (eL v) ∧ SX10_remainder [eR (0, 0), eI x1, eI x2] M2 (fun r2 M2' => r2 = some (eL v) ∧ I M1' M2'))) ∧
  (SX9_member [eR (0, 0)] M1 (fun r M1' => ∃ v, r = some (eI v) ∧ SX10_member [eR (0, 0)] M2 (fun r2 M2' => r2 = some (eI v) ∧ I M1' M2'))) ∧
  (SX9_count [eR (0, 0), eI x1] M1 (fun r M1' => ∃ v, r = some (eI v) ∧ SX10_count [eR (0, 0), eI x1] M2 (fun r2 M2' => r2 = some (eI v) ∧ I M1' M2'))) ∧
  (SX9_at [eR (0, 0), eI x1, eI x2, eI x3] M1 (fun r M1' => ∃ v, r = some (eI v) ∧ SX10_at_ [eR (0, 0), eI x1, eI x2, eI x3] M2 (fun r2 M2' => r2 = some (eI v) ∧ I M1' M2')))
set_option maxRecDepth 100000 in
theorem law_lp {gC : va_G} {tC : Nat → ClassId} {p : Program} {l : Launch} {e : Env} {s : State} {m : MethodId} {below : List Frame} {meth : Method} {c : Code} {Q : State → Prop} {b L : Nat} {xs : Nat → Int32} {I : eM → eM → Prop} (hx : p.tables.exec = Jvm.exec) (hb : c.code = cL_law) (B : lB RL cL_law 7 p s m #[Value.ref b] c) (hl0 : l.stackTraces = false) (hK1 : eKn (lG1 gC tC s.heap.size) s) (hK2 : eKn (lG2 gC tC s.heap.size) s) (hF : eXF s) (hZ : eXZ (lwA1 s.heap.size) s s.heap) (hn1 : va_Nc xIA xIO s) (hn2 : va_Nc xIS xIA s) (hX : va_X b L xs s s.heap) (hbl : b < s.heap.size) (hL : L ≤ 2560)
    (hI : lCas I) (hend : ∀ (H : Heap) (locs : List Loc) (ls : Array Slot), va_S (fun q => s.heap.size ≤ q) s.heap H locs → W p l e room_1 s m #[Value.ref b] below meth c H locs 601024 7293034 Q (F0 m 854 ls [.int 1])) :
    ∀ (d t : Nat) (M1 M2 : eM) (o : Int) (H : Heap) (locs : List Loc) (ls : Array Slot), 5 * t + d = 2565 → I M1 M2 → lCx gC tC s b M1 M2 o (5 * t) H locs ls → W p l e room_1 s m #[Value.ref b] below meth c H locs (763 + t) (1617924 + 6 * t) Q (F0 m 23 ls []) := by
  intro d
  induction d using Nat.strongRecOn with
  | ind d ih =>
  intro t M1 M2 o H locs ls hd hIM hC
  obtain ⟨hP1, hP2, hO, hS, lv, hl⟩ := id hC
  refine lv_iload hx hb (show decode cL_law 23 = .ok (.iload 4, 2) by decide +kernel) (lv_at hl 0 rfl) ?_
  refine lv_aload_n hx hb (show decode cL_law 25 = .ok (.aload_n 0, 1) by decide +kernel) rfl (lv_at hl 4 rfl) ?_
  refine va_slen hx hb hX hbl (fun h => by omega) hS (show decode cL_law 26 = .ok (.arraylength, 1) by decide +kernel) ?_
  refine lv_iconst (v := Int32.ofInt 5) hx hb (show decode cL_law 27 = .ok (.iconst 5, 1) by decide +kernel) rfl ?_
  refine lv_isub hx hb (show decode cL_law 28 = .ok (.isub, 1) by decide +kernel) ?_
  rw [show Int32.ofNat L = Int32.ofInt (L : Int) from (Int32.ofInt_eq_ofNat).symm, z_sub]
  refine lv_icmp_gt (tgt := 853) hx hb (show decode cL_law 29 = .ok (.if_icmp .gt 824, 3) by decide +kernel) (by decide) (fun hT => ?_) (fun hT => ?_)
  · refine lv_iconst (v := 1) hx hb (show decode cL_law 853 = .ok (.iconst 1, 1) by decide +kernel) (by decide) ?_
    by_cases ht : t ≤ 513
    · exact W.widen (k := 601024) (n := 7293034) (by omega) (by omega) (hend H locs ls hS)
    · exact absurd hd (by omega)
  have hi : 5 * t + 4 < L := by
    have h2 : ¬ Int32.ofInt ((L : Int) - 5) < Int32.ofInt ((5 * t : Nat) : Int) := hT
    rw [z_lt (by unfold w32; omega) (by unfold w32; omega)] at h2
    omega
  have back : ∀ (M1' M2' : eM) (o' : Int) (H1 : Heap) (locs1 : List Loc) (ls1 : Array Slot), I M1' M2' → lCx gC tC s b M1' M2' o' (5 * t) H1 locs1 ls1 → W p l e room_1 s m #[Value.ref b] below meth c H1 locs1 (763 + t + 1) (1617924 + 6 * t + 6) Q (F0 m 847 ls1 []) := by
    intro M1' M2' o' H1 locs1 ls1 hI' hC'
    obtain ⟨hP1, hP2, hO, hS, lv, hl⟩ := hC'
    have hl := lv_sub hl (l' := [(4, .int (Int32.ofInt ((5 * t : Nat) : Int))), (3, .ref (s.heap.size + 762)), (2, .ref (s.heap.size + 748)), (1, .ref s.heap.size), (0, .ref b)]) [0, 1, 2, 3, 4] rfl
    refine lv_iinc (v := Int32.ofInt ((5 * (t + 1) : Nat) : Int)) (lv' := [(4, .int (Int32.ofInt ((5 * (t + 1) : Nat) : Int))), (3, .ref (s.heap.size + 762)), (2, .ref (s.heap.size + 748)), (1, .ref s.heap.size), (0, .ref b)]) hx hb (show decode cL_law 847 = .ok (.iinc 4 5, 3) by decide +kernel) hl (k := 0) rfl (by rw [z_add]; congr 1) (by decide) rfl (fun ls hl => ?_)
    refine lv_goto (tgt := 23) hx hb (show decode cL_law 850 = .ok (.goto (-827), 3) by decide +kernel) (by decide) ?_
    exact ih (d - 5) (by omega) (t + 1) M1' M2' o' H1 locs1 ls (by omega) hI' ⟨hP1, hP2, hO, hS, [], hl⟩
  have back0 : ∀ (M1' M2' : eM) (H1 : Heap) (locs1 : List Loc), I M1' M2' → lCx gC tC s b M1' M2' o (5 * t) H1 locs1 ls → W p l e room_1 s m #[Value.ref b] below meth c H1 locs1 (763 + t) (1617924 + 6 * t) Q (F0 m 847 ls []) := fun M1' M2' H1 locs1 hI' hC' => W.widen (by omega) (by omega) (back M1' M2' o H1 locs1 ls hI' hC')
  have hw : ∀ j, w32 (xs j).toInt := fun j => ⟨Int32.le_toInt _, by have := Int32.toInt_lt (xs j); omega⟩
  have hcs := hI M1 M2 o _ _ _ _ hIM (hw (5 * t + 1)) (hw (5 * t + 2)) (hw (5 * t + 3)) (hw (5 * t + 4))
  obtain ⟨c0, c1, c2, c3, c4, c5, c6, c7, c8, c9, c10, c11, c12, c13, c14, c15, c16, c17, c18, c19⟩ := hcs
  refine lw_arg0 hx hb hX hbl hC (by omega) hL (show decode cL_law 32 = .ok (.aload_n 0, 1) by decide +kernel) (show decode cL_law 33 = .ok (.iload 4, 2) by decide +kernel) (show decode cL_law 35 = .ok (.iaload, 1) by decide +kernel) ?_
  refine lv_bipush hx hb (show decode cL_law 36 = .ok (.bipush 31, 2) by decide +kernel) rfl ?_
  refine lv_iand hx hb (show decode cL_law 38 = .ok (.iand, 1) by decide +kernel) ?_
  generalize hv : (xs (5 * t) &&& (Int8.ofInt 31).toInt32 : Int32) = v
  by_cases ho : v.toInt < 0 ∨ 19 < v.toInt
  · refine lv_tableOut (tgt := 847) hx hb (show decode cL_law 39 = .ok (.tableswitch 808 0 19 #[93, 104, 117, 209, 289, 302, 315, 340, 353, 378, 440, 453, 478, 540, 602, 627, 683, 721, 734, 759], 93) by decide +kernel) ho (by decide) ?_
    exact back0 M1 M2 H locs hIM hC
  have hn : 763 + t + 1 ≤ room_1.cells := by show _ ≤ 601024; omega
  have hk : 1617924 + 6 * t + 6 ≤ room_1.slots := by show _ ≤ 7293034; omega
  have hvk : v.toInt = 0 ∨ v.toInt = 1 ∨ v.toInt = 2 ∨ v.toInt = 3 ∨ v.toInt = 4 ∨ v.toInt = 5 ∨ v.toInt = 6 ∨ v.toInt = 7 ∨ v.toInt = 8 ∨ v.toInt = 9 ∨ v.toInt = 10 ∨ v.toInt = 11 ∨ v.toInt = 12 ∨ v.toInt = 13 ∨ v.toInt = 14 ∨ v.toInt = 15 ∨ v.toInt = 16 ∨ v.toInt = 17 ∨ v.toInt = 18 ∨ v.toInt = 19 := by omega
  rcases hvk with hvk | hvk | hvk | hvk | hvk | hvk | hvk | hvk | hvk | hvk | hvk | hvk | hvk | hvk | hvk | hvk | hvk | hvk | hvk | hvk
  · refine lv_tableIn (off := 93) (tgt := 132) hx hb (show decode cL_law 39 = .ok (.tableswitch 808 0 19 #[93, 104, 117, 209, 289, 302, 315, 340, 353, 378, 440, 453, 478, 540, 602, 627, 683, 721, 734, 759], 93) by decide +kernel) (by omega) (by omega) (by rw [hvk]; rfl) (by decide) ?_
    exact lc_0 hx hb B hK1 hK2 hX hbl hL hi (by omega) (by omega) hC c0 back0
  · refine lv_tableIn (off := 104) (tgt := 143) hx hb (show decode cL_law 39 = .ok (.tableswitch 808 0 19 #[93, 104, 117, 209, 289, 302, 315, 340, 353, 378, 440, 453, 478, 540, 602, 627, 683, 721, 734, 759], 93) by decide +kernel) (by omega) (by omega) (by rw [hvk]; rfl) (by decide) ?_
    exact lc_1 hx hb B hK1 hK2 hX hbl hL hi (by omega) (by omega) hC c1 back0
  · refine lv_tableIn (off := 117) (tgt := 156) hx hb (show decode cL_law 39 = .ok (.tableswitch 808 0 19 #[93, 104, 117, 209, 289, 302, 315, 340, 353, 378, 440, 453, 478, 540, 602, 627, 683, 721, 734, 759], 93) by decide +kernel) (by omega) (by omega) (by rw [hvk]; rfl) (by decide) ?_
    exact lc_2 hx hb B hl0 hK1 hK2 hF hZ hn1 hn2 hX hbl hL hi hn hk hC c2 back
  · refine lv_tableIn (off := 209) (tgt := 248) hx hb (show decode cL_law 39 = .ok (.tableswitch 808 0 19 #[93, 104, 117, 209, 289, 302, 315, 340, 353, 378, 440, 453, 478, 540, 602, 627, 683, 721, 734, 759], 93) by decide +kernel) (by omega) (by omega) (by rw [hvk]; rfl) (by decide) ?_
    exact lc_3 hx hb B hl0 hK1 hK2 hF hZ hn1 hn2 hX hbl hL hi hn hk hC c3 back
  · refine lv_tableIn (off := 289) (tgt := 328) hx hb (show decode cL_law 39 = .ok (.tableswitch 808 0 19 #[93, 104, 117, 209, 289, 302, 315, 340, 353, 378, 440, 453, 478, 540, 602, 627, 683, 721, 734, 759], 93) by decide +kernel) (by omega) (by omega) (by rw [hvk]; rfl) (by decide) ?_
    exact lc_4 hx hb B hK1 hK2 hX hbl hL hi (by omega) (by omega) hC c4 back0
  · refine lv_tableIn (off := 302) (tgt := 341) hx hb (show decode cL_law 39 = .ok (.tableswitch 808 0 19 #[93, 104, 117, 209, 289, 302, 315, 340, 353, 378, 440, 453, 478, 540, 602, 627, 683, 721, 734, 759], 93) by decide +kernel) (by omega) (by omega) (by rw [hvk]; rfl) (by decide) ?_
    exact lc_5 hx hb B hK1 hK2 hX hbl hL hi (by omega) (by omega) hC c5 back0
  · refine lv_tableIn (off := 315) (tgt := 354) hx hb (show decode cL_law 39 = .ok (.tableswitch 808 0 19 #[93, 104, 117, 209, 289, 302, 315, 340, 353, 378, 440, 453, 478, 540, 602, 627, 683, 721, 734, 759], 93) by decide +kernel) (by omega) (by omega) (by rw [hvk]; rfl) (by decide) ?_
    exact lc_6 hx hb B hK1 hK2 hX hbl hL hi (by omega) (by omega) hC c6 back0
  · refine lv_tableIn (off := 340) (tgt := 379) hx hb (show decode cL_law 39 = .ok (.tableswitch 808 0 19 #[93, 104, 117, 209, 289, 302, 315, 340, 353, 378, 440, 453, 478, 540, 602, 627, 683, 721, 734, 759], 93) by decide +kernel) (by omega) (by omega) (by rw [hvk]; rfl) (by decide) ?_
    exact lc_7 hx hb B hK1 hK2 hX hbl hL hi (by omega) (by omega) hC c7 back0
  · refine lv_tableIn (off := 353) (tgt := 392) hx hb (show decode cL_law 39 = .ok (.tableswitch 808 0 19 #[93, 104, 117, 209, 289, 302, 315, 340, 353, 378, 440, 453, 478, 540, 602, 627, 683, 721, 734, 759], 93) by decide +kernel) (by omega) (by omega) (by rw [hvk]; rfl) (by decide) ?_
    exact lc_8 hx hb B hK1 hK2 hX hbl hL hi (by omega) (by omega) hC c8 back0
  · refine lv_tableIn (off := 378) (tgt := 417) hx hb (show decode cL_law 39 = .ok (.tableswitch 808 0 19 #[93, 104, 117, 209, 289, 302, 315, 340, 353, 378, 440, 453, 478, 540, 602, 627, 683, 721, 734, 759], 93) by decide +kernel) (by omega) (by omega) (by rw [hvk]; rfl) (by decide) ?_
    exact lc_9 hx hb B hK1 hK2 hX hbl hL hi (by omega) (by omega) hC c9 back0
  · refine lv_tableIn (off := 440) (tgt := 479) hx hb (show decode cL_law 39 = .ok (.tableswitch 808 0 19 #[93, 104, 117, 209, 289, 302, 315, 340, 353, 378, 440, 453, 478, 540, 602, 627, 683, 721, 734, 759], 93) by decide +kernel) (by omega) (by omega) (by rw [hvk]; rfl) (by decide) ?_
    exact lc_10 hx hb B hK1 hK2 hX hbl hL hi (by omega) (by omega) hC c10 back0
  · refine lv_tableIn (off := 453) (tgt := 492) hx hb (show decode cL_law 39 = .ok (.tableswitch 808 0 19 #[93, 104, 117, 209, 289, 302, 315, 340, 353, 378, 440, 453, 478, 540, 602, 627, 683, 721, 734, 759], 93) by decide +kernel) (by omega) (by omega) (by rw [hvk]; rfl) (by decide) ?_
    exact lc_11 hx hb B hK1 hK2 hX hbl hL hi (by omega) (by omega) hC c11 back0
  · refine lv_tableIn (off := 478) (tgt := 517) hx hb (show decode cL_law 39 = .ok (.tableswitch 808 0 19 #[93, 104, 117, 209, 289, 302, 315, 340, 353, 378, 440, 453, 478, 540, 602, 627, 683, 721, 734, 759], 93) by decide +kernel) (by omega) (by omega) (by rw [hvk]; rfl) (by decide) ?_
    exact lc_12 hx hb B hK1 hK2 hX hbl hL hi (by omega) (by omega) hC c12 back0
  · refine lv_tableIn (off := 540) (tgt := 579) hx hb (show decode cL_law 39 = .ok (.tableswitch 808 0 19 #[93, 104, 117, 209, 289, 302, 315, 340, 353, 378, 440, 453, 478, 540, 602, 627, 683, 721, 734, 759], 93) by decide +kernel) (by omega) (by omega) (by rw [hvk]; rfl) (by decide) ?_
    exact lc_13 hx hb B hK1 hK2 hX hbl hL hi (by omega) (by omega) hC c13 back0
  · refine lv_tableIn (off := 602) (tgt := 641) hx hb (show decode cL_law 39 = .ok (.tableswitch 808 0 19 #[93, 104, 117, 209, 289, 302, 315, 340, 353, 378, 440, 453, 478, 540, 602, 627, 683, 721, 734, 759], 93) by decide +kernel) (by omega) (by omega) (by rw [hvk]; rfl) (by decide) ?_
    exact lc_14 hx hb B hK1 hK2 hX hbl hL hi (by omega) (by omega) hC c14 back0
  · refine lv_tableIn (off := 627) (tgt := 666) hx hb (show decode cL_law 39 = .ok (.tableswitch 808 0 19 #[93, 104, 117, 209, 289, 302, 315, 340, 353, 378, 440, 453, 478, 540, 602, 627, 683, 721, 734, 759], 93) by decide +kernel) (by omega) (by omega) (by rw [hvk]; rfl) (by decide) ?_
    exact lc_15 hx hb B hl0 hK1 hK2 hF hZ hn1 hn2 hX hbl hL hi hn hk hC c15 back
  · refine lv_tableIn (off := 683) (tgt := 722) hx hb (show decode cL_law 39 = .ok (.tableswitch 808 0 19 #[93, 104, 117, 209, 289, 302, 315, 340, 353, 378, 440, 453, 478, 540, 602, 627, 683, 721, 734, 759], 93) by decide +kernel) (by omega) (by omega) (by rw [hvk]; rfl) (by decide) ?_
    exact lc_16 hx hb B hK1 hK2 hX hbl hL hi (by omega) (by omega) hC c16 back0
  · refine lv_tableIn (off := 721) (tgt := 760) hx hb (show decode cL_law 39 = .ok (.tableswitch 808 0 19 #[93, 104, 117, 209, 289, 302, 315, 340, 353, 378, 440, 453, 478, 540, 602, 627, 683, 721, 734, 759], 93) by decide +kernel) (by omega) (by omega) (by rw [hvk]; rfl) (by decide) ?_
    exact lc_17 hx hb B hK1 hK2 hX hbl hL hi (by omega) (by omega) hC c17 back0
  · refine lv_tableIn (off := 734) (tgt := 773) hx hb (show decode cL_law 39 = .ok (.tableswitch 808 0 19 #[93, 104, 117, 209, 289, 302, 315, 340, 353, 378, 440, 453, 478, 540, 602, 627, 683, 721, 734, 759], 93) by decide +kernel) (by omega) (by omega) (by rw [hvk]; rfl) (by decide) ?_
    exact lc_18 hx hb B hK1 hK2 hX hbl hL hi (by omega) (by omega) hC c18 back0
  · refine lv_tableIn (off := 759) (tgt := 798) hx hb (show decode cL_law 39 = .ok (.tableswitch 808 0 19 #[93, 104, 117, 209, 289, 302, 315, 340, 353, 378, 440, 453, 478, 540, 602, 627, 683, 721, 734, 759], 93) by decide +kernel) (by omega) (by omega) (by rw [hvk]; rfl) (by decide) ?_
    exact lc_19 hx hb B hK1 hK2 hX hbl hL hi (by omega) (by omega) hC c19 back0
