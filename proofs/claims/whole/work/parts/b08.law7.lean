/-! The law's cases that compare two answers. -/
theorem lg_cmp_s (x : Int64) : lg_cmp x x = 0 := by simp [lg_cmp]
section LCS
variable {gC : va_G} {tC : Nat → ClassId} {p : Program} {l : Launch} {e : Env} {s : State} {m : MethodId} {below : List Frame} {meth : Method} {c : Code} {Q : State → Prop} {M1 M2 : eM} {o : Int} {i : Nat} {n k0 : Nat} {H : Heap} {locs : List Loc} {ls : Array Slot} {b L : Nat} {xs : Nat → Int32} {I : eM → eM → Prop}
theorem lc_0 (hx : p.tables.exec = Jvm.exec) (hb : c.code = cL_law) (B : lB RL cL_law 7 p s m #[Value.ref b] c) (hK1 : eKn (lG1 gC tC s.heap.size) s) (hK2 : eKn (lG2 gC tC s.heap.size) s) (hX : va_X b L xs s s.heap) (hbl : b < s.heap.size) (hL : L ≤ 2560) (hi : i + 4 < L) (hn : n ≤ room_1.cells) (hk0 : k0 ≤ room_1.slots) (hC : lCx gC tC s b M1 M2 o i H locs ls)
    (hcase : SX9_clear [eR (0, 0)] M1 (fun r M1' => r = none ∧ SX10_clear [eR (0, 0)] M2 (fun r2 M2' => r2 = none ∧ I M1' M2')))
    (kk : ∀ (M1' M2' : eM) (H1 : Heap) (locs1 : List Loc), I M1' M2' → lCx gC tC s b M1' M2' o i H1 locs1 ls → W p l e room_1 s m #[Value.ref b] below meth c H1 locs1 n k0 Q (F0 m 847 ls [])) : W p l e room_1 s m #[Value.ref b] below meth c H locs n k0 Q (F0 m 132 ls []) := by
  obtain ⟨lv, hl⟩ := hC.2.2.2.2
  refine lv_aload_n hx hb (show decode cL_law 132 = .ok (.aload_n 1, 1) by decide +kernel) rfl (lv_at hl 3 rfl) ?_
  refine lw_k1 (as := [eR (0, 0)]) (st := []) B hK1 hC mX9_clear wX9_clear (gW_at 364 (by decide +kernel) rfl) ⟨Nat.le_of_ble_eq_true rfl, Nat.le_of_ble_eq_true rfl⟩ (show decode cL_law 133 = .ok (.invokevirtual 31, 3) by decide +kernel) rfl (Nat.le_of_ble_eq_true rfl) hcase hn hk0 ?_
  intro r M1' H1 locs1 hf hC
  obtain ⟨rfl, hcase2⟩ := hf
  obtain ⟨lv, hl⟩ := hC.2.2.2.2
  refine lv_aload_n hx hb (show decode cL_law 136 = .ok (.aload_n 2, 1) by decide +kernel) rfl (lv_at hl 2 rfl) ?_
  refine lw_k2 (as := [eR (0, 0)]) (st := []) B hK2 hC mX10_clear wX10_clear (gW_at 1249 (by decide +kernel) rfl) ⟨Nat.le_of_ble_eq_true rfl, Nat.le_of_ble_eq_true rfl⟩ (show decode cL_law 137 = .ok (.invokevirtual 34, 3) by decide +kernel) rfl (Nat.le_of_ble_eq_true rfl) hcase2 hn hk0 ?_
  intro r2 M2' H2 locs2 hf hC
  obtain ⟨rfl, hI⟩ := hf
  refine lv_goto (tgt := 847) hx hb (show decode cL_law 140 = .ok (.goto 707, 3) by decide +kernel) (by decide) ?_
  exact kk _ _ _ _ hI hC
theorem lc_1 (hx : p.tables.exec = Jvm.exec) (hb : c.code = cL_law) (B : lB RL cL_law 7 p s m #[Value.ref b] c) (hK1 : eKn (lG1 gC tC s.heap.size) s) (hK2 : eKn (lG2 gC tC s.heap.size) s) (hX : va_X b L xs s s.heap) (hbl : b < s.heap.size) (hL : L ≤ 2560) (hi : i + 4 < L) (hn : n ≤ room_1.cells) (hk0 : k0 ≤ room_1.slots) (hC : lCx gC tC s b M1 M2 o i H locs ls)
    (hcase : SX9_start [eR (0, 0)] M1 (fun r M1' => ∃ v, r = some (eI v) ∧ SX10_start [eR (0, 0)] M2 (fun r2 M2' => r2 = some (eI v) ∧ I M1' M2')))
    (kk : ∀ (M1' M2' : eM) (H1 : Heap) (locs1 : List Loc), I M1' M2' → lCx gC tC s b M1' M2' o i H1 locs1 ls → W p l e room_1 s m #[Value.ref b] below meth c H1 locs1 n k0 Q (F0 m 847 ls [])) : W p l e room_1 s m #[Value.ref b] below meth c H locs n k0 Q (F0 m 143 ls []) := by
  obtain ⟨lv, hl⟩ := hC.2.2.2.2
  refine lv_aload_n hx hb (show decode cL_law 143 = .ok (.aload_n 1, 1) by decide +kernel) rfl (lv_at hl 3 rfl) ?_
  refine lw_k1 (as := [eR (0, 0)]) (st := []) B hK1 hC mX9_start wX9_start (gW_at 384 (by decide +kernel) rfl) ⟨Nat.le_of_ble_eq_true rfl, Nat.le_of_ble_eq_true rfl⟩ (show decode cL_law 144 = .ok (.invokevirtual 35, 3) by decide +kernel) rfl (Nat.le_of_ble_eq_true rfl) hcase hn hk0 ?_
  intro r M1' H1 locs1 hf hC
  obtain ⟨v, rfl, hcase2⟩ := hf
  obtain ⟨lv, hl⟩ := hC.2.2.2.2
  refine lv_aload_n hx hb (show decode cL_law 147 = .ok (.aload_n 2, 1) by decide +kernel) rfl (lv_at hl 2 rfl) ?_
  refine lw_k2 (as := [eR (0, 0)]) (st := [.int (Int32.ofInt v)]) B hK2 hC mX10_start wX10_start (gW_at 1253 (by decide +kernel) rfl) ⟨Nat.le_of_ble_eq_true rfl, Nat.le_of_ble_eq_true rfl⟩ (show decode cL_law 148 = .ok (.invokevirtual 39, 3) by decide +kernel) rfl (Nat.le_of_ble_eq_true rfl) hcase2 hn hk0 ?_
  intro r2 M2' H2 locs2 hf hC
  obtain ⟨rfl, hI⟩ := hf
  refine lv_icmp_eq (tgt := 847) hx hb (show decode cL_law 151 = .ok (.if_icmp .eq 696, 3) by decide +kernel) (by decide) (fun _ => ?_) (fun h => absurd rfl h)
  exact kk _ _ _ _ hI hC
theorem lc_4 (hx : p.tables.exec = Jvm.exec) (hb : c.code = cL_law) (B : lB RL cL_law 7 p s m #[Value.ref b] c) (hK1 : eKn (lG1 gC tC s.heap.size) s) (hK2 : eKn (lG2 gC tC s.heap.size) s) (hX : va_X b L xs s s.heap) (hbl : b < s.heap.size) (hL : L ≤ 2560) (hi : i + 4 < L) (hn : n ≤ room_1.cells) (hk0 : k0 ≤ room_1.slots) (hC : lCx gC tC s b M1 M2 o i H locs ls)
    (hcase : SX9_solve [eR (0, 0)] M1 (fun r M1' => ∃ v, r = some (eI v) ∧ SX10_solve [eR (0, 0)] M2 (fun r2 M2' => r2 = some (eI v) ∧ I M1' M2')))
    (kk : ∀ (M1' M2' : eM) (H1 : Heap) (locs1 : List Loc), I M1' M2' → lCx gC tC s b M1' M2' o i H1 locs1 ls → W p l e room_1 s m #[Value.ref b] below meth c H1 locs1 n k0 Q (F0 m 847 ls [])) : W p l e room_1 s m #[Value.ref b] below meth c H locs n k0 Q (F0 m 328 ls []) := by
  obtain ⟨lv, hl⟩ := hC.2.2.2.2
  refine lv_aload_n hx hb (show decode cL_law 328 = .ok (.aload_n 1, 1) by decide +kernel) rfl (lv_at hl 3 rfl) ?_
  refine lw_k1 (as := [eR (0, 0)]) (st := []) B hK1 hC mX9_solve wX9_solve (gW_at 392 (by decide +kernel) rfl) ⟨Nat.le_of_ble_eq_true rfl, Nat.le_of_ble_eq_true rfl⟩ (show decode cL_law 329 = .ok (.invokevirtual 53, 3) by decide +kernel) rfl (Nat.le_of_ble_eq_true rfl) hcase hn hk0 ?_
  intro r M1' H1 locs1 hf hC
  obtain ⟨v, rfl, hcase2⟩ := hf
  obtain ⟨lv, hl⟩ := hC.2.2.2.2
  refine lv_aload_n hx hb (show decode cL_law 332 = .ok (.aload_n 2, 1) by decide +kernel) rfl (lv_at hl 2 rfl) ?_
  refine lw_k2 (as := [eR (0, 0)]) (st := [.int (Int32.ofInt v)]) B hK2 hC mX10_solve wX10_solve (gW_at 1054 (by decide +kernel) rfl) ⟨Nat.le_of_ble_eq_true rfl, Nat.le_of_ble_eq_true rfl⟩ (show decode cL_law 333 = .ok (.invokevirtual 56, 3) by decide +kernel) rfl (Nat.le_of_ble_eq_true rfl) hcase2 hn hk0 ?_
  intro r2 M2' H2 locs2 hf hC
  obtain ⟨rfl, hI⟩ := hf
  refine lv_icmp_eq (tgt := 847) hx hb (show decode cL_law 336 = .ok (.if_icmp .eq 511, 3) by decide +kernel) (by decide) (fun _ => ?_) (fun h => absurd rfl h)
  exact kk _ _ _ _ hI hC
theorem lc_5 (hx : p.tables.exec = Jvm.exec) (hb : c.code = cL_law) (B : lB RL cL_law 7 p s m #[Value.ref b] c) (hK1 : eKn (lG1 gC tC s.heap.size) s) (hK2 : eKn (lG2 gC tC s.heap.size) s) (hX : va_X b L xs s s.heap) (hbl : b < s.heap.size) (hL : L ≤ 2560) (hi : i + 4 < L) (hn : n ≤ room_1.cells) (hk0 : k0 ≤ room_1.slots) (hC : lCx gC tC s b M1 M2 o i H locs ls)
    (hcase : SX9_complex [eR (0, 0)] M1 (fun r M1' => ∃ v, r = some (eI v) ∧ SX10_complex [eR (0, 0)] M2 (fun r2 M2' => r2 = some (eI v) ∧ I M1' M2')))
    (kk : ∀ (M1' M2' : eM) (H1 : Heap) (locs1 : List Loc), I M1' M2' → lCx gC tC s b M1' M2' o i H1 locs1 ls → W p l e room_1 s m #[Value.ref b] below meth c H1 locs1 n k0 Q (F0 m 847 ls [])) : W p l e room_1 s m #[Value.ref b] below meth c H locs n k0 Q (F0 m 341 ls []) := by
  obtain ⟨lv, hl⟩ := hC.2.2.2.2
  refine lv_aload_n hx hb (show decode cL_law 341 = .ok (.aload_n 1, 1) by decide +kernel) rfl (lv_at hl 3 rfl) ?_
  refine lw_k1 (as := [eR (0, 0)]) (st := []) B hK1 hC mX9_complex wX9_complex (gW_at 716 (by decide +kernel) rfl) ⟨Nat.le_of_ble_eq_true rfl, Nat.le_of_ble_eq_true rfl⟩ (show decode cL_law 342 = .ok (.invokevirtual 57, 3) by decide +kernel) rfl (Nat.le_of_ble_eq_true rfl) hcase hn hk0 ?_
  intro r M1' H1 locs1 hf hC
  obtain ⟨v, rfl, hcase2⟩ := hf
  obtain ⟨lv, hl⟩ := hC.2.2.2.2
  refine lv_aload_n hx hb (show decode cL_law 345 = .ok (.aload_n 2, 1) by decide +kernel) rfl (lv_at hl 2 rfl) ?_
  refine lw_k2 (as := [eR (0, 0)]) (st := [.int (Int32.ofInt v)]) B hK2 hC mX10_complex wX10_complex (gW_at 1271 (by decide +kernel) rfl) ⟨Nat.le_of_ble_eq_true rfl, Nat.le_of_ble_eq_true rfl⟩ (show decode cL_law 346 = .ok (.invokevirtual 60, 3) by decide +kernel) rfl (Nat.le_of_ble_eq_true rfl) hcase2 hn hk0 ?_
  intro r2 M2' H2 locs2 hf hC
  obtain ⟨rfl, hI⟩ := hf
  refine lv_icmp_eq (tgt := 847) hx hb (show decode cL_law 349 = .ok (.if_icmp .eq 498, 3) by decide +kernel) (by decide) (fun _ => ?_) (fun h => absurd rfl h)
  exact kk _ _ _ _ hI hC
theorem lc_6 (hx : p.tables.exec = Jvm.exec) (hb : c.code = cL_law) (B : lB RL cL_law 7 p s m #[Value.ref b] c) (hK1 : eKn (lG1 gC tC s.heap.size) s) (hK2 : eKn (lG2 gC tC s.heap.size) s) (hX : va_X b L xs s s.heap) (hbl : b < s.heap.size) (hL : L ≤ 2560) (hi : i + 4 < L) (hn : n ≤ room_1.cells) (hk0 : k0 ≤ room_1.slots) (hC : lCx gC tC s b M1 M2 o i H locs ls)
    (hcase : SX9_real [eR (0, 0), eI (xs (i + 1)).toInt] M1 (fun r M1' => ∃ v, r = some (eI v) ∧ SX10_real [eR (0, 0), eI (xs (i + 1)).toInt] M2 (fun r2 M2' => r2 = some (eI v) ∧ I M1' M2')))
    (kk : ∀ (M1' M2' : eM) (H1 : Heap) (locs1 : List Loc), I M1' M2' → lCx gC tC s b M1' M2' o i H1 locs1 ls → W p l e room_1 s m #[Value.ref b] below meth c H1 locs1 n k0 Q (F0 m 847 ls [])) : W p l e room_1 s m #[Value.ref b] below meth c H locs n k0 Q (F0 m 354 ls []) := by
  obtain ⟨lv, hl⟩ := hC.2.2.2.2
  refine lv_aload_n hx hb (show decode cL_law 354 = .ok (.aload_n 1, 1) by decide +kernel) rfl (lv_at hl 3 rfl) ?_
  refine lw_arg (k := 1) hx hb hX hbl hC (by omega) hL (show decode cL_law 355 = .ok (.aload_n 0, 1) by decide +kernel) (show decode cL_law 356 = .ok (.iload 4, 2) by decide +kernel) (show decode cL_law 358 = .ok (.iconst 1, 1) by decide +kernel) (show decode cL_law 359 = .ok (.iadd, 1) by decide +kernel) (show decode cL_law 360 = .ok (.iaload, 1) by decide +kernel) ?_
  refine lw_k1 (as := [eR (0, 0), eI (xs (i + 1)).toInt]) (st := []) B hK1 hC mX9_real wX9_real (gW_at 728 (by decide +kernel) rfl) ⟨Nat.le_of_ble_eq_true rfl, Nat.le_of_ble_eq_true rfl⟩ (show decode cL_law 361 = .ok (.invokevirtual 61, 3) by decide +kernel) rfl (Nat.le_of_ble_eq_true rfl) hcase hn hk0 ?_
  intro r M1' H1 locs1 hf hC
  obtain ⟨v, rfl, hcase2⟩ := hf
  obtain ⟨lv, hl⟩ := hC.2.2.2.2
  refine lv_aload_n hx hb (show decode cL_law 364 = .ok (.aload_n 2, 1) by decide +kernel) rfl (lv_at hl 2 rfl) ?_
  refine lw_arg (k := 1) hx hb hX hbl hC (by omega) hL (show decode cL_law 365 = .ok (.aload_n 0, 1) by decide +kernel) (show decode cL_law 366 = .ok (.iload 4, 2) by decide +kernel) (show decode cL_law 368 = .ok (.iconst 1, 1) by decide +kernel) (show decode cL_law 369 = .ok (.iadd, 1) by decide +kernel) (show decode cL_law 370 = .ok (.iaload, 1) by decide +kernel) ?_
  refine lw_k2 (as := [eR (0, 0), eI (xs (i + 1)).toInt]) (st := [.int (Int32.ofInt v)]) B hK2 hC mX10_real wX10_real (gW_at 1279 (by decide +kernel) rfl) ⟨Nat.le_of_ble_eq_true rfl, Nat.le_of_ble_eq_true rfl⟩ (show decode cL_law 371 = .ok (.invokevirtual 64, 3) by decide +kernel) rfl (Nat.le_of_ble_eq_true rfl) hcase2 hn hk0 ?_
  intro r2 M2' H2 locs2 hf hC
  obtain ⟨rfl, hI⟩ := hf
  refine lv_icmp_eq (tgt := 847) hx hb (show decode cL_law 374 = .ok (.if_icmp .eq 473, 3) by decide +kernel) (by decide) (fun _ => ?_) (fun h => absurd rfl h)
  exact kk _ _ _ _ hI hC
theorem lc_7 (hx : p.tables.exec = Jvm.exec) (hb : c.code = cL_law) (B : lB RL cL_law 7 p s m #[Value.ref b] c) (hK1 : eKn (lG1 gC tC s.heap.size) s) (hK2 : eKn (lG2 gC tC s.heap.size) s) (hX : va_X b L xs s s.heap) (hbl : b < s.heap.size) (hL : L ≤ 2560) (hi : i + 4 < L) (hn : n ≤ room_1.cells) (hk0 : k0 ≤ room_1.slots) (hC : lCx gC tC s b M1 M2 o i H locs ls)
    (hcase : SX9_elements [eR (0, 0)] M1 (fun r M1' => ∃ v, r = some (eI v) ∧ SX10_elements [eR (0, 0)] M2 (fun r2 M2' => r2 = some (eI v) ∧ I M1' M2')))
    (kk : ∀ (M1' M2' : eM) (H1 : Heap) (locs1 : List Loc), I M1' M2' → lCx gC tC s b M1' M2' o i H1 locs1 ls → W p l e room_1 s m #[Value.ref b] below meth c H1 locs1 n k0 Q (F0 m 847 ls [])) : W p l e room_1 s m #[Value.ref b] below meth c H locs n k0 Q (F0 m 379 ls []) := by
  obtain ⟨lv, hl⟩ := hC.2.2.2.2
  refine lv_aload_n hx hb (show decode cL_law 379 = .ok (.aload_n 1, 1) by decide +kernel) rfl (lv_at hl 3 rfl) ?_
  refine lw_k1 (as := [eR (0, 0)]) (st := []) B hK1 hC mX9_elements wX9_elements (gW_at 736 (by decide +kernel) rfl) ⟨Nat.le_of_ble_eq_true rfl, Nat.le_of_ble_eq_true rfl⟩ (show decode cL_law 380 = .ok (.invokevirtual 65, 3) by decide +kernel) rfl (Nat.le_of_ble_eq_true rfl) hcase hn hk0 ?_
  intro r M1' H1 locs1 hf hC
  obtain ⟨v, rfl, hcase2⟩ := hf
  obtain ⟨lv, hl⟩ := hC.2.2.2.2
  refine lv_aload_n hx hb (show decode cL_law 383 = .ok (.aload_n 2, 1) by decide +kernel) rfl (lv_at hl 2 rfl) ?_
  refine lw_k2 (as := [eR (0, 0)]) (st := [.int (Int32.ofInt v)]) B hK2 hC mX10_elements wX10_elements (gW_at 1283 (by decide +kernel) rfl) ⟨Nat.le_of_ble_eq_true rfl, Nat.le_of_ble_eq_true rfl⟩ (show decode cL_law 384 = .ok (.invokevirtual 68, 3) by decide +kernel) rfl (Nat.le_of_ble_eq_true rfl) hcase2 hn hk0 ?_
  intro r2 M2' H2 locs2 hf hC
  obtain ⟨rfl, hI⟩ := hf
  refine lv_icmp_eq (tgt := 847) hx hb (show decode cL_law 387 = .ok (.if_icmp .eq 460, 3) by decide +kernel) (by decide) (fun _ => ?_) (fun h => absurd rfl h)
  exact kk _ _ _ _ hI hC
theorem lc_8 (hx : p.tables.exec = Jvm.exec) (hb : c.code = cL_law) (B : lB RL cL_law 7 p s m #[Value.ref b] c) (hK1 : eKn (lG1 gC tC s.heap.size) s) (hK2 : eKn (lG2 gC tC s.heap.size) s) (hX : va_X b L xs s s.heap) (hbl : b < s.heap.size) (hL : L ≤ 2560) (hi : i + 4 < L) (hn : n ≤ room_1.cells) (hk0 : k0 ≤ room_1.slots) (hC : lCx gC tC s b M1 M2 o i H locs ls)
    (hcase : SX9_lead [eR (0, 0), eI (xs (i + 1)).toInt] M1 (fun r M1' => ∃ v, r = some (eI v) ∧ SX10_lead [eR (0, 0), eI (xs (i + 1)).toInt] M2 (fun r2 M2' => r2 = some (eI v) ∧ I M1' M2')))
    (kk : ∀ (M1' M2' : eM) (H1 : Heap) (locs1 : List Loc), I M1' M2' → lCx gC tC s b M1' M2' o i H1 locs1 ls → W p l e room_1 s m #[Value.ref b] below meth c H1 locs1 n k0 Q (F0 m 847 ls [])) : W p l e room_1 s m #[Value.ref b] below meth c H locs n k0 Q (F0 m 392 ls []) := by
  obtain ⟨lv, hl⟩ := hC.2.2.2.2
  refine lv_aload_n hx hb (show decode cL_law 392 = .ok (.aload_n 1, 1) by decide +kernel) rfl (lv_at hl 3 rfl) ?_
  refine lw_arg (k := 1) hx hb hX hbl hC (by omega) hL (show decode cL_law 393 = .ok (.aload_n 0, 1) by decide +kernel) (show decode cL_law 394 = .ok (.iload 4, 2) by decide +kernel) (show decode cL_law 396 = .ok (.iconst 1, 1) by decide +kernel) (show decode cL_law 397 = .ok (.iadd, 1) by decide +kernel) (show decode cL_law 398 = .ok (.iaload, 1) by decide +kernel) ?_
  refine lw_k1 (as := [eR (0, 0), eI (xs (i + 1)).toInt]) (st := []) B hK1 hC mX9_lead wX9_lead (gW_at 756 (by decide +kernel) rfl) ⟨Nat.le_of_ble_eq_true rfl, Nat.le_of_ble_eq_true rfl⟩ (show decode cL_law 399 = .ok (.invokevirtual 69, 3) by decide +kernel) rfl (Nat.le_of_ble_eq_true rfl) hcase hn hk0 ?_
  intro r M1' H1 locs1 hf hC
  obtain ⟨v, rfl, hcase2⟩ := hf
  obtain ⟨lv, hl⟩ := hC.2.2.2.2
  refine lv_aload_n hx hb (show decode cL_law 402 = .ok (.aload_n 2, 1) by decide +kernel) rfl (lv_at hl 2 rfl) ?_
  refine lw_arg (k := 1) hx hb hX hbl hC (by omega) hL (show decode cL_law 403 = .ok (.aload_n 0, 1) by decide +kernel) (show decode cL_law 404 = .ok (.iload 4, 2) by decide +kernel) (show decode cL_law 406 = .ok (.iconst 1, 1) by decide +kernel) (show decode cL_law 407 = .ok (.iadd, 1) by decide +kernel) (show decode cL_law 408 = .ok (.iaload, 1) by decide +kernel) ?_
  refine lw_k2 (as := [eR (0, 0), eI (xs (i + 1)).toInt]) (st := [.int (Int32.ofInt v)]) B hK2 hC mX10_lead wX10_lead (gW_at 1287 (by decide +kernel) rfl) ⟨Nat.le_of_ble_eq_true rfl, Nat.le_of_ble_eq_true rfl⟩ (show decode cL_law 409 = .ok (.invokevirtual 72, 3) by decide +kernel) rfl (Nat.le_of_ble_eq_true rfl) hcase2 hn hk0 ?_
  intro r2 M2' H2 locs2 hf hC
  obtain ⟨rfl, hI⟩ := hf
  refine lv_icmp_eq (tgt := 847) hx hb (show decode cL_law 412 = .ok (.if_icmp .eq 435, 3) by decide +kernel) (by decide) (fun _ => ?_) (fun h => absurd rfl h)
  exact kk _ _ _ _ hI hC
theorem lc_9 (hx : p.tables.exec = Jvm.exec) (hb : c.code = cL_law) (B : lB RL cL_law 7 p s m #[Value.ref b] c) (hK1 : eKn (lG1 gC tC s.heap.size) s) (hK2 : eKn (lG2 gC tC s.heap.size) s) (hX : va_X b L xs s s.heap) (hbl : b < s.heap.size) (hL : L ≤ 2560) (hi : i + 4 < L) (hn : n ≤ room_1.cells) (hk0 : k0 ≤ room_1.slots) (hC : lCx gC tC s b M1 M2 o i H locs ls)
    (hcase : SX9_coefficient [eR (0, 0), eI (xs (i + 1)).toInt, eI (xs (i + 2)).toInt, eI (xs (i + 3)).toInt, eI (xs (i + 4)).toInt] M1 (fun r M1' => ∃ v, r = some (eL v) ∧ SX10_coefficient [eR (0, 0), eI (xs (i + 1)).toInt, eI (xs (i + 2)).toInt, eI (xs (i + 3)).toInt, eI (xs (i + 4)).toInt] M2 (fun r2 M2' => r2 = some (eL v) ∧ I M1' M2')))
    (kk : ∀ (M1' M2' : eM) (H1 : Heap) (locs1 : List Loc), I M1' M2' → lCx gC tC s b M1' M2' o i H1 locs1 ls → W p l e room_1 s m #[Value.ref b] below meth c H1 locs1 n k0 Q (F0 m 847 ls [])) : W p l e room_1 s m #[Value.ref b] below meth c H locs n k0 Q (F0 m 417 ls []) := by
  obtain ⟨lv, hl⟩ := hC.2.2.2.2
  refine lv_aload_n hx hb (show decode cL_law 417 = .ok (.aload_n 1, 1) by decide +kernel) rfl (lv_at hl 3 rfl) ?_
  refine lw_arg (k := 1) hx hb hX hbl hC (by omega) hL (show decode cL_law 418 = .ok (.aload_n 0, 1) by decide +kernel) (show decode cL_law 419 = .ok (.iload 4, 2) by decide +kernel) (show decode cL_law 421 = .ok (.iconst 1, 1) by decide +kernel) (show decode cL_law 422 = .ok (.iadd, 1) by decide +kernel) (show decode cL_law 423 = .ok (.iaload, 1) by decide +kernel) ?_
  refine lw_arg (k := 2) hx hb hX hbl hC (by omega) hL (show decode cL_law 424 = .ok (.aload_n 0, 1) by decide +kernel) (show decode cL_law 425 = .ok (.iload 4, 2) by decide +kernel) (show decode cL_law 427 = .ok (.iconst 2, 1) by decide +kernel) (show decode cL_law 428 = .ok (.iadd, 1) by decide +kernel) (show decode cL_law 429 = .ok (.iaload, 1) by decide +kernel) ?_
  refine lw_arg (k := 3) hx hb hX hbl hC (by omega) hL (show decode cL_law 430 = .ok (.aload_n 0, 1) by decide +kernel) (show decode cL_law 431 = .ok (.iload 4, 2) by decide +kernel) (show decode cL_law 433 = .ok (.iconst 3, 1) by decide +kernel) (show decode cL_law 434 = .ok (.iadd, 1) by decide +kernel) (show decode cL_law 435 = .ok (.iaload, 1) by decide +kernel) ?_
  refine lw_arg (k := 4) hx hb hX hbl hC (by omega) hL (show decode cL_law 436 = .ok (.aload_n 0, 1) by decide +kernel) (show decode cL_law 437 = .ok (.iload 4, 2) by decide +kernel) (show decode cL_law 439 = .ok (.iconst 4, 1) by decide +kernel) (show decode cL_law 440 = .ok (.iadd, 1) by decide +kernel) (show decode cL_law 441 = .ok (.iaload, 1) by decide +kernel) ?_
  refine lw_k1 (as := [eR (0, 0), eI (xs (i + 1)).toInt, eI (xs (i + 2)).toInt, eI (xs (i + 3)).toInt, eI (xs (i + 4)).toInt]) (st := []) B hK1 hC mX9_coefficient wX9_coefficient (gW_at 768 (by decide +kernel) rfl) ⟨Nat.le_of_ble_eq_true rfl, Nat.le_of_ble_eq_true rfl⟩ (show decode cL_law 442 = .ok (.invokevirtual 73, 3) by decide +kernel) rfl (Nat.le_of_ble_eq_true rfl) hcase hn hk0 ?_
  intro r M1' H1 locs1 hf hC
  obtain ⟨v, rfl, hcase2⟩ := hf
  obtain ⟨lv, hl⟩ := hC.2.2.2.2
  refine lv_aload_n hx hb (show decode cL_law 445 = .ok (.aload_n 2, 1) by decide +kernel) rfl (lv_at hl 2 rfl) ?_
  refine lw_arg (k := 1) hx hb hX hbl hC (by omega) hL (show decode cL_law 446 = .ok (.aload_n 0, 1) by decide +kernel) (show decode cL_law 447 = .ok (.iload 4, 2) by decide +kernel) (show decode cL_law 449 = .ok (.iconst 1, 1) by decide +kernel) (show decode cL_law 450 = .ok (.iadd, 1) by decide +kernel) (show decode cL_law 451 = .ok (.iaload, 1) by decide +kernel) ?_
  refine lw_arg (k := 2) hx hb hX hbl hC (by omega) hL (show decode cL_law 452 = .ok (.aload_n 0, 1) by decide +kernel) (show decode cL_law 453 = .ok (.iload 4, 2) by decide +kernel) (show decode cL_law 455 = .ok (.iconst 2, 1) by decide +kernel) (show decode cL_law 456 = .ok (.iadd, 1) by decide +kernel) (show decode cL_law 457 = .ok (.iaload, 1) by decide +kernel) ?_
  refine lw_arg (k := 3) hx hb hX hbl hC (by omega) hL (show decode cL_law 458 = .ok (.aload_n 0, 1) by decide +kernel) (show decode cL_law 459 = .ok (.iload 4, 2) by decide +kernel) (show decode cL_law 461 = .ok (.iconst 3, 1) by decide +kernel) (show decode cL_law 462 = .ok (.iadd, 1) by decide +kernel) (show decode cL_law 463 = .ok (.iaload, 1) by decide +kernel) ?_
  refine lw_arg (k := 4) hx hb hX hbl hC (by omega) hL (show decode cL_law 464 = .ok (.aload_n 0, 1) by decide +kernel) (show decode cL_law 465 = .ok (.iload 4, 2) by decide +kernel) (show decode cL_law 467 = .ok (.iconst 4, 1) by decide +kernel) (show decode cL_law 468 = .ok (.iadd, 1) by decide +kernel) (show decode cL_law 469 = .ok (.iaload, 1) by decide +kernel) ?_
  refine lw_k2 (as := [eR (0, 0), eI (xs (i + 1)).toInt, eI (xs (i + 2)).toInt, eI (xs (i + 3)).toInt, eI (xs (i + 4)).toInt]) (st := [.long (Int64.ofInt v)]) B hK2 hC mX10_coefficient wX10_coefficient (gW_at 1294 (by decide +kernel) rfl) ⟨Nat.le_of_ble_eq_true rfl, Nat.le_of_ble_eq_true rfl⟩ (show decode cL_law 470 = .ok (.invokevirtual 77, 3) by decide +kernel) rfl (Nat.le_of_ble_eq_true rfl) hcase2 hn hk0 ?_
  intro r2 M2' H2 locs2 hf hC
  obtain ⟨rfl, hI⟩ := hf
  refine W.lcmp hx hb (show decode cL_law 473 = .ok (.lcmp, 1) by decide +kernel) ?_
  refine lv_if_eq (tgt := 847) hx hb (show decode cL_law 474 = .ok (.ifCond .eq 373, 3) by decide +kernel) (by decide) (fun _ => ?_) (fun h => absurd (lg_cmp_s _) h)
  exact kk _ _ _ _ hI hC
theorem lc_10 (hx : p.tables.exec = Jvm.exec) (hb : c.code = cL_law) (B : lB RL cL_law 7 p s m #[Value.ref b] c) (hK1 : eKn (lG1 gC tC s.heap.size) s) (hK2 : eKn (lG2 gC tC s.heap.size) s) (hX : va_X b L xs s s.heap) (hbl : b < s.heap.size) (hL : L ≤ 2560) (hi : i + 4 < L) (hn : n ≤ room_1.cells) (hk0 : k0 ≤ room_1.slots) (hC : lCx gC tC s b M1 M2 o i H locs ls)
    (hcase : SX9_standard [eR (0, 0)] M1 (fun r M1' => ∃ v, r = some (eI v) ∧ SX10_standard [eR (0, 0)] M2 (fun r2 M2' => r2 = some (eI v) ∧ I M1' M2')))
    (kk : ∀ (M1' M2' : eM) (H1 : Heap) (locs1 : List Loc), I M1' M2' → lCx gC tC s b M1' M2' o i H1 locs1 ls → W p l e room_1 s m #[Value.ref b] below meth c H1 locs1 n k0 Q (F0 m 847 ls [])) : W p l e room_1 s m #[Value.ref b] below meth c H locs n k0 Q (F0 m 479 ls []) := by
  obtain ⟨lv, hl⟩ := hC.2.2.2.2
  refine lv_aload_n hx hb (show decode cL_law 479 = .ok (.aload_n 1, 1) by decide +kernel) rfl (lv_at hl 3 rfl) ?_
  refine lw_k1 (as := [eR (0, 0)]) (st := []) B hK1 hC mX9_standard wX9_standard (gW_at 784 (by decide +kernel) rfl) ⟨Nat.le_of_ble_eq_true rfl, Nat.le_of_ble_eq_true rfl⟩ (show decode cL_law 480 = .ok (.invokevirtual 78, 3) by decide +kernel) rfl (Nat.le_of_ble_eq_true rfl) hcase hn hk0 ?_
  intro r M1' H1 locs1 hf hC
  obtain ⟨v, rfl, hcase2⟩ := hf
  obtain ⟨lv, hl⟩ := hC.2.2.2.2
  refine lv_aload_n hx hb (show decode cL_law 483 = .ok (.aload_n 2, 1) by decide +kernel) rfl (lv_at hl 2 rfl) ?_
  refine lw_k2 (as := [eR (0, 0)]) (st := [.int (Int32.ofInt v)]) B hK2 hC mX10_standard wX10_standard (gW_at 1312 (by decide +kernel) rfl) ⟨Nat.le_of_ble_eq_true rfl, Nat.le_of_ble_eq_true rfl⟩ (show decode cL_law 484 = .ok (.invokevirtual 81, 3) by decide +kernel) rfl (Nat.le_of_ble_eq_true rfl) hcase2 hn hk0 ?_
  intro r2 M2' H2 locs2 hf hC
  obtain ⟨rfl, hI⟩ := hf
  refine lv_icmp_eq (tgt := 847) hx hb (show decode cL_law 487 = .ok (.if_icmp .eq 360, 3) by decide +kernel) (by decide) (fun _ => ?_) (fun h => absurd rfl h)
  exact kk _ _ _ _ hI hC
theorem lc_11 (hx : p.tables.exec = Jvm.exec) (hb : c.code = cL_law) (B : lB RL cL_law 7 p s m #[Value.ref b] c) (hK1 : eKn (lG1 gC tC s.heap.size) s) (hK2 : eKn (lG2 gC tC s.heap.size) s) (hX : va_X b L xs s s.heap) (hbl : b < s.heap.size) (hL : L ≤ 2560) (hi : i + 4 < L) (hn : n ≤ room_1.cells) (hk0 : k0 ≤ room_1.slots) (hC : lCx gC tC s b M1 M2 o i H locs ls)
    (hcase : SX9_monomial [eR (0, 0), eI (xs (i + 1)).toInt] M1 (fun r M1' => ∃ v, r = some (eI v) ∧ SX10_monomial_ [eR (0, 0), eI (xs (i + 1)).toInt] M2 (fun r2 M2' => r2 = some (eI v) ∧ I M1' M2')))
    (kk : ∀ (M1' M2' : eM) (H1 : Heap) (locs1 : List Loc), I M1' M2' → lCx gC tC s b M1' M2' o i H1 locs1 ls → W p l e room_1 s m #[Value.ref b] below meth c H1 locs1 n k0 Q (F0 m 847 ls [])) : W p l e room_1 s m #[Value.ref b] below meth c H locs n k0 Q (F0 m 492 ls []) := by
  obtain ⟨lv, hl⟩ := hC.2.2.2.2
  refine lv_aload_n hx hb (show decode cL_law 492 = .ok (.aload_n 1, 1) by decide +kernel) rfl (lv_at hl 3 rfl) ?_
  refine lw_arg (k := 1) hx hb hX hbl hC (by omega) hL (show decode cL_law 493 = .ok (.aload_n 0, 1) by decide +kernel) (show decode cL_law 494 = .ok (.iload 4, 2) by decide +kernel) (show decode cL_law 496 = .ok (.iconst 1, 1) by decide +kernel) (show decode cL_law 497 = .ok (.iadd, 1) by decide +kernel) (show decode cL_law 498 = .ok (.iaload, 1) by decide +kernel) ?_
  refine lw_k1 (as := [eR (0, 0), eI (xs (i + 1)).toInt]) (st := []) B hK1 hC mX9_monomial wX9_monomial (gW_at 792 (by decide +kernel) rfl) ⟨Nat.le_of_ble_eq_true rfl, Nat.le_of_ble_eq_true rfl⟩ (show decode cL_law 499 = .ok (.invokevirtual 82, 3) by decide +kernel) rfl (Nat.le_of_ble_eq_true rfl) hcase hn hk0 ?_
  intro r M1' H1 locs1 hf hC
  obtain ⟨v, rfl, hcase2⟩ := hf
  obtain ⟨lv, hl⟩ := hC.2.2.2.2
  refine lv_aload_n hx hb (show decode cL_law 502 = .ok (.aload_n 2, 1) by decide +kernel) rfl (lv_at hl 2 rfl) ?_
  refine lw_arg (k := 1) hx hb hX hbl hC (by omega) hL (show decode cL_law 503 = .ok (.aload_n 0, 1) by decide +kernel) (show decode cL_law 504 = .ok (.iload 4, 2) by decide +kernel) (show decode cL_law 506 = .ok (.iconst 1, 1) by decide +kernel) (show decode cL_law 507 = .ok (.iadd, 1) by decide +kernel) (show decode cL_law 508 = .ok (.iaload, 1) by decide +kernel) ?_
  refine lw_k2 (as := [eR (0, 0), eI (xs (i + 1)).toInt]) (st := [.int (Int32.ofInt v)]) B hK2 hC mX10_monomial_ wX10_monomial_ (gW_at 1316 (by decide +kernel) rfl) ⟨Nat.le_of_ble_eq_true rfl, Nat.le_of_ble_eq_true rfl⟩ (show decode cL_law 509 = .ok (.invokevirtual 85, 3) by decide +kernel) rfl (Nat.le_of_ble_eq_true rfl) hcase2 hn hk0 ?_
  intro r2 M2' H2 locs2 hf hC
  obtain ⟨rfl, hI⟩ := hf
  refine lv_icmp_eq (tgt := 847) hx hb (show decode cL_law 512 = .ok (.if_icmp .eq 335, 3) by decide +kernel) (by decide) (fun _ => ?_) (fun h => absurd rfl h)
  exact kk _ _ _ _ hI hC
theorem lc_12 (hx : p.tables.exec = Jvm.exec) (hb : c.code = cL_law) (B : lB RL cL_law 7 p s m #[Value.ref b] c) (hK1 : eKn (lG1 gC tC s.heap.size) s) (hK2 : eKn (lG2 gC tC s.heap.size) s) (hX : va_X b L xs s s.heap) (hbl : b < s.heap.size) (hL : L ≤ 2560) (hi : i + 4 < L) (hn : n ≤ room_1.cells) (hk0 : k0 ≤ room_1.slots) (hC : lCx gC tC s b M1 M2 o i H locs ls)
    (hcase : SX9_table [eR (0, 0), eI (xs (i + 1)).toInt, eI (xs (i + 2)).toInt, eI (xs (i + 3)).toInt, eI (xs (i + 4)).toInt] M1 (fun r M1' => ∃ v, r = some (eL v) ∧ SX10_table [eR (0, 0), eI (xs (i + 1)).toInt, eI (xs (i + 2)).toInt, eI (xs (i + 3)).toInt, eI (xs (i + 4)).toInt] M2 (fun r2 M2' => r2 = some (eL v) ∧ I M1' M2')))
    (kk : ∀ (M1' M2' : eM) (H1 : Heap) (locs1 : List Loc), I M1' M2' → lCx gC tC s b M1' M2' o i H1 locs1 ls → W p l e room_1 s m #[Value.ref b] below meth c H1 locs1 n k0 Q (F0 m 847 ls [])) : W p l e room_1 s m #[Value.ref b] below meth c H locs n k0 Q (F0 m 517 ls []) := by
  obtain ⟨lv, hl⟩ := hC.2.2.2.2
  refine lv_aload_n hx hb (show decode cL_law 517 = .ok (.aload_n 1, 1) by decide +kernel) rfl (lv_at hl 3 rfl) ?_
  refine lw_arg (k := 1) hx hb hX hbl hC (by omega) hL (show decode cL_law 518 = .ok (.aload_n 0, 1) by decide +kernel) (show decode cL_law 519 = .ok (.iload 4, 2) by decide +kernel) (show decode cL_law 521 = .ok (.iconst 1, 1) by decide +kernel) (show decode cL_law 522 = .ok (.iadd, 1) by decide +kernel) (show decode cL_law 523 = .ok (.iaload, 1) by decide +kernel) ?_
  refine lw_arg (k := 2) hx hb hX hbl hC (by omega) hL (show decode cL_law 524 = .ok (.aload_n 0, 1) by decide +kernel) (show decode cL_law 525 = .ok (.iload 4, 2) by decide +kernel) (show decode cL_law 527 = .ok (.iconst 2, 1) by decide +kernel) (show decode cL_law 528 = .ok (.iadd, 1) by decide +kernel) (show decode cL_law 529 = .ok (.iaload, 1) by decide +kernel) ?_
  refine lw_arg (k := 3) hx hb hX hbl hC (by omega) hL (show decode cL_law 530 = .ok (.aload_n 0, 1) by decide +kernel) (show decode cL_law 531 = .ok (.iload 4, 2) by decide +kernel) (show decode cL_law 533 = .ok (.iconst 3, 1) by decide +kernel) (show decode cL_law 534 = .ok (.iadd, 1) by decide +kernel) (show decode cL_law 535 = .ok (.iaload, 1) by decide +kernel) ?_
  refine lw_arg (k := 4) hx hb hX hbl hC (by omega) hL (show decode cL_law 536 = .ok (.aload_n 0, 1) by decide +kernel) (show decode cL_law 537 = .ok (.iload 4, 2) by decide +kernel) (show decode cL_law 539 = .ok (.iconst 4, 1) by decide +kernel) (show decode cL_law 540 = .ok (.iadd, 1) by decide +kernel) (show decode cL_law 541 = .ok (.iaload, 1) by decide +kernel) ?_
  refine lw_k1 (as := [eR (0, 0), eI (xs (i + 1)).toInt, eI (xs (i + 2)).toInt, eI (xs (i + 3)).toInt, eI (xs (i + 4)).toInt]) (st := []) B hK1 hC mX9_table wX9_table (gW_at 797 (by decide +kernel) rfl) ⟨Nat.le_of_ble_eq_true rfl, Nat.le_of_ble_eq_true rfl⟩ (show decode cL_law 542 = .ok (.invokevirtual 86, 3) by decide +kernel) rfl (Nat.le_of_ble_eq_true rfl) hcase hn hk0 ?_
  intro r M1' H1 locs1 hf hC
  obtain ⟨v, rfl, hcase2⟩ := hf
  obtain ⟨lv, hl⟩ := hC.2.2.2.2
  refine lv_aload_n hx hb (show decode cL_law 545 = .ok (.aload_n 2, 1) by decide +kernel) rfl (lv_at hl 2 rfl) ?_
  refine lw_arg (k := 1) hx hb hX hbl hC (by omega) hL (show decode cL_law 546 = .ok (.aload_n 0, 1) by decide +kernel) (show decode cL_law 547 = .ok (.iload 4, 2) by decide +kernel) (show decode cL_law 549 = .ok (.iconst 1, 1) by decide +kernel) (show decode cL_law 550 = .ok (.iadd, 1) by decide +kernel) (show decode cL_law 551 = .ok (.iaload, 1) by decide +kernel) ?_
  refine lw_arg (k := 2) hx hb hX hbl hC (by omega) hL (show decode cL_law 552 = .ok (.aload_n 0, 1) by decide +kernel) (show decode cL_law 553 = .ok (.iload 4, 2) by decide +kernel) (show decode cL_law 555 = .ok (.iconst 2, 1) by decide +kernel) (show decode cL_law 556 = .ok (.iadd, 1) by decide +kernel) (show decode cL_law 557 = .ok (.iaload, 1) by decide +kernel) ?_
  refine lw_arg (k := 3) hx hb hX hbl hC (by omega) hL (show decode cL_law 558 = .ok (.aload_n 0, 1) by decide +kernel) (show decode cL_law 559 = .ok (.iload 4, 2) by decide +kernel) (show decode cL_law 561 = .ok (.iconst 3, 1) by decide +kernel) (show decode cL_law 562 = .ok (.iadd, 1) by decide +kernel) (show decode cL_law 563 = .ok (.iaload, 1) by decide +kernel) ?_
  refine lw_arg (k := 4) hx hb hX hbl hC (by omega) hL (show decode cL_law 564 = .ok (.aload_n 0, 1) by decide +kernel) (show decode cL_law 565 = .ok (.iload 4, 2) by decide +kernel) (show decode cL_law 567 = .ok (.iconst 4, 1) by decide +kernel) (show decode cL_law 568 = .ok (.iadd, 1) by decide +kernel) (show decode cL_law 569 = .ok (.iaload, 1) by decide +kernel) ?_
  refine lw_k2 (as := [eR (0, 0), eI (xs (i + 1)).toInt, eI (xs (i + 2)).toInt, eI (xs (i + 3)).toInt, eI (xs (i + 4)).toInt]) (st := [.long (Int64.ofInt v)]) B hK2 hC mX10_table wX10_table (gW_at 1320 (by decide +kernel) rfl) ⟨Nat.le_of_ble_eq_true rfl, Nat.le_of_ble_eq_true rfl⟩ (show decode cL_law 570 = .ok (.invokevirtual 89, 3) by decide +kernel) rfl (Nat.le_of_ble_eq_true rfl) hcase2 hn hk0 ?_
  intro r2 M2' H2 locs2 hf hC
  obtain ⟨rfl, hI⟩ := hf
  refine W.lcmp hx hb (show decode cL_law 573 = .ok (.lcmp, 1) by decide +kernel) ?_
  refine lv_if_eq (tgt := 847) hx hb (show decode cL_law 574 = .ok (.ifCond .eq 273, 3) by decide +kernel) (by decide) (fun _ => ?_) (fun h => absurd (lg_cmp_s _) h)
  exact kk _ _ _ _ hI hC
theorem lc_13 (hx : p.tables.exec = Jvm.exec) (hb : c.code = cL_law) (B : lB RL cL_law 7 p s m #[Value.ref b] c) (hK1 : eKn (lG1 gC tC s.heap.size) s) (hK2 : eKn (lG2 gC tC s.heap.size) s) (hX : va_X b L xs s s.heap) (hbl : b < s.heap.size) (hL : L ≤ 2560) (hi : i + 4 < L) (hn : n ≤ room_1.cells) (hk0 : k0 ≤ room_1.slots) (hC : lCx gC tC s b M1 M2 o i H locs ls)
    (hcase : SX9_form [eR (0, 0), eI (xs (i + 1)).toInt, eI (xs (i + 2)).toInt, eI (xs (i + 3)).toInt, eI (xs (i + 4)).toInt] M1 (fun r M1' => ∃ v, r = some (eL v) ∧ SX10_form [eR (0, 0), eI (xs (i + 1)).toInt, eI (xs (i + 2)).toInt, eI (xs (i + 3)).toInt, eI (xs (i + 4)).toInt] M2 (fun r2 M2' => r2 = some (eL v) ∧ I M1' M2')))
    (kk : ∀ (M1' M2' : eM) (H1 : Heap) (locs1 : List Loc), I M1' M2' → lCx gC tC s b M1' M2' o i H1 locs1 ls → W p l e room_1 s m #[Value.ref b] below meth c H1 locs1 n k0 Q (F0 m 847 ls [])) : W p l e room_1 s m #[Value.ref b] below meth c H locs n k0 Q (F0 m 579 ls []) := by
  obtain ⟨lv, hl⟩ := hC.2.2.2.2
  refine lv_aload_n hx hb (show decode cL_law 579 = .ok (.aload_n 1, 1) by decide +kernel) rfl (lv_at hl 3 rfl) ?_
  refine lw_arg (k := 1) hx hb hX hbl hC (by omega) hL (show decode cL_law 580 = .ok (.aload_n 0, 1) by decide +kernel) (show decode cL_law 581 = .ok (.iload 4, 2) by decide +kernel) (show decode cL_law 583 = .ok (.iconst 1, 1) by decide +kernel) (show decode cL_law 584 = .ok (.iadd, 1) by decide +kernel) (show decode cL_law 585 = .ok (.iaload, 1) by decide +kernel) ?_
  refine lw_arg (k := 2) hx hb hX hbl hC (by omega) hL (show decode cL_law 586 = .ok (.aload_n 0, 1) by decide +kernel) (show decode cL_law 587 = .ok (.iload 4, 2) by decide +kernel) (show decode cL_law 589 = .ok (.iconst 2, 1) by decide +kernel) (show decode cL_law 590 = .ok (.iadd, 1) by decide +kernel) (show decode cL_law 591 = .ok (.iaload, 1) by decide +kernel) ?_
  refine lw_arg (k := 3) hx hb hX hbl hC (by omega) hL (show decode cL_law 592 = .ok (.aload_n 0, 1) by decide +kernel) (show decode cL_law 593 = .ok (.iload 4, 2) by decide +kernel) (show decode cL_law 595 = .ok (.iconst 3, 1) by decide +kernel) (show decode cL_law 596 = .ok (.iadd, 1) by decide +kernel) (show decode cL_law 597 = .ok (.iaload, 1) by decide +kernel) ?_
  refine lw_arg (k := 4) hx hb hX hbl hC (by omega) hL (show decode cL_law 598 = .ok (.aload_n 0, 1) by decide +kernel) (show decode cL_law 599 = .ok (.iload 4, 2) by decide +kernel) (show decode cL_law 601 = .ok (.iconst 4, 1) by decide +kernel) (show decode cL_law 602 = .ok (.iadd, 1) by decide +kernel) (show decode cL_law 603 = .ok (.iaload, 1) by decide +kernel) ?_
  refine lw_k1 (as := [eR (0, 0), eI (xs (i + 1)).toInt, eI (xs (i + 2)).toInt, eI (xs (i + 3)).toInt, eI (xs (i + 4)).toInt]) (st := []) B hK1 hC mX9_form wX9_form (gW_at 810 (by decide +kernel) rfl) ⟨Nat.le_of_ble_eq_true rfl, Nat.le_of_ble_eq_true rfl⟩ (show decode cL_law 604 = .ok (.invokevirtual 90, 3) by decide +kernel) rfl (Nat.le_of_ble_eq_true rfl) hcase hn hk0 ?_
  intro r M1' H1 locs1 hf hC
  obtain ⟨v, rfl, hcase2⟩ := hf
  obtain ⟨lv, hl⟩ := hC.2.2.2.2
  refine lv_aload_n hx hb (show decode cL_law 607 = .ok (.aload_n 2, 1) by decide +kernel) rfl (lv_at hl 2 rfl) ?_
  refine lw_arg (k := 1) hx hb hX hbl hC (by omega) hL (show decode cL_law 608 = .ok (.aload_n 0, 1) by decide +kernel) (show decode cL_law 609 = .ok (.iload 4, 2) by decide +kernel) (show decode cL_law 611 = .ok (.iconst 1, 1) by decide +kernel) (show decode cL_law 612 = .ok (.iadd, 1) by decide +kernel) (show decode cL_law 613 = .ok (.iaload, 1) by decide +kernel) ?_
  refine lw_arg (k := 2) hx hb hX hbl hC (by omega) hL (show decode cL_law 614 = .ok (.aload_n 0, 1) by decide +kernel) (show decode cL_law 615 = .ok (.iload 4, 2) by decide +kernel) (show decode cL_law 617 = .ok (.iconst 2, 1) by decide +kernel) (show decode cL_law 618 = .ok (.iadd, 1) by decide +kernel) (show decode cL_law 619 = .ok (.iaload, 1) by decide +kernel) ?_
  refine lw_arg (k := 3) hx hb hX hbl hC (by omega) hL (show decode cL_law 620 = .ok (.aload_n 0, 1) by decide +kernel) (show decode cL_law 621 = .ok (.iload 4, 2) by decide +kernel) (show decode cL_law 623 = .ok (.iconst 3, 1) by decide +kernel) (show decode cL_law 624 = .ok (.iadd, 1) by decide +kernel) (show decode cL_law 625 = .ok (.iaload, 1) by decide +kernel) ?_
  refine lw_arg (k := 4) hx hb hX hbl hC (by omega) hL (show decode cL_law 626 = .ok (.aload_n 0, 1) by decide +kernel) (show decode cL_law 627 = .ok (.iload 4, 2) by decide +kernel) (show decode cL_law 629 = .ok (.iconst 4, 1) by decide +kernel) (show decode cL_law 630 = .ok (.iadd, 1) by decide +kernel) (show decode cL_law 631 = .ok (.iaload, 1) by decide +kernel) ?_
  refine lw_k2 (as := [eR (0, 0), eI (xs (i + 1)).toInt, eI (xs (i + 2)).toInt, eI (xs (i + 3)).toInt, eI (xs (i + 4)).toInt]) (st := [.long (Int64.ofInt v)]) B hK2 hC mX10_form wX10_form (gW_at 1332 (by decide +kernel) rfl) ⟨Nat.le_of_ble_eq_true rfl, Nat.le_of_ble_eq_true rfl⟩ (show decode cL_law 632 = .ok (.invokevirtual 93, 3) by decide +kernel) rfl (Nat.le_of_ble_eq_true rfl) hcase2 hn hk0 ?_
  intro r2 M2' H2 locs2 hf hC
  obtain ⟨rfl, hI⟩ := hf
  refine W.lcmp hx hb (show decode cL_law 635 = .ok (.lcmp, 1) by decide +kernel) ?_
  refine lv_if_eq (tgt := 847) hx hb (show decode cL_law 636 = .ok (.ifCond .eq 211, 3) by decide +kernel) (by decide) (fun _ => ?_) (fun h => absurd (lg_cmp_s _) h)
  exact kk _ _ _ _ hI hC
theorem lc_14 (hx : p.tables.exec = Jvm.exec) (hb : c.code = cL_law) (B : lB RL cL_law 7 p s m #[Value.ref b] c) (hK1 : eKn (lG1 gC tC s.heap.size) s) (hK2 : eKn (lG2 gC tC s.heap.size) s) (hX : va_X b L xs s s.heap) (hbl : b < s.heap.size) (hL : L ≤ 2560) (hi : i + 4 < L) (hn : n ≤ room_1.cells) (hk0 : k0 ≤ room_1.slots) (hC : lCx gC tC s b M1 M2 o i H locs ls)
    (hcase : SX9_rank [eR (0, 0), eI (xs (i + 1)).toInt] M1 (fun r M1' => ∃ v, r = some (eI v) ∧ SX10_rank [eR (0, 0), eI (xs (i + 1)).toInt] M2 (fun r2 M2' => r2 = some (eI v) ∧ I M1' M2')))
    (kk : ∀ (M1' M2' : eM) (H1 : Heap) (locs1 : List Loc), I M1' M2' → lCx gC tC s b M1' M2' o i H1 locs1 ls → W p l e room_1 s m #[Value.ref b] below meth c H1 locs1 n k0 Q (F0 m 847 ls [])) : W p l e room_1 s m #[Value.ref b] below meth c H locs n k0 Q (F0 m 641 ls []) := by
  obtain ⟨lv, hl⟩ := hC.2.2.2.2
  refine lv_aload_n hx hb (show decode cL_law 641 = .ok (.aload_n 1, 1) by decide +kernel) rfl (lv_at hl 3 rfl) ?_
  refine lw_arg (k := 1) hx hb hX hbl hC (by omega) hL (show decode cL_law 642 = .ok (.aload_n 0, 1) by decide +kernel) (show decode cL_law 643 = .ok (.iload 4, 2) by decide +kernel) (show decode cL_law 645 = .ok (.iconst 1, 1) by decide +kernel) (show decode cL_law 646 = .ok (.iadd, 1) by decide +kernel) (show decode cL_law 647 = .ok (.iaload, 1) by decide +kernel) ?_
  refine lw_k1 (as := [eR (0, 0), eI (xs (i + 1)).toInt]) (st := []) B hK1 hC mX9_rank wX9_rank (gW_at 818 (by decide +kernel) rfl) ⟨Nat.le_of_ble_eq_true rfl, Nat.le_of_ble_eq_true rfl⟩ (show decode cL_law 648 = .ok (.invokevirtual 94, 3) by decide +kernel) rfl (Nat.le_of_ble_eq_true rfl) hcase hn hk0 ?_
  intro r M1' H1 locs1 hf hC
  obtain ⟨v, rfl, hcase2⟩ := hf
  obtain ⟨lv, hl⟩ := hC.2.2.2.2
  refine lv_aload_n hx hb (show decode cL_law 651 = .ok (.aload_n 2, 1) by decide +kernel) rfl (lv_at hl 2 rfl) ?_
  refine lw_arg (k := 1) hx hb hX hbl hC (by omega) hL (show decode cL_law 652 = .ok (.aload_n 0, 1) by decide +kernel) (show decode cL_law 653 = .ok (.iload 4, 2) by decide +kernel) (show decode cL_law 655 = .ok (.iconst 1, 1) by decide +kernel) (show decode cL_law 656 = .ok (.iadd, 1) by decide +kernel) (show decode cL_law 657 = .ok (.iaload, 1) by decide +kernel) ?_
  refine lw_k2 (as := [eR (0, 0), eI (xs (i + 1)).toInt]) (st := [.int (Int32.ofInt v)]) B hK2 hC mX10_rank wX10_rank (gW_at 1336 (by decide +kernel) rfl) ⟨Nat.le_of_ble_eq_true rfl, Nat.le_of_ble_eq_true rfl⟩ (show decode cL_law 658 = .ok (.invokevirtual 97, 3) by decide +kernel) rfl (Nat.le_of_ble_eq_true rfl) hcase2 hn hk0 ?_
  intro r2 M2' H2 locs2 hf hC
  obtain ⟨rfl, hI⟩ := hf
  refine lv_icmp_eq (tgt := 847) hx hb (show decode cL_law 661 = .ok (.if_icmp .eq 186, 3) by decide +kernel) (by decide) (fun _ => ?_) (fun h => absurd rfl h)
  exact kk _ _ _ _ hI hC
theorem lc_16 (hx : p.tables.exec = Jvm.exec) (hb : c.code = cL_law) (B : lB RL cL_law 7 p s m #[Value.ref b] c) (hK1 : eKn (lG1 gC tC s.heap.size) s) (hK2 : eKn (lG2 gC tC s.heap.size) s) (hX : va_X b L xs s s.heap) (hbl : b < s.heap.size) (hL : L ≤ 2560) (hi : i + 4 < L) (hn : n ≤ room_1.cells) (hk0 : k0 ≤ room_1.slots) (hC : lCx gC tC s b M1 M2 o i H locs ls)
    (hcase : SX9_remainder [eR (0, 0), eI (xs (i + 1)).toInt, eI (xs (i + 2)).toInt] M1 (fun r M1' => ∃ v, r = some (eL v) ∧ SX10_remainder [eR (0, 0), eI (xs (i + 1)).toInt, eI (xs (i + 2)).toInt] M2 (fun r2 M2' => r2 = some (eL v) ∧ I M1' M2')))
    (kk : ∀ (M1' M2' : eM) (H1 : Heap) (locs1 : List Loc), I M1' M2' → lCx gC tC s b M1' M2' o i H1 locs1 ls → W p l e room_1 s m #[Value.ref b] below meth c H1 locs1 n k0 Q (F0 m 847 ls [])) : W p l e room_1 s m #[Value.ref b] below meth c H locs n k0 Q (F0 m 722 ls []) := by
  obtain ⟨lv, hl⟩ := hC.2.2.2.2
  refine lv_aload_n hx hb (show decode cL_law 722 = .ok (.aload_n 1, 1) by decide +kernel) rfl (lv_at hl 3 rfl) ?_
  refine lw_arg (k := 1) hx hb hX hbl hC (by omega) hL (show decode cL_law 723 = .ok (.aload_n 0, 1) by decide +kernel) (show decode cL_law 724 = .ok (.iload 4, 2) by decide +kernel) (show decode cL_law 726 = .ok (.iconst 1, 1) by decide +kernel) (show decode cL_law 727 = .ok (.iadd, 1) by decide +kernel) (show decode cL_law 728 = .ok (.iaload, 1) by decide +kernel) ?_
  refine lw_arg (k := 2) hx hb hX hbl hC (by omega) hL (show decode cL_law 729 = .ok (.aload_n 0, 1) by decide +kernel) (show decode cL_law 730 = .ok (.iload 4, 2) by decide +kernel) (show decode cL_law 732 = .ok (.iconst 2, 1) by decide +kernel) (show decode cL_law 733 = .ok (.iadd, 1) by decide +kernel) (show decode cL_law 734 = .ok (.iaload, 1) by decide +kernel) ?_
  refine lw_k1 (as := [eR (0, 0), eI (xs (i + 1)).toInt, eI (xs (i + 2)).toInt]) (st := []) B hK1 hC mX9_remainder wX9_remainder (gW_at 822 (by decide +kernel) rfl) ⟨Nat.le_of_ble_eq_true rfl, Nat.le_of_ble_eq_true rfl⟩ (show decode cL_law 735 = .ok (.invokevirtual 102, 3) by decide +kernel) rfl (Nat.le_of_ble_eq_true rfl) hcase hn hk0 ?_
  intro r M1' H1 locs1 hf hC
  obtain ⟨v, rfl, hcase2⟩ := hf
  obtain ⟨lv, hl⟩ := hC.2.2.2.2
  refine lv_aload_n hx hb (show decode cL_law 738 = .ok (.aload_n 2, 1) by decide +kernel) rfl (lv_at hl 2 rfl) ?_
  refine lw_arg (k := 1) hx hb hX hbl hC (by omega) hL (show decode cL_law 739 = .ok (.aload_n 0, 1) by decide +kernel) (show decode cL_law 740 = .ok (.iload 4, 2) by decide +kernel) (show decode cL_law 742 = .ok (.iconst 1, 1) by decide +kernel) (show decode cL_law 743 = .ok (.iadd, 1) by decide +kernel) (show decode cL_law 744 = .ok (.iaload, 1) by decide +kernel) ?_
  refine lw_arg (k := 2) hx hb hX hbl hC (by omega) hL (show decode cL_law 745 = .ok (.aload_n 0, 1) by decide +kernel) (show decode cL_law 746 = .ok (.iload 4, 2) by decide +kernel) (show decode cL_law 748 = .ok (.iconst 2, 1) by decide +kernel) (show decode cL_law 749 = .ok (.iadd, 1) by decide +kernel) (show decode cL_law 750 = .ok (.iaload, 1) by decide +kernel) ?_
  refine lw_k2 (as := [eR (0, 0), eI (xs (i + 1)).toInt, eI (xs (i + 2)).toInt]) (st := [.long (Int64.ofInt v)]) B hK2 hC mX10_remainder wX10_remainder (gW_at 1344 (by decide +kernel) rfl) ⟨Nat.le_of_ble_eq_true rfl, Nat.le_of_ble_eq_true rfl⟩ (show decode cL_law 751 = .ok (.invokevirtual 106, 3) by decide +kernel) rfl (Nat.le_of_ble_eq_true rfl) hcase2 hn hk0 ?_
  intro r2 M2' H2 locs2 hf hC
  obtain ⟨rfl, hI⟩ := hf
  refine W.lcmp hx hb (show decode cL_law 754 = .ok (.lcmp, 1) by decide +kernel) ?_
  refine lv_if_eq (tgt := 847) hx hb (show decode cL_law 755 = .ok (.ifCond .eq 92, 3) by decide +kernel) (by decide) (fun _ => ?_) (fun h => absurd (lg_cmp_s _) h)
  exact kk _ _ _ _ hI hC
theorem lc_17 (hx : p.tables.exec = Jvm.exec) (hb : c.code = cL_law) (B : lB RL cL_law 7 p s m #[Value.ref b] c) (hK1 : eKn (lG1 gC tC s.heap.size) s) (hK2 : eKn (lG2 gC tC s.heap.size) s) (hX : va_X b L xs s s.heap) (hbl : b < s.heap.size) (hL : L ≤ 2560) (hi : i + 4 < L) (hn : n ≤ room_1.cells) (hk0 : k0 ≤ room_1.slots) (hC : lCx gC tC s b M1 M2 o i H locs ls)
    (hcase : SX9_member [eR (0, 0)] M1 (fun r M1' => ∃ v, r = some (eI v) ∧ SX10_member [eR (0, 0)] M2 (fun r2 M2' => r2 = some (eI v) ∧ I M1' M2')))
    (kk : ∀ (M1' M2' : eM) (H1 : Heap) (locs1 : List Loc), I M1' M2' → lCx gC tC s b M1' M2' o i H1 locs1 ls → W p l e room_1 s m #[Value.ref b] below meth c H1 locs1 n k0 Q (F0 m 847 ls [])) : W p l e room_1 s m #[Value.ref b] below meth c H locs n k0 Q (F0 m 760 ls []) := by
  obtain ⟨lv, hl⟩ := hC.2.2.2.2
  refine lv_aload_n hx hb (show decode cL_law 760 = .ok (.aload_n 1, 1) by decide +kernel) rfl (lv_at hl 3 rfl) ?_
  refine lw_k1 (as := [eR (0, 0)]) (st := []) B hK1 hC mX9_member wX9_member (gW_at 826 (by decide +kernel) rfl) ⟨Nat.le_of_ble_eq_true rfl, Nat.le_of_ble_eq_true rfl⟩ (show decode cL_law 761 = .ok (.invokevirtual 107, 3) by decide +kernel) rfl (Nat.le_of_ble_eq_true rfl) hcase hn hk0 ?_
  intro r M1' H1 locs1 hf hC
  obtain ⟨v, rfl, hcase2⟩ := hf
  obtain ⟨lv, hl⟩ := hC.2.2.2.2
  refine lv_aload_n hx hb (show decode cL_law 764 = .ok (.aload_n 2, 1) by decide +kernel) rfl (lv_at hl 2 rfl) ?_
  refine lw_k2 (as := [eR (0, 0)]) (st := [.int (Int32.ofInt v)]) B hK2 hC mX10_member wX10_member (gW_at 1348 (by decide +kernel) rfl) ⟨Nat.le_of_ble_eq_true rfl, Nat.le_of_ble_eq_true rfl⟩ (show decode cL_law 765 = .ok (.invokevirtual 110, 3) by decide +kernel) rfl (Nat.le_of_ble_eq_true rfl) hcase2 hn hk0 ?_
  intro r2 M2' H2 locs2 hf hC
  obtain ⟨rfl, hI⟩ := hf
  refine lv_icmp_eq (tgt := 847) hx hb (show decode cL_law 768 = .ok (.if_icmp .eq 79, 3) by decide +kernel) (by decide) (fun _ => ?_) (fun h => absurd rfl h)
  exact kk _ _ _ _ hI hC
theorem lc_18 (hx : p.tables.exec = Jvm.exec) (hb : c.code = cL_law) (B : lB RL cL_law 7 p s m #[Value.ref b] c) (hK1 : eKn (lG1 gC tC s.heap.size) s) (hK2 : eKn (lG2 gC tC s.heap.size) s) (hX : va_X b L xs s s.heap) (hbl : b < s.heap.size) (hL : L ≤ 2560) (hi : i + 4 < L) (hn : n ≤ room_1.cells) (hk0 : k0 ≤ room_1.slots) (hC : lCx gC tC s b M1 M2 o i H locs ls)
    (hcase : SX9_count [eR (0, 0), eI (xs (i + 1)).toInt] M1 (fun r M1' => ∃ v, r = some (eI v) ∧ SX10_count [eR (0, 0), eI (xs (i + 1)).toInt] M2 (fun r2 M2' => r2 = some (eI v) ∧ I M1' M2')))
    (kk : ∀ (M1' M2' : eM) (H1 : Heap) (locs1 : List Loc), I M1' M2' → lCx gC tC s b M1' M2' o i H1 locs1 ls → W p l e room_1 s m #[Value.ref b] below meth c H1 locs1 n k0 Q (F0 m 847 ls [])) : W p l e room_1 s m #[Value.ref b] below meth c H locs n k0 Q (F0 m 773 ls []) := by
  obtain ⟨lv, hl⟩ := hC.2.2.2.2
  refine lv_aload_n hx hb (show decode cL_law 773 = .ok (.aload_n 1, 1) by decide +kernel) rfl (lv_at hl 3 rfl) ?_
  refine lw_arg (k := 1) hx hb hX hbl hC (by omega) hL (show decode cL_law 774 = .ok (.aload_n 0, 1) by decide +kernel) (show decode cL_law 775 = .ok (.iload 4, 2) by decide +kernel) (show decode cL_law 777 = .ok (.iconst 1, 1) by decide +kernel) (show decode cL_law 778 = .ok (.iadd, 1) by decide +kernel) (show decode cL_law 779 = .ok (.iaload, 1) by decide +kernel) ?_
  refine lw_k1 (as := [eR (0, 0), eI (xs (i + 1)).toInt]) (st := []) B hK1 hC mX9_count wX9_count (gW_at 834 (by decide +kernel) rfl) ⟨Nat.le_of_ble_eq_true rfl, Nat.le_of_ble_eq_true rfl⟩ (show decode cL_law 780 = .ok (.invokevirtual 111, 3) by decide +kernel) rfl (Nat.le_of_ble_eq_true rfl) hcase hn hk0 ?_
  intro r M1' H1 locs1 hf hC
  obtain ⟨v, rfl, hcase2⟩ := hf
  obtain ⟨lv, hl⟩ := hC.2.2.2.2
  refine lv_aload_n hx hb (show decode cL_law 783 = .ok (.aload_n 2, 1) by decide +kernel) rfl (lv_at hl 2 rfl) ?_
  refine lw_arg (k := 1) hx hb hX hbl hC (by omega) hL (show decode cL_law 784 = .ok (.aload_n 0, 1) by decide +kernel) (show decode cL_law 785 = .ok (.iload 4, 2) by decide +kernel) (show decode cL_law 787 = .ok (.iconst 1, 1) by decide +kernel) (show decode cL_law 788 = .ok (.iadd, 1) by decide +kernel) (show decode cL_law 789 = .ok (.iaload, 1) by decide +kernel) ?_
  refine lw_k2 (as := [eR (0, 0), eI (xs (i + 1)).toInt]) (st := [.int (Int32.ofInt v)]) B hK2 hC mX10_count wX10_count (gW_at 1352 (by decide +kernel) rfl) ⟨Nat.le_of_ble_eq_true rfl, Nat.le_of_ble_eq_true rfl⟩ (show decode cL_law 790 = .ok (.invokevirtual 114, 3) by decide +kernel) rfl (Nat.le_of_ble_eq_true rfl) hcase2 hn hk0 ?_
  intro r2 M2' H2 locs2 hf hC
  obtain ⟨rfl, hI⟩ := hf
  refine lv_icmp_eq (tgt := 847) hx hb (show decode cL_law 793 = .ok (.if_icmp .eq 54, 3) by decide +kernel) (by decide) (fun _ => ?_) (fun h => absurd rfl h)
  exact kk _ _ _ _ hI hC
theorem lc_19 (hx : p.tables.exec = Jvm.exec) (hb : c.code = cL_law) (B : lB RL cL_law 7 p s m #[Value.ref b] c) (hK1 : eKn (lG1 gC tC s.heap.size) s) (hK2 : eKn (lG2 gC tC s.heap.size) s) (hX : va_X b L xs s s.heap) (hbl : b < s.heap.size) (hL : L ≤ 2560) (hi : i + 4 < L) (hn : n ≤ room_1.cells) (hk0 : k0 ≤ room_1.slots) (hC : lCx gC tC s b M1 M2 o i H locs ls)
    (hcase : SX9_at [eR (0, 0), eI (xs (i + 1)).toInt, eI (xs (i + 2)).toInt, eI (xs (i + 3)).toInt] M1 (fun r M1' => ∃ v, r = some (eI v) ∧ SX10_at_ [eR (0, 0), eI (xs (i + 1)).toInt, eI (xs (i + 2)).toInt, eI (xs (i + 3)).toInt] M2 (fun r2 M2' => r2 = some (eI v) ∧ I M1' M2')))
    (kk : ∀ (M1' M2' : eM) (H1 : Heap) (locs1 : List Loc), I M1' M2' → lCx gC tC s b M1' M2' o i H1 locs1 ls → W p l e room_1 s m #[Value.ref b] below meth c H1 locs1 n k0 Q (F0 m 847 ls [])) : W p l e room_1 s m #[Value.ref b] below meth c H locs n k0 Q (F0 m 798 ls []) := by
  obtain ⟨lv, hl⟩ := hC.2.2.2.2
  refine lv_aload_n hx hb (show decode cL_law 798 = .ok (.aload_n 1, 1) by decide +kernel) rfl (lv_at hl 3 rfl) ?_
  refine lw_arg (k := 1) hx hb hX hbl hC (by omega) hL (show decode cL_law 799 = .ok (.aload_n 0, 1) by decide +kernel) (show decode cL_law 800 = .ok (.iload 4, 2) by decide +kernel) (show decode cL_law 802 = .ok (.iconst 1, 1) by decide +kernel) (show decode cL_law 803 = .ok (.iadd, 1) by decide +kernel) (show decode cL_law 804 = .ok (.iaload, 1) by decide +kernel) ?_
  refine lw_arg (k := 2) hx hb hX hbl hC (by omega) hL (show decode cL_law 805 = .ok (.aload_n 0, 1) by decide +kernel) (show decode cL_law 806 = .ok (.iload 4, 2) by decide +kernel) (show decode cL_law 808 = .ok (.iconst 2, 1) by decide +kernel) (show decode cL_law 809 = .ok (.iadd, 1) by decide +kernel) (show decode cL_law 810 = .ok (.iaload, 1) by decide +kernel) ?_
  refine lw_arg (k := 3) hx hb hX hbl hC (by omega) hL (show decode cL_law 811 = .ok (.aload_n 0, 1) by decide +kernel) (show decode cL_law 812 = .ok (.iload 4, 2) by decide +kernel) (show decode cL_law 814 = .ok (.iconst 3, 1) by decide +kernel) (show decode cL_law 815 = .ok (.iadd, 1) by decide +kernel) (show decode cL_law 816 = .ok (.iaload, 1) by decide +kernel) ?_
  refine lw_k1 (as := [eR (0, 0), eI (xs (i + 1)).toInt, eI (xs (i + 2)).toInt, eI (xs (i + 3)).toInt]) (st := []) B hK1 hC mX9_at wX9_at (gW_at 839 (by decide +kernel) rfl) ⟨Nat.le_of_ble_eq_true rfl, Nat.le_of_ble_eq_true rfl⟩ (show decode cL_law 817 = .ok (.invokevirtual 115, 3) by decide +kernel) rfl (Nat.le_of_ble_eq_true rfl) hcase hn hk0 ?_
  intro r M1' H1 locs1 hf hC
  obtain ⟨v, rfl, hcase2⟩ := hf
  obtain ⟨lv, hl⟩ := hC.2.2.2.2
  refine lv_aload_n hx hb (show decode cL_law 820 = .ok (.aload_n 2, 1) by decide +kernel) rfl (lv_at hl 2 rfl) ?_
  refine lw_arg (k := 1) hx hb hX hbl hC (by omega) hL (show decode cL_law 821 = .ok (.aload_n 0, 1) by decide +kernel) (show decode cL_law 822 = .ok (.iload 4, 2) by decide +kernel) (show decode cL_law 824 = .ok (.iconst 1, 1) by decide +kernel) (show decode cL_law 825 = .ok (.iadd, 1) by decide +kernel) (show decode cL_law 826 = .ok (.iaload, 1) by decide +kernel) ?_
  refine lw_arg (k := 2) hx hb hX hbl hC (by omega) hL (show decode cL_law 827 = .ok (.aload_n 0, 1) by decide +kernel) (show decode cL_law 828 = .ok (.iload 4, 2) by decide +kernel) (show decode cL_law 830 = .ok (.iconst 2, 1) by decide +kernel) (show decode cL_law 831 = .ok (.iadd, 1) by decide +kernel) (show decode cL_law 832 = .ok (.iaload, 1) by decide +kernel) ?_
  refine lw_arg (k := 3) hx hb hX hbl hC (by omega) hL (show decode cL_law 833 = .ok (.aload_n 0, 1) by decide +kernel) (show decode cL_law 834 = .ok (.iload 4, 2) by decide +kernel) (show decode cL_law 836 = .ok (.iconst 3, 1) by decide +kernel) (show decode cL_law 837 = .ok (.iadd, 1) by decide +kernel) (show decode cL_law 838 = .ok (.iaload, 1) by decide +kernel) ?_
  refine lw_k2 (as := [eR (0, 0), eI (xs (i + 1)).toInt, eI (xs (i + 2)).toInt, eI (xs (i + 3)).toInt]) (st := [.int (Int32.ofInt v)]) B hK2 hC mX10_at_ wX10_at_ (gW_at 1356 (by decide +kernel) rfl) ⟨Nat.le_of_ble_eq_true rfl, Nat.le_of_ble_eq_true rfl⟩ (show decode cL_law 839 = .ok (.invokevirtual 118, 3) by decide +kernel) rfl (Nat.le_of_ble_eq_true rfl) hcase2 hn hk0 ?_
  intro r2 M2' H2 locs2 hf hC
  obtain ⟨rfl, hI⟩ := hf
  refine lv_icmp_eq (tgt := 847) hx hb (show decode cL_law 842 = .ok (.if_icmp .eq 5, 3) by decide +kernel) (by decide) (fun _ => ?_) (fun h => absurd rfl h)
  exact kk _ _ _ _ hI hC
end LCS
