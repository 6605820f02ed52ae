/-! The law's cases that may throw. -/
section LCT
variable {gC : va_G} {tC : Nat → ClassId} {p : Program} {l : Launch} {e : Env} {s : State} {m : MethodId} {below : List Frame} {meth : Method} {c : Code} {Q : State → Prop} {M1 M2 : eM} {o : Int} {i : Nat} {n k0 : Nat} {H : Heap} {locs : List Loc} {ls : Array Slot} {b L : Nat} {xs : Nat → Int32} {I : eM → eM → Prop}
theorem lc_2 (hx : p.tables.exec = Jvm.exec) (hb : c.code = cL_law) (B : lB RL cL_law 7 p s m #[Value.ref b] c) (hl0 : l.stackTraces = false) (hK1 : eKn (lG1 gC tC s.heap.size) s) (hK2 : eKn (lG2 gC tC s.heap.size) s) (hF : eXF s) (hZ : eXZ (lwA1 s.heap.size) s s.heap) (hn1 : va_Nc xIA xIO s) (hn2 : va_Nc xIS xIA s) (hX : va_X b L xs s s.heap) (hbl : b < s.heap.size) (hL : L ≤ 2560) (hi : i + 4 < L) (hn : n + 1 ≤ room_1.cells) (hk0 : k0 + 6 ≤ room_1.slots) (hC : lCx gC tC s b M1 M2 o i H locs ls)
    (hcase : lSp exTer [eR (0, 0), eI (xs (i + 1)).toInt, eI (xs (i + 2)).toInt, eI (xs (i + 3)).toInt, eI (xs (i + 4)).toInt] M1 o (fun k o' M1' => (w32 k ∧ True) ∧ SX10_term [eR (0, 0), eI (xs (i + 1)).toInt, eI (xs (i + 2)).toInt, eI (xs (i + 3)).toInt, eI (xs (i + 4)).toInt] M2 (fun r2 M2' => ∃ v2, w32 v2 ∧ r2 = some (eI v2) ∧ SX10_thrown [eR (0, 0)] M2' (fun r3 M3 => r3 = some (eI k) ∧ (k = 0 → o' = v2) ∧ I M1' M3))) [(xIO, 1), (xIA, 2)])
    (kk : ∀ (M1' M2' : eM) (o' : Int) (H1 : Heap) (locs1 : List Loc) (ls1 : Array Slot), I M1' M2' → lCx gC tC s b M1' M2' o' i H1 locs1 ls1 → W p l e room_1 s m #[Value.ref b] below meth c H1 locs1 (n + 1) (k0 + 6) Q (F0 m 847 ls1 [])) : W p l e room_1 s m #[Value.ref b] below meth c H locs n k0 Q (F0 m 156 ls []) := by
  obtain ⟨lv, hl⟩ := hC.2.2.2.2
  refine lv_aload_n hx hb (show decode cL_law 156 = .ok (.aload_n 1, 1) by decide +kernel) rfl (lv_at hl 3 rfl) ?_
  refine lw_arg (k := 1) hx hb hX hbl hC (by omega) hL (show decode cL_law 157 = .ok (.aload_n 0, 1) by decide +kernel) (show decode cL_law 158 = .ok (.iload 4, 2) by decide +kernel) (show decode cL_law 160 = .ok (.iconst 1, 1) by decide +kernel) (show decode cL_law 161 = .ok (.iadd, 1) by decide +kernel) (show decode cL_law 162 = .ok (.iaload, 1) by decide +kernel) ?_
  refine lw_arg (k := 2) hx hb hX hbl hC (by omega) hL (show decode cL_law 163 = .ok (.aload_n 0, 1) by decide +kernel) (show decode cL_law 164 = .ok (.iload 4, 2) by decide +kernel) (show decode cL_law 166 = .ok (.iconst 2, 1) by decide +kernel) (show decode cL_law 167 = .ok (.iadd, 1) by decide +kernel) (show decode cL_law 168 = .ok (.iaload, 1) by decide +kernel) ?_
  refine lw_arg (k := 3) hx hb hX hbl hC (by omega) hL (show decode cL_law 169 = .ok (.aload_n 0, 1) by decide +kernel) (show decode cL_law 170 = .ok (.iload 4, 2) by decide +kernel) (show decode cL_law 172 = .ok (.iconst 3, 1) by decide +kernel) (show decode cL_law 173 = .ok (.iadd, 1) by decide +kernel) (show decode cL_law 174 = .ok (.iaload, 1) by decide +kernel) ?_
  refine lw_arg (k := 4) hx hb hX hbl hC (by omega) hL (show decode cL_law 175 = .ok (.aload_n 0, 1) by decide +kernel) (show decode cL_law 176 = .ok (.iload 4, 2) by decide +kernel) (show decode cL_law 178 = .ok (.iconst 4, 1) by decide +kernel) (show decode cL_law 179 = .ok (.iadd, 1) by decide +kernel) (show decode cL_law 180 = .ok (.iaload, 1) by decide +kernel) ?_
  refine lv_aload_n hx hb (show decode cL_law 181 = .ok (.aload_n 3, 1) by decide +kernel) rfl (lv_at hl 1 rfl) ?_
  refine lw_kS (na := 5) (as := [eR (0, 0), eI (xs (i + 1)).toInt, eI (xs (i + 2)).toInt, eI (xs (i + 3)).toInt, eI (xs (i + 4)).toInt]) (st := []) B hl0 hK1 hF hZ hn1 hn2 hC lL_term (gW_at 850 (by decide +kernel) rfl) (gW_at 78 (by decide +kernel) rfl) (gW_at 849 (by decide +kernel) rfl) (gW_at 848 (by decide +kernel) rfl) (by decide +kernel) ⟨Nat.le_of_ble_eq_true rfl, Nat.le_of_ble_eq_true rfl⟩ (show decode cL_law 182 = .ok (.invokestatic 40, 3) by decide +kernel) rfl (Nat.le_of_ble_eq_true rfl) hcase hn hk0 ?_
  intro k o' M1' H1 locs1 hf hC
  obtain ⟨⟨hk, ho⟩, hcase2⟩ := hf
  obtain ⟨hP1, hP2, hO, hS, lv2, hl2⟩ := hC
  have hl := lv_sub hl2 (l' := [(4, .int (Int32.ofInt (i : Int))), (3, .ref (s.heap.size + 762)), (2, .ref (s.heap.size + 748)), (1, .ref s.heap.size), (0, .ref b)]) [0, 1, 2, 3, 4] rfl
  refine lv_istore (lv' := [(5, .int (Int32.ofInt k)), (4, .int (Int32.ofInt (i : Int))), (3, .ref (s.heap.size + 762)), (2, .ref (s.heap.size + 748)), (1, .ref s.heap.size), (0, .ref b)]) hx hb (show decode cL_law 185 = .ok (.istore 5, 2) by decide +kernel) hl (by decide) rfl (fun ls hl => ?_)
  have hC : lCx gC tC s b M1' M2 o' i H1 locs1 ls := ⟨hP1, hP2, hO, hS, [(5, .int (Int32.ofInt k))], lv_sub hl [1, 2, 3, 4, 5, 0] rfl⟩
  refine lv_aload_n hx hb (show decode cL_law 187 = .ok (.aload_n 2, 1) by decide +kernel) rfl (lv_at hl 3 rfl) ?_
  refine lw_arg (k := 1) hx hb hX hbl hC (by omega) hL (show decode cL_law 188 = .ok (.aload_n 0, 1) by decide +kernel) (show decode cL_law 189 = .ok (.iload 4, 2) by decide +kernel) (show decode cL_law 191 = .ok (.iconst 1, 1) by decide +kernel) (show decode cL_law 192 = .ok (.iadd, 1) by decide +kernel) (show decode cL_law 193 = .ok (.iaload, 1) by decide +kernel) ?_
  refine lw_arg (k := 2) hx hb hX hbl hC (by omega) hL (show decode cL_law 194 = .ok (.aload_n 0, 1) by decide +kernel) (show decode cL_law 195 = .ok (.iload 4, 2) by decide +kernel) (show decode cL_law 197 = .ok (.iconst 2, 1) by decide +kernel) (show decode cL_law 198 = .ok (.iadd, 1) by decide +kernel) (show decode cL_law 199 = .ok (.iaload, 1) by decide +kernel) ?_
  refine lw_arg (k := 3) hx hb hX hbl hC (by omega) hL (show decode cL_law 200 = .ok (.aload_n 0, 1) by decide +kernel) (show decode cL_law 201 = .ok (.iload 4, 2) by decide +kernel) (show decode cL_law 203 = .ok (.iconst 3, 1) by decide +kernel) (show decode cL_law 204 = .ok (.iadd, 1) by decide +kernel) (show decode cL_law 205 = .ok (.iaload, 1) by decide +kernel) ?_
  refine lw_arg (k := 4) hx hb hX hbl hC (by omega) hL (show decode cL_law 206 = .ok (.aload_n 0, 1) by decide +kernel) (show decode cL_law 207 = .ok (.iload 4, 2) by decide +kernel) (show decode cL_law 209 = .ok (.iconst 4, 1) by decide +kernel) (show decode cL_law 210 = .ok (.iadd, 1) by decide +kernel) (show decode cL_law 211 = .ok (.iaload, 1) by decide +kernel) ?_
  refine lw_k2 (as := [eR (0, 0), eI (xs (i + 1)).toInt, eI (xs (i + 2)).toInt, eI (xs (i + 3)).toInt, eI (xs (i + 4)).toInt]) (st := []) B hK2 hC mX10_term wX10_term (gW_at 1257 (by decide +kernel) rfl) ⟨Nat.le_of_ble_eq_true rfl, Nat.le_of_ble_eq_true rfl⟩ (show decode cL_law 212 = .ok (.invokevirtual 45, 3) by decide +kernel) rfl (Nat.le_of_ble_eq_true rfl) hcase2 hn hk0 ?_
  intro r2 M2' H2 locs2 hf hC
  obtain ⟨v2, hv2, rfl, hcase3⟩ := hf
  obtain ⟨hP1, hP2, hO, hS, -⟩ := hC
  refine lv_istore (lv' := [(6, .int (Int32.ofInt v2)), (5, .int (Int32.ofInt k)), (4, .int (Int32.ofInt (i : Int))), (3, .ref (s.heap.size + 762)), (2, .ref (s.heap.size + 748)), (1, .ref s.heap.size), (0, .ref b)]) hx hb (show decode cL_law 215 = .ok (.istore 6, 2) by decide +kernel) hl (by decide) rfl (fun ls hl => ?_)
  have hC : lCx gC tC s b M1' M2' o' i H2 locs2 ls := ⟨hP1, hP2, hO, hS, [(5, .int (Int32.ofInt k))], lv_sub hl [2, 3, 4, 5, 6, 1] rfl⟩
  refine lv_aload_n hx hb (show decode cL_law 217 = .ok (.aload_n 2, 1) by decide +kernel) rfl (lv_at hl 4 rfl) ?_
  refine lw_k2 (as := [eR (0, 0)]) (st := []) B hK2 hC mX10_thrown wX10_thrown (gW_at 1050 (by decide +kernel) rfl) ⟨Nat.le_of_ble_eq_true rfl, Nat.le_of_ble_eq_true rfl⟩ (show decode cL_law 218 = .ok (.invokevirtual 46, 3) by decide +kernel) rfl (Nat.le_of_ble_eq_true rfl) hcase3 hn hk0 ?_
  intro r3 M3 H3 locs3 hf hC
  obtain ⟨rfl, hk3, hI⟩ := hf
  refine lv_iload hx hb (show decode cL_law 221 = .ok (.iload 5, 2) by decide +kernel) (lv_at hl 1 rfl) ?_
  refine lv_icmp_eq (tgt := 228) hx hb (show decode cL_law 223 = .ok (.if_icmp .eq 5, 3) by decide +kernel) (by decide) (fun _ => ?_) (fun h => absurd rfl h)
  refine lv_iload hx hb (show decode cL_law 228 = .ok (.iload 5, 2) by decide +kernel) (lv_at hl 1 rfl) ?_
  refine lv_if_ne (tgt := 245) hx hb (show decode cL_law 230 = .ok (.ifCond .ne 15, 3) by decide +kernel) (by decide) (fun _ => ?_) (fun h0 => ?_)
  · refine lv_goto (tgt := 847) hx hb (show decode cL_law 245 = .ok (.goto 602, 3) by decide +kernel) (by decide) ?_
    exact kk _ _ _ _ _ _ hI hC
  have hkz : k = 0 := by
    have h0 : Int32.ofInt k = 0 := by simpa using h0
    rw [z_0, z_eq hk (by decide)] at h0
    exact h0
  have hov := hk3 hkz
  refine lv_aload_n hx hb (show decode cL_law 233 = .ok (.aload_n 3, 1) by decide +kernel) rfl (lv_at hl 3 rfl) ?_
  refine lv_iconst (v := 0) hx hb (show decode cL_law 234 = .ok (.iconst 0, 1) by decide +kernel) (by decide) ?_
  refine W.lald (v := .long (Int64.ofInt o')) hx hb hC.2.2.1 (hK1.2 1 .long rfl 1 _) (fun q => by cases q) (by rw [arrV_size]; decide) (by rw [show (0 : Int32).toNatClampNeg = 0 from rfl, arrV_read _ _ (by decide)]) rfl rfl (show decode cL_law 235 = .ok (.laload, 1) by decide +kernel) ?_
  refine W.eq (g2 := F0 m 236 ls [.long (Int64.ofInt o')]) rfl ?_
  refine lv_iload hx hb (show decode cL_law 236 = .ok (.iload 6, 2) by decide +kernel) (lv_at hl 0 rfl) ?_
  refine lv_i2l hx hb (show decode cL_law 238 = .ok (.i2l, 1) by decide +kernel) (z_wl _ hv2) ?_
  rw [hov]
  refine W.lcmp hx hb (show decode cL_law 239 = .ok (.lcmp, 1) by decide +kernel) ?_
  refine lv_if_eq (tgt := 245) hx hb (show decode cL_law 240 = .ok (.ifCond .eq 5, 3) by decide +kernel) (by decide) (fun _ => ?_) (fun h => absurd (lg_cmp_s _) h)
  refine lv_goto (tgt := 847) hx hb (show decode cL_law 245 = .ok (.goto 602, 3) by decide +kernel) (by decide) ?_
  exact kk _ _ _ _ _ _ hI hC
theorem lc_3 (hx : p.tables.exec = Jvm.exec) (hb : c.code = cL_law) (B : lB RL cL_law 7 p s m #[Value.ref b] c) (hl0 : l.stackTraces = false) (hK1 : eKn (lG1 gC tC s.heap.size) s) (hK2 : eKn (lG2 gC tC s.heap.size) s) (hF : eXF s) (hZ : eXZ (lwA1 s.heap.size) s s.heap) (hn1 : va_Nc xIA xIO s) (hn2 : va_Nc xIS xIA s) (hX : va_X b L xs s s.heap) (hbl : b < s.heap.size) (hL : L ≤ 2560) (hi : i + 4 < L) (hn : n + 1 ≤ room_1.cells) (hk0 : k0 + 6 ≤ room_1.slots) (hC : lCx gC tC s b M1 M2 o i H locs ls)
    (hcase : lSp exQue [eR (0, 0), eI (xs (i + 1)).toInt, eI (xs (i + 2)).toInt, eI (xs (i + 3)).toInt] M1 o (fun k o' M1' => (w32 k ∧ True) ∧ SX10_query [eR (0, 0), eI (xs (i + 1)).toInt, eI (xs (i + 2)).toInt, eI (xs (i + 3)).toInt] M2 (fun r2 M2' => ∃ v2, w32 v2 ∧ r2 = some (eI v2) ∧ SX10_thrown [eR (0, 0)] M2' (fun r3 M3 => r3 = some (eI k) ∧ (k = 0 → o' = v2) ∧ I M1' M3))) [(xIA, 1)])
    (kk : ∀ (M1' M2' : eM) (o' : Int) (H1 : Heap) (locs1 : List Loc) (ls1 : Array Slot), I M1' M2' → lCx gC tC s b M1' M2' o' i H1 locs1 ls1 → W p l e room_1 s m #[Value.ref b] below meth c H1 locs1 (n + 1) (k0 + 6) Q (F0 m 847 ls1 [])) : W p l e room_1 s m #[Value.ref b] below meth c H locs n k0 Q (F0 m 248 ls []) := by
  obtain ⟨lv, hl⟩ := hC.2.2.2.2
  refine lv_aload_n hx hb (show decode cL_law 248 = .ok (.aload_n 1, 1) by decide +kernel) rfl (lv_at hl 3 rfl) ?_
  refine lw_arg (k := 1) hx hb hX hbl hC (by omega) hL (show decode cL_law 249 = .ok (.aload_n 0, 1) by decide +kernel) (show decode cL_law 250 = .ok (.iload 4, 2) by decide +kernel) (show decode cL_law 252 = .ok (.iconst 1, 1) by decide +kernel) (show decode cL_law 253 = .ok (.iadd, 1) by decide +kernel) (show decode cL_law 254 = .ok (.iaload, 1) by decide +kernel) ?_
  refine lw_arg (k := 2) hx hb hX hbl hC (by omega) hL (show decode cL_law 255 = .ok (.aload_n 0, 1) by decide +kernel) (show decode cL_law 256 = .ok (.iload 4, 2) by decide +kernel) (show decode cL_law 258 = .ok (.iconst 2, 1) by decide +kernel) (show decode cL_law 259 = .ok (.iadd, 1) by decide +kernel) (show decode cL_law 260 = .ok (.iaload, 1) by decide +kernel) ?_
  refine lw_arg (k := 3) hx hb hX hbl hC (by omega) hL (show decode cL_law 261 = .ok (.aload_n 0, 1) by decide +kernel) (show decode cL_law 262 = .ok (.iload 4, 2) by decide +kernel) (show decode cL_law 264 = .ok (.iconst 3, 1) by decide +kernel) (show decode cL_law 265 = .ok (.iadd, 1) by decide +kernel) (show decode cL_law 266 = .ok (.iaload, 1) by decide +kernel) ?_
  refine lv_aload_n hx hb (show decode cL_law 267 = .ok (.aload_n 3, 1) by decide +kernel) rfl (lv_at hl 1 rfl) ?_
  refine lw_kS (na := 4) (as := [eR (0, 0), eI (xs (i + 1)).toInt, eI (xs (i + 2)).toInt, eI (xs (i + 3)).toInt]) (st := []) B hl0 hK1 hF hZ hn1 hn2 hC lL_query (gW_at 944 (by decide +kernel) rfl) (gW_at 78 (by decide +kernel) rfl) (gW_at 943 (by decide +kernel) rfl) (gW_at 942 (by decide +kernel) rfl) (by decide +kernel) ⟨Nat.le_of_ble_eq_true rfl, Nat.le_of_ble_eq_true rfl⟩ (show decode cL_law 268 = .ok (.invokestatic 49, 3) by decide +kernel) rfl (Nat.le_of_ble_eq_true rfl) hcase hn hk0 ?_
  intro k o' M1' H1 locs1 hf hC
  obtain ⟨⟨hk, ho⟩, hcase2⟩ := hf
  obtain ⟨hP1, hP2, hO, hS, lv2, hl2⟩ := hC
  have hl := lv_sub hl2 (l' := [(4, .int (Int32.ofInt (i : Int))), (3, .ref (s.heap.size + 762)), (2, .ref (s.heap.size + 748)), (1, .ref s.heap.size), (0, .ref b)]) [0, 1, 2, 3, 4] rfl
  refine lv_istore (lv' := [(5, .int (Int32.ofInt k)), (4, .int (Int32.ofInt (i : Int))), (3, .ref (s.heap.size + 762)), (2, .ref (s.heap.size + 748)), (1, .ref s.heap.size), (0, .ref b)]) hx hb (show decode cL_law 271 = .ok (.istore 5, 2) by decide +kernel) hl (by decide) rfl (fun ls hl => ?_)
  have hC : lCx gC tC s b M1' M2 o' i H1 locs1 ls := ⟨hP1, hP2, hO, hS, [(5, .int (Int32.ofInt k))], lv_sub hl [1, 2, 3, 4, 5, 0] rfl⟩
  refine lv_aload_n hx hb (show decode cL_law 273 = .ok (.aload_n 2, 1) by decide +kernel) rfl (lv_at hl 3 rfl) ?_
  refine lw_arg (k := 1) hx hb hX hbl hC (by omega) hL (show decode cL_law 274 = .ok (.aload_n 0, 1) by decide +kernel) (show decode cL_law 275 = .ok (.iload 4, 2) by decide +kernel) (show decode cL_law 277 = .ok (.iconst 1, 1) by decide +kernel) (show decode cL_law 278 = .ok (.iadd, 1) by decide +kernel) (show decode cL_law 279 = .ok (.iaload, 1) by decide +kernel) ?_
  refine lw_arg (k := 2) hx hb hX hbl hC (by omega) hL (show decode cL_law 280 = .ok (.aload_n 0, 1) by decide +kernel) (show decode cL_law 281 = .ok (.iload 4, 2) by decide +kernel) (show decode cL_law 283 = .ok (.iconst 2, 1) by decide +kernel) (show decode cL_law 284 = .ok (.iadd, 1) by decide +kernel) (show decode cL_law 285 = .ok (.iaload, 1) by decide +kernel) ?_
  refine lw_arg (k := 3) hx hb hX hbl hC (by omega) hL (show decode cL_law 286 = .ok (.aload_n 0, 1) by decide +kernel) (show decode cL_law 287 = .ok (.iload 4, 2) by decide +kernel) (show decode cL_law 289 = .ok (.iconst 3, 1) by decide +kernel) (show decode cL_law 290 = .ok (.iadd, 1) by decide +kernel) (show decode cL_law 291 = .ok (.iaload, 1) by decide +kernel) ?_
  refine lw_k2 (as := [eR (0, 0), eI (xs (i + 1)).toInt, eI (xs (i + 2)).toInt, eI (xs (i + 3)).toInt]) (st := []) B hK2 hC mX10_query wX10_query (gW_at 1267 (by decide +kernel) rfl) ⟨Nat.le_of_ble_eq_true rfl, Nat.le_of_ble_eq_true rfl⟩ (show decode cL_law 292 = .ok (.invokevirtual 52, 3) by decide +kernel) rfl (Nat.le_of_ble_eq_true rfl) hcase2 hn hk0 ?_
  intro r2 M2' H2 locs2 hf hC
  obtain ⟨v2, hv2, rfl, hcase3⟩ := hf
  obtain ⟨hP1, hP2, hO, hS, -⟩ := hC
  refine lv_istore (lv' := [(6, .int (Int32.ofInt v2)), (5, .int (Int32.ofInt k)), (4, .int (Int32.ofInt (i : Int))), (3, .ref (s.heap.size + 762)), (2, .ref (s.heap.size + 748)), (1, .ref s.heap.size), (0, .ref b)]) hx hb (show decode cL_law 295 = .ok (.istore 6, 2) by decide +kernel) hl (by decide) rfl (fun ls hl => ?_)
  have hC : lCx gC tC s b M1' M2' o' i H2 locs2 ls := ⟨hP1, hP2, hO, hS, [(5, .int (Int32.ofInt k))], lv_sub hl [2, 3, 4, 5, 6, 1] rfl⟩
  refine lv_aload_n hx hb (show decode cL_law 297 = .ok (.aload_n 2, 1) by decide +kernel) rfl (lv_at hl 4 rfl) ?_
  refine lw_k2 (as := [eR (0, 0)]) (st := []) B hK2 hC mX10_thrown wX10_thrown (gW_at 1050 (by decide +kernel) rfl) ⟨Nat.le_of_ble_eq_true rfl, Nat.le_of_ble_eq_true rfl⟩ (show decode cL_law 298 = .ok (.invokevirtual 46, 3) by decide +kernel) rfl (Nat.le_of_ble_eq_true rfl) hcase3 hn hk0 ?_
  intro r3 M3 H3 locs3 hf hC
  obtain ⟨rfl, hk3, hI⟩ := hf
  refine lv_iload hx hb (show decode cL_law 301 = .ok (.iload 5, 2) by decide +kernel) (lv_at hl 1 rfl) ?_
  refine lv_icmp_eq (tgt := 308) hx hb (show decode cL_law 303 = .ok (.if_icmp .eq 5, 3) by decide +kernel) (by decide) (fun _ => ?_) (fun h => absurd rfl h)
  refine lv_iload hx hb (show decode cL_law 308 = .ok (.iload 5, 2) by decide +kernel) (lv_at hl 1 rfl) ?_
  refine lv_if_ne (tgt := 325) hx hb (show decode cL_law 310 = .ok (.ifCond .ne 15, 3) by decide +kernel) (by decide) (fun _ => ?_) (fun h0 => ?_)
  · refine lv_goto (tgt := 847) hx hb (show decode cL_law 325 = .ok (.goto 522, 3) by decide +kernel) (by decide) ?_
    exact kk _ _ _ _ _ _ hI hC
  have hkz : k = 0 := by
    have h0 : Int32.ofInt k = 0 := by simpa using h0
    rw [z_0, z_eq hk (by decide)] at h0
    exact h0
  have hov := hk3 hkz
  refine lv_aload_n hx hb (show decode cL_law 313 = .ok (.aload_n 3, 1) by decide +kernel) rfl (lv_at hl 3 rfl) ?_
  refine lv_iconst (v := 0) hx hb (show decode cL_law 314 = .ok (.iconst 0, 1) by decide +kernel) (by decide) ?_
  refine W.lald (v := .long (Int64.ofInt o')) hx hb hC.2.2.1 (hK1.2 1 .long rfl 1 _) (fun q => by cases q) (by rw [arrV_size]; decide) (by rw [show (0 : Int32).toNatClampNeg = 0 from rfl, arrV_read _ _ (by decide)]) rfl rfl (show decode cL_law 315 = .ok (.laload, 1) by decide +kernel) ?_
  refine W.eq (g2 := F0 m 316 ls [.long (Int64.ofInt o')]) rfl ?_
  refine lv_iload hx hb (show decode cL_law 316 = .ok (.iload 6, 2) by decide +kernel) (lv_at hl 0 rfl) ?_
  refine lv_i2l hx hb (show decode cL_law 318 = .ok (.i2l, 1) by decide +kernel) (z_wl _ hv2) ?_
  rw [hov]
  refine W.lcmp hx hb (show decode cL_law 319 = .ok (.lcmp, 1) by decide +kernel) ?_
  refine lv_if_eq (tgt := 325) hx hb (show decode cL_law 320 = .ok (.ifCond .eq 5, 3) by decide +kernel) (by decide) (fun _ => ?_) (fun h => absurd (lg_cmp_s _) h)
  refine lv_goto (tgt := 847) hx hb (show decode cL_law 325 = .ok (.goto 522, 3) by decide +kernel) (by decide) ?_
  exact kk _ _ _ _ _ _ hI hC
theorem lc_15 (hx : p.tables.exec = Jvm.exec) (hb : c.code = cL_law) (B : lB RL cL_law 7 p s m #[Value.ref b] c) (hl0 : l.stackTraces = false) (hK1 : eKn (lG1 gC tC s.heap.size) s) (hK2 : eKn (lG2 gC tC s.heap.size) s) (hF : eXF s) (hZ : eXZ (lwA1 s.heap.size) s s.heap) (hn1 : va_Nc xIA xIO s) (hn2 : va_Nc xIS xIA s) (hX : va_X b L xs s s.heap) (hbl : b < s.heap.size) (hL : L ≤ 2560) (hi : i + 4 < L) (hn : n + 1 ≤ room_1.cells) (hk0 : k0 + 6 ≤ room_1.slots) (hC : lCx gC tC s b M1 M2 o i H locs ls)
    (hcase : lSp exSig [eR (0, 0), eI (xs (i + 1)).toInt] M1 o (fun k o' M1' => (w32 k ∧ True) ∧ SX10_signature [eR (0, 0), eI (xs (i + 1)).toInt] M2 (fun r2 M2' => ∃ v2, w32 v2 ∧ r2 = some (eI v2) ∧ SX10_thrown [eR (0, 0)] M2' (fun r3 M3 => r3 = some (eI k) ∧ (k = 0 → o' = v2) ∧ I M1' M3))) [(xIA, 1), (xIS, 2)])
    (kk : ∀ (M1' M2' : eM) (o' : Int) (H1 : Heap) (locs1 : List Loc) (ls1 : Array Slot), I M1' M2' → lCx gC tC s b M1' M2' o' i H1 locs1 ls1 → W p l e room_1 s m #[Value.ref b] below meth c H1 locs1 (n + 1) (k0 + 6) Q (F0 m 847 ls1 [])) : W p l e room_1 s m #[Value.ref b] below meth c H locs n k0 Q (F0 m 666 ls []) := by
  obtain ⟨lv, hl⟩ := hC.2.2.2.2
  refine lv_aload_n hx hb (show decode cL_law 666 = .ok (.aload_n 1, 1) by decide +kernel) rfl (lv_at hl 3 rfl) ?_
  refine lw_arg (k := 1) hx hb hX hbl hC (by omega) hL (show decode cL_law 667 = .ok (.aload_n 0, 1) by decide +kernel) (show decode cL_law 668 = .ok (.iload 4, 2) by decide +kernel) (show decode cL_law 670 = .ok (.iconst 1, 1) by decide +kernel) (show decode cL_law 671 = .ok (.iadd, 1) by decide +kernel) (show decode cL_law 672 = .ok (.iaload, 1) by decide +kernel) ?_
  refine lv_aload_n hx hb (show decode cL_law 673 = .ok (.aload_n 3, 1) by decide +kernel) rfl (lv_at hl 1 rfl) ?_
  refine lw_kS (na := 2) (as := [eR (0, 0), eI (xs (i + 1)).toInt]) (st := []) B hl0 hK1 hF hZ hn1 hn2 hC lL_signature (gW_at 951 (by decide +kernel) rfl) (gW_at 78 (by decide +kernel) rfl) (gW_at 950 (by decide +kernel) rfl) (gW_at 949 (by decide +kernel) rfl) (by decide +kernel) ⟨Nat.le_of_ble_eq_true rfl, Nat.le_of_ble_eq_true rfl⟩ (show decode cL_law 674 = .ok (.invokestatic 98, 3) by decide +kernel) rfl (Nat.le_of_ble_eq_true rfl) hcase hn hk0 ?_
  intro k o' M1' H1 locs1 hf hC
  obtain ⟨⟨hk, ho⟩, hcase2⟩ := hf
  obtain ⟨hP1, hP2, hO, hS, lv2, hl2⟩ := hC
  have hl := lv_sub hl2 (l' := [(4, .int (Int32.ofInt (i : Int))), (3, .ref (s.heap.size + 762)), (2, .ref (s.heap.size + 748)), (1, .ref s.heap.size), (0, .ref b)]) [0, 1, 2, 3, 4] rfl
  refine lv_istore (lv' := [(5, .int (Int32.ofInt k)), (4, .int (Int32.ofInt (i : Int))), (3, .ref (s.heap.size + 762)), (2, .ref (s.heap.size + 748)), (1, .ref s.heap.size), (0, .ref b)]) hx hb (show decode cL_law 677 = .ok (.istore 5, 2) by decide +kernel) hl (by decide) rfl (fun ls hl => ?_)
  have hC : lCx gC tC s b M1' M2 o' i H1 locs1 ls := ⟨hP1, hP2, hO, hS, [(5, .int (Int32.ofInt k))], lv_sub hl [1, 2, 3, 4, 5, 0] rfl⟩
  refine lv_aload_n hx hb (show decode cL_law 679 = .ok (.aload_n 2, 1) by decide +kernel) rfl (lv_at hl 3 rfl) ?_
  refine lw_arg (k := 1) hx hb hX hbl hC (by omega) hL (show decode cL_law 680 = .ok (.aload_n 0, 1) by decide +kernel) (show decode cL_law 681 = .ok (.iload 4, 2) by decide +kernel) (show decode cL_law 683 = .ok (.iconst 1, 1) by decide +kernel) (show decode cL_law 684 = .ok (.iadd, 1) by decide +kernel) (show decode cL_law 685 = .ok (.iaload, 1) by decide +kernel) ?_
  refine lw_k2 (as := [eR (0, 0), eI (xs (i + 1)).toInt]) (st := []) B hK2 hC mX10_signature wX10_signature (gW_at 1340 (by decide +kernel) rfl) ⟨Nat.le_of_ble_eq_true rfl, Nat.le_of_ble_eq_true rfl⟩ (show decode cL_law 686 = .ok (.invokevirtual 101, 3) by decide +kernel) rfl (Nat.le_of_ble_eq_true rfl) hcase2 hn hk0 ?_
  intro r2 M2' H2 locs2 hf hC
  obtain ⟨v2, hv2, rfl, hcase3⟩ := hf
  obtain ⟨hP1, hP2, hO, hS, -⟩ := hC
  refine lv_istore (lv' := [(6, .int (Int32.ofInt v2)), (5, .int (Int32.ofInt k)), (4, .int (Int32.ofInt (i : Int))), (3, .ref (s.heap.size + 762)), (2, .ref (s.heap.size + 748)), (1, .ref s.heap.size), (0, .ref b)]) hx hb (show decode cL_law 689 = .ok (.istore 6, 2) by decide +kernel) hl (by decide) rfl (fun ls hl => ?_)
  have hC : lCx gC tC s b M1' M2' o' i H2 locs2 ls := ⟨hP1, hP2, hO, hS, [(5, .int (Int32.ofInt k))], lv_sub hl [2, 3, 4, 5, 6, 1] rfl⟩
  refine lv_aload_n hx hb (show decode cL_law 691 = .ok (.aload_n 2, 1) by decide +kernel) rfl (lv_at hl 4 rfl) ?_
  refine lw_k2 (as := [eR (0, 0)]) (st := []) B hK2 hC mX10_thrown wX10_thrown (gW_at 1050 (by decide +kernel) rfl) ⟨Nat.le_of_ble_eq_true rfl, Nat.le_of_ble_eq_true rfl⟩ (show decode cL_law 692 = .ok (.invokevirtual 46, 3) by decide +kernel) rfl (Nat.le_of_ble_eq_true rfl) hcase3 hn hk0 ?_
  intro r3 M3 H3 locs3 hf hC
  obtain ⟨rfl, hk3, hI⟩ := hf
  refine lv_iload hx hb (show decode cL_law 695 = .ok (.iload 5, 2) by decide +kernel) (lv_at hl 1 rfl) ?_
  refine lv_icmp_eq (tgt := 702) hx hb (show decode cL_law 697 = .ok (.if_icmp .eq 5, 3) by decide +kernel) (by decide) (fun _ => ?_) (fun h => absurd rfl h)
  refine lv_iload hx hb (show decode cL_law 702 = .ok (.iload 5, 2) by decide +kernel) (lv_at hl 1 rfl) ?_
  refine lv_if_ne (tgt := 719) hx hb (show decode cL_law 704 = .ok (.ifCond .ne 15, 3) by decide +kernel) (by decide) (fun _ => ?_) (fun h0 => ?_)
  · refine lv_goto (tgt := 847) hx hb (show decode cL_law 719 = .ok (.goto 128, 3) by decide +kernel) (by decide) ?_
    exact kk _ _ _ _ _ _ hI hC
  have hkz : k = 0 := by
    have h0 : Int32.ofInt k = 0 := by simpa using h0
    rw [z_0, z_eq hk (by decide)] at h0
    exact h0
  have hov := hk3 hkz
  refine lv_aload_n hx hb (show decode cL_law 707 = .ok (.aload_n 3, 1) by decide +kernel) rfl (lv_at hl 3 rfl) ?_
  refine lv_iconst (v := 0) hx hb (show decode cL_law 708 = .ok (.iconst 0, 1) by decide +kernel) (by decide) ?_
  refine W.lald (v := .long (Int64.ofInt o')) hx hb hC.2.2.1 (hK1.2 1 .long rfl 1 _) (fun q => by cases q) (by rw [arrV_size]; decide) (by rw [show (0 : Int32).toNatClampNeg = 0 from rfl, arrV_read _ _ (by decide)]) rfl rfl (show decode cL_law 709 = .ok (.laload, 1) by decide +kernel) ?_
  refine W.eq (g2 := F0 m 710 ls [.long (Int64.ofInt o')]) rfl ?_
  refine lv_iload hx hb (show decode cL_law 710 = .ok (.iload 6, 2) by decide +kernel) (lv_at hl 0 rfl) ?_
  refine lv_i2l hx hb (show decode cL_law 712 = .ok (.i2l, 1) by decide +kernel) (z_wl _ hv2) ?_
  rw [hov]
  refine W.lcmp hx hb (show decode cL_law 713 = .ok (.lcmp, 1) by decide +kernel) ?_
  refine lv_if_eq (tgt := 719) hx hb (show decode cL_law 714 = .ok (.ifCond .eq 5, 3) by decide +kernel) (by decide) (fun _ => ?_) (fun h => absurd (lg_cmp_s _) h)
  refine lv_goto (tgt := 847) hx hb (show decode cL_law 719 = .ok (.goto 128, 3) by decide +kernel) (by decide) ?_
  exact kk _ _ _ _ _ _ hI hC
end LCT
