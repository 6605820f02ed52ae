/-! The law's loop: its state, its rows. -/
def lG1 (gC : va_G) (tC : Nat → ClassId) (z : Nat) : eG := (gC, tC, fun id => z + adr id)
def lG2 (gC : va_G) (tC : Nat → ClassId) (z : Nat) : eG := (gC, tC, fun id => z + 748 + adM id)
/-- both worlds, the row of one, what is written, the locals -/
def lCx (gC : va_G) (tC : Nat → ClassId) (s : State) (b : Nat) (M1 M2 : eM) (o : Int) (i : Nat) (H : Heap) (locs : List Loc) (ls : Array Slot) : Prop :=
  eP (lG1 gC tC s.heap.size) (lwA1 s.heap.size) M1 H ∧ eP (lG2 gC tC s.heap.size) (lwA2 s.heap.size) M2 H ∧ lO (lG1 gC tC s.heap.size) (s.heap.size + 762) o H ∧ va_S (fun q => s.heap.size ≤ q) s.heap H locs ∧ ∃ lv : List (Nat × Value), lv_has ls 7 ([(4, .int (Int32.ofInt (i : Int))), (3, .ref (s.heap.size + 762)), (2, .ref (s.heap.size + 748)), (1, .ref s.heap.size), (0, .ref b)] ++ lv)
section LL
variable {gC : va_G} {tC : Nat → ClassId} {p : Program} {l : Launch} {e : Env} {s : State} {m : MethodId} {below : List Frame} {meth : Method} {c : Code} {Q : State → Prop} {st : List Value} {M1 M2 : eM} {o : Int} {i : Nat} {pc : Nat} {n k0 : Nat} {H : Heap} {locs : List Loc} {ls : Array Slot} {b L : Nat} {xs : Nat → Int32}
/-- a number of the script -/
theorem lw_arg (hx : p.tables.exec = Jvm.exec) (hb : c.code = cL_law) (hX : va_X b L xs s s.heap) (hbl : b < s.heap.size) (hC : lCx gC tC s b M1 M2 o i H locs ls) {k : Nat} (hk : i + k < L) (hL : L ≤ 2560) (d0 : decode cL_law pc = .ok (.aload_n 0, 1)) (d1 : decode cL_law (pc + 1) = .ok (.iload 4, 2)) (d3 : decode cL_law (pc + 3) = .ok (.iconst (k : Int), 1)) (d4 : decode cL_law (pc + 4) = .ok (.iadd, 1)) (d5 : decode cL_law (pc + 5) = .ok (.iaload, 1))
    (kk : W p l e room_1 s m #[Value.ref b] below meth c H locs n k0 Q (F0 m (pc + 6) ls (.int (Int32.ofInt (xs (i + k)).toInt) :: st))) : W p l e room_1 s m #[Value.ref b] below meth c H locs n k0 Q (F0 m pc ls st) := by
  obtain ⟨-, -, -, hS, lv, hl⟩ := hC
  refine lv_aload_n hx hb d0 rfl (lv_at hl 4 rfl) ?_
  refine lv_iload hx hb d1 (lv_at hl 0 rfl) ?_
  refine lv_iconst (v := Int32.ofInt (k : Int)) hx hb d3 rfl ?_
  refine lv_iadd hx hb d4 ?_
  rw [z_add]
  have hc : (Int32.ofInt ((i : Int) + k)).toNatClampNeg = i + k := by rw [z_clamp (by omega) (by omega)]; omega
  refine va_sld hx hb hX hbl (fun h => by omega) hS (i := Int32.ofInt ((i : Int) + k)) ?_ d5 ?_
  · unfold vp_in
    rw [hc, z_0, z_lt (by unfold w32; omega) (by unfold w32; omega)]
    omega
  · rw [hc]
    rw [z_to] at kk
    exact kk
/-- the script's number at i itself -/
theorem lw_arg0 (hx : p.tables.exec = Jvm.exec) (hb : c.code = cL_law) (hX : va_X b L xs s s.heap) (hbl : b < s.heap.size) (hC : lCx gC tC s b M1 M2 o i H locs ls) (hk : i < L) (hL : L ≤ 2560) (d0 : decode cL_law pc = .ok (.aload_n 0, 1)) (d1 : decode cL_law (pc + 1) = .ok (.iload 4, 2)) (d5 : decode cL_law (pc + 3) = .ok (.iaload, 1))
    (kk : W p l e room_1 s m #[Value.ref b] below meth c H locs n k0 Q (F0 m (pc + 4) ls (.int (xs i) :: st))) : W p l e room_1 s m #[Value.ref b] below meth c H locs n k0 Q (F0 m pc ls st) := by
  obtain ⟨-, -, -, hS, lv, hl⟩ := hC
  refine lv_aload_n hx hb d0 rfl (lv_at hl 4 rfl) ?_
  refine lv_iload hx hb d1 (lv_at hl 0 rfl) ?_
  have hc : (Int32.ofInt (i : Int)).toNatClampNeg = i := by rw [z_clamp (by omega) (by omega)]; omega
  refine va_sld hx hb hX hbl (fun h => by omega) hS (i := Int32.ofInt (i : Int)) ?_ d5 ?_
  · unfold vp_in
    rw [hc, z_0, z_lt (by unfold w32; omega) (by unfold w32; omega)]
    omega
  · rw [hc]
    exact kk
/-- a call of the class -/
theorem lw_k1 (B : lB RL cL_law 7 p s m #[Value.ref b] c) (hK : eKn (lG1 gC tC s.heap.size) s) (hC : lCx gC tC s b M1 M2 o i H locs ls) {idx nY fr lo na ci : Nat} {y : MethodName} {cy : ByteArray} {ret : Option FieldType} {sp : eSp} (hM : eMet y cy nY ret fr lo sp) (hw : eWV y cy nY ret na ci sp) (hlk : Cond.methodLink RL idx y ∈ gW) (hR : fr + 1 ≤ room_1.frames ∧ 8 + (nY + 11) + lo ≤ room_1.locals)
    (hd : decode cL_law pc = .ok (.invokevirtual idx, 3)) {as : List eV} {f : Option eV → eM → Prop} (hn : as.length = na) (hW : (st.map fun v => v.category).sum ≤ 8) (hsp : sp as M1 f) (hc : n ≤ room_1.cells) (hs : k0 ≤ room_1.slots)
    (kk : ∀ (r : Option eV) (M' : eM) (H1 : Heap) (locs1 : List Loc), f r M' → lCx gC tC s b M' M2 o i H1 locs1 ls → W p l e room_1 s m #[Value.ref b] below meth c H1 locs1 n k0 Q (F0 m (pc + 3) ls ((r.map (cv (lG1 gC tC s.heap.size))).toList ++ st))) : W p l e room_1 s m #[Value.ref b] below meth c H locs n k0 Q (F0 m pc ls ((as.map (cv (lG1 gC tC s.heap.size))).reverse ++ st)) := by
  obtain ⟨hP1, hP2, hO, hS, lv, hl⟩ := hC
  refine lw_call B hl.1 hK hM hw hlk hR hd hn hW hsp hc hs hP1 hS (fun q h => h.1) (fun r M' H1 locs1 hf hP1' hz hk hS1 => ?_)
  exact kk r M' H1 locs1 hf ⟨hP1', hP2.kept (fun q hq hlt => hk q hlt (fun h => by have := hq.1; have := h.2; omega)), hO.kept (hk _ hO.lt (fun h => by have := h.2; omega)), hS1, lv, hl⟩
/-- a call of the reference -/
theorem lw_k2 (B : lB RL cL_law 7 p s m #[Value.ref b] c) (hK : eKn (lG2 gC tC s.heap.size) s) (hC : lCx gC tC s b M1 M2 o i H locs ls) {idx nY fr lo na ci : Nat} {y : MethodName} {cy : ByteArray} {ret : Option FieldType} {sp : eSp} (hM : eMet y cy nY ret fr lo sp) (hw : eWV y cy nY ret na ci sp) (hlk : Cond.methodLink RL idx y ∈ gW) (hR : fr + 1 ≤ room_1.frames ∧ 8 + (nY + 11) + lo ≤ room_1.locals)
    (hd : decode cL_law pc = .ok (.invokevirtual idx, 3)) {as : List eV} {f : Option eV → eM → Prop} (hn : as.length = na) (hW : (st.map fun v => v.category).sum ≤ 8) (hsp : sp as M2 f) (hc : n ≤ room_1.cells) (hs : k0 ≤ room_1.slots)
    (kk : ∀ (r : Option eV) (M' : eM) (H1 : Heap) (locs1 : List Loc), f r M' → lCx gC tC s b M1 M' o i H1 locs1 ls → W p l e room_1 s m #[Value.ref b] below meth c H1 locs1 n k0 Q (F0 m (pc + 3) ls ((r.map (cv (lG2 gC tC s.heap.size))).toList ++ st))) : W p l e room_1 s m #[Value.ref b] below meth c H locs n k0 Q (F0 m pc ls ((as.map (cv (lG2 gC tC s.heap.size))).reverse ++ st)) := by
  obtain ⟨hP1, hP2, hO, hS, lv, hl⟩ := hC
  refine lw_call B hl.1 hK hM hw hlk hR hd hn hW hsp hc hs hP2 hS (fun q h => by have := h.1; omega) (fun r M' H1 locs1 hf hP2' hz hk hS1 => ?_)
  exact kk r M' H1 locs1 hf ⟨hP1.kept (fun q hq hlt => hk q hlt (fun h => by have := hq.2; have := h.1; omega)), hP2', hO.kept (hk _ hO.lt (fun h => by have := h.2; omega)), hS1, lv, hl⟩
end LL
