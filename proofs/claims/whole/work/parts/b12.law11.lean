/-! The law in full, over any relation that its calls keep. -/
theorem law_all {I : eM → eM → Prop} (hI : lCas I) (h0 : I (cC F00 A00 W00) (cR F01 A00)) {p : Program} {e : Env} {s : State} {m : MethodId} {below : List Frame} {meth : Method} {c : Code} (l : Launch) (hl0 : l.stackTraces = false) {b L : Nat} {xs : Nat → Int32} {Z : State → Prop} (hL : L ≤ 2560) (hx : p.tables.exec = Jvm.exec) (hb : c.code = cL_law) (hml : c.maxLocals = 7) (hown : s.vm.findClass RL = some m.cls) (hts : ∀ w ∈ lw_tbl, w.before #[Value.ref b] s = true) (hX : va_X b L xs s s.heap) (hbl : b < s.heap.size) (hgv : (Jvm.Cond.and given_1 narrow_1).before #[Value.ref b] s = true)
    (hend : ∀ (H : Heap) (ls : Array Slot), W p l e room_1 s m #[Value.ref b] below meth c H [] 601024 7293034 Z (F0 m 854 ls [.int 1])) :
    W p l e room_1 s m #[Value.ref b] below meth c s.heap [] 0 0 Z (entryFrame m ([Value.ref b] : List Value).toArray 7) := by
  refine law_go l hx hb hml hown hts (fun gC tC H locs ls hkn hC hR hO hS hl => ?_)
  have hgw : ∀ w ∈ gW, w.before #[Value.ref b] s = true := fun w hw => hts w (List.mem_filter.mp hw).1
  obtain ⟨n1, n2⟩ := law_nc hgv
  exact law_lp hx hb ⟨hx, hb, hml, hown, hgw⟩ hl0 (hkn _).1 (hkn _).1 (law_xf hts) (law_xz hts hgv (fun a ha h => by have := h.1; omega)) n1 n2 hX hbl hL hI (fun H locs ls hS => va_forget hS.2.2 (hend H ls)) 2565 0 _ _ 0 H locs ls rfl h0 ⟨hC, hR, hO, hS, [], hl⟩
