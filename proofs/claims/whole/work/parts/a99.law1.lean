/-! The law: making, calling, beside another world. -/
theorem eP.kept {G : eG} {A : Nat → Prop} {M : eM} {H H1 : Heap} (h : eP G A M H) (hk : ∀ q : Nat, A q → q < H.size → H1[q]? = H[q]?) : eP G A M H1 := ⟨fun a c hc => ⟨(h.1 a c hc).1.kept (hk _ (h.1 a c hc).2 (h.1 a c hc).1.lt), (h.1 a c hc).2⟩, h.2⟩
theorem eP.re {G : eG} {A A' : Nat → Prop} {M : eM} {H : Heap} (h : eP G A M H) (hA : ∀ a c, M a = some c → A' (G.2.2 a)) : eP G A' M H := ⟨fun a c hc => ⟨(h.1 a c hc).1, hA a c hc⟩, h.2⟩
section LW
variable {G : eG} {A A0 : Nat → Prop} {p : Program} {l : Launch} {e : Env} {R : Room} {s : State} {m : MethodId} {args : Array Value} {below : List Frame} {meth : Method} {c : Code} {nL : Nat} {Q : State → Prop} {own : String} {cc : ByteArray} {st : List Value} {M : eM} {pc : Nat} {n k0 : Nat} {H : Heap} {locs : List Loc} {lm : Array Slot}
/-- the frame that the law's rows stand in -/
def lB (own : String) (cc : ByteArray) (nL : Nat) (p : Program) (s : State) (m : MethodId) (args : Array Value) (c : Code) : Prop := p.tables.exec = Jvm.exec ∧ c.code = cc ∧ c.maxLocals = nL ∧ s.vm.findClass own = some m.cls ∧ (∀ w ∈ gW, w.before args s = true)
/-- new, the first cell of a world -/
theorem lw_new (B : lB own cc nL p s m args c) (hK : eKn G s) (hA : ∀ q, H.size ≤ q → A q) {idx ci N : Nat} {q : vw_C} {a : eA} (hd : decode cc pc = .ok (.new idx, 3)) (hq : vwCl[ci]? = some q) (hN : q.2.2 = N)
    (h1 : Cond.classLink own idx q.1 ∈ gW) (h2 : Cond.instantiable q.1 N ∈ gW) (h3 : Cond.initialized q.1 ∈ gW) (hdf : ∀ j, j < N → dfvk (gW_ty ci j) = true) (ha : G.2.2 a = H.size) (hc : n + 1 ≤ R.cells) (hs : k0 + N ≤ R.slots) (hP : eP G A M H) (hS : va_S A0 s.heap H locs)
    (kk : ∀ H1 : Heap, eP G A (eUp M a (eO ci (dfvs ci N))) H1 → H1.size = H.size + 1 → (∀ q, q < H.size → H1[q]? = H[q]?) → va_S A0 s.heap H1 locs → W p l e R s m args below meth c H1 locs (n + 1) (k0 + N) Q (F0 m (pc + 3) lm (.ref (G.2.2 a) :: st))) : W p l e R s m args below meth c H locs n k0 Q (F0 m pc lm st) := by
  subst hN
  obtain ⟨hx, hb, hml, hown, hts⟩ := B
  have hKn := hK.1 ci q hq
  refine W.newcK hx hb hown (hts _ h1) (hts _ h2) (hts _ h3) rfl hd hc hs hKn.2.1 rfl fun H1 kC hkC e1 z1 o1 => ?_
  rw [← ha]
  refine kk H1 (hP.more ha (hA _ (Nat.le_refl _)) ⟨q, hq, by simp [dfvs], ?_⟩ o1) z1 o1 ⟨Nat.le_trans hS.1 (by omega), fun x h1 h2 => (o1 x (Nat.lt_of_lt_of_le h1 hS.1)).trans (hS.2.1 x h1 h2), hS.2.2⟩
  rw [ha]
  exact (u_born (gW_ty ci) hts (gW_lay ci q hq) hKn hkC e1 (gW_tyok ci q hq).1).to (fun j hj => dfvs_e hj (hdf j hj))
/-- a constructor -/
theorem lw_init (B : lB own cc nL p s m args c) (hml2 : lm.size = nL) (hK : eKn G s) (hF : eFC G s) (hA : ∀ q, H.size ≤ q → A q) {idx nY fr lo mc ms na : Nat} {y : MethodName} {cy : ByteArray} {sp : nSp} {a : eA} {as : List eV} {M' : eM} (hM : nMet y cy nY fr lo mc ms sp)
    (hcode : Cond.code y cy nY none ∈ gW) (hini : Cond.initialized y.cls ∈ gW) (hins : Cond.instanceMethod y ∈ gW) (hlk : Cond.methodLink own idx y ∈ gW) (hname : y.name = "<init>")
    (h3 : y.cls ≠ "java/lang/invoke/MethodHandle" ∧ y.cls ≠ "java/lang/invoke/VarHandle" ∧ (parseMethodDescriptor y.desc).map (fun d => d.parameters.length) = some na) (hR : fr + 1 ≤ R.frames ∧ 8 + (nY + 11) + lo ≤ R.locals)
    (hd : decode cc pc = .ok (.invokespecial idx, 3)) (hn : as.length = na) (hW : (st.map fun v => v.category).sum ≤ 8) (hsp : sp G H.size (eR a :: as) M M') (hc : n + mc ≤ R.cells) (hs : k0 + ms ≤ R.slots) (hP : eP G A M H) (hS : va_S A0 s.heap H locs) (hAn : ∀ q, A q → A0 q)
    (kk : ∀ (H1 : Heap) (locs1 : List Loc), eP G A M' H1 → H1.size = H.size + mc → (∀ q, q < H.size → ¬ A q → H1[q]? = H[q]?) → va_S A0 s.heap H1 locs1 → W p l e R s m args below meth c H1 locs1 (n + mc) (k0 + ms) Q (F0 m (pc + 3) lm st)) : W p l e R s m args below meth c H locs n k0 Q (F0 m pc lm ((as.map (cv G)).reverse ++ .ref (G.2.2 a) :: st)) := by
  obtain ⟨hx, hb, hml, hown, hts⟩ := B
  have hpre : PreS s H (nwP G A H.size (eR a :: as) M) (.ref (G.2.2 a) :: as.map (cv G)) := ⟨nwP.blind, fun U hU hW => ⟨rfl, by rw [hU]; exact hP, hK.moved hW.alike, hF.warm hW, by rw [hU]⟩⟩
  have hlen : (as.map (cv G)).length = na := by simpa using hn
  have hWc : 2 * (F0 m pc lm ((as.map (cv G)).reverse ++ .ref (G.2.2 a) :: st)).monitorRoom + (st.map fun v => v.category).sum ≤ 8 := by simpa [JFrame.monitorRoom] using hW
  intro S hSt X
  obtain ⟨v, st₀, t, T', L, h0, X', hL, e1, e2, ⟨hv, hP', ⟨hz1, hk⟩, hz2⟩, stp⟩ := va_runI (As := as.map (cv G)) (rest := st) ⟨hx, hb, hml, hown, hts⟩ (hM l G A _ M M' _ hsp hA) ⟨callB_of na hts (gW_good hcode) rfl rfl rfl (hts _ hini) (hts _ hlk) h3 hR, hname, hts _ hins⟩ hpre rfl hlen hml2 rfl hWc hd ⟨hc, hs⟩ S hSt X
  have hv' : v = none := Outcome.returned.inj hv
  subst hv'
  rw [h0] at hz1 hk hz2
  obtain ⟨t2, a1, b1⟩ := kk T'.heap (locs ++ L) (by rw [e1]; exact hP') (by rw [e1, hz2]) (fun q h1 h2 => by rw [e1]; exact hk q h1 h2) ⟨by rw [e1]; exact Nat.le_trans hS.1 hz1, fun q h1 h2 => by rw [e1, hk q (Nat.lt_of_lt_of_le h1 hS.1) (fun z => h2 (hAn q z))]; exact hS.2.1 q h1 h2, fun q hq => by
      rcases List.mem_append.mp hq with h | h
      · exact hS.2.2 q h
      · exact hAn _ (hL q h)⟩ T' rfl X'
  exact ⟨t2, stp t2 a1, b1⟩
/-- one of the engine's methods, in its world; the other world stays -/
theorem lw_call (B : lB own cc nL p s m args c) (hml2 : lm.size = nL) (hK : eKn G s) {idx nY fr lo na ci : Nat} {y : MethodName} {cy : ByteArray} {ret : Option FieldType} {sp : eSp} (hM : eMet y cy nY ret fr lo sp) (hw : eWV y cy nY ret na ci sp) (hlk : Cond.methodLink own idx y ∈ gW) (hR : fr + 1 ≤ R.frames ∧ 8 + (nY + 11) + lo ≤ R.locals)
    (hd : decode cc pc = .ok (.invokevirtual idx, 3)) {as : List eV} {f : Option eV → eM → Prop} (hn : as.length = na) (hW : (st.map fun v => v.category).sum ≤ 8) (hsp : sp as M f) (hc : n ≤ R.cells) (hs : k0 ≤ R.slots) (hP : eP G A M H) (hS : va_S A0 s.heap H locs) (hAn : ∀ q, A q → A0 q)
    (kk : ∀ (o : Option eV) (M' : eM) (H1 : Heap) (locs1 : List Loc), f o M' → eP G A M' H1 → H1.size = H.size → (∀ q, q < H.size → ¬ A q → H1[q]? = H[q]?) → va_S A0 s.heap H1 locs1 → W p l e R s m args below meth c H1 locs1 n k0 Q (F0 m (pc + 3) lm ((o.map (cv G)).toList ++ st))) : W p l e R s m args below meth c H locs n k0 Q (F0 m pc lm ((as.map (cv G)).reverse ++ st)) := by
  obtain ⟨hx, hb, hml, hown, hts⟩ := B
  obtain ⟨hcode, hini, hins, ⟨q, hq, hsel⟩, ⟨h5, hn1⟩, hrc⟩ := hw
  obtain ⟨a, r, fs, rfl, hMa⟩ := hrc as M f hsp
  have hrecv : ∃ cellB : Cell, H[G.2.2 a]? = some cellB ∧ cellB.vm.isStatics = false ∧ s.vm.findClass q.1 = some cellB.cls := by
    obtain ⟨⟨q', hq', -, cell, g1, g2, g3, -⟩, -⟩ := hP.1 a _ hMa
    have hqq : q' = q := Option.some.inj (hq'.symm.trans hq)
    subst hqq
    exact ⟨cell, g1, by rw [g3]; rfl, by rw [g2]; exact (hK.1 ci q' hq).2.1⟩
  have hpre : PreV s H q.1 (G.2.2 a) (ePc G A (eR a :: r) M) (r.map (cv G)) := ⟨ePc.blind, hrecv, fun U hU hW => ⟨by simp [cv], by rw [hU]; exact hP, hK.moved hW.alike⟩⟩
  have hlen : (r.map (cv G)).length = na - 1 := by simp at hn ⊢; omega
  have hstk : ((eR a :: r).map (cv G)).reverse ++ st = (r.map (cv G)).reverse ++ .ref (G.2.2 a) :: st := by simp [cv]
  rw [hstk]
  have hWc : 2 * (F0 m pc lm ((r.map (cv G)).reverse ++ .ref (G.2.2 a) :: st)).monitorRoom + (st.map fun v => v.category).sum ≤ 8 := by simpa [JFrame.monitorRoom] using hW
  intro S hSt X
  obtain ⟨v, st₀, t, T', L, h0, X', hL, e1, e2, ⟨⟨r2, M', hrt, hv, hP'⟩, ⟨hz1, hk⟩, hz2⟩, stp⟩ := va_runV (As := r.map (cv G)) (rest := st) ⟨hx, hb, hml, hown, hts⟩ (hM l G A _ M f hsp) ⟨callB_of (na - 1) hts (gW_good hcode) rfl rfl rfl (hts _ hini) (hts _ hlk) h5 hR, hts _ hins, hts _ hsel⟩ hpre rfl hlen hml2 rfl hWc hd ⟨hc, hs⟩ S hSt X
  have hv' : v = r2.map (cv G) := Outcome.returned.inj hv
  subst hv'
  rw [h0] at hz1 hk hz2
  obtain ⟨t2, a1, b1⟩ := kk r2 M' T'.heap (locs ++ L) hrt (by rw [e1]; exact hP') (by rw [e1, hz2]) (fun q h1 h2 => by rw [e1]; exact hk q h1 h2) ⟨by rw [e1]; exact Nat.le_trans hS.1 hz1, fun q h1 h2 => by rw [e1, hk q (Nat.lt_of_lt_of_le h1 hS.1) (fun z => h2 (hAn q z))]; exact hS.2.1 q h1 h2, fun q hq => by
      rcases List.mem_append.mp hq with h | h
      · exact hS.2.2 q h
      · exact hAn _ (hL q h)⟩ T' rfl X'
  exact ⟨t2, stp t2 a1, b1⟩
end LW
