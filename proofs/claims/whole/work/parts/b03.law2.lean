/-! The law's own catchers: a call of a method that may throw, its answer into the row that is handed along. -/
theorem m_ofWH {l : Launch} {y : MethodName} {ws ws' : List Cond} {rm : Room} {Pc : Array Value → State → Prop} {Qc : Array Value → State → Outcome → State → Prop} {mc ms : Nat} {free : Addr → Prop} {cc : ByteArray} {maxL : Nat} {ret : Option FieldType} {hh : List (Nat × Nat × Nat × Nat)}
    (hy : plainName y.cls = true) (hw : ws = Cond.codeWith y cc maxL ret hh :: ws')
    (body : ∀ p e s m args below meth c s₁, BodyLoose p l y (headSpec ws rm) cc maxL ret e s m args below meth c s₁ → c.maxLocals = maxL → Pc args s →
      W p l e (headSpec ws rm).room s m args below meth c s.heap [] 0 0 (MQ below Qc args s mc ms free) (entryFrame m args maxL)) : Met l y ws rm Pc Qc mc ms free := by
  refine MetFree.of_bodyS (code := cc) (maxLocals := maxL) (ret := ret) hy ?_ ?_
  · intro args s m h hn
    obtain ⟨m9, meth, c, hn9, h1, h2, h3, h4, -, h5, h6, -⟩ := Cond.codeWith_spec (atoms_spec (ws := ws) h _ (by rw [hw]; exact List.mem_cons_self))
    cases hn.symm.trans hn9
    exact ⟨meth, c, h1, h2, h3, h4, h5, h6⟩
  · intro p e s m args below meth c s₁ B hml hP _
    have hh0 : s₁.heap = s.heap := by rw [B.state]; rfl
    obtain ⟨t, a1, o, b1, b2, b3⟩ := body p e s m args below meth c s₁ B hml hP s₁ hh0 (Stand.of_body B)
    exact ⟨t, o, a1, b1, b2, b3⟩
def lO (G : eG) (q : Nat) (o : Int) (H : Heap) : Prop := H[q]? = some (arrV (G.2.1 1) 1 (fun _ => .long (Int64.ofInt o)))
section LX
variable {G : eG} {A A0 : Nat → Prop} {p : Program} {l : Launch} {e : Env} {R : Room} {s : State} {m : MethodId} {args : Array Value} {below : List Frame} {meth : Method} {c : Code} {nL : Nat} {Q : State → Prop} {own : String} {cc : ByteArray} {st : List Value} {M : eM} {pc : Nat} {n k0 : Nat} {H : Heap} {locs : List Loc} {lm : Array Slot}
/-- a method that may throw -/
theorem lw_callX (B : lB own cc nL p s m args c) (hl0 : l.stackTraces = false) (hml2 : lm.size = nL) (hK : eKn G s) (hX : eXF s) (hZ : eXZ A s H) {idx nY fr lo na ci : Nat} {q0 : vw_C} {y : MethodName} {cy : ByteArray} {sp : exSp} {a : eA} {fs as : List eV} {rt : Option eV → eM → Prop} {xt : String → Prop} (hM : exMet y cy nY (some .int) fr lo sp)
    (hq : vwCl[ci]? = some q0) (hMa : M a = some (.inl (ci, fs))) (hcode : Cond.code y cy nY (some .int) ∈ gW) (hini : Cond.initialized y.cls ∈ gW) (hins : Cond.instanceMethod y ∈ gW) (hsel : Cond.selects q0.1 y y ∈ gW) (hlk : Cond.methodLink own idx y ∈ gW)
    (h3 : y.cls ≠ "java/lang/invoke/MethodHandle" ∧ y.cls ≠ "java/lang/invoke/VarHandle" ∧ (parseMethodDescriptor y.desc).map (fun d => d.parameters.length) = some na) (hR : fr + 1 ≤ R.frames ∧ 8 + (nY + 11) + lo ≤ R.locals) (hc : n + 1 ≤ R.cells) (hs : k0 + 6 ≤ R.slots)
    (d0 : decode cc pc = .ok (.invokevirtual idx, 3)) (hn : as.length = na) (hW : (st.map fun v => v.category).sum ≤ 8) (hsp : sp (eR a :: as) M (fun o M' => ∃ z, o = some (eI z) ∧ rt o M') xt) (hP : eP G A M H) (hS : va_S A0 s.heap H locs) (hAn : ∀ q, A q → A0 q)
    (kx : ∀ (E : String) (ce : Cell) (q9 : Addr) (H1 : Heap) (locs1 : List Loc), xt E → eP G A M H1 → (∀ q, q < H.size → ¬ A q → H1[q]? = H[q]?) → va_S A0 s.heap H1 locs1 → H1[q9]? = some ce → ce.vm = .none → s.vm.findClass E = some ce.cls → vx_W p l e R s m args below meth c H1 locs1 (n + 1) (k0 + 6) Q (F0 m pc lm st) q9)
    (kk : ∀ (z : Int) (M' : eM) (H1 : Heap) (locs1 : List Loc), rt (some (eI z)) M' → eP G A M' H1 → (∀ q, q < H.size → ¬ A q → H1[q]? = H[q]?) → va_S A0 s.heap H1 locs1 → W p l e R s m args below meth c H1 locs1 (n + 1) (k0 + 6) Q (F0 m (pc + 3) lm (.int (Int32.ofInt z) :: st))) :
    W p l e R s m args below meth c H locs n k0 Q (F0 m pc lm ((as.map (cv G)).reverse ++ .ref (G.2.2 a) :: st)) := by
  obtain ⟨hx, hb, hml, hown, hts⟩ := B
  have hrecv : ∃ cellB : Cell, H[G.2.2 a]? = some cellB ∧ cellB.vm.isStatics = false ∧ s.vm.findClass q0.1 = some cellB.cls := by
    obtain ⟨⟨q', hq', -, cell, g1, g2, g3, -⟩, -⟩ := hP.1 a _ hMa
    have hqq : q' = q0 := Option.some.inj (hq'.symm.trans hq)
    subst hqq
    exact ⟨cell, g1, by rw [g3]; rfl, by rw [g2]; exact (hK.1 ci q' hq).2.1⟩
  have hpre : PreV s H q0.1 (G.2.2 a) (exPc G A (eR a :: as) M) (as.map (cv G)) := ⟨exPc.blind, hrecv, fun U hU hW => ⟨by simp [cv], by rw [hU]; exact hP, hK.moved hW.alike, hX.warm hW, by rw [hU]; exact vx_Zq.moved hW.alike hZ.1, by rw [hU]; exact vx_Zq.moved hW.alike hZ.2⟩⟩
  have hlen : (as.map (cv G)).length = na := by simpa using hn
  have hWc : 2 * (F0 m pc lm ((as.map (cv G)).reverse ++ .ref (G.2.2 a) :: st)).monitorRoom + (st.map fun v => v.category).sum ≤ 8 := by simpa [JFrame.monitorRoom] using hW
  intro T hT X
  rcases vx_runV (As := as.map (cv G)) (rest := st) ⟨hx, hb, hml, hown, hts⟩ (hM l hl0 G A _ M _ xt hsp) ⟨callB_of na hts (gW_good hcode) rfl rfl rfl (hts _ hini) (hts _ hlk) h3 hR, hts _ hins, hts _ hsel⟩ hpre rfl hlen hml2 rfl hWc d0 ⟨hc, hs⟩ T hT X with ⟨v, st₀, t, T', L, h0, X', hL, e1, e2, ⟨⟨r, M', ⟨z, rfl, hrt⟩, hv, hP'⟩, hF⟩, st2⟩ | ⟨q, st₀, t, T', L, E, ce, h0, X', hL, e1, e2, ⟨hxt, hP', hF⟩, hce, hcv, hcl, st2⟩
  · have hv' : v = some (.int (Int32.ofInt z)) := Outcome.returned.inj hv
    subst hv'
    obtain ⟨k1, k2, k3⟩ := vx_keep h0 e1 hS (fun q _ h => hAn q h) (fun q h => hAn q h) hL hF
    obtain ⟨t2, a1, b1⟩ := kk z M' T'.heap (locs ++ L) hrt (by rw [e1]; exact hP') k2 k3 T' rfl X'
    exact ⟨t2, st2 t2 a1, b1⟩
  · obtain ⟨k1, k2, k3⟩ := vx_keep h0 e1 hS (fun q _ h => hAn q h) (fun q h => hAn q h) hL hF
    obtain ⟨t2, a1, b1⟩ := kx E ce q T'.heap (locs ++ L) hxt (by rw [e1]; exact hP') k2 k3 (by rw [e1]; exact hce) hcv hcl T' rfl X'
    exact ⟨t2, st2.trans a1, b1⟩
/-- a long laid into the row of one -/
theorem lw_out (B : lB own cc nL p s m args c) (hK : eKn G s) {q : Nat} {o z : Int} (hd : decode cc pc = .ok (.lastore, 1)) (hO : lO G q o H) (hS : va_S A0 s.heap H locs) (hq : A0 q)
    (kk : ∀ (H1 : Heap) (locs1 : List Loc), lO G q z H1 → (∀ x, x ≠ q → H1[x]? = H[x]?) → H1.size = H.size → va_S A0 s.heap H1 locs1 → W p l e R s m args below meth c H1 locs1 n k0 Q (F0 m (pc + 1) lm st)) : W p l e R s m args below meth c H locs n k0 Q (F0 m pc lm (.long (Int64.ofInt z) :: .int 0 :: .ref q :: st)) := by
  obtain ⟨hx, hb, hml, hown, hts⟩ := B
  refine W.last hx hb hO (hK.2 1 .long rfl 1 _) (fun q => by cases q) (by rw [arrV_size]; decide) rfl rfl hd fun H' e1 e2 e3 => ?_
  refine kk H' _ ?_ e3 e2 (hS.put e2 e3 hq)
  show H'[q]? = some (arrV _ 1 _)
  rw [e1, arrV_store]
  refine congrArg some (arrV_ext fun j hj => ?_)
  rw [show j = 0 by omega]
  rfl
end LX
/-- the rest of a world lies elsewhere -/
def lPc (G : eG) (A : Nat → Prop) (as : List eV) (M : eM) (qo : Nat) (o : Int) : Array Value → State → Prop := fun v U => v = (as.map (cv G) ++ [Value.ref qo]).toArray ∧ eP G A M U.heap ∧ eKn G U ∧ eXF U ∧ eXZ A U U.heap ∧ lO G qo o U.heap ∧ ¬ A qo ∧ va_Nc xIA xIO U ∧ va_Nc xIS xIA U
theorem lPc.blind {G : eG} {A : Nat → Prop} {as : List eV} {M : eM} {qo : Nat} {o : Int} : FrameBlind (lPc G A as M qo o) := fun a U g mk q => ⟨q.1, q.2.1, q.2.2.1.moved (U := U.calling g mk a) (Vm.Alike.refl U.vm), q.2.2.2.1.same (U := U.calling g mk a) rfl, ⟨q.2.2.2.2.1.1.moved (U := U.calling g mk a) (Vm.Alike.refl U.vm), q.2.2.2.2.1.2.moved (U := U.calling g mk a) (Vm.Alike.refl U.vm)⟩, q.2.2.2.2.2.1, q.2.2.2.2.2.2.1, q.2.2.2.2.2.2.2.1.moved (U := U.calling g mk a) (Vm.Alike.refl U.vm), q.2.2.2.2.2.2.2.2.moved (U := U.calling g mk a) (Vm.Alike.refl U.vm)⟩
def lQ (G : eG) (A : Nat → Prop) (qo : Nat) (post : Int → Int → eM → Prop) : Array Value → State → Outcome → State → Prop := fun _ st oc t => (∃ (k o' : Int) (M' : eM), oc = .returned (some (.int (Int32.ofInt k))) ∧ post k o' M' ∧ eP G A M' t.heap ∧ lO G qo o' t.heap) ∧ va_F (fun q => A q ∨ q = qo) st t
