/-! A constructor's contract: what lies in the memory behind it is a function of what lay before; its cells come at fixed places. -/
def nwP (G : eG) (A : Nat → Prop) (sz : Nat) (as : List eV) (M : eM) : Array Value → State → Prop := fun v U => v = (as.map (cv G)).toArray ∧ eP G A M U.heap ∧ eKn G U ∧ eFC G U ∧ U.heap.size = sz
def nwQ (G : eG) (A : Nat → Prop) (mc : Nat) (M' : eM) : Array Value → State → Outcome → State → Prop := fun _ st o t => o = .returned none ∧ eP G A M' t.heap ∧ va_F A st t ∧ t.heap.size = st.heap.size + mc
abbrev nSp : Type := eG → Nat → List eV → eM → eM → Prop
def nMet (y : MethodName) (cc : ByteArray) (nL fr lo mc ms : Nat) (sp : nSp) : Prop :=
  ∀ (l : Launch) (G : eG) (A : Nat → Prop) (as : List eV) (M M' : eM) (sz : Nat), sp G sz as M M' → (∀ q, sz ≤ q → A q) →
    Met l y (.code y cc nL none :: gW) { frames := fr, cells := mc, slots := ms, locals := lo } (nwP G A sz as M) (nwQ G A mc M') mc ms A
theorem nwP.blind {G : eG} {A : Nat → Prop} {sz : Nat} {as : List eV} {M : eM} : FrameBlind (nwP G A sz as M) := fun a U g mk q => ⟨q.1, q.2.1, q.2.2.1.moved (U := U.calling g mk a) (Vm.Alike.refl U.vm), q.2.2.2.1.same (U := U.calling g mk a) rfl, q.2.2.2.2⟩
section NM
variable {G : eG} {A : Nat → Prop} {p : Program} {l : Launch} {e : Env} {R : Room} {s : State} {m : MethodId} {args : Array Value} {below : List Frame} {meth : Method} {c : Code} {nL : Nat} {Q : State → Prop} {own : String} {cc : ByteArray} {T : eT} {ls : List (Option eV)} {st : List eV} {M : eM} {pc : Nat} {n k0 : Nat}
/-- Object's constructor -/
theorem nd_obj (B : eB G own cc nL T p s m args c) {idx : Nat} {a : eA} (hd : decode cc pc = .ok (.invokespecial idx, 3)) (h1 : Cond.methodLink own idx objectInit ∈ gW) (h2 : Cond.instanceMethod objectInit ∈ gW) (h3 : Cond.code objectInit ⟨#[0xb1]⟩ 1 none ∈ gW) (hfr : 1 ≤ R.frames) (hlo : 21 ≤ R.locals)
    (kk : nW G A p l e R s m args below meth c nL Q n k0 (pc + 3) ls [] M) : nW G A p l e R s m args below meth c nL Q n k0 pc ls [eR a] M := by
  obtain ⟨hx, hb, hml, hown, hts, hK, hfld, hldc, hldc2⟩ := B
  intro H locs lm hP hS hz hl
  refine W.objInit hx hb hown (hts _ h1) (hts _ h2) (hts _ h3) rfl (by rw [hml]; exact hl.2.1) rfl hd (by first | exact hfr | simpa using hlo | omega) (by first | exact hfr | (simp; omega) | omega) ?_
  exact W.eq (g2 := F0 m (pc + 3) lm []) rfl (kk H locs lm hP hS hz hl)
theorem nd_back {H : Heap} {locs : List Loc} {lm : Array Slot} {st0 : List Value} {rest : List eV} {a : Array Value} {mc ms : Nat} {M' : eM}
    (hr : va_Run p l e R s m args below meth c H locs n k0 mc ms (F0 m pc lm st0) (rest.map (cv G)) (nwQ G A mc M' a) A)
    (hS : va_S A s.heap H locs) (hz : H.size = s.heap.size + n) (hl : eLs G nL ls lm)
    (kk : nW G A p l e R s m args below meth c nL Q (n + mc) (k0 + ms) (pc + 3) ls rest M') : W p l e R s m args below meth c H locs n k0 Q (F0 m pc lm st0) := by
  intro S hSt X
  obtain ⟨v, st₀, t, T', L, h0, X', hL, e1, e2, ⟨hv, hP', ⟨hz1, hk⟩, hz2⟩, stp⟩ := hr S hSt X
  have hv' : v = none := Outcome.returned.inj hv
  subst hv'
  rw [h0] at hz1 hk hz2
  obtain ⟨t2, a1, b1⟩ := kk T'.heap (locs ++ L) lm (by rw [e1]; exact hP') ⟨by rw [e1]; exact Nat.le_trans hS.1 hz1, fun q h1 h2 => by rw [e1, hk q (Nat.lt_of_lt_of_le h1 hS.1) h2]; exact hS.2.1 q h1 h2, fun q hq => by
      rcases List.mem_append.mp hq with h | h
      · exact hS.2.2 q h
      · exact hL q h⟩ (by rw [e1, hz2, hz, Nat.add_assoc]) hl T' rfl X'
  exact ⟨t2, stp t2 a1, b1⟩
/-- a call of a constructor -/
theorem nd_callI (B : eB G own cc nL T p s m args c) (hF : eFC G s) (hA0 : ∀ q, s.heap.size ≤ q → A q) {idx nY fr lo mc ms na : Nat} {y : MethodName} {cy : ByteArray} {sp : nSp} {a : eA} {as rest : List eV} {M' : eM} (hM : nMet y cy nY fr lo mc ms sp)
    (hcode : Cond.code y cy nY none ∈ gW) (hini : Cond.initialized y.cls ∈ gW) (hins : Cond.instanceMethod y ∈ gW) (hlink : Cond.methodLink own idx y ∈ gW ∨ ∃ host, (own, idx, y, host) ∈ eNst) (hname : y.name = "<init>")
    (h3 : y.cls ≠ "java/lang/invoke/MethodHandle" ∧ y.cls ≠ "java/lang/invoke/VarHandle" ∧ (parseMethodDescriptor y.desc).map (fun d => d.parameters.length) = some na) (hR : fr + 1 ≤ R.frames ∧ 8 + (nY + 11) + lo ≤ R.locals)
    (hd : decode cc pc = .ok (.invokespecial idx, 3)) (hn : as.length = na) (hW : cW rest ≤ 8) (hsp : sp G (s.heap.size + n) (eR a :: as) M M') (hc : n + mc ≤ R.cells) (hs : k0 + ms ≤ R.slots)
    (kk : nW G A p l e R s m args below meth c nL Q (n + mc) (k0 + ms) (pc + 3) ls rest M') : nW G A p l e R s m args below meth c nL Q n k0 pc ls (as.reverse ++ eR a :: rest) M := by
  obtain ⟨hx, hb, hml, hown, hts, hK, hfld, hldc, hldc2⟩ := B
  intro H locs lm hP hS hz hl
  have hl2 := hl
  obtain ⟨hl0, hl1, -⟩ := hl2
  have hA1 : ∀ q, s.heap.size + n ≤ q → A q := fun q h => hA0 q (by omega)
  have hpre : PreS s H (nwP G A (s.heap.size + n) (eR a :: as) M) (.ref (G.2.2 a) :: as.map (cv G)) := ⟨nwP.blind, fun U hU hW => ⟨rfl, by rw [hU]; exact hP, hK.moved hW.alike, hF.warm hW, by rw [hU]; exact hz⟩⟩
  have hlen : (as.map (cv G)).length = na := by simpa using hn
  have hstk : (as.reverse ++ eR a :: rest).map (cv G) = (as.map (cv G)).reverse ++ .ref (G.2.2 a) :: rest.map (cv G) := by simp [cv]
  rw [hstk]
  have hWc : 2 * (F0 m pc lm ((as.map (cv G)).reverse ++ .ref (G.2.2 a) :: rest.map (cv G))).monitorRoom + ((rest.map (cv G)).map fun v => v.category).sum ≤ 8 := by
    rw [cW_cat]; simpa [JFrame.monitorRoom] using hW
  rcases hlink with hlk | ⟨host, hlk⟩
  · exact nd_back (va_runI (As := as.map (cv G)) (rest := rest.map (cv G)) ⟨hx, hb, hml, hown, hts⟩ (hM l G A _ M M' _ hsp hA1) ⟨callB_of na hts (gW_good hcode) rfl rfl rfl (hts _ hini) (hts _ hlk) h3 hR, hname, hts _ hins⟩ hpre rfl hlen hl1 rfl hWc hd ⟨hc, hs⟩) hS hz hl kk
  · exact nd_back (va_runIN (As := as.map (cv G)) (rest := rest.map (cv G)) ⟨hx, hb, hml, hown, hts⟩ (hM l G A _ M M' _ hsp hA1) ⟨va_cnB na hts (gW_good hcode) rfl rfl rfl (hF.2.2.2 _ hlk) (hts _ hini) h3 hR, hname, hts _ hins⟩ hpre rfl hlen hl1 rfl hWc hd ⟨hc, hs⟩) hS hz hl kk
/-- returning -/
theorem nd_ret (B : eB G own cc nL T p s m args c) (hr : meth.sig.returnType = none) (hlocks : meth.locks = false) (hd : decode cc pc = .ok (.return_, 1)) :
    nW G A p l e R s m args below meth c nL (MQ below (nwQ G A n M) args s n k0 A) n k0 pc ls [] M := by
  obtain ⟨hx, hb, hml, hown, hts, hK, hfld, hldc, hldc2⟩ := B
  intro H locs lm hP hS hz hl
  exact W.vret hx hb hr (fun t ht _ => ⟨rfl, by rw [ht]; exact hP, hS.F ht, by rw [ht]; exact hz⟩) hS.2.2 hd hlocks
/-- a call of one of the engine's methods -/
theorem nd_callV (B : eB G own cc nL T p s m args c) {idx na : Nat} {sp : eSp} (hc : eCallV own R idx na sp) (hd : decode cc pc = .ok (.invokevirtual idx, 3)) {as rest : List eV} (hn : as.length = na) (hW : cW rest ≤ 8) {f : Option eV → eM → Prop} (hsp : sp as M f) (hcc : n ≤ R.cells) (hss : k0 ≤ R.slots)
    (kk : ∀ (o : Option eV) (M' : eM), f o M' → nW G A p l e R s m args below meth c nL Q n k0 (pc + 3) ls (o.toList ++ rest) M') : nW G A p l e R s m args below meth c nL Q n k0 pc ls (as.reverse ++ rest) M := by
  obtain ⟨hx, hb, hml, hown, hts, hK, hfld, hldc, hldc2⟩ := B
  obtain ⟨y, cy, nY, ret, fr, lo, ci, q, hM, hq, hrc, hfr, hlo, hcode, hini, hins, hsel, ⟨hd1, hd2, hd3⟩, hn1, hlink⟩ := hc
  intro H locs lm hP hS hz hl
  obtain ⟨a, r, fs, rfl, hMa⟩ := hrc as M f hsp
  have hl2 := hl
  obtain ⟨hl0, hl1, -⟩ := hl2
  have hrecv : ∃ cellB : Cell, H[G.2.2 a]? = some cellB ∧ cellB.vm.isStatics = false ∧ s.vm.findClass q.1 = some cellB.cls := by
    obtain ⟨⟨q', hq', -, cell, g1, g2, g3, -⟩, -⟩ := hP.1 a _ hMa
    have hqq : q' = q := Option.some.inj (hq'.symm.trans hq)
    subst hqq
    exact ⟨cell, g1, by rw [g3]; rfl, by rw [g2]; exact (hK.1 ci q' hq).2.1⟩
  have hpre : PreV s H q.1 (G.2.2 a) (ePc G A (eR a :: r) M) (r.map (cv G)) := ⟨ePc.blind, hrecv, fun U hU hW => ⟨by simp [cv], by rw [hU]; exact hP, hK.moved hW.alike⟩⟩
  have hlen : (r.map (cv G)).length = na - 1 := by simp at hn ⊢; omega
  have hstk : ((eR a :: r).reverse ++ rest).map (cv G) = (r.map (cv G)).reverse ++ .ref (G.2.2 a) :: rest.map (cv G) := by simp [cv]
  rw [hstk]
  have hWc : 2 * (F0 m pc lm ((r.map (cv G)).reverse ++ .ref (G.2.2 a) :: rest.map (cv G))).monitorRoom + ((rest.map (cv G)).map fun v => v.category).sum ≤ 8 := by
    rw [cW_cat]; simpa [JFrame.monitorRoom] using hW
  have back : ∀ {st0 : List Value} {x : Array Value}, va_Run p l e R s m args below meth c H locs n k0 0 0 (F0 m pc lm st0) (rest.map (cv G)) (eQ G A f x) A → W p l e R s m args below meth c H locs n k0 Q (F0 m pc lm st0) := by
    intro st0 x hr S hSt X
    obtain ⟨v, st₀, t, T', L, h0, X', hL, e1, e2, ⟨⟨r2, M', hrt, hv, hP'⟩, ⟨hz1, hk⟩, hz2⟩, stp⟩ := hr S hSt X
    have hv' : v = r2.map (cv G) := Outcome.returned.inj hv
    subst hv'
    rw [h0] at hz1 hk hz2
    have hst : (r2.map (cv G)).toList ++ rest.map (cv G) = (r2.toList ++ rest).map (cv G) := by cases r2 <;> simp
    obtain ⟨t2, a1, b1⟩ := kk r2 M' hrt T'.heap (locs ++ L) lm (by rw [e1]; exact hP') ⟨by rw [e1, hz2]; exact hS.1, fun q h1 h2 => by rw [e1, hk q (Nat.lt_of_lt_of_le h1 hS.1) h2]; exact hS.2.1 q h1 h2, fun q hq => by
        rcases List.mem_append.mp hq with h | h
        · exact hS.2.2 q h
        · exact hL q h⟩ (by rw [e1, hz2, hz]) hl T' rfl X'
    refine ⟨t2, stp t2 ?_, b1⟩
    rw [hst]
    exact a1
  rcases hlink with hlk | ⟨host, hlk⟩
  · exact back (va_runV (As := r.map (cv G)) (rest := rest.map (cv G)) ⟨hx, hb, hml, hown, hts⟩ (hM l G A _ M f hsp) ⟨callB_of (na - 1) hts (gW_good hcode) rfl rfl rfl (hts _ hini) (hts _ hlk) ⟨hd1, hd2, hd3⟩ ⟨hfr, hlo⟩, hts _ hins, hts _ hsel⟩ hpre rfl hlen hl1 rfl hWc hd ⟨hcc, hss⟩)
  · exact back (va_runVN (As := r.map (cv G)) (rest := rest.map (cv G)) ⟨hx, hb, hml, hown, hts⟩ (hM l G A _ M f hsp) ⟨va_cnB (na - 1) hts (gW_good hcode) rfl rfl rfl (hts _ hlk) (hts _ hini) ⟨hd1, hd2, hd3⟩ ⟨hfr, hlo⟩, hts _ hins, hts _ hsel⟩ hpre rfl hlen hl1 rfl hWc hd ⟨hcc, hss⟩)
/-- the greater one -/
theorem nd_max (B : eB G own cc nL T p s m args c) {idx : Nat} {a b : Int} {rest : List eV} (hR : 1 ≤ R.frames ∧ 21 ≤ R.locals) (hlk : Cond.methodLink own idx Lib.Math.max.name ∈ gW) (hsta : Cond.static Lib.Math.max.name ∈ gW) (hini : Cond.initialized "java/lang/Math" ∈ gW) (hcode : Cond.code Lib.Math.max.name Lib.Math.max.code 2 (some .int) ∈ gW)
    (hW : cW rest ≤ 8) (hc : n ≤ R.cells) (hs : k0 ≤ R.slots) (ha : w32 a) (hb2 : w32 b) (hd : decode cc pc = .ok (.invokestatic idx, 3))
    (kk : nW G A p l e R s m args below meth c nL Q n k0 (pc + 3) ls (eI (max a b) :: rest) M) : nW G A p l e R s m args below meth c nL Q n k0 pc ls (eI b :: eI a :: rest) M := by
  obtain ⟨hx, hb, hml, hown, hts, hK, hfld, hldc, hldc2⟩ := B
  intro H locs lm hP hS hz hl
  have hl2 := hl
  obtain ⟨hl0, hl1, -⟩ := hl2
  refine va_mmax hx hb (hml.trans hl1.symm) hown (hts _ hlk) (hts _ hsta) (hts _ hini) (hts _ hcode) hR.1 (by rw [cW_cat]; omega) hc hs hd ?_
  have e : (if Int32.ofInt a < Int32.ofInt b then Int32.ofInt b else Int32.ofInt a) = Int32.ofInt (max a b) := by
    by_cases h : a < b
    · rw [if_pos ((z_lt ha hb2).mpr h), show max a b = b by omega]
    · rw [if_neg (fun q => h ((z_lt ha hb2).mp q)), show max a b = a by omega]
  rw [e]
  exact kk H locs lm hP hS hz hl
end NM
/-- a contract out of a walk -/
theorem nMet_of {y : MethodName} {cc : ByteArray} {nL fr lo mc ms : Nat} {sp : nSp} {T : eT} (hy : plainName y.cls = true) (hin : y.name = "<init>")
    (hT : (∀ k ci f, T.1 k = some (ci, f) → ∃ q : vw_C, vwCl[ci]? = some q ∧ f < q.2.2 ∧ Cond.fieldLink y.cls k (q.2.1 f).1 (q.2.1 f).2.1 (q.2.1 f).2.2.1 ∈ gW) ∧ (∀ k z, T.2.1 k = some z → Cond.constant y.cls k (Int32.ofInt z) ∈ gW) ∧ (∀ k z, T.2.2.1 k = some z → Cond.constantLong y.cls k (Int64.ofInt z) ∈ gW))
    (h : ∀ {p : Program} {l : Launch} {e : Env} {s : State} {m : MethodId} {below : List Frame} {meth : Method} {c : Code} {G : eG} {A : Nat → Prop} {as : List eV} {M M' : eM}, eB G y.cls cc nL T p s m (as.map (cv G)).toArray c → eFC G s → (∀ q, s.heap.size ≤ q → A q) → meth.name = "<init>" → meth.sig.returnType = none → meth.locks = false → sp G s.heap.size as M M' →
      (eE as).length ≤ nL ∧ nW G A p l e { frames := fr, cells := mc, slots := ms, locals := lo } s m (as.map (cv G)).toArray below meth c nL (MQ below (nwQ G A mc M') (as.map (cv G)).toArray s mc ms A) 0 0 0 (eLoc as nL) [] M) : nMet y cc nL fr lo mc ms sp := by
  intro l G A as M M' sz hsp hA0
  refine Met.ofW (cc := cc) (maxL := nL) (ret := none) hy rfl ?_
  intro p e s m args below meth c s₁ B hml hv
  obtain ⟨rfl, hP, hK, hF, hsz⟩ := hv
  subst hsz
  have hts : ∀ w ∈ gW, w.before (as.map (cv G)).toArray s = true := fun w hw => atoms_spec (ws := .code y cc nL none :: gW) B.pre w (List.mem_cons_of_mem _ hw)
  have hown : s.vm.findClass y.cls = some m.cls := findClass_of_methodNamed B.named
  have hB : eB G y.cls cc nL T p s m (as.map (cv G)).toArray c := ⟨B.exec, B.bytes, hml, hown, hts, hK, hT.1, hT.2.1, hT.2.2⟩
  obtain ⟨hlen, hs⟩ := h (e := e) (l := l) (below := below) hB hF hA0 ((name_of_methodNamed B.named B.method).1.trans hin) B.returns B.notSynchronized hsp
  have hl := lv_entry (as.map (cv G)) (n := nL) (by rw [eE_len]; exact hlen)
  rw [lg_entry_eq]
  refine hs s.heap [] _ hP va_S.rf rfl ⟨?_, hl.1, hl.2.1, fun i v hi => ?_⟩
  · simp [eLoc]; omega
  · have h2 := eE_sl G as i v (lG_app _ _ _ _ hi)
    have h3 := (List.getElem?_eq_some_iff.mp h2).1
    rw [List.getElem?_toArray, List.getElem?_append_left h3]
    exact h2
