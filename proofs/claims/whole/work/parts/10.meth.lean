/-! A method's contract out of its abstract safety. -/
/-- a method y holds its specification: frames, locals' words -/
def ePc (G : eG) (A : Nat → Prop) (as : List eV) (M : eM) : Array Value → State → Prop := fun v U => v = (as.map (cv G)).toArray ∧ eP G A M U.heap ∧ eKn G U
def eMet (y : MethodName) (cc : ByteArray) (nL : Nat) (ret : Option FieldType) (fr lo : Nat) (sp : eSp) : Prop :=
  ∀ (l : Launch) (G : eG) (A : Nat → Prop) (as : List eV) (M : eM) (rt : Option eV → eM → Prop), sp as M rt →
    Met l y (.code y cc nL ret :: gW) { frames := fr, cells := 0, slots := 0, locals := lo } (ePc G A as M) (eQ G A rt) 0 0 A
theorem ePc.blind {G : eG} {A : Nat → Prop} {as : List eV} {M : eM} : FrameBlind (ePc G A as M) := fun a U g mk q => ⟨q.1, q.2.1, q.2.2.moved (U := U.calling g mk a) (Vm.Alike.refl U.vm)⟩
section EC
variable {G : eG} {A : Nat → Prop} {p : Program} {l : Launch} {e : Env} {R : Room} {s : State} {m : MethodId} {args : Array Value} {below : List Frame} {meth : Method} {c : Code} {nL : Nat} {Q : State → Prop} {own : String} {cc : ByteArray} {T : eT} {ls : List (Option eV)} {st : List eV} {M : eM} {pc : Nat}
theorem cW_cat (G : eG) : ∀ (r : List eV), ((r.map (cv G)).map fun v => v.category).sum = cW r
  | [] => rfl
  | .inl (.inl z) :: r => by
    simp only [List.map_cons, List.sum_cons, cW_cat G r, cW]; rfl
  | .inl (.inr z) :: r => by
    simp only [List.map_cons, List.sum_cons, cW_cat G r, cW]; rfl
  | .inr (.inl z) :: r => by
    simp only [List.map_cons, List.sum_cons, cW_cat G r, cW]; rfl
  | .inr (.inr z) :: r => by
    simp only [List.map_cons, List.sum_cons, cW_cat G r, cW]; rfl
/-- behind a call -/
theorem e_back {H : Heap} {locs : List Loc} {lm : Array Slot} {st0 : List Value} {rest : List eV} {rt : Option eV → eM → Prop} {a : Array Value}
    (hr : va_Run p l e R s m args below meth c H locs 0 0 0 0 (F0 m pc lm st0) (rest.map (cv G)) (eQ G A rt a) A)
    (hS : va_S A s.heap H locs) (hz : H.size = s.heap.size) (hl : eLs G nL ls lm)
    (kk : ∀ (o : Option eV) (M' : eM), rt o M' → eW G A p l e R s m args below meth c nL Q (pc + 3) ls (o.toList ++ rest) M') : W p l e R s m args below meth c H locs 0 0 Q (F0 m pc lm st0) := by
  intro S hSt X
  obtain ⟨v, st₀, t, T', L, h0, X', hL, e1, e2, ⟨⟨r, M', hrt, hv, hP'⟩, ⟨hz1, hk⟩, hz2⟩, stp⟩ := hr S hSt X
  have hv' : v = r.map (cv G) := Outcome.returned.inj hv
  subst hv'
  rw [h0] at hz1 hk hz2
  have hst : (r.map (cv G)).toList ++ rest.map (cv G) = (r.toList ++ rest).map (cv G) := by cases r <;> simp
  obtain ⟨t2, a1, b1⟩ := kk r M' hrt T'.heap (locs ++ L) lm (by rw [e1]; exact hP') ⟨by rw [e1, hz2]; exact hS.1, fun q h1 h2 => by rw [e1, hk q (Nat.lt_of_lt_of_le h1 hS.1) h2]; exact hS.2.1 q h1 h2, fun q hq => by
      rcases List.mem_append.mp hq with h | h
      · exact hS.2.2 q h
      · exact hL q h⟩ (by rw [e1, hz2, hz]) hl T' rfl X'
  refine ⟨t2, stp t2 ?_, b1⟩
  rw [hst]
  exact a1
/-- what a call site needs, by its kind -/
def eCallV (own : String) (R : Room) (k n : Nat) (sp : eSp) : Prop := ∃ (y : MethodName) (cc : ByteArray) (nL : Nat) (ret : Option FieldType) (fr lo ci : Nat) (q : vw_C), eMet y cc nL ret fr lo sp ∧ vwCl[ci]? = some q ∧
  (∀ as M rt, sp as M rt → ∃ a r fs, as = eR a :: r ∧ M a = some (.inl (ci, fs))) ∧ fr + 1 ≤ R.frames ∧ 8 + (nL + 11) + lo ≤ R.locals ∧ Cond.code y cc nL ret ∈ gW ∧ Cond.initialized y.cls ∈ gW ∧ Cond.instanceMethod y ∈ gW ∧ Cond.selects q.1 y y ∈ gW ∧
  (y.cls ≠ "java/lang/invoke/MethodHandle" ∧ y.cls ≠ "java/lang/invoke/VarHandle" ∧ (parseMethodDescriptor y.desc).map (fun d => d.parameters.length) = some (n - 1)) ∧ 1 ≤ n ∧
  (Cond.methodLink own k y ∈ gW ∨ ∃ host, Cond.methodLinkNest own k y host ∈ gW)
def sMax : eSp := fun as M rt => ∃ a b : Int, as = [eI a, eI b] ∧ (w32 a ∧ w32 b) ∧ rt (some (eI (max a b))) M
def sMin : eSp := fun as M rt => ∃ a b : Int, as = [eI a, eI b] ∧ (w32 a ∧ w32 b) ∧ rt (some (eI (min a b))) M
def eCallS (own : String) (R : Room) (k n : Nat) (sp : eSp) : Prop := (∃ (y : MethodName) (cc : ByteArray) (nL : Nat) (ret : Option FieldType) (fr lo : Nat), eMet y cc nL ret fr lo sp ∧
  fr + 1 ≤ R.frames ∧ 8 + (nL + 11) + lo ≤ R.locals ∧ Cond.code y cc nL ret ∈ gW ∧ Cond.initialized y.cls ∈ gW ∧ Cond.static y ∈ gW ∧
  (y.cls ≠ "java/lang/invoke/MethodHandle" ∧ y.cls ≠ "java/lang/invoke/VarHandle" ∧ (parseMethodDescriptor y.desc).map (fun d => d.parameters.length) = some n) ∧
  (Cond.methodLink own k y ∈ gW ∨ ∃ host, Cond.methodLinkNest own k y host ∈ gW)) ∨
  (sp = sMax ∧ (1 ≤ R.frames ∧ 21 ≤ R.locals) ∧ Cond.methodLink own k Lib.Math.max.name ∈ gW ∧ Cond.static Lib.Math.max.name ∈ gW ∧ Cond.initialized "java/lang/Math" ∈ gW ∧ Cond.code Lib.Math.max.name Lib.Math.max.code 2 (some .int) ∈ gW) ∨
  (sp = sMin ∧ (1 ≤ R.frames ∧ 21 ≤ R.locals) ∧ Cond.methodLink own k Lib.Math.min.name ∈ gW ∧ Cond.static Lib.Math.min.name ∈ gW ∧ Cond.initialized "java/lang/Math" ∈ gW ∧ Cond.code Lib.Math.min.name Lib.Math.min.code 2 (some .int) ∈ gW)
theorem gW_good {y : MethodName} {b : ByteArray} {n : Nat} {r : Option FieldType} (h : Cond.code y b n r ∈ gW) : GoodIn gW (Cond.code y b n r :: gW) := gW_sub (fun _ h => h) h
theorem sd_callV (B : eB G own cc nL T p s m args c) {k n : Nat} {sp : eSp} (hc : eCallV own R k n sp) (hd : decode cc pc = .ok (.invokevirtual k, 3)) {as rest : List eV} (hn : as.length = n) (hW : cW rest ≤ 8) {f : Option eV → eM → Prop} (hsp : sp as M f)
    (kk : ∀ (o : Option eV) (M' : eM), f o M' → eW G A p l e R s m args below meth c nL Q (pc + 3) ls (o.toList ++ rest) M') : eW G A p l e R s m args below meth c nL Q pc ls (as.reverse ++ rest) M := by
  obtain ⟨hx, hb, hml, hown, hts, hK, hfld, hldc, hldc2⟩ := B
  obtain ⟨y, cy, nY, ret, fr, lo, ci, q, hM, hq, hrc, hfr, hlo, hcode, hini, hins, hsel, ⟨hd1, hd2, hd3⟩, hn1, hlink⟩ := hc
  intro H locs lm hP hS hz hl
  obtain ⟨a, r, fs, rfl, hMa⟩ := hrc as M f hsp
  have hl2 := hl
  obtain ⟨hl0, hl1, -⟩ := hl2
  have hrecv : ∃ cellB : Cell, H[G.2.2 a]? = some cellB ∧ cellB.vm.isStatics = false ∧ s.vm.findClass q.1 = some cellB.cls := by
    obtain ⟨⟨q', hq', -, cell, g1, g2, g3, -⟩, -⟩ := hP.1 a _ hMa
    have hqq : q' = q := Option.some.inj (hq'.symm.trans hq)
    subst hqq
    exact ⟨cell, g1, by rw [g3]; rfl, by rw [g2]; exact (hK.1 ci q' hq).2.1⟩
  have hpre : PreV s H q.1 (G.2.2 a) (ePc G A (eR a :: r) M) (r.map (cv G)) := ⟨ePc.blind, hrecv, fun U hU hW => ⟨by simp [cv], by rw [hU]; exact hP, hK.moved hW.alike⟩⟩
  have hlen : (r.map (cv G)).length = n - 1 := by simp at hn ⊢; omega
  have hstk : ((eR a :: r).reverse ++ rest).map (cv G) = (r.map (cv G)).reverse ++ .ref (G.2.2 a) :: rest.map (cv G) := by simp [cv]
  rw [hstk]
  have hWc : 2 * (F0 m pc lm ((r.map (cv G)).reverse ++ .ref (G.2.2 a) :: rest.map (cv G))).monitorRoom + ((rest.map (cv G)).map fun v => v.category).sum ≤ 8 := by
    rw [cW_cat]; simpa [JFrame.monitorRoom] using hW
  rcases hlink with hlk | ⟨host, hlk⟩
  · refine e_back (va_runV (As := r.map (cv G)) (rest := rest.map (cv G)) ⟨hx, hb, hml, hown, hts⟩ (hM l G A _ M f hsp) ⟨callB_of (n - 1) hts (gW_good hcode) rfl rfl rfl (hts _ hini) (hts _ hlk) ⟨hd1, hd2, hd3⟩ ⟨hfr, hlo⟩, hts _ hins, hts _ hsel⟩ hpre rfl hlen hl1 rfl hWc hd ⟨Nat.zero_le _, Nat.zero_le _⟩) hS hz hl kk
  · refine e_back (va_runVN (As := r.map (cv G)) (rest := rest.map (cv G)) ⟨hx, hb, hml, hown, hts⟩ (hM l G A _ M f hsp) ⟨va_cnB (n - 1) hts (gW_good hcode) rfl rfl rfl (hts _ hlk) (hts _ hini) ⟨hd1, hd2, hd3⟩ ⟨hfr, hlo⟩, hts _ hins, hts _ hsel⟩ hpre rfl hlen hl1 rfl hWc hd ⟨Nat.zero_le _, Nat.zero_le _⟩) hS hz hl kk
theorem sd_callS (B : eB G own cc nL T p s m args c) {k n : Nat} {sp : eSp} (hc : eCallS own R k n sp) (hd : decode cc pc = .ok (.invokestatic k, 3)) {as rest : List eV} (hn : as.length = n) (hW : cW rest ≤ 8) {f : Option eV → eM → Prop} (hsp : sp as M f)
    (kk : ∀ (o : Option eV) (M' : eM), f o M' → eW G A p l e R s m args below meth c nL Q (pc + 3) ls (o.toList ++ rest) M') : eW G A p l e R s m args below meth c nL Q pc ls (as.reverse ++ rest) M := by
  obtain ⟨hx, hb, hml, hown, hts, hK, hfld, hldc, hldc2⟩ := B
  rcases hc with hc | ⟨rfl, hR, hlk, hsta, hini, hcode⟩ | ⟨rfl, hR, hlk, hsta, hini, hcode⟩
  rotate_left
  · obtain ⟨a, b, rfl, ⟨ha, hb2⟩, hrt⟩ := hsp
    intro H locs lm hP hS hz hl
    have hl2 := hl
    obtain ⟨hl0, hl1, -⟩ := hl2
    refine va_mmax hx hb (hml.trans hl1.symm) hown (hts _ hlk) (hts _ hsta) (hts _ hini) (hts _ hcode) hR.1 (by rw [cW_cat]; have hW2 : cW (([] : List eV).append rest) ≤ 8 := hW; omega) (Nat.zero_le _) (Nat.zero_le _) hd ?_
    have e : (if Int32.ofInt a < Int32.ofInt b then Int32.ofInt b else Int32.ofInt a) = Int32.ofInt (max a b) := by
      by_cases h : a < b
      · rw [if_pos ((z_lt ha hb2).mpr h), show max a b = b by omega]
      · rw [if_neg (fun q => h ((z_lt ha hb2).mp q)), show max a b = a by omega]
    rw [e]
    exact kk _ M hrt H locs lm hP hS hz hl
  · obtain ⟨a, b, rfl, ⟨ha, hb2⟩, hrt⟩ := hsp
    intro H locs lm hP hS hz hl
    have hl2 := hl
    obtain ⟨hl0, hl1, -⟩ := hl2
    refine va_mmin hx hb (hml.trans hl1.symm) hown (hts _ hlk) (hts _ hsta) (hts _ hini) (hts _ hcode) hR.1 (by rw [cW_cat]; have hW2 : cW (([] : List eV).append rest) ≤ 8 := hW; omega) (Nat.zero_le _) (Nat.zero_le _) hd ?_
    have e : (if Int32.ofInt b < Int32.ofInt a then Int32.ofInt b else Int32.ofInt a) = Int32.ofInt (min a b) := by
      by_cases h : b < a
      · rw [if_pos ((z_lt hb2 ha).mpr h), show min a b = b by omega]
      · rw [if_neg (fun q => h ((z_lt hb2 ha).mp q)), show min a b = a by omega]
    rw [e]
    exact kk _ M hrt H locs lm hP hS hz hl
  obtain ⟨y, cy, nY, ret, fr, lo, hM, hfr, hlo, hcode, hini, hsta, ⟨hd1, hd2, hd3⟩, hlink⟩ := hc
  intro H locs lm hP hS hz hl
  have hl2 := hl
  obtain ⟨hl0, hl1, -⟩ := hl2
  have hpre : PreS s H (ePc G A as M) (as.map (cv G)) := ⟨ePc.blind, fun U hU hW => ⟨rfl, by rw [hU]; exact hP, hK.moved hW.alike⟩⟩
  have hlen : (as.map (cv G)).length = n := by simpa using hn
  have hstk : (as.reverse ++ rest).map (cv G) = (as.map (cv G)).reverse ++ rest.map (cv G) := by simp
  rw [hstk]
  have hWc : 2 * (F0 m pc lm ((as.map (cv G)).reverse ++ rest.map (cv G))).monitorRoom + ((rest.map (cv G)).map fun v => v.category).sum ≤ 8 := by
    rw [cW_cat]; simpa [JFrame.monitorRoom] using hW
  rcases hlink with hlk | ⟨host, hlk⟩
  · refine e_back (va_runS (As := as.map (cv G)) (rest := rest.map (cv G)) ⟨hx, hb, hml, hown, hts⟩ (hM l G A _ M f hsp) ⟨callB_of n hts (gW_good hcode) rfl rfl rfl (hts _ hini) (hts _ hlk) ⟨hd1, hd2, hd3⟩ ⟨hfr, hlo⟩, hts _ hsta⟩ hpre rfl hlen hl1 rfl hWc hd ⟨Nat.zero_le _, Nat.zero_le _⟩) hS hz hl kk
  · refine e_back (va_runSN (As := as.map (cv G)) (rest := rest.map (cv G)) ⟨hx, hb, hml, hown, hts⟩ (hM l G A _ M f hsp) ⟨va_cnB n hts (gW_good hcode) rfl rfl rfl (hts _ hlk) (hts _ hini) ⟨hd1, hd2, hd3⟩ ⟨hfr, hlo⟩, hts _ hsta, trivial⟩ hpre rfl hlen hl1 rfl hWc hd ⟨Nat.zero_le _, Nat.zero_le _⟩) hS hz hl kk
end EC
