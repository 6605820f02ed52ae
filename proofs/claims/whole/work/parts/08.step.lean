/-! One abstract instruction, on the machine. -/
/-- store indices are within the locals -/
def stOK (n : Nat) : Jvm.ClassFile.Instr → Bool
  | .istore k | .astore k | .iinc k _ => decide (k < n)
  | .istore_n k | .astore_n k => decide (k.val < n)
  | .lstore k => decide (k + 1 < n)
  | .lstore_n k => decide (k.val + 1 < n)
  | _ => true
section EW
variable (G : eG) (A : Nat → Prop) (p : Program) (l : Launch) (e : Env) (R : Room) (s : State) (m : MethodId) (args : Array Value) (below : List Frame) (meth : Method) (c : Code) (nL : Nat) (Q : State → Prop)
def eW (pc : Nat) (ls : List (Option eV)) (st : List eV) (M : eM) : Prop :=
  ∀ (H : Heap) (locs : List Loc) (lm : Array Slot), eP G A M H → va_S A s.heap H locs → H.size = s.heap.size → eLs G nL ls lm → W p l e R s m args below meth c H locs 0 0 Q (F0 m pc lm (st.map (cv G)))
end EW
/-- how a method's body begins: what is known of the machine and the tables -/
def eB (G : eG) (own : String) (cc : ByteArray) (nL : Nat) (T : eT) (p : Program) (s : State) (m : MethodId) (args : Array Value) (c : Code) : Prop :=
  p.tables.exec = Jvm.exec ∧ c.code = cc ∧ c.maxLocals = nL ∧ s.vm.findClass own = some m.cls ∧ (∀ w ∈ gW, w.before args s = true) ∧ eKn G s ∧
  (∀ k ci f, T.1 k = some (ci, f) → ∃ q : vw_C, vwCl[ci]? = some q ∧ f < q.2.2 ∧ Cond.fieldLink own k (q.2.1 f).1 (q.2.1 f).2.1 (q.2.1 f).2.2.1 ∈ gW) ∧
  (∀ k z, T.2.1 k = some z → Cond.constant own k (Int32.ofInt z) ∈ gW) ∧ (∀ k z, T.2.2.1 k = some z → Cond.constantLong own k (Int64.ofInt z) ∈ gW)
/-- a method's end -/
def eQ (G : eG) (A : Nat → Prop) (rt : Option eV → eM → Prop) : Array Value → State → Outcome → State → Prop := fun _ st o t =>
  (∃ (r : Option eV) (M : eM), rt r M ∧ o = .returned (r.map (cv G)) ∧ eP G A M t.heap) ∧ va_F A st t ∧ t.heap.size = st.heap.size
section ES
variable {G : eG} {A : Nat → Prop} {p : Program} {l : Launch} {e : Env} {R : Room} {s : State} {m : MethodId} {args : Array Value} {below : List Frame} {meth : Method} {c : Code} {nL : Nat} {Q : State → Prop} {own : String} {cc : ByteArray} {T : eT} {ls : List (Option eV)} {st : List eV} {M : eM} {pc : Nat}
theorem ek_pI {f : Int → List eV → Prop} (h : pI st f) : ∃ z r, st = eI z :: r ∧ f z r := by
  unfold pI at h; split at h
  · exact ⟨_, _, rfl, h⟩
  · exact h.elim
theorem ek_pL {f : Int → List eV → Prop} (h : pL st f) : ∃ z r, st = eL z :: r ∧ f z r := by
  unfold pL at h; split at h
  · exact ⟨_, _, rfl, h⟩
  · exact h.elim
theorem ek_pA {f : eA → List eV → Prop} (h : pA st f) : ∃ z r, st = eR z :: r ∧ f z r := by
  unfold pA at h; split at h
  · exact ⟨_, _, rfl, h⟩
  · exact h.elim
theorem ek_pR {f : eV → List eV → Prop} (h : pR st f) : ∃ z r, st = .inr z :: r ∧ f (.inr z) r := by
  unfold pR at h; split at h
  · exact ⟨_, _, rfl, h⟩
  · exact h.elim
theorem ek_pC1 {f : eV → List eV → Prop} (h : pC1 st f) : ∃ z r, st = z :: r ∧ (∀ w, z ≠ .inl (.inr w)) ∧ f z r := by
  unfold pC1 at h; split at h
  · exact ⟨_, _, rfl, fun w h => (by cases h), h⟩
  · exact ⟨_, _, rfl, fun w h => (by cases h), h⟩
  · exact h.elim
theorem ek_qI {o : Option eV} {f : Int → Prop} (h : qI o f) : ∃ z, o = some (eI z) ∧ f z := by
  unfold qI at h; split at h
  · exact ⟨_, rfl, h⟩
  · exact h.elim
theorem ek_qL {o : Option eV} {f : Int → Prop} (h : qL o f) : ∃ z, o = some (eL z) ∧ f z := by
  unfold qL at h; split at h
  · exact ⟨_, rfl, h⟩
  · exact h.elim
theorem ek_qR {o : Option eV} {f : eV → Prop} (h : qR o f) : ∃ z, o = some (.inr z) ∧ f (.inr z) := by
  unfold qR at h; split at h
  · exact ⟨_, rfl, h⟩
  · exact h.elim
theorem ek_oI {o : Option Int} {f : Int → Prop} (h : oI o f) : ∃ z, o = some z ∧ f z := by
  unfold oI at h; split at h
  · exact ⟨_, rfl, h⟩
  · exact h.elim
theorem ek_tgt {pc : Nat} {off : Int} (h : 0 ≤ (pc : Int) + off) : (pc : Int) + off = (((pc : Int) + off).toNat : Int) := (Int.toNat_of_nonneg h).symm
end ES
