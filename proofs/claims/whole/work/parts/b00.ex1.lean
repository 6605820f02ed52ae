/-! Methods that throw. -/
section ND3
variable {G : eG} {A : Nat → Prop} {p : Program} {l : Launch} {e : Env} {R : Room} {s : State} {m : MethodId} {args : Array Value} {below : List Frame} {meth : Method} {c : Code} {nL : Nat} {Q : State → Prop} {own : String} {cc : ByteArray} {T : eT} {ls : List (Option eV)} {st : List eV} {M : eM} {pc : Nat} {n k0 : Nat}
theorem nd_if_lt (B : eB G own cc nL T p s m args c) {a off : Int} (hd : decode cc pc = .ok (.ifCond .lt off, 3)) (h0 : w32 a) (hj : 0 ≤ (pc : Int) + off) (ht : (a < 0) → nW G A p l e R s m args below meth c nL Q n k0 ((pc : Int) + off).toNat ls st M) (hf : ¬ (a < 0) → nW G A p l e R s m args below meth c nL Q n k0 (pc + 3) ls st M) : nW G A p l e R s m args below meth c nL Q n k0 pc ls (eI a :: st) M := by
  obtain ⟨hx, hb, hml, hown, hts, hK, hfld, hldc, hldc2⟩ := B
  intro H locs lm hP hS hz hl
  have h9 : w32 0 := by omega
  refine lv_if_lt hx hb hd (ek_tgt hj) (fun hc => ?_) (fun hc => ?_)
  · exact ht ((z_lt h0 h9).mp hc) H locs lm hP hS hz hl
  · exact hf (by intro q; exact hc ((z_lt h0 h9).mpr q)) H locs lm hP hS hz hl
theorem nd_if_ne (B : eB G own cc nL T p s m args c) {a off : Int} (hd : decode cc pc = .ok (.ifCond .ne off, 3)) (h0 : w32 a) (hj : 0 ≤ (pc : Int) + off) (ht : (a ≠ 0) → nW G A p l e R s m args below meth c nL Q n k0 ((pc : Int) + off).toNat ls st M) (hf : ¬ (a ≠ 0) → nW G A p l e R s m args below meth c nL Q n k0 (pc + 3) ls st M) : nW G A p l e R s m args below meth c nL Q n k0 pc ls (eI a :: st) M := by
  obtain ⟨hx, hb, hml, hown, hts, hK, hfld, hldc, hldc2⟩ := B
  intro H locs lm hP hS hz hl
  have h9 : w32 0 := by omega
  refine lv_if_ne hx hb hd (ek_tgt hj) (fun hc => ?_) (fun hc => ?_)
  · exact ht (by intro q; exact hc (by rw [q]; rfl)) H locs lm hP hS hz hl
  · exact hf (by intro q; exact q ((z_eq h0 h9).mp hc)) H locs lm hP hS hz hl
theorem nd_if_le (B : eB G own cc nL T p s m args c) {a off : Int} (hd : decode cc pc = .ok (.ifCond .le off, 3)) (h0 : w32 a) (hj : 0 ≤ (pc : Int) + off) (ht : (a ≤ 0) → nW G A p l e R s m args below meth c nL Q n k0 ((pc : Int) + off).toNat ls st M) (hf : ¬ (a ≤ 0) → nW G A p l e R s m args below meth c nL Q n k0 (pc + 3) ls st M) : nW G A p l e R s m args below meth c nL Q n k0 pc ls (eI a :: st) M := by
  obtain ⟨hx, hb, hml, hown, hts, hK, hfld, hldc, hldc2⟩ := B
  intro H locs lm hP hS hz hl
  have h9 : w32 0 := by omega
  refine lv_if_le hx hb hd (ek_tgt hj) (fun hc => ?_) (fun hc => ?_)
  · exact ht ((z_le h0 h9).mp hc) H locs lm hP hS hz hl
  · exact hf (by intro q; exact hc ((z_le h0 h9).mpr q)) H locs lm hP hS hz hl
theorem nd_icmp_lt (B : eB G own cc nL T p s m args c) {a b off : Int} (hd : decode cc pc = .ok (.if_icmp .lt off, 3)) (h0 : w32 a ∧ w32 b) (hj : 0 ≤ (pc : Int) + off) (ht : (a < b) → nW G A p l e R s m args below meth c nL Q n k0 ((pc : Int) + off).toNat ls st M) (hf : ¬ (a < b) → nW G A p l e R s m args below meth c nL Q n k0 (pc + 3) ls st M) : nW G A p l e R s m args below meth c nL Q n k0 pc ls (eI b :: eI a :: st) M := by
  obtain ⟨hx, hb, hml, hown, hts, hK, hfld, hldc, hldc2⟩ := B
  intro H locs lm hP hS hz hl
  refine lv_icmp_lt hx hb hd (ek_tgt hj) (fun hc => ?_) (fun hc => ?_)
  · exact ht ((z_lt h0.1 h0.2).mp hc) H locs lm hP hS hz hl
  · exact hf (by intro q; exact hc ((z_lt h0.1 h0.2).mpr q)) H locs lm hP hS hz hl
theorem nd_icmp_ne (B : eB G own cc nL T p s m args c) {a b off : Int} (hd : decode cc pc = .ok (.if_icmp .ne off, 3)) (h0 : w32 a ∧ w32 b) (hj : 0 ≤ (pc : Int) + off) (ht : (a ≠ b) → nW G A p l e R s m args below meth c nL Q n k0 ((pc : Int) + off).toNat ls st M) (hf : ¬ (a ≠ b) → nW G A p l e R s m args below meth c nL Q n k0 (pc + 3) ls st M) : nW G A p l e R s m args below meth c nL Q n k0 pc ls (eI b :: eI a :: st) M := by
  obtain ⟨hx, hb, hml, hown, hts, hK, hfld, hldc, hldc2⟩ := B
  intro H locs lm hP hS hz hl
  refine lv_icmp_ne hx hb hd (ek_tgt hj) (fun hc => ?_) (fun hc => ?_)
  · exact ht (by intro q; exact hc (by rw [q])) H locs lm hP hS hz hl
  · exact hf (by intro q; exact q ((z_eq h0.1 h0.2).mp hc)) H locs lm hP hS hz hl
theorem nd_ladd (B : eB G own cc nL T p s m args c) {a b : Int} (hd : decode cc pc = .ok (.ladd, 1))  (h : nW G A p l e R s m args below meth c nL Q n k0 (pc + 1) ls (eL (a + b) :: st) M) : nW G A p l e R s m args below meth c nL Q n k0 pc ls (eL b :: eL a :: st) M := by
  obtain ⟨hx, hb, hml, hown, hts, hK, hfld, hldc, hldc2⟩ := B
  intro H locs lm hP hS hz hl
  refine lv_ladd hx hb hd ?_
  rw [z_addL]
  exact h H locs lm hP hS hz hl
theorem nd_lcmp (B : eB G own cc nL T p s m args c) {a b : Int} (hd : decode cc pc = .ok (.lcmp, 1)) (h0 : w64 a ∧ w64 b) (h : nW G A p l e R s m args below meth c nL Q n k0 (pc + 1) ls (eI (zCmp a b) :: st) M) : nW G A p l e R s m args below meth c nL Q n k0 pc ls (eL b :: eL a :: st) M := by
  obtain ⟨hx, hb, hml, hown, hts, hK, hfld, hldc, hldc2⟩ := B
  intro H locs lm hP hS hz hl
  refine W.lcmp hx hb hd ?_
  rw [z_cmp h0.1 h0.2]
  exact h H locs lm hP hS hz hl
theorem nd_i2l (B : eB G own cc nL T p s m args c) {a : Int} (hd : decode cc pc = .ok (.i2l, 1)) (h0 : w32 a) (h : nW G A p l e R s m args below meth c nL Q n k0 (pc + 1) ls (eL a :: st) M) : nW G A p l e R s m args below meth c nL Q n k0 pc ls (eI a :: st) M := by
  obtain ⟨hx, hb, hml, hown, hts, hK, hfld, hldc, hldc2⟩ := B
  intro H locs lm hP hS hz hl
  refine lv_i2l hx hb hd (z_wl a h0) ?_
  exact h H locs lm hP hS hz hl
theorem nd_l2i (B : eB G own cc nL T p s m args c) {a : Int} (hd : decode cc pc = .ok (.l2i, 1))  (h : nW G A p l e R s m args below meth c nL Q n k0 (pc + 1) ls (eI a :: st) M) : nW G A p l e R s m args below meth c nL Q n k0 pc ls (eL a :: st) M := by
  obtain ⟨hx, hb, hml, hown, hts, hK, hfld, hldc, hldc2⟩ := B
  intro H locs lm hP hS hz hl
  refine lv_l2i hx hb hd (z_li a) ?_
  exact h H locs lm hP hS hz hl
theorem nd_lload (B : eB G own cc nL T p s m args c) {k : Nat} {z : Int} (hd : decode cc pc = .ok (.lload k, 2)) (h0 : lG ls k = some (eL z)) (h : nW G A p l e R s m args below meth c nL Q n k0 (pc + 2) ls (eL z :: st) M) : nW G A p l e R s m args below meth c nL Q n k0 pc ls st M := by
  obtain ⟨hx, hb, hml, hown, hts, hK, hfld, hldc, hldc2⟩ := B
  intro H locs lm hP hS hz hl
  refine lv_lload hx hb hd (hl.at h0) ?_
  exact h H locs lm hP hS hz hl
theorem nd_lstore (B : eB G own cc nL T p s m args c) {k : Nat} {z : Int} (hd : decode cc pc = .ok (.lstore k, 2)) (h1 : k + 1 < nL) (h : nW G A p l e R s m args below meth c nL Q n k0 (pc + 2) (lS2 ls k (eL z)) st M) : nW G A p l e R s m args below meth c nL Q n k0 pc ls (eL z :: st) M := by
  obtain ⟨hx, hb, hml, hown, hts, hK, hfld, hldc, hldc2⟩ := B
  intro H locs lm hP hS hz hl
  refine lv_lstore hx hb hd hl.has h1 rfl fun lm' hl' => ?_
  exact h H locs lm' hP hS hz (hl.set2 h1 hl')
theorem nd_ldc2 (B : eB G own cc nL T p s m args c) {k : Nat} {z : Int} (hd : decode cc pc = .ok (.ldc2_w k, 3)) (h0 : T.2.2.1 k = some z) (h : nW G A p l e R s m args below meth c nL Q n k0 (pc + 3) ls (eL z :: st) M) : nW G A p l e R s m args below meth c nL Q n k0 pc ls st M := by
  obtain ⟨hx, hb, hml, hown, hts, hK, hfld, hldc, hldc2⟩ := B
  intro H locs lm hP hS hz hl
  refine lv_ldc2 hx hb hown (hts _ (hldc2 k z h0)) hd ?_
  exact h H locs lm hP hS hz hl
theorem nd_istore (B : eB G own cc nL T p s m args c) {k : Nat} {z : Int} (hd : decode cc pc = .ok (.istore k, 2)) (h1 : k < nL) (h : nW G A p l e R s m args below meth c nL Q n k0 (pc + 2) (lS ls k (eI z)) st M) : nW G A p l e R s m args below meth c nL Q n k0 pc ls (eI z :: st) M := by
  obtain ⟨hx, hb, hml, hown, hts, hK, hfld, hldc, hldc2⟩ := B
  intro H locs lm hP hS hz hl
  refine lv_istore hx hb hd hl.has h1 rfl fun lm' hl' => ?_
  exact h H locs lm' hP hS hz (hl.set1 h1 hl')

end ND3
def eXC : List String := ["java/lang/IndexOutOfBoundsException", "java/lang/IllegalArgumentException", "java/lang/IllegalStateException"]
def eXI : List MethodName := [⟨"java/lang/RuntimeException", "<init>", "()V"⟩, ⟨"java/lang/Exception", "<init>", "()V"⟩, ⟨"java/lang/Throwable", "<init>", "()V"⟩]
/-- what the tables say of the exceptions' classes, beside the good words -/
def eXF (U : State) : Prop := (∀ C ∈ eXC, va_Nw (.castable C C) U) ∧ ∀ x ∈ eXI, va_Nw (.declares x) U
theorem eXF.warm {s U : State} (hW : s.WarmedH U.vm) (h : eXF s) : eXF U := ⟨fun C hC => (h.1 C hC).warmC hW, fun x hx => (h.2 x hx).warmD hW⟩
theorem eXF.same {u U : State} (hv : u.vm = U.vm) (h : eXF u) : eXF U := ⟨fun C hC => (h.1 C hC).same rfl hv, fun x hx => (h.2 x hx).same rfl hv⟩
/-- where Throwable's two static fields lie: not in A -/
def eXZ (A : Nat → Prop) (U : State) (H : Heap) : Prop := vx_Zq Bundle.tN "UNASSIGNED_STACK" Bundle.steD A U H ∧ vx_Zq Bundle.tN "SUPPRESSED_SENTINEL" Bundle.listD A U H
def exB (w : Cond) : Bool := match w with
  | .castable C D => decide (C = D) && decide (C ∈ eXC)
  | .declares x => decide (x ∈ eXI)
  | w => goodWord w && decide (w ∈ lw_tbl)
theorem exB_s {args : Array Value} {s : State} {L : List Cond} (hts : ∀ w ∈ gW, w.before args s = true) (hX : eXF s) (h : L.all exB = true) : ∀ w ∈ L, w.before args s = true := by
  intro w hw
  have h1 := List.all_eq_true.mp h w hw
  unfold exB at h1
  split at h1
  · rename_i C D
    simp only [Bool.and_eq_true, decide_eq_true_eq] at h1
    obtain ⟨rfl, h2⟩ := h1
    exact va_Nw.use rfl (hX.1 C h2)
  · rename_i x
    exact va_Nw.use rfl (hX.2 x (of_decide_eq_true h1))
  · simp only [Bool.and_eq_true, decide_eq_true_eq] at h1
    exact hts w (gW_in h1.2 h1.1)
def eXN : List String := ["java/lang/RuntimeException", "java/lang/Exception"]
def exL (ik ic : Nat) (C : String) : List Cond := Cond.classLink RX9 ik C :: Cond.initialized C :: vx_at0 RX9 ic C eXN
theorem exL_b : (exL 62 64 "java/lang/IndexOutOfBoundsException").all exB = true ∧ (exL 75 77 "java/lang/IllegalArgumentException").all exB = true ∧ (exL 160 162 "java/lang/IllegalStateException").all exB = true := by decide +kernel
theorem exL_o : (exL 62 64 "java/lang/IndexOutOfBoundsException").all vx_ot = true ∧ (exL 75 77 "java/lang/IllegalArgumentException").all vx_ot = true ∧ (exL 160 162 "java/lang/IllegalStateException").all vx_ot = true := by decide +kernel
def exPc (G : eG) (A : Nat → Prop) (as : List eV) (M : eM) : Array Value → State → Prop := fun v U => v = (as.map (cv G)).toArray ∧ eP G A M U.heap ∧ eKn G U ∧ eXF U ∧ eXZ A U U.heap
theorem exPc.blind {G : eG} {A : Nat → Prop} {as : List eV} {M : eM} : FrameBlind (exPc G A as M) := fun a U g mk q => ⟨q.1, q.2.1, q.2.2.1.moved (U := U.calling g mk a) (Vm.Alike.refl U.vm), q.2.2.2.1.same (U := U.calling g mk a) rfl, q.2.2.2.2.1.moved (U := U.calling g mk a) (Vm.Alike.refl U.vm), q.2.2.2.2.2.moved (U := U.calling g mk a) (Vm.Alike.refl U.vm)⟩
def exX (G : eG) (A : Nat → Prop) (M : eM) (xt : String → Prop) : String → State → State → Prop := fun E st t => xt E ∧ eP G A M t.heap ∧ va_F A st t
def exQ (G : eG) (A : Nat → Prop) (rt : Option eV → eM → Prop) : Array Value → State → Outcome → State → Prop := fun _ st o t => (∃ (r : Option eV) (M : eM), rt r M ∧ o = .returned (r.map (cv G)) ∧ eP G A M t.heap) ∧ va_F A st t
abbrev exSp : Type := List eV → eM → (Option eV → eM → Prop) → (String → Prop) → Prop
def exMet (y : MethodName) (cc : ByteArray) (nL : Nat) (ret : Option FieldType) (fr lo : Nat) (sp : exSp) : Prop :=
  ∀ (l : Launch), l.stackTraces = false → ∀ (G : eG) (A : Nat → Prop) (as : List eV) (M : eM) (rt : Option eV → eM → Prop) (xt : String → Prop), sp as M rt xt →
    vx_Met l y (.code y cc nL ret :: gW) { frames := fr, cells := 1, slots := 6, locals := lo } (exPc G A as M) (exQ G A rt) (exX G A M xt) 1 6 A
section ND4
variable {G : eG} {A : Nat → Prop} {p : Program} {l : Launch} {e : Env} {R : Room} {s : State} {m : MethodId} {args : Array Value} {below : List Frame} {meth : Method} {c : Code} {nL : Nat} {cc : ByteArray} {T : eT} {ls : List (Option eV)} {st : List eV} {M M0 : eM} {pc : Nat} {rt : Option eV → eM → Prop} {xt : String → Prop} {a : Array Value}
/-- 'throw new C()' -/
theorem nd_throw (B : eB G RX9 cc nL T p s m args c) (hl : l.stackTraces = false) (hX : eXF s) (hZ : eXZ A s s.heap) (hne : ∀ x ∈ c.exceptionTable.toList, False) (hlocks : meth.locks = false) {ik ic : Nat} {C : String} (hb1 : (exL ik ic C).all exB = true) (hb2 : (exL ik ic C).all vx_ot = true) (hfit : Bundle.fit C = true)
    (d0 : decode cc pc = .ok (.new ik, 3)) (d3 : decode cc (pc + 3) = .ok (.dup, 1)) (d4 : decode cc (pc + 4) = .ok (.invokespecial ic, 3)) (d7 : decode cc (pc + 7) = .ok (.athrow, 1)) (hR : 5 < R.frames ∧ cW st + 81 ≤ R.locals ∧ 1 ≤ R.cells ∧ 6 ≤ R.slots) (hxt : xt C) :
    nW G A p l e R s m args below meth c nL (vx_MQ below (exQ G A rt) (exX G A M xt) args s 1 6 A) 0 0 pc ls st M := by
  obtain ⟨hx, hb, hml, hown, hts, hK, hfld, hldc, hldc2⟩ := B
  intro H locs lm hP hS hz hl2
  have hw := exB_s hts hX hb1
  refine vx_throw0 hx hb hl (own := RX9) (cls := C) (names := eXN) (ik := ik) (ic := ic) (A := A) hown hfit (by decide) (hw _ List.mem_cons_self) (hw _ (List.mem_cons_of_mem _ List.mem_cons_self)) (fun w h => hw w (List.mem_cons_of_mem _ (List.mem_cons_of_mem _ h))) (fun w h => List.all_eq_true.mp hb2 w h) hZ.1 hZ.2 hS (hl2.2.1.trans hml.symm) d0 d3 d4 d7 (fun x h => (hne x h).elim) (by show 2 + 3 < _; omega) (by rw [cW_cat]; show _ + (13 * (2 + 1) + 42) ≤ _; omega) (by omega) (by omega) hlocks ?_ hS.2.2 (by omega) (by omega)
  intro t hal hsz hk
  exact ⟨hxt, hP.kept (fun q _ hq => hk q hq), Nat.le_trans hS.1 hsz, fun q h1 h2 => (hk q (Nat.lt_of_lt_of_le h1 hS.1)).trans (hS.2.1 q h1 h2)⟩
/-- returning -/
theorem nd_iret (B : eB G RX9 cc nL T p s m args c) (hr : meth.sig.returnType = some .int) (hlocks : meth.locks = false) {z : Int} (hd : decode cc pc = .ok (.ireturn, 1)) (hrt : rt (some (eI z)) M) : nW G A p l e R s m args below meth c nL (vx_MQ below (exQ G A rt) (exX G A M0 xt) args s 1 6 A) 0 0 pc ls [eI z] M := by
  obtain ⟨hx, hb, hml, hown, hts, hK, hfld, hldc, hldc2⟩ := B
  intro H locs lm hP hS hz hl
  refine W.widen (k := 1) (n := 6) (by omega) (by omega) (vx_ret ?_)
  exact W.zret hx hb hr (show narrow .int (Value.int (Int32.ofInt z)) = _ from rfl) (fun t ht _ => ⟨⟨some (eI z), M, hrt, rfl, by rw [ht]; exact hP⟩, hS.F ht⟩) hS.2.2 hd hlocks
end ND4
/-- a contract out of a walk -/
theorem exMet_of {y : MethodName} {cc : ByteArray} {nL fr lo : Nat} {ret : Option FieldType} {sp : exSp} {T : eT} (hy : plainName y.cls = true)
    (hT : (∀ k ci f, T.1 k = some (ci, f) → ∃ q : vw_C, vwCl[ci]? = some q ∧ f < q.2.2 ∧ Cond.fieldLink y.cls k (q.2.1 f).1 (q.2.1 f).2.1 (q.2.1 f).2.2.1 ∈ gW) ∧ (∀ k z, T.2.1 k = some z → Cond.constant y.cls k (Int32.ofInt z) ∈ gW) ∧ (∀ k z, T.2.2.1 k = some z → Cond.constantLong y.cls k (Int64.ofInt z) ∈ gW))
    (h : ∀ {p : Program} {l : Launch} {e : Env} {s : State} {m : MethodId} {below : List Frame} {meth : Method} {c : Code} {G : eG} {A : Nat → Prop} {as : List eV} {M : eM} {rt : Option eV → eM → Prop} {xt : String → Prop}, l.stackTraces = false → eB G y.cls cc nL T p s m (as.map (cv G)).toArray c → eXF s → eXZ A s s.heap → (∀ x ∈ c.exceptionTable.toList, False) → meth.sig.returnType = ret → meth.locks = false → sp as M rt xt →
      (eE as).length ≤ nL ∧ nW G A p l e { frames := fr, cells := 1, slots := 6, locals := lo } s m (as.map (cv G)).toArray below meth c nL (vx_MQ below (exQ G A rt) (exX G A M xt) (as.map (cv G)).toArray s 1 6 A) 0 0 0 (eLoc as nL) [] M) : exMet y cc nL ret fr lo sp := by
  intro l hl0 G A as M rt xt hsp
  refine vx_ofW (cc := cc) (maxL := nL) (ret := ret) hy rfl ?_
  intro p e s m args below meth c s₁ B hml hne hv
  obtain ⟨rfl, hP, hK, hF, hZ⟩ := hv
  have hts : ∀ w ∈ gW, w.before (as.map (cv G)).toArray s = true := fun w hw => atoms_spec (ws := .code y cc nL ret :: gW) B.pre w (List.mem_cons_of_mem _ hw)
  have hown : s.vm.findClass y.cls = some m.cls := findClass_of_methodNamed B.named
  have hB : eB G y.cls cc nL T p s m (as.map (cv G)).toArray c := ⟨B.exec, B.bytes, hml, hown, hts, hK, hT.1, hT.2.1, hT.2.2⟩
  obtain ⟨hlen, hs⟩ := h (e := e) (below := below) hl0 hB hF hZ hne B.returns B.notSynchronized hsp
  have hl := lv_entry (as.map (cv G)) (n := nL) (by rw [eE_len]; exact hlen)
  rw [lg_entry_eq]
  refine hs s.heap [] _ hP va_S.rf rfl ⟨?_, hl.1, hl.2.1, fun i v hi => ?_⟩
  · simp [eLoc]; omega
  · have h2 := eE_sl G as i v (lG_app _ _ _ _ hi)
    have h3 := (List.getElem?_eq_some_iff.mp h2).1
    rw [List.getElem?_toArray, List.getElem?_append_left h3]
    exact h2
