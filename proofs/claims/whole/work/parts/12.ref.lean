/-! Tables of the pools; rows for call sites. -/
theorem tb_fl (L : List (Nat × Nat × Nat × Nat)) (own : String) (h : L.all (fun x => match vwCl[x.2.1]? with | some q => decide (x.2.2.1 < q.2.2) && decide (lw_tbl[x.2.2.2]? = some (Cond.fieldLink own x.1 (q.2.1 x.2.2.1).1 (q.2.1 x.2.2.1).2.1 (q.2.1 x.2.2.1).2.2.1)) | none => false) = true) (k ci f : Nat) (hk : (L.find? (fun x => x.1 == k)).map (fun x => (x.2.1, x.2.2.1)) = some (ci, f)) : ∃ q : vw_C, vwCl[ci]? = some q ∧ f < q.2.2 ∧ Cond.fieldLink own k (q.2.1 f).1 (q.2.1 f).2.1 (q.2.1 f).2.2.1 ∈ gW := by
  obtain ⟨x, hx, hxe⟩ := Option.map_eq_some_iff.mp hk
  have h1 := List.all_eq_true.mp h x (List.mem_of_find?_eq_some hx)
  have h2 : x.1 = k := by simpa using List.find?_some hx
  cases hxe
  subst h2
  split at h1
  · rename_i q hq
    simp only [Bool.and_eq_true, decide_eq_true_eq] at h1
    exact ⟨q, hq, h1.1, gW_at _ h1.2 rfl⟩
  · cases h1
theorem tb_cl (L : List (Nat × Int × Nat)) (own : String) (h : L.all (fun x => decide (lw_tbl[x.2.2]? = some (Cond.constant own x.1 (Int32.ofInt x.2.1)))) = true) (k : Nat) (z : Int) (hk : (L.find? (fun x => x.1 == k)).map (fun x => x.2.1) = some z) : Cond.constant own k (Int32.ofInt z) ∈ gW := by
  obtain ⟨x, hx, hxe⟩ := Option.map_eq_some_iff.mp hk
  have h1 := List.all_eq_true.mp h x (List.mem_of_find?_eq_some hx)
  have h2 : x.1 = k := by simpa using List.find?_some hx
  subst hxe
  subst h2
  exact gW_at _ (of_decide_eq_true h1) rfl
theorem tb_dl (L : List (Nat × Int × Nat)) (own : String) (h : L.all (fun x => decide (lw_tbl[x.2.2]? = some (Cond.constantLong own x.1 (Int64.ofInt x.2.1)))) = true) (k : Nat) (z : Int) (hk : (L.find? (fun x => x.1 == k)).map (fun x => x.2.1) = some z) : Cond.constantLong own k (Int64.ofInt z) ∈ gW := by
  obtain ⟨x, hx, hxe⟩ := Option.map_eq_some_iff.mp hk
  have h1 := List.all_eq_true.mp h x (List.mem_of_find?_eq_some hx)
  have h2 : x.1 = k := by simpa using List.find?_some hx
  subst hxe
  subst h2
  exact gW_at _ (of_decide_eq_true h1) rfl
/-- a method's code as a list, held against its bytes -/
def cdOf (L : List (Nat × Jvm.ClassFile.Instr × Nat)) (pc : Nat) : Option (Jvm.ClassFile.Instr × Nat) := (L.find? (fun x => x.1 == pc)).map (·.2)
theorem cdOf_ok (cc : ByteArray) (nL : Nat) (L : List (Nat × Jvm.ClassFile.Instr × Nat)) (h : ∀ x ∈ L, decode cc x.1 = .ok x.2 ∧ stOK nL x.2.1 = true ∧ jOK x.1 x.2.1 = true ∧ eLen x.2.1 x.2.2 = true) (pc : Nat) (i : Jvm.ClassFile.Instr) (len : Nat) (hk : cdOf L pc = some (i, len)) : decode cc pc = .ok (i, len) ∧ stOK nL i = true ∧ jOK pc i = true ∧ eLen i len = true := by
  obtain ⟨x, hx, hxe⟩ := Option.map_eq_some_iff.mp hk
  have h2 : x.1 = pc := by simpa using List.find?_some hx
  have h1 := h x (List.mem_of_find?_eq_some hx)
  rw [hxe, h2] at h1
  exact h1

/-- a method's words, for its callers -/
def eWS (y : MethodName) (cc : ByteArray) (nL : Nat) (ret : Option FieldType) (n : Nat) : Prop := Cond.code y cc nL ret ∈ gW ∧ Cond.initialized y.cls ∈ gW ∧ Cond.static y ∈ gW ∧ (y.cls ≠ "java/lang/invoke/MethodHandle" ∧ y.cls ≠ "java/lang/invoke/VarHandle" ∧ (parseMethodDescriptor y.desc).map (fun d => d.parameters.length) = some n)
def eWV (y : MethodName) (cc : ByteArray) (nL : Nat) (ret : Option FieldType) (n ci : Nat) (sp : eSp) : Prop := Cond.code y cc nL ret ∈ gW ∧ Cond.initialized y.cls ∈ gW ∧ Cond.instanceMethod y ∈ gW ∧ (∃ q : vw_C, vwCl[ci]? = some q ∧ Cond.selects q.1 y y ∈ gW) ∧ ((y.cls ≠ "java/lang/invoke/MethodHandle" ∧ y.cls ≠ "java/lang/invoke/VarHandle" ∧ (parseMethodDescriptor y.desc).map (fun d => d.parameters.length) = some (n - 1)) ∧ 1 ≤ n) ∧ (∀ as M rt, sp as M rt → ∃ a r fs, as = eR a :: r ∧ M a = some (.inl (ci, fs)))
theorem eS_mk {own : String} {R : Room} {k n : Nat} {y : MethodName} {cc : ByteArray} {nL : Nat} {ret : Option FieldType} {fr lo : Nat} {sp : eSp} (hm : eMet y cc nL ret fr lo sp) (w : eWS y cc nL ret n) (hr : fr + 1 ≤ R.frames ∧ 8 + (nL + 11) + lo ≤ R.locals) (hl : Cond.methodLink own k y ∈ gW ∨ ∃ host, Cond.methodLinkNest own k y host ∈ gW) : eCallS own R k n sp :=
  Or.inl ⟨y, cc, nL, ret, fr, lo, hm, hr.1, hr.2, w.1, w.2.1, w.2.2.1, w.2.2.2, hl⟩
theorem eS_max {own : String} {R : Room} {k : Nat} (h : 1 ≤ R.frames ∧ 21 ≤ R.locals) (h1 : Cond.methodLink own k Lib.Math.max.name ∈ gW) (h2 : Cond.static Lib.Math.max.name ∈ gW) (h3 : Cond.initialized "java/lang/Math" ∈ gW) (h4 : Cond.code Lib.Math.max.name Lib.Math.max.code 2 (some .int) ∈ gW) : eCallS own R k 2 sMax := Or.inr (Or.inl ⟨rfl, h, h1, h2, h3, h4⟩)
theorem eS_min {own : String} {R : Room} {k : Nat} (h : 1 ≤ R.frames ∧ 21 ≤ R.locals) (h1 : Cond.methodLink own k Lib.Math.min.name ∈ gW) (h2 : Cond.static Lib.Math.min.name ∈ gW) (h3 : Cond.initialized "java/lang/Math" ∈ gW) (h4 : Cond.code Lib.Math.min.name Lib.Math.min.code 2 (some .int) ∈ gW) : eCallS own R k 2 sMin := Or.inr (Or.inr ⟨rfl, h, h1, h2, h3, h4⟩)
theorem SJ9_max_7cf53_i {a b : Int} {M : eM} {rt : Option eV → eM → Prop} (h0 : w32 a ∧ w32 b) (h : rt (some (eI (max a b))) M) : sMax [eI a, eI b] M rt := ⟨a, b, rfl, h0, h⟩
theorem SJ9_min_7cf53_i {a b : Int} {M : eM} {rt : Option eV → eM → Prop} (h0 : w32 a ∧ w32 b) (h : rt (some (eI (min a b))) M) : sMin [eI a, eI b] M rt := ⟨a, b, rfl, h0, h⟩
theorem eV_mk {own : String} {R : Room} {k n ci : Nat} {y : MethodName} {cc : ByteArray} {nL : Nat} {ret : Option FieldType} {fr lo : Nat} {sp : eSp} (hm : eMet y cc nL ret fr lo sp) (w : eWV y cc nL ret n ci sp) (hr : fr + 1 ≤ R.frames ∧ 8 + (nL + 11) + lo ≤ R.locals) (hl : Cond.methodLink own k y ∈ gW ∨ ∃ host, Cond.methodLinkNest own k y host ∈ gW) : eCallV own R k n sp := by
  obtain ⟨h1, h2, h3, ⟨q, hq, h4⟩, h5, h6⟩ := w
  exact ⟨y, cc, nL, ret, fr, lo, ci, q, hm, hq, h6, hr.1, hr.2, h1, h2, h3, h4, h5.1, h5.2, hl⟩

def fL_RJ6 : List (Nat × Nat × Nat × Nat) := []
def fl_RJ6 (k : Nat) : Option (Nat × Nat) := ((fL_RJ6).find? (fun x => x.1 == k)).map (fun x => (x.2.1, x.2.2.1))
def cL_RJ6 : List (Nat × Int × Nat) := [(264, 65536, 1111)]
def cl_RJ6 (k : Nat) : Option Int := ((cL_RJ6).find? (fun x => x.1 == k)).map (fun x => x.2.1)
def dL_RJ6 : List (Nat × Int × Nat) := []
def dl_RJ6 (k : Nat) : Option Int := ((dL_RJ6).find? (fun x => x.1 == k)).map (fun x => x.2.1)
theorem lc_RJ6_264 : cl_RJ6 264 = some (65536) := by decide +kernel
theorem tb_RJ6_e : cl_RJ6 264 = some 65536 := by decide +kernel
theorem tb_RJ6 : (∀ k ci f, fl_RJ6 k = some (ci, f) → ∃ q : vw_C, vwCl[ci]? = some q ∧ f < q.2.2 ∧ Cond.fieldLink RJ6 k (q.2.1 f).1 (q.2.1 f).2.1 (q.2.1 f).2.2.1 ∈ gW) ∧ (∀ k z, cl_RJ6 k = some z → Cond.constant RJ6 k (Int32.ofInt z) ∈ gW) ∧ (∀ k z, dl_RJ6 k = some z → Cond.constantLong RJ6 k (Int64.ofInt z) ∈ gW) := by
  refine ⟨fun k ci f h => tb_fl (fL_RJ6) RJ6 (by decide +kernel) k ci f h, fun k z h => tb_cl (cL_RJ6) RJ6 (by decide +kernel) k z h, fun k z h => tb_dl (dL_RJ6) RJ6 (by decide +kernel) k z h⟩
def fL_RJ9 : List (Nat × Nat × Nat × Nat) := []
def fl_RJ9 (k : Nat) : Option (Nat × Nat) := ((fL_RJ9).find? (fun x => x.1 == k)).map (fun x => (x.2.1, x.2.2.1))
def cL_RJ9 : List (Nat × Int × Nat) := []
def cl_RJ9 (k : Nat) : Option Int := ((cL_RJ9).find? (fun x => x.1 == k)).map (fun x => x.2.1)
def dL_RJ9 : List (Nat × Int × Nat) := []
def dl_RJ9 (k : Nat) : Option Int := ((dL_RJ9).find? (fun x => x.1 == k)).map (fun x => x.2.1)
theorem tb_RJ9_e : True := by decide +kernel
theorem tb_RJ9 : (∀ k ci f, fl_RJ9 k = some (ci, f) → ∃ q : vw_C, vwCl[ci]? = some q ∧ f < q.2.2 ∧ Cond.fieldLink RJ9 k (q.2.1 f).1 (q.2.1 f).2.1 (q.2.1 f).2.2.1 ∈ gW) ∧ (∀ k z, cl_RJ9 k = some z → Cond.constant RJ9 k (Int32.ofInt z) ∈ gW) ∧ (∀ k z, dl_RJ9 k = some z → Cond.constantLong RJ9 k (Int64.ofInt z) ∈ gW) := by
  refine ⟨fun k ci f h => tb_fl (fL_RJ9) RJ9 (by decide +kernel) k ci f h, fun k z h => tb_cl (cL_RJ9) RJ9 (by decide +kernel) k z h, fun k z h => tb_dl (dL_RJ9) RJ9 (by decide +kernel) k z h⟩
def fL_RX10 : List (Nat × Nat × Nat × Nat) := [(12, 9, 0, 979), (16, 9, 1, 980), (20, 9, 2, 981), (23, 9, 3, 982), (26, 9, 4, 983), (29, 9, 5, 984), (32, 9, 7, 986), (35, 9, 8, 987), (38, 9, 9, 988), (42, 9, 10, 989), (45, 9, 15, 994), (49, 9, 16, 995), (52, 9, 18, 997), (55, 9, 20, 999), (58, 9, 21, 1000), (61, 9, 12, 991), (167, 9, 14, 993), (179, 9, 13, 992), (196, 9, 17, 996), (199, 9, 6, 985), (214, 9, 11, 990), (223, 9, 19, 998), (235, 9, 22, 1001)]
def fl_RX10 (k : Nat) : Option (Nat × Nat) := ((fL_RX10).find? (fun x => x.1 == k)).map (fun x => (x.2.1, x.2.2.1))
def cL_RX10 : List (Nat × Int × Nat) := [(11, 1602266, 978), (98, 268435455, 1116)]
def cl_RX10 (k : Nat) : Option Int := ((cL_RX10).find? (fun x => x.1 == k)).map (fun x => x.2.1)
def dL_RX10 : List (Nat × Int × Nat) := [(73, 268435455, 1077), (265, 2, 1264), (270, -5, 1265), (272, 5, 1266), (283, -9223372036854775808, 1307), (289, -1, 1298)]
def dl_RX10 (k : Nat) : Option Int := ((dL_RX10).find? (fun x => x.1 == k)).map (fun x => x.2.1)
theorem lc_RX10_11 : cl_RX10 11 = some (1602266) := by decide +kernel
theorem lc_RX10_98 : cl_RX10 98 = some (268435455) := by decide +kernel
theorem lc2_RX10_73 : dl_RX10 73 = some (268435455) := by decide +kernel
theorem lc2_RX10_265 : dl_RX10 265 = some (2) := by decide +kernel
theorem lc2_RX10_270 : dl_RX10 270 = some (-5) := by decide +kernel
theorem lc2_RX10_272 : dl_RX10 272 = some (5) := by decide +kernel
theorem lc2_RX10_283 : dl_RX10 283 = some (-9223372036854775808) := by decide +kernel
theorem lc2_RX10_289 : dl_RX10 289 = some (-1) := by decide +kernel
theorem tb_RX10_e : fl_RX10 12 = some (9, 0) ∧ fl_RX10 16 = some (9, 1) ∧ fl_RX10 20 = some (9, 2) ∧ fl_RX10 23 = some (9, 3) ∧ fl_RX10 26 = some (9, 4) ∧ fl_RX10 29 = some (9, 5) ∧ fl_RX10 32 = some (9, 7) ∧ fl_RX10 35 = some (9, 8) ∧ fl_RX10 38 = some (9, 9) ∧ fl_RX10 42 = some (9, 10) ∧ fl_RX10 45 = some (9, 15) ∧ fl_RX10 49 = some (9, 16) ∧ fl_RX10 52 = some (9, 18) ∧ fl_RX10 55 = some (9, 20) ∧ fl_RX10 58 = some (9, 21) ∧ fl_RX10 61 = some (9, 12) ∧ fl_RX10 167 = some (9, 14) ∧ fl_RX10 179 = some (9, 13) ∧ fl_RX10 196 = some (9, 17) ∧ fl_RX10 199 = some (9, 6) ∧ fl_RX10 214 = some (9, 11) ∧ fl_RX10 223 = some (9, 19) ∧ fl_RX10 235 = some (9, 22) ∧ cl_RX10 11 = some 1602266 ∧ cl_RX10 98 = some 268435455 ∧ dl_RX10 73 = some 268435455 ∧ dl_RX10 265 = some 2 ∧ dl_RX10 270 = some (-5) ∧ dl_RX10 272 = some 5 ∧ dl_RX10 283 = some (-9223372036854775808) ∧ dl_RX10 289 = some (-1) := by
  refine ⟨?_, ?_, ?_, ?_, ?_, ?_, ?_, ?_, ?_, ?_, ?_, ?_, ?_, ?_, ?_, ?_, ?_, ?_, ?_, ?_, ?_, ?_, ?_, ?_, ?_, ?_, ?_, ?_, ?_, ?_, ?_⟩ <;> decide +kernel
theorem tb_RX10 : (∀ k ci f, fl_RX10 k = some (ci, f) → ∃ q : vw_C, vwCl[ci]? = some q ∧ f < q.2.2 ∧ Cond.fieldLink RX10 k (q.2.1 f).1 (q.2.1 f).2.1 (q.2.1 f).2.2.1 ∈ gW) ∧ (∀ k z, cl_RX10 k = some z → Cond.constant RX10 k (Int32.ofInt z) ∈ gW) ∧ (∀ k z, dl_RX10 k = some z → Cond.constantLong RX10 k (Int64.ofInt z) ∈ gW) := by
  refine ⟨fun k ci f h => tb_fl (fL_RX10) RX10 (by decide +kernel) k ci f h, fun k z h => tb_cl (cL_RX10) RX10 (by decide +kernel) k z h, fun k z h => tb_dl (dL_RX10) RX10 (by decide +kernel) k z h⟩
/-! The reference's memory: its whole fields F, its arrays A (by the fields' numbers). -/
def uF (F : Nat → Int) (k : Nat) (z : Int) : Nat → Int := fun j => if j = k then z else F j
def uI (f : Int → Int) (i z : Int) : Int → Int := fun j => if j = i then z else f j
def uA (A : Nat → Int → Int) (k : Nat) (f : Int → Int) : Nat → Int → Int := fun j => if j = k then f else A j
def cR (F : Nat → Int) (A : Nat → Int → Int) : eM := fun a => match a with
  | (0, 0) => some (eO 9 [eR (1, 0), eR (1, 1), eR (1, 2), eR (1, 3), eR (1, 4), eR (1, 5), eI (F 6), eR (1, 7), eR (1, 8), eI (F 9), eI (F 10), eI (F 11), eI (F 12), eI (F 13), eI (F 14), eR (1, 15), eR (1, 16), eI (F 17), eR (1, 18), eI (F 19), eR (1, 20), eR (1, 21), eI (F 22)])
  | (1, 0) => some (eY 0 1602266 (fun i => eI (A 0 i)))
  | (1, 1) => some (eY 1 1204 (fun i => eL (A 1 i)))
  | (1, 2) => some (eY 0 602 (fun i => eI (A 2 i)))
  | (1, 3) => some (eY 0 602 (fun i => eI (A 3 i)))
  | (1, 4) => some (eY 0 24 (fun i => eI (A 4 i)))
  | (1, 5) => some (eY 0 6 (fun i => eI (A 5 i)))
  | (1, 7) => some (eY 0 24 (fun i => eI (A 7 i)))
  | (1, 8) => some (eY 0 6 (fun i => eI (A 8 i)))
  | (1, 15) => some (eY 2 45 (fun i => eI (A 15 i)))
  | (1, 16) => some (eY 0 45 (fun i => eI (A 16 i)))
  | (1, 18) => some (eY 0 6 (fun i => eI (A 18 i)))
  | (1, 20) => some (eY 0 3 (fun i => eI (A 20 i)))
  | (1, 21) => some (eY 0 3 (fun i => eI (A 21 i)))
  | _ => none
abbrev eRR : eV := eR (0, 0)
theorem cR_g (F : Nat → Int) (A : Nat → Int → Int) (f : eV → Prop) : gF (cR F A) (0, 0) (some (9, 0)) f = f (eR (1, 0)) ∧ gF (cR F A) (0, 0) (some (9, 1)) f = f (eR (1, 1)) ∧ gF (cR F A) (0, 0) (some (9, 2)) f = f (eR (1, 2)) ∧ gF (cR F A) (0, 0) (some (9, 3)) f = f (eR (1, 3)) ∧ gF (cR F A) (0, 0) (some (9, 4)) f = f (eR (1, 4)) ∧ gF (cR F A) (0, 0) (some (9, 5)) f = f (eR (1, 5)) ∧ gF (cR F A) (0, 0) (some (9, 6)) f = f (eI (F 6)) ∧ gF (cR F A) (0, 0) (some (9, 7)) f = f (eR (1, 7)) ∧ gF (cR F A) (0, 0) (some (9, 8)) f = f (eR (1, 8)) ∧ gF (cR F A) (0, 0) (some (9, 9)) f = f (eI (F 9)) ∧ gF (cR F A) (0, 0) (some (9, 10)) f = f (eI (F 10)) ∧ gF (cR F A) (0, 0) (some (9, 11)) f = f (eI (F 11)) ∧ gF (cR F A) (0, 0) (some (9, 12)) f = f (eI (F 12)) ∧ gF (cR F A) (0, 0) (some (9, 13)) f = f (eI (F 13)) ∧ gF (cR F A) (0, 0) (some (9, 14)) f = f (eI (F 14)) ∧ gF (cR F A) (0, 0) (some (9, 15)) f = f (eR (1, 15)) ∧ gF (cR F A) (0, 0) (some (9, 16)) f = f (eR (1, 16)) ∧ gF (cR F A) (0, 0) (some (9, 17)) f = f (eI (F 17)) ∧ gF (cR F A) (0, 0) (some (9, 18)) f = f (eR (1, 18)) ∧ gF (cR F A) (0, 0) (some (9, 19)) f = f (eI (F 19)) ∧ gF (cR F A) (0, 0) (some (9, 20)) f = f (eR (1, 20)) ∧ gF (cR F A) (0, 0) (some (9, 21)) f = f (eR (1, 21)) ∧ gF (cR F A) (0, 0) (some (9, 22)) f = f (eI (F 22)) := by
  refine ⟨?_, ?_, ?_, ?_, ?_, ?_, ?_, ?_, ?_, ?_, ?_, ?_, ?_, ?_, ?_, ?_, ?_, ?_, ?_, ?_, ?_, ?_, ?_⟩ <;> (simp only [gF, cR, nV]; exact propext ⟨fun h => h.2, fun h => ⟨trivial, h⟩⟩)
theorem cR_g_raw (F : Nat → Int) (A : Nat → Int → Int) : cR F A (0, 0) = some (eO 9 [eR (1, 0), eR (1, 1), eR (1, 2), eR (1, 3), eR (1, 4), eR (1, 5), eI (F 6), eR (1, 7), eR (1, 8), eI (F 9), eI (F 10), eI (F 11), eI (F 12), eI (F 13), eI (F 14), eR (1, 15), eR (1, 16), eI (F 17), eR (1, 18), eI (F 19), eR (1, 20), eR (1, 21), eI (F 22)]) := rfl
theorem cR_u6 (F : Nat → Int) (A : Nat → Int → Int) (z : Int) : eUp (cR F A) (0, 0) (.inl (9, [eR (1, 0), eR (1, 1), eR (1, 2), eR (1, 3), eR (1, 4), eR (1, 5), eI z, eR (1, 7), eR (1, 8), eI (F 9), eI (F 10), eI (F 11), eI (F 12), eI (F 13), eI (F 14), eR (1, 15), eR (1, 16), eI (F 17), eR (1, 18), eI (F 19), eR (1, 20), eR (1, 21), eI (F 22)])) = cR (uF F 6 z) A := by
  funext a
  obtain ⟨a1, a2⟩ := a
  unfold eUp
  split
  · rename_i h
    cases h
    rfl
  · rename_i h
    unfold cR
    split <;> first | rfl | (exact absurd rfl h) | (rename_i e; exact absurd e h) | (simp_all; done)
theorem cR_p6 (F : Nat → Int) (A : Nat → Int → Int) (z : Int) (f : eM → Prop) : pF (cR F A) (0, 0) (some (9, 6)) z f = (f (cR (uF F 6 z) A)) := by
  rw [← cR_u6]
  simp only [pF, cR_g_raw, uV, eO, eI, eR]
  exact propext ⟨fun h => h.2.2, fun h => ⟨trivial, trivial, h⟩⟩
theorem cR_u9 (F : Nat → Int) (A : Nat → Int → Int) (z : Int) : eUp (cR F A) (0, 0) (.inl (9, [eR (1, 0), eR (1, 1), eR (1, 2), eR (1, 3), eR (1, 4), eR (1, 5), eI (F 6), eR (1, 7), eR (1, 8), eI z, eI (F 10), eI (F 11), eI (F 12), eI (F 13), eI (F 14), eR (1, 15), eR (1, 16), eI (F 17), eR (1, 18), eI (F 19), eR (1, 20), eR (1, 21), eI (F 22)])) = cR (uF F 9 z) A := by
  funext a
  obtain ⟨a1, a2⟩ := a
  unfold eUp
  split
  · rename_i h
    cases h
    rfl
  · rename_i h
    unfold cR
    split <;> first | rfl | (exact absurd rfl h) | (rename_i e; exact absurd e h) | (simp_all; done)
theorem cR_p9 (F : Nat → Int) (A : Nat → Int → Int) (z : Int) (f : eM → Prop) : pF (cR F A) (0, 0) (some (9, 9)) z f = (f (cR (uF F 9 z) A)) := by
  rw [← cR_u9]
  simp only [pF, cR_g_raw, uV, eO, eI, eR]
  exact propext ⟨fun h => h.2.2, fun h => ⟨trivial, trivial, h⟩⟩
theorem cR_u10 (F : Nat → Int) (A : Nat → Int → Int) (z : Int) : eUp (cR F A) (0, 0) (.inl (9, [eR (1, 0), eR (1, 1), eR (1, 2), eR (1, 3), eR (1, 4), eR (1, 5), eI (F 6), eR (1, 7), eR (1, 8), eI (F 9), eI z, eI (F 11), eI (F 12), eI (F 13), eI (F 14), eR (1, 15), eR (1, 16), eI (F 17), eR (1, 18), eI (F 19), eR (1, 20), eR (1, 21), eI (F 22)])) = cR (uF F 10 z) A := by
  funext a
  obtain ⟨a1, a2⟩ := a
  unfold eUp
  split
  · rename_i h
    cases h
    rfl
  · rename_i h
    unfold cR
    split <;> first | rfl | (exact absurd rfl h) | (rename_i e; exact absurd e h) | (simp_all; done)
theorem cR_p10 (F : Nat → Int) (A : Nat → Int → Int) (z : Int) (f : eM → Prop) : pF (cR F A) (0, 0) (some (9, 10)) z f = (f (cR (uF F 10 z) A)) := by
  rw [← cR_u10]
  simp only [pF, cR_g_raw, uV, eO, eI, eR]
  exact propext ⟨fun h => h.2.2, fun h => ⟨trivial, trivial, h⟩⟩
theorem cR_u11 (F : Nat → Int) (A : Nat → Int → Int) (z : Int) : eUp (cR F A) (0, 0) (.inl (9, [eR (1, 0), eR (1, 1), eR (1, 2), eR (1, 3), eR (1, 4), eR (1, 5), eI (F 6), eR (1, 7), eR (1, 8), eI (F 9), eI (F 10), eI z, eI (F 12), eI (F 13), eI (F 14), eR (1, 15), eR (1, 16), eI (F 17), eR (1, 18), eI (F 19), eR (1, 20), eR (1, 21), eI (F 22)])) = cR (uF F 11 z) A := by
  funext a
  obtain ⟨a1, a2⟩ := a
  unfold eUp
  split
  · rename_i h
    cases h
    rfl
  · rename_i h
    unfold cR
    split <;> first | rfl | (exact absurd rfl h) | (rename_i e; exact absurd e h) | (simp_all; done)
theorem cR_p11 (F : Nat → Int) (A : Nat → Int → Int) (z : Int) (f : eM → Prop) : pF (cR F A) (0, 0) (some (9, 11)) z f = (f (cR (uF F 11 z) A)) := by
  rw [← cR_u11]
  simp only [pF, cR_g_raw, uV, eO, eI, eR]
  exact propext ⟨fun h => h.2.2, fun h => ⟨trivial, trivial, h⟩⟩
theorem cR_u12 (F : Nat → Int) (A : Nat → Int → Int) (z : Int) : eUp (cR F A) (0, 0) (.inl (9, [eR (1, 0), eR (1, 1), eR (1, 2), eR (1, 3), eR (1, 4), eR (1, 5), eI (F 6), eR (1, 7), eR (1, 8), eI (F 9), eI (F 10), eI (F 11), eI z, eI (F 13), eI (F 14), eR (1, 15), eR (1, 16), eI (F 17), eR (1, 18), eI (F 19), eR (1, 20), eR (1, 21), eI (F 22)])) = cR (uF F 12 z) A := by
  funext a
  obtain ⟨a1, a2⟩ := a
  unfold eUp
  split
  · rename_i h
    cases h
    rfl
  · rename_i h
    unfold cR
    split <;> first | rfl | (exact absurd rfl h) | (rename_i e; exact absurd e h) | (simp_all; done)
theorem cR_p12 (F : Nat → Int) (A : Nat → Int → Int) (z : Int) (f : eM → Prop) : pF (cR F A) (0, 0) (some (9, 12)) z f = (f (cR (uF F 12 z) A)) := by
  rw [← cR_u12]
  simp only [pF, cR_g_raw, uV, eO, eI, eR]
  exact propext ⟨fun h => h.2.2, fun h => ⟨trivial, trivial, h⟩⟩
theorem cR_u13 (F : Nat → Int) (A : Nat → Int → Int) (z : Int) : eUp (cR F A) (0, 0) (.inl (9, [eR (1, 0), eR (1, 1), eR (1, 2), eR (1, 3), eR (1, 4), eR (1, 5), eI (F 6), eR (1, 7), eR (1, 8), eI (F 9), eI (F 10), eI (F 11), eI (F 12), eI z, eI (F 14), eR (1, 15), eR (1, 16), eI (F 17), eR (1, 18), eI (F 19), eR (1, 20), eR (1, 21), eI (F 22)])) = cR (uF F 13 z) A := by
  funext a
  obtain ⟨a1, a2⟩ := a
  unfold eUp
  split
  · rename_i h
    cases h
    rfl
  · rename_i h
    unfold cR
    split <;> first | rfl | (exact absurd rfl h) | (rename_i e; exact absurd e h) | (simp_all; done)
theorem cR_p13 (F : Nat → Int) (A : Nat → Int → Int) (z : Int) (f : eM → Prop) : pF (cR F A) (0, 0) (some (9, 13)) z f = (f (cR (uF F 13 z) A)) := by
  rw [← cR_u13]
  simp only [pF, cR_g_raw, uV, eO, eI, eR]
  exact propext ⟨fun h => h.2.2, fun h => ⟨trivial, trivial, h⟩⟩
theorem cR_u14 (F : Nat → Int) (A : Nat → Int → Int) (z : Int) : eUp (cR F A) (0, 0) (.inl (9, [eR (1, 0), eR (1, 1), eR (1, 2), eR (1, 3), eR (1, 4), eR (1, 5), eI (F 6), eR (1, 7), eR (1, 8), eI (F 9), eI (F 10), eI (F 11), eI (F 12), eI (F 13), eI z, eR (1, 15), eR (1, 16), eI (F 17), eR (1, 18), eI (F 19), eR (1, 20), eR (1, 21), eI (F 22)])) = cR (uF F 14 z) A := by
  funext a
  obtain ⟨a1, a2⟩ := a
  unfold eUp
  split
  · rename_i h
    cases h
    rfl
  · rename_i h
    unfold cR
    split <;> first | rfl | (exact absurd rfl h) | (rename_i e; exact absurd e h) | (simp_all; done)
theorem cR_p14 (F : Nat → Int) (A : Nat → Int → Int) (z : Int) (f : eM → Prop) : pF (cR F A) (0, 0) (some (9, 14)) z f = (f (cR (uF F 14 z) A)) := by
  rw [← cR_u14]
  simp only [pF, cR_g_raw, uV, eO, eI, eR]
  exact propext ⟨fun h => h.2.2, fun h => ⟨trivial, trivial, h⟩⟩
theorem cR_u17 (F : Nat → Int) (A : Nat → Int → Int) (z : Int) : eUp (cR F A) (0, 0) (.inl (9, [eR (1, 0), eR (1, 1), eR (1, 2), eR (1, 3), eR (1, 4), eR (1, 5), eI (F 6), eR (1, 7), eR (1, 8), eI (F 9), eI (F 10), eI (F 11), eI (F 12), eI (F 13), eI (F 14), eR (1, 15), eR (1, 16), eI z, eR (1, 18), eI (F 19), eR (1, 20), eR (1, 21), eI (F 22)])) = cR (uF F 17 z) A := by
  funext a
  obtain ⟨a1, a2⟩ := a
  unfold eUp
  split
  · rename_i h
    cases h
    rfl
  · rename_i h
    unfold cR
    split <;> first | rfl | (exact absurd rfl h) | (rename_i e; exact absurd e h) | (simp_all; done)
theorem cR_p17 (F : Nat → Int) (A : Nat → Int → Int) (z : Int) (f : eM → Prop) : pF (cR F A) (0, 0) (some (9, 17)) z f = (f (cR (uF F 17 z) A)) := by
  rw [← cR_u17]
  simp only [pF, cR_g_raw, uV, eO, eI, eR]
  exact propext ⟨fun h => h.2.2, fun h => ⟨trivial, trivial, h⟩⟩
theorem cR_u19 (F : Nat → Int) (A : Nat → Int → Int) (z : Int) : eUp (cR F A) (0, 0) (.inl (9, [eR (1, 0), eR (1, 1), eR (1, 2), eR (1, 3), eR (1, 4), eR (1, 5), eI (F 6), eR (1, 7), eR (1, 8), eI (F 9), eI (F 10), eI (F 11), eI (F 12), eI (F 13), eI (F 14), eR (1, 15), eR (1, 16), eI (F 17), eR (1, 18), eI z, eR (1, 20), eR (1, 21), eI (F 22)])) = cR (uF F 19 z) A := by
  funext a
  obtain ⟨a1, a2⟩ := a
  unfold eUp
  split
  · rename_i h
    cases h
    rfl
  · rename_i h
    unfold cR
    split <;> first | rfl | (exact absurd rfl h) | (rename_i e; exact absurd e h) | (simp_all; done)
theorem cR_p19 (F : Nat → Int) (A : Nat → Int → Int) (z : Int) (f : eM → Prop) : pF (cR F A) (0, 0) (some (9, 19)) z f = (f (cR (uF F 19 z) A)) := by
  rw [← cR_u19]
  simp only [pF, cR_g_raw, uV, eO, eI, eR]
  exact propext ⟨fun h => h.2.2, fun h => ⟨trivial, trivial, h⟩⟩
theorem cR_u22 (F : Nat → Int) (A : Nat → Int → Int) (z : Int) : eUp (cR F A) (0, 0) (.inl (9, [eR (1, 0), eR (1, 1), eR (1, 2), eR (1, 3), eR (1, 4), eR (1, 5), eI (F 6), eR (1, 7), eR (1, 8), eI (F 9), eI (F 10), eI (F 11), eI (F 12), eI (F 13), eI (F 14), eR (1, 15), eR (1, 16), eI (F 17), eR (1, 18), eI (F 19), eR (1, 20), eR (1, 21), eI z])) = cR (uF F 22 z) A := by
  funext a
  obtain ⟨a1, a2⟩ := a
  unfold eUp
  split
  · rename_i h
    cases h
    rfl
  · rename_i h
    unfold cR
    split <;> first | rfl | (exact absurd rfl h) | (rename_i e; exact absurd e h) | (simp_all; done)
theorem cR_p22 (F : Nat → Int) (A : Nat → Int → Int) (z : Int) (f : eM → Prop) : pF (cR F A) (0, 0) (some (9, 22)) z f = ((z = 0 ∨ z = 1) ∧ f (cR (uF F 22 z) A)) := by
  rw [← cR_u22]
  simp only [pF, cR_g_raw, uV, eO, eI, eR]
  exact propext ⟨fun h => ⟨h.2.1, h.2.2⟩, fun h => ⟨trivial, h.1, h.2⟩⟩
theorem cR_a0 (F : Nat → Int) (A : Nat → Int → Int) (i : Int) (f : eV → Prop) : gA (cR F A) (1, 0) 0 i f = ((0 ≤ i ∧ i < 1602266) ∧ f (eI (A 0 i))) := by
  simp only [gA, cR]
  exact propext ⟨fun h => ⟨⟨h.2.1.1, h.2.1.2.1⟩, h.2.2⟩, fun h => ⟨trivial, ⟨h.1.1, h.1.2, by decide⟩, h.2⟩⟩
theorem cR_n0 (F : Nat → Int) (A : Nat → Int → Int) (f : Int → Prop) : gN (cR F A) (1, 0) f = f 1602266 := by
  simp only [gN, cR]
  exact propext ⟨fun h => h.2.2, fun h => ⟨by decide, by decide, h⟩⟩
theorem cR_w0 (F : Nat → Int) (A : Nat → Int → Int) (i z : Int) : eUp (cR F A) (1, 0) (.inr (0, 1602266, fUp (fun i => eI (A 0 i)) i (eI z))) = cR F (uA A 0 (uI (A 0) i z)) := by
  funext a
  obtain ⟨a1, a2⟩ := a
  unfold eUp
  split
  · rename_i h
    cases h
    show some _ = some _
    congr 4
    funext j
    unfold fUp uA uI
    by_cases e : j = i
    · simp [e]
    · simp [e]
  · rename_i h
    unfold cR
    split <;> first | rfl | (exact absurd rfl h) | (rename_i e; exact absurd e h) | (simp_all; done)
theorem cR_y0 (F : Nat → Int) (A : Nat → Int → Int) (i z : Int) (f : eM → Prop) : pY (cR F A) (1, 0) 0 i (eI z) f = ((0 ≤ i ∧ i < 1602266) ∧ f (cR F (uA A 0 (uI (A 0) i z)))) := by
  rw [← cR_w0]
  simp only [pY, cR]
  exact propext ⟨fun h => ⟨⟨h.2.1.1, h.2.1.2.1⟩, h.2.2⟩, fun h => ⟨trivial, ⟨h.1.1, h.1.2, by decide⟩, h.2⟩⟩
theorem cR_a1 (F : Nat → Int) (A : Nat → Int → Int) (i : Int) (f : eV → Prop) : gA (cR F A) (1, 1) 1 i f = ((0 ≤ i ∧ i < 1204) ∧ f (eL (A 1 i))) := by
  simp only [gA, cR]
  exact propext ⟨fun h => ⟨⟨h.2.1.1, h.2.1.2.1⟩, h.2.2⟩, fun h => ⟨trivial, ⟨h.1.1, h.1.2, by decide⟩, h.2⟩⟩
theorem cR_n1 (F : Nat → Int) (A : Nat → Int → Int) (f : Int → Prop) : gN (cR F A) (1, 1) f = f 1204 := by
  simp only [gN, cR]
  exact propext ⟨fun h => h.2.2, fun h => ⟨by decide, by decide, h⟩⟩
theorem cR_w1 (F : Nat → Int) (A : Nat → Int → Int) (i z : Int) : eUp (cR F A) (1, 1) (.inr (1, 1204, fUp (fun i => eL (A 1 i)) i (eL z))) = cR F (uA A 1 (uI (A 1) i z)) := by
  funext a
  obtain ⟨a1, a2⟩ := a
  unfold eUp
  split
  · rename_i h
    cases h
    show some _ = some _
    congr 4
    funext j
    unfold fUp uA uI
    by_cases e : j = i
    · simp [e]
    · simp [e]
  · rename_i h
    unfold cR
    split <;> first | rfl | (exact absurd rfl h) | (rename_i e; exact absurd e h) | (simp_all; done)
theorem cR_y1 (F : Nat → Int) (A : Nat → Int → Int) (i z : Int) (f : eM → Prop) : pY (cR F A) (1, 1) 1 i (eL z) f = ((0 ≤ i ∧ i < 1204) ∧ f (cR F (uA A 1 (uI (A 1) i z)))) := by
  rw [← cR_w1]
  simp only [pY, cR]
  exact propext ⟨fun h => ⟨⟨h.2.1.1, h.2.1.2.1⟩, h.2.2⟩, fun h => ⟨trivial, ⟨h.1.1, h.1.2, by decide⟩, h.2⟩⟩
theorem cR_a2 (F : Nat → Int) (A : Nat → Int → Int) (i : Int) (f : eV → Prop) : gA (cR F A) (1, 2) 0 i f = ((0 ≤ i ∧ i < 602) ∧ f (eI (A 2 i))) := by
  simp only [gA, cR]
  exact propext ⟨fun h => ⟨⟨h.2.1.1, h.2.1.2.1⟩, h.2.2⟩, fun h => ⟨trivial, ⟨h.1.1, h.1.2, by decide⟩, h.2⟩⟩
theorem cR_n2 (F : Nat → Int) (A : Nat → Int → Int) (f : Int → Prop) : gN (cR F A) (1, 2) f = f 602 := by
  simp only [gN, cR]
  exact propext ⟨fun h => h.2.2, fun h => ⟨by decide, by decide, h⟩⟩
theorem cR_w2 (F : Nat → Int) (A : Nat → Int → Int) (i z : Int) : eUp (cR F A) (1, 2) (.inr (0, 602, fUp (fun i => eI (A 2 i)) i (eI z))) = cR F (uA A 2 (uI (A 2) i z)) := by
  funext a
  obtain ⟨a1, a2⟩ := a
  unfold eUp
  split
  · rename_i h
    cases h
    show some _ = some _
    congr 4
    funext j
    unfold fUp uA uI
    by_cases e : j = i
    · simp [e]
    · simp [e]
  · rename_i h
    unfold cR
    split <;> first | rfl | (exact absurd rfl h) | (rename_i e; exact absurd e h) | (simp_all; done)
theorem cR_y2 (F : Nat → Int) (A : Nat → Int → Int) (i z : Int) (f : eM → Prop) : pY (cR F A) (1, 2) 0 i (eI z) f = ((0 ≤ i ∧ i < 602) ∧ f (cR F (uA A 2 (uI (A 2) i z)))) := by
  rw [← cR_w2]
  simp only [pY, cR]
  exact propext ⟨fun h => ⟨⟨h.2.1.1, h.2.1.2.1⟩, h.2.2⟩, fun h => ⟨trivial, ⟨h.1.1, h.1.2, by decide⟩, h.2⟩⟩
theorem cR_a3 (F : Nat → Int) (A : Nat → Int → Int) (i : Int) (f : eV → Prop) : gA (cR F A) (1, 3) 0 i f = ((0 ≤ i ∧ i < 602) ∧ f (eI (A 3 i))) := by
  simp only [gA, cR]
  exact propext ⟨fun h => ⟨⟨h.2.1.1, h.2.1.2.1⟩, h.2.2⟩, fun h => ⟨trivial, ⟨h.1.1, h.1.2, by decide⟩, h.2⟩⟩
theorem cR_n3 (F : Nat → Int) (A : Nat → Int → Int) (f : Int → Prop) : gN (cR F A) (1, 3) f = f 602 := by
  simp only [gN, cR]
  exact propext ⟨fun h => h.2.2, fun h => ⟨by decide, by decide, h⟩⟩
theorem cR_w3 (F : Nat → Int) (A : Nat → Int → Int) (i z : Int) : eUp (cR F A) (1, 3) (.inr (0, 602, fUp (fun i => eI (A 3 i)) i (eI z))) = cR F (uA A 3 (uI (A 3) i z)) := by
  funext a
  obtain ⟨a1, a2⟩ := a
  unfold eUp
  split
  · rename_i h
    cases h
    show some _ = some _
    congr 4
    funext j
    unfold fUp uA uI
    by_cases e : j = i
    · simp [e]
    · simp [e]
  · rename_i h
    unfold cR
    split <;> first | rfl | (exact absurd rfl h) | (rename_i e; exact absurd e h) | (simp_all; done)
theorem cR_y3 (F : Nat → Int) (A : Nat → Int → Int) (i z : Int) (f : eM → Prop) : pY (cR F A) (1, 3) 0 i (eI z) f = ((0 ≤ i ∧ i < 602) ∧ f (cR F (uA A 3 (uI (A 3) i z)))) := by
  rw [← cR_w3]
  simp only [pY, cR]
  exact propext ⟨fun h => ⟨⟨h.2.1.1, h.2.1.2.1⟩, h.2.2⟩, fun h => ⟨trivial, ⟨h.1.1, h.1.2, by decide⟩, h.2⟩⟩
theorem cR_a4 (F : Nat → Int) (A : Nat → Int → Int) (i : Int) (f : eV → Prop) : gA (cR F A) (1, 4) 0 i f = ((0 ≤ i ∧ i < 24) ∧ f (eI (A 4 i))) := by
  simp only [gA, cR]
  exact propext ⟨fun h => ⟨⟨h.2.1.1, h.2.1.2.1⟩, h.2.2⟩, fun h => ⟨trivial, ⟨h.1.1, h.1.2, by decide⟩, h.2⟩⟩
theorem cR_n4 (F : Nat → Int) (A : Nat → Int → Int) (f : Int → Prop) : gN (cR F A) (1, 4) f = f 24 := by
  simp only [gN, cR]
  exact propext ⟨fun h => h.2.2, fun h => ⟨by decide, by decide, h⟩⟩
theorem cR_w4 (F : Nat → Int) (A : Nat → Int → Int) (i z : Int) : eUp (cR F A) (1, 4) (.inr (0, 24, fUp (fun i => eI (A 4 i)) i (eI z))) = cR F (uA A 4 (uI (A 4) i z)) := by
  funext a
  obtain ⟨a1, a2⟩ := a
  unfold eUp
  split
  · rename_i h
    cases h
    show some _ = some _
    congr 4
    funext j
    unfold fUp uA uI
    by_cases e : j = i
    · simp [e]
    · simp [e]
  · rename_i h
    unfold cR
    split <;> first | rfl | (exact absurd rfl h) | (rename_i e; exact absurd e h) | (simp_all; done)
theorem cR_y4 (F : Nat → Int) (A : Nat → Int → Int) (i z : Int) (f : eM → Prop) : pY (cR F A) (1, 4) 0 i (eI z) f = ((0 ≤ i ∧ i < 24) ∧ f (cR F (uA A 4 (uI (A 4) i z)))) := by
  rw [← cR_w4]
  simp only [pY, cR]
  exact propext ⟨fun h => ⟨⟨h.2.1.1, h.2.1.2.1⟩, h.2.2⟩, fun h => ⟨trivial, ⟨h.1.1, h.1.2, by decide⟩, h.2⟩⟩
theorem cR_a5 (F : Nat → Int) (A : Nat → Int → Int) (i : Int) (f : eV → Prop) : gA (cR F A) (1, 5) 0 i f = ((0 ≤ i ∧ i < 6) ∧ f (eI (A 5 i))) := by
  simp only [gA, cR]
  exact propext ⟨fun h => ⟨⟨h.2.1.1, h.2.1.2.1⟩, h.2.2⟩, fun h => ⟨trivial, ⟨h.1.1, h.1.2, by decide⟩, h.2⟩⟩
theorem cR_n5 (F : Nat → Int) (A : Nat → Int → Int) (f : Int → Prop) : gN (cR F A) (1, 5) f = f 6 := by
  simp only [gN, cR]
  exact propext ⟨fun h => h.2.2, fun h => ⟨by decide, by decide, h⟩⟩
theorem cR_w5 (F : Nat → Int) (A : Nat → Int → Int) (i z : Int) : eUp (cR F A) (1, 5) (.inr (0, 6, fUp (fun i => eI (A 5 i)) i (eI z))) = cR F (uA A 5 (uI (A 5) i z)) := by
  funext a
  obtain ⟨a1, a2⟩ := a
  unfold eUp
  split
  · rename_i h
    cases h
    show some _ = some _
    congr 4
    funext j
    unfold fUp uA uI
    by_cases e : j = i
    · simp [e]
    · simp [e]
  · rename_i h
    unfold cR
    split <;> first | rfl | (exact absurd rfl h) | (rename_i e; exact absurd e h) | (simp_all; done)
theorem cR_y5 (F : Nat → Int) (A : Nat → Int → Int) (i z : Int) (f : eM → Prop) : pY (cR F A) (1, 5) 0 i (eI z) f = ((0 ≤ i ∧ i < 6) ∧ f (cR F (uA A 5 (uI (A 5) i z)))) := by
  rw [← cR_w5]
  simp only [pY, cR]
  exact propext ⟨fun h => ⟨⟨h.2.1.1, h.2.1.2.1⟩, h.2.2⟩, fun h => ⟨trivial, ⟨h.1.1, h.1.2, by decide⟩, h.2⟩⟩
theorem cR_a7 (F : Nat → Int) (A : Nat → Int → Int) (i : Int) (f : eV → Prop) : gA (cR F A) (1, 7) 0 i f = ((0 ≤ i ∧ i < 24) ∧ f (eI (A 7 i))) := by
  simp only [gA, cR]
  exact propext ⟨fun h => ⟨⟨h.2.1.1, h.2.1.2.1⟩, h.2.2⟩, fun h => ⟨trivial, ⟨h.1.1, h.1.2, by decide⟩, h.2⟩⟩
theorem cR_n7 (F : Nat → Int) (A : Nat → Int → Int) (f : Int → Prop) : gN (cR F A) (1, 7) f = f 24 := by
  simp only [gN, cR]
  exact propext ⟨fun h => h.2.2, fun h => ⟨by decide, by decide, h⟩⟩
theorem cR_w7 (F : Nat → Int) (A : Nat → Int → Int) (i z : Int) : eUp (cR F A) (1, 7) (.inr (0, 24, fUp (fun i => eI (A 7 i)) i (eI z))) = cR F (uA A 7 (uI (A 7) i z)) := by
  funext a
  obtain ⟨a1, a2⟩ := a
  unfold eUp
  split
  · rename_i h
    cases h
    show some _ = some _
    congr 4
    funext j
    unfold fUp uA uI
    by_cases e : j = i
    · simp [e]
    · simp [e]
  · rename_i h
    unfold cR
    split <;> first | rfl | (exact absurd rfl h) | (rename_i e; exact absurd e h) | (simp_all; done)
theorem cR_y7 (F : Nat → Int) (A : Nat → Int → Int) (i z : Int) (f : eM → Prop) : pY (cR F A) (1, 7) 0 i (eI z) f = ((0 ≤ i ∧ i < 24) ∧ f (cR F (uA A 7 (uI (A 7) i z)))) := by
  rw [← cR_w7]
  simp only [pY, cR]
  exact propext ⟨fun h => ⟨⟨h.2.1.1, h.2.1.2.1⟩, h.2.2⟩, fun h => ⟨trivial, ⟨h.1.1, h.1.2, by decide⟩, h.2⟩⟩
theorem cR_a8 (F : Nat → Int) (A : Nat → Int → Int) (i : Int) (f : eV → Prop) : gA (cR F A) (1, 8) 0 i f = ((0 ≤ i ∧ i < 6) ∧ f (eI (A 8 i))) := by
  simp only [gA, cR]
  exact propext ⟨fun h => ⟨⟨h.2.1.1, h.2.1.2.1⟩, h.2.2⟩, fun h => ⟨trivial, ⟨h.1.1, h.1.2, by decide⟩, h.2⟩⟩
theorem cR_n8 (F : Nat → Int) (A : Nat → Int → Int) (f : Int → Prop) : gN (cR F A) (1, 8) f = f 6 := by
  simp only [gN, cR]
  exact propext ⟨fun h => h.2.2, fun h => ⟨by decide, by decide, h⟩⟩
theorem cR_w8 (F : Nat → Int) (A : Nat → Int → Int) (i z : Int) : eUp (cR F A) (1, 8) (.inr (0, 6, fUp (fun i => eI (A 8 i)) i (eI z))) = cR F (uA A 8 (uI (A 8) i z)) := by
  funext a
  obtain ⟨a1, a2⟩ := a
  unfold eUp
  split
  · rename_i h
    cases h
    show some _ = some _
    congr 4
    funext j
    unfold fUp uA uI
    by_cases e : j = i
    · simp [e]
    · simp [e]
  · rename_i h
    unfold cR
    split <;> first | rfl | (exact absurd rfl h) | (rename_i e; exact absurd e h) | (simp_all; done)
theorem cR_y8 (F : Nat → Int) (A : Nat → Int → Int) (i z : Int) (f : eM → Prop) : pY (cR F A) (1, 8) 0 i (eI z) f = ((0 ≤ i ∧ i < 6) ∧ f (cR F (uA A 8 (uI (A 8) i z)))) := by
  rw [← cR_w8]
  simp only [pY, cR]
  exact propext ⟨fun h => ⟨⟨h.2.1.1, h.2.1.2.1⟩, h.2.2⟩, fun h => ⟨trivial, ⟨h.1.1, h.1.2, by decide⟩, h.2⟩⟩
theorem cR_a15 (F : Nat → Int) (A : Nat → Int → Int) (i : Int) (f : eV → Prop) : gA (cR F A) (1, 15) 2 i f = ((0 ≤ i ∧ i < 45) ∧ f (eI (A 15 i))) := by
  simp only [gA, cR]
  exact propext ⟨fun h => ⟨⟨h.2.1.1, h.2.1.2.1⟩, h.2.2⟩, fun h => ⟨trivial, ⟨h.1.1, h.1.2, by decide⟩, h.2⟩⟩
theorem cR_n15 (F : Nat → Int) (A : Nat → Int → Int) (f : Int → Prop) : gN (cR F A) (1, 15) f = f 45 := by
  simp only [gN, cR]
  exact propext ⟨fun h => h.2.2, fun h => ⟨by decide, by decide, h⟩⟩
theorem cR_w15 (F : Nat → Int) (A : Nat → Int → Int) (i z : Int) : eUp (cR F A) (1, 15) (.inr (2, 45, fUp (fun i => eI (A 15 i)) i (eI z))) = cR F (uA A 15 (uI (A 15) i z)) := by
  funext a
  obtain ⟨a1, a2⟩ := a
  unfold eUp
  split
  · rename_i h
    cases h
    show some _ = some _
    congr 4
    funext j
    unfold fUp uA uI
    by_cases e : j = i
    · simp [e]
    · simp [e]
  · rename_i h
    unfold cR
    split <;> first | rfl | (exact absurd rfl h) | (rename_i e; exact absurd e h) | (simp_all; done)
theorem cR_y15 (F : Nat → Int) (A : Nat → Int → Int) (i z : Int) (f : eM → Prop) : pY (cR F A) (1, 15) 2 i (eI z) f = ((0 ≤ i ∧ i < 45) ∧ f (cR F (uA A 15 (uI (A 15) i z)))) := by
  rw [← cR_w15]
  simp only [pY, cR]
  exact propext ⟨fun h => ⟨⟨h.2.1.1, h.2.1.2.1⟩, h.2.2⟩, fun h => ⟨trivial, ⟨h.1.1, h.1.2, by decide⟩, h.2⟩⟩
theorem cR_a16 (F : Nat → Int) (A : Nat → Int → Int) (i : Int) (f : eV → Prop) : gA (cR F A) (1, 16) 0 i f = ((0 ≤ i ∧ i < 45) ∧ f (eI (A 16 i))) := by
  simp only [gA, cR]
  exact propext ⟨fun h => ⟨⟨h.2.1.1, h.2.1.2.1⟩, h.2.2⟩, fun h => ⟨trivial, ⟨h.1.1, h.1.2, by decide⟩, h.2⟩⟩
theorem cR_n16 (F : Nat → Int) (A : Nat → Int → Int) (f : Int → Prop) : gN (cR F A) (1, 16) f = f 45 := by
  simp only [gN, cR]
  exact propext ⟨fun h => h.2.2, fun h => ⟨by decide, by decide, h⟩⟩
theorem cR_w16 (F : Nat → Int) (A : Nat → Int → Int) (i z : Int) : eUp (cR F A) (1, 16) (.inr (0, 45, fUp (fun i => eI (A 16 i)) i (eI z))) = cR F (uA A 16 (uI (A 16) i z)) := by
  funext a
  obtain ⟨a1, a2⟩ := a
  unfold eUp
  split
  · rename_i h
    cases h
    show some _ = some _
    congr 4
    funext j
    unfold fUp uA uI
    by_cases e : j = i
    · simp [e]
    · simp [e]
  · rename_i h
    unfold cR
    split <;> first | rfl | (exact absurd rfl h) | (rename_i e; exact absurd e h) | (simp_all; done)
theorem cR_y16 (F : Nat → Int) (A : Nat → Int → Int) (i z : Int) (f : eM → Prop) : pY (cR F A) (1, 16) 0 i (eI z) f = ((0 ≤ i ∧ i < 45) ∧ f (cR F (uA A 16 (uI (A 16) i z)))) := by
  rw [← cR_w16]
  simp only [pY, cR]
  exact propext ⟨fun h => ⟨⟨h.2.1.1, h.2.1.2.1⟩, h.2.2⟩, fun h => ⟨trivial, ⟨h.1.1, h.1.2, by decide⟩, h.2⟩⟩
theorem cR_a18 (F : Nat → Int) (A : Nat → Int → Int) (i : Int) (f : eV → Prop) : gA (cR F A) (1, 18) 0 i f = ((0 ≤ i ∧ i < 6) ∧ f (eI (A 18 i))) := by
  simp only [gA, cR]
  exact propext ⟨fun h => ⟨⟨h.2.1.1, h.2.1.2.1⟩, h.2.2⟩, fun h => ⟨trivial, ⟨h.1.1, h.1.2, by decide⟩, h.2⟩⟩
theorem cR_n18 (F : Nat → Int) (A : Nat → Int → Int) (f : Int → Prop) : gN (cR F A) (1, 18) f = f 6 := by
  simp only [gN, cR]
  exact propext ⟨fun h => h.2.2, fun h => ⟨by decide, by decide, h⟩⟩
theorem cR_w18 (F : Nat → Int) (A : Nat → Int → Int) (i z : Int) : eUp (cR F A) (1, 18) (.inr (0, 6, fUp (fun i => eI (A 18 i)) i (eI z))) = cR F (uA A 18 (uI (A 18) i z)) := by
  funext a
  obtain ⟨a1, a2⟩ := a
  unfold eUp
  split
  · rename_i h
    cases h
    show some _ = some _
    congr 4
    funext j
    unfold fUp uA uI
    by_cases e : j = i
    · simp [e]
    · simp [e]
  · rename_i h
    unfold cR
    split <;> first | rfl | (exact absurd rfl h) | (rename_i e; exact absurd e h) | (simp_all; done)
theorem cR_y18 (F : Nat → Int) (A : Nat → Int → Int) (i z : Int) (f : eM → Prop) : pY (cR F A) (1, 18) 0 i (eI z) f = ((0 ≤ i ∧ i < 6) ∧ f (cR F (uA A 18 (uI (A 18) i z)))) := by
  rw [← cR_w18]
  simp only [pY, cR]
  exact propext ⟨fun h => ⟨⟨h.2.1.1, h.2.1.2.1⟩, h.2.2⟩, fun h => ⟨trivial, ⟨h.1.1, h.1.2, by decide⟩, h.2⟩⟩
theorem cR_a20 (F : Nat → Int) (A : Nat → Int → Int) (i : Int) (f : eV → Prop) : gA (cR F A) (1, 20) 0 i f = ((0 ≤ i ∧ i < 3) ∧ f (eI (A 20 i))) := by
  simp only [gA, cR]
  exact propext ⟨fun h => ⟨⟨h.2.1.1, h.2.1.2.1⟩, h.2.2⟩, fun h => ⟨trivial, ⟨h.1.1, h.1.2, by decide⟩, h.2⟩⟩
theorem cR_n20 (F : Nat → Int) (A : Nat → Int → Int) (f : Int → Prop) : gN (cR F A) (1, 20) f = f 3 := by
  simp only [gN, cR]
  exact propext ⟨fun h => h.2.2, fun h => ⟨by decide, by decide, h⟩⟩
theorem cR_w20 (F : Nat → Int) (A : Nat → Int → Int) (i z : Int) : eUp (cR F A) (1, 20) (.inr (0, 3, fUp (fun i => eI (A 20 i)) i (eI z))) = cR F (uA A 20 (uI (A 20) i z)) := by
  funext a
  obtain ⟨a1, a2⟩ := a
  unfold eUp
  split
  · rename_i h
    cases h
    show some _ = some _
    congr 4
    funext j
    unfold fUp uA uI
    by_cases e : j = i
    · simp [e]
    · simp [e]
  · rename_i h
    unfold cR
    split <;> first | rfl | (exact absurd rfl h) | (rename_i e; exact absurd e h) | (simp_all; done)
theorem cR_y20 (F : Nat → Int) (A : Nat → Int → Int) (i z : Int) (f : eM → Prop) : pY (cR F A) (1, 20) 0 i (eI z) f = ((0 ≤ i ∧ i < 3) ∧ f (cR F (uA A 20 (uI (A 20) i z)))) := by
  rw [← cR_w20]
  simp only [pY, cR]
  exact propext ⟨fun h => ⟨⟨h.2.1.1, h.2.1.2.1⟩, h.2.2⟩, fun h => ⟨trivial, ⟨h.1.1, h.1.2, by decide⟩, h.2⟩⟩
theorem cR_a21 (F : Nat → Int) (A : Nat → Int → Int) (i : Int) (f : eV → Prop) : gA (cR F A) (1, 21) 0 i f = ((0 ≤ i ∧ i < 3) ∧ f (eI (A 21 i))) := by
  simp only [gA, cR]
  exact propext ⟨fun h => ⟨⟨h.2.1.1, h.2.1.2.1⟩, h.2.2⟩, fun h => ⟨trivial, ⟨h.1.1, h.1.2, by decide⟩, h.2⟩⟩
theorem cR_n21 (F : Nat → Int) (A : Nat → Int → Int) (f : Int → Prop) : gN (cR F A) (1, 21) f = f 3 := by
  simp only [gN, cR]
  exact propext ⟨fun h => h.2.2, fun h => ⟨by decide, by decide, h⟩⟩
theorem cR_w21 (F : Nat → Int) (A : Nat → Int → Int) (i z : Int) : eUp (cR F A) (1, 21) (.inr (0, 3, fUp (fun i => eI (A 21 i)) i (eI z))) = cR F (uA A 21 (uI (A 21) i z)) := by
  funext a
  obtain ⟨a1, a2⟩ := a
  unfold eUp
  split
  · rename_i h
    cases h
    show some _ = some _
    congr 4
    funext j
    unfold fUp uA uI
    by_cases e : j = i
    · simp [e]
    · simp [e]
  · rename_i h
    unfold cR
    split <;> first | rfl | (exact absurd rfl h) | (rename_i e; exact absurd e h) | (simp_all; done)
theorem cR_y21 (F : Nat → Int) (A : Nat → Int → Int) (i z : Int) (f : eM → Prop) : pY (cR F A) (1, 21) 0 i (eI z) f = ((0 ≤ i ∧ i < 3) ∧ f (cR F (uA A 21 (uI (A 21) i z)))) := by
  rw [← cR_w21]
  simp only [pY, cR]
  exact propext ⟨fun h => ⟨⟨h.2.1.1, h.2.1.2.1⟩, h.2.2⟩, fun h => ⟨trivial, ⟨h.1.1, h.1.2, by decide⟩, h.2⟩⟩
theorem gX10_12 {F : Nat → Int} {A : Nat → Int → Int} {f : eV → Prop} (k : f (eR (1, 0))) : gF (cR F A) (0, 0) (fl_RX10 12) f := by
  have e : fl_RX10 12 = some (9, 0) := by decide +kernel
  rw [e]
  exact ⟨rfl, k⟩
theorem gX10_16 {F : Nat → Int} {A : Nat → Int → Int} {f : eV → Prop} (k : f (eR (1, 1))) : gF (cR F A) (0, 0) (fl_RX10 16) f := by
  have e : fl_RX10 16 = some (9, 1) := by decide +kernel
  rw [e]
  exact ⟨rfl, k⟩
theorem gX10_20 {F : Nat → Int} {A : Nat → Int → Int} {f : eV → Prop} (k : f (eR (1, 2))) : gF (cR F A) (0, 0) (fl_RX10 20) f := by
  have e : fl_RX10 20 = some (9, 2) := by decide +kernel
  rw [e]
  exact ⟨rfl, k⟩
theorem gX10_23 {F : Nat → Int} {A : Nat → Int → Int} {f : eV → Prop} (k : f (eR (1, 3))) : gF (cR F A) (0, 0) (fl_RX10 23) f := by
  have e : fl_RX10 23 = some (9, 3) := by decide +kernel
  rw [e]
  exact ⟨rfl, k⟩
theorem gX10_26 {F : Nat → Int} {A : Nat → Int → Int} {f : eV → Prop} (k : f (eR (1, 4))) : gF (cR F A) (0, 0) (fl_RX10 26) f := by
  have e : fl_RX10 26 = some (9, 4) := by decide +kernel
  rw [e]
  exact ⟨rfl, k⟩
theorem gX10_29 {F : Nat → Int} {A : Nat → Int → Int} {f : eV → Prop} (k : f (eR (1, 5))) : gF (cR F A) (0, 0) (fl_RX10 29) f := by
  have e : fl_RX10 29 = some (9, 5) := by decide +kernel
  rw [e]
  exact ⟨rfl, k⟩
theorem gX10_32 {F : Nat → Int} {A : Nat → Int → Int} {f : eV → Prop} (k : f (eR (1, 7))) : gF (cR F A) (0, 0) (fl_RX10 32) f := by
  have e : fl_RX10 32 = some (9, 7) := by decide +kernel
  rw [e]
  exact ⟨rfl, k⟩
theorem gX10_35 {F : Nat → Int} {A : Nat → Int → Int} {f : eV → Prop} (k : f (eR (1, 8))) : gF (cR F A) (0, 0) (fl_RX10 35) f := by
  have e : fl_RX10 35 = some (9, 8) := by decide +kernel
  rw [e]
  exact ⟨rfl, k⟩
theorem gX10_38 {F : Nat → Int} {A : Nat → Int → Int} {f : eV → Prop} (k : f (eI (F 9))) : gF (cR F A) (0, 0) (fl_RX10 38) f := by
  have e : fl_RX10 38 = some (9, 9) := by decide +kernel
  rw [e]
  exact ⟨rfl, k⟩
theorem pX10_38 {F : Nat → Int} {A : Nat → Int → Int} {z : Int} {f : eM → Prop} (k : f (cR (uF F 9 z) A)) : pF (cR F A) (0, 0) (fl_RX10 38) z f := by
  have e : fl_RX10 38 = some (9, 9) := by decide +kernel
  rw [e, cR_p9]
  exact k
theorem gX10_42 {F : Nat → Int} {A : Nat → Int → Int} {f : eV → Prop} (k : f (eI (F 10))) : gF (cR F A) (0, 0) (fl_RX10 42) f := by
  have e : fl_RX10 42 = some (9, 10) := by decide +kernel
  rw [e]
  exact ⟨rfl, k⟩
theorem pX10_42 {F : Nat → Int} {A : Nat → Int → Int} {z : Int} {f : eM → Prop} (k : f (cR (uF F 10 z) A)) : pF (cR F A) (0, 0) (fl_RX10 42) z f := by
  have e : fl_RX10 42 = some (9, 10) := by decide +kernel
  rw [e, cR_p10]
  exact k
theorem gX10_45 {F : Nat → Int} {A : Nat → Int → Int} {f : eV → Prop} (k : f (eR (1, 15))) : gF (cR F A) (0, 0) (fl_RX10 45) f := by
  have e : fl_RX10 45 = some (9, 15) := by decide +kernel
  rw [e]
  exact ⟨rfl, k⟩
theorem gX10_49 {F : Nat → Int} {A : Nat → Int → Int} {f : eV → Prop} (k : f (eR (1, 16))) : gF (cR F A) (0, 0) (fl_RX10 49) f := by
  have e : fl_RX10 49 = some (9, 16) := by decide +kernel
  rw [e]
  exact ⟨rfl, k⟩
theorem gX10_52 {F : Nat → Int} {A : Nat → Int → Int} {f : eV → Prop} (k : f (eR (1, 18))) : gF (cR F A) (0, 0) (fl_RX10 52) f := by
  have e : fl_RX10 52 = some (9, 18) := by decide +kernel
  rw [e]
  exact ⟨rfl, k⟩
theorem gX10_55 {F : Nat → Int} {A : Nat → Int → Int} {f : eV → Prop} (k : f (eR (1, 20))) : gF (cR F A) (0, 0) (fl_RX10 55) f := by
  have e : fl_RX10 55 = some (9, 20) := by decide +kernel
  rw [e]
  exact ⟨rfl, k⟩
theorem gX10_58 {F : Nat → Int} {A : Nat → Int → Int} {f : eV → Prop} (k : f (eR (1, 21))) : gF (cR F A) (0, 0) (fl_RX10 58) f := by
  have e : fl_RX10 58 = some (9, 21) := by decide +kernel
  rw [e]
  exact ⟨rfl, k⟩
theorem gX10_61 {F : Nat → Int} {A : Nat → Int → Int} {f : eV → Prop} (k : f (eI (F 12))) : gF (cR F A) (0, 0) (fl_RX10 61) f := by
  have e : fl_RX10 61 = some (9, 12) := by decide +kernel
  rw [e]
  exact ⟨rfl, k⟩
theorem pX10_61 {F : Nat → Int} {A : Nat → Int → Int} {z : Int} {f : eM → Prop} (k : f (cR (uF F 12 z) A)) : pF (cR F A) (0, 0) (fl_RX10 61) z f := by
  have e : fl_RX10 61 = some (9, 12) := by decide +kernel
  rw [e, cR_p12]
  exact k
theorem gX10_167 {F : Nat → Int} {A : Nat → Int → Int} {f : eV → Prop} (k : f (eI (F 14))) : gF (cR F A) (0, 0) (fl_RX10 167) f := by
  have e : fl_RX10 167 = some (9, 14) := by decide +kernel
  rw [e]
  exact ⟨rfl, k⟩
theorem pX10_167 {F : Nat → Int} {A : Nat → Int → Int} {z : Int} {f : eM → Prop} (k : f (cR (uF F 14 z) A)) : pF (cR F A) (0, 0) (fl_RX10 167) z f := by
  have e : fl_RX10 167 = some (9, 14) := by decide +kernel
  rw [e, cR_p14]
  exact k
theorem gX10_179 {F : Nat → Int} {A : Nat → Int → Int} {f : eV → Prop} (k : f (eI (F 13))) : gF (cR F A) (0, 0) (fl_RX10 179) f := by
  have e : fl_RX10 179 = some (9, 13) := by decide +kernel
  rw [e]
  exact ⟨rfl, k⟩
theorem pX10_179 {F : Nat → Int} {A : Nat → Int → Int} {z : Int} {f : eM → Prop} (k : f (cR (uF F 13 z) A)) : pF (cR F A) (0, 0) (fl_RX10 179) z f := by
  have e : fl_RX10 179 = some (9, 13) := by decide +kernel
  rw [e, cR_p13]
  exact k
theorem gX10_196 {F : Nat → Int} {A : Nat → Int → Int} {f : eV → Prop} (k : f (eI (F 17))) : gF (cR F A) (0, 0) (fl_RX10 196) f := by
  have e : fl_RX10 196 = some (9, 17) := by decide +kernel
  rw [e]
  exact ⟨rfl, k⟩
theorem pX10_196 {F : Nat → Int} {A : Nat → Int → Int} {z : Int} {f : eM → Prop} (k : f (cR (uF F 17 z) A)) : pF (cR F A) (0, 0) (fl_RX10 196) z f := by
  have e : fl_RX10 196 = some (9, 17) := by decide +kernel
  rw [e, cR_p17]
  exact k
theorem gX10_199 {F : Nat → Int} {A : Nat → Int → Int} {f : eV → Prop} (k : f (eI (F 6))) : gF (cR F A) (0, 0) (fl_RX10 199) f := by
  have e : fl_RX10 199 = some (9, 6) := by decide +kernel
  rw [e]
  exact ⟨rfl, k⟩
theorem pX10_199 {F : Nat → Int} {A : Nat → Int → Int} {z : Int} {f : eM → Prop} (k : f (cR (uF F 6 z) A)) : pF (cR F A) (0, 0) (fl_RX10 199) z f := by
  have e : fl_RX10 199 = some (9, 6) := by decide +kernel
  rw [e, cR_p6]
  exact k
theorem gX10_214 {F : Nat → Int} {A : Nat → Int → Int} {f : eV → Prop} (k : f (eI (F 11))) : gF (cR F A) (0, 0) (fl_RX10 214) f := by
  have e : fl_RX10 214 = some (9, 11) := by decide +kernel
  rw [e]
  exact ⟨rfl, k⟩
theorem pX10_214 {F : Nat → Int} {A : Nat → Int → Int} {z : Int} {f : eM → Prop} (k : f (cR (uF F 11 z) A)) : pF (cR F A) (0, 0) (fl_RX10 214) z f := by
  have e : fl_RX10 214 = some (9, 11) := by decide +kernel
  rw [e, cR_p11]
  exact k
theorem gX10_223 {F : Nat → Int} {A : Nat → Int → Int} {f : eV → Prop} (k : f (eI (F 19))) : gF (cR F A) (0, 0) (fl_RX10 223) f := by
  have e : fl_RX10 223 = some (9, 19) := by decide +kernel
  rw [e]
  exact ⟨rfl, k⟩
theorem pX10_223 {F : Nat → Int} {A : Nat → Int → Int} {z : Int} {f : eM → Prop} (k : f (cR (uF F 19 z) A)) : pF (cR F A) (0, 0) (fl_RX10 223) z f := by
  have e : fl_RX10 223 = some (9, 19) := by decide +kernel
  rw [e, cR_p19]
  exact k
theorem gX10_235 {F : Nat → Int} {A : Nat → Int → Int} {f : eV → Prop} (k : f (eI (F 22))) : gF (cR F A) (0, 0) (fl_RX10 235) f := by
  have e : fl_RX10 235 = some (9, 22) := by decide +kernel
  rw [e]
  exact ⟨rfl, k⟩
theorem pX10_235 {F : Nat → Int} {A : Nat → Int → Int} {z : Int} {f : eM → Prop} (h : z = 0 ∨ z = 1) (k : f (cR (uF F 22 z) A)) : pF (cR F A) (0, 0) (fl_RX10 235) z f := by
  have e : fl_RX10 235 = some (9, 22) := by decide +kernel
  rw [e, cR_p22]
  exact ⟨h, k⟩
theorem aX10_A0 {F : Nat → Int} {A : Nat → Int → Int} {i : Int} {f : eV → Prop} (h : 0 ≤ i ∧ i < 1602266) (k : f (eI (A 0 i))) : gA (cR F A) (1, 0) 0 i f := by
  rw [cR_a0]
  exact ⟨h, k⟩
theorem yX10_A0 {F : Nat → Int} {A : Nat → Int → Int} {i z : Int} {f : eM → Prop} (h : 0 ≤ i ∧ i < 1602266) (k : f (cR F (uA A 0 (uI (A 0) i z)))) : pY (cR F A) (1, 0) 0 i (eI z) f := by
  rw [cR_y0]
  exact ⟨h, k⟩
theorem nX10_A0 {F : Nat → Int} {A : Nat → Int → Int} {f : Int → Prop} (k : f 1602266) : gN (cR F A) (1, 0) f := by
  rw [cR_n0]
  exact k
theorem aX10_A1 {F : Nat → Int} {A : Nat → Int → Int} {i : Int} {f : eV → Prop} (h : 0 ≤ i ∧ i < 1204) (k : f (eL (A 1 i))) : gA (cR F A) (1, 1) 1 i f := by
  rw [cR_a1]
  exact ⟨h, k⟩
theorem yX10_A1 {F : Nat → Int} {A : Nat → Int → Int} {i z : Int} {f : eM → Prop} (h : 0 ≤ i ∧ i < 1204) (k : f (cR F (uA A 1 (uI (A 1) i z)))) : pY (cR F A) (1, 1) 1 i (eL z) f := by
  rw [cR_y1]
  exact ⟨h, k⟩
theorem nX10_A1 {F : Nat → Int} {A : Nat → Int → Int} {f : Int → Prop} (k : f 1204) : gN (cR F A) (1, 1) f := by
  rw [cR_n1]
  exact k
theorem aX10_A2 {F : Nat → Int} {A : Nat → Int → Int} {i : Int} {f : eV → Prop} (h : 0 ≤ i ∧ i < 602) (k : f (eI (A 2 i))) : gA (cR F A) (1, 2) 0 i f := by
  rw [cR_a2]
  exact ⟨h, k⟩
theorem yX10_A2 {F : Nat → Int} {A : Nat → Int → Int} {i z : Int} {f : eM → Prop} (h : 0 ≤ i ∧ i < 602) (k : f (cR F (uA A 2 (uI (A 2) i z)))) : pY (cR F A) (1, 2) 0 i (eI z) f := by
  rw [cR_y2]
  exact ⟨h, k⟩
theorem nX10_A2 {F : Nat → Int} {A : Nat → Int → Int} {f : Int → Prop} (k : f 602) : gN (cR F A) (1, 2) f := by
  rw [cR_n2]
  exact k
theorem aX10_A3 {F : Nat → Int} {A : Nat → Int → Int} {i : Int} {f : eV → Prop} (h : 0 ≤ i ∧ i < 602) (k : f (eI (A 3 i))) : gA (cR F A) (1, 3) 0 i f := by
  rw [cR_a3]
  exact ⟨h, k⟩
theorem yX10_A3 {F : Nat → Int} {A : Nat → Int → Int} {i z : Int} {f : eM → Prop} (h : 0 ≤ i ∧ i < 602) (k : f (cR F (uA A 3 (uI (A 3) i z)))) : pY (cR F A) (1, 3) 0 i (eI z) f := by
  rw [cR_y3]
  exact ⟨h, k⟩
theorem nX10_A3 {F : Nat → Int} {A : Nat → Int → Int} {f : Int → Prop} (k : f 602) : gN (cR F A) (1, 3) f := by
  rw [cR_n3]
  exact k
theorem aX10_A4 {F : Nat → Int} {A : Nat → Int → Int} {i : Int} {f : eV → Prop} (h : 0 ≤ i ∧ i < 24) (k : f (eI (A 4 i))) : gA (cR F A) (1, 4) 0 i f := by
  rw [cR_a4]
  exact ⟨h, k⟩
theorem yX10_A4 {F : Nat → Int} {A : Nat → Int → Int} {i z : Int} {f : eM → Prop} (h : 0 ≤ i ∧ i < 24) (k : f (cR F (uA A 4 (uI (A 4) i z)))) : pY (cR F A) (1, 4) 0 i (eI z) f := by
  rw [cR_y4]
  exact ⟨h, k⟩
theorem nX10_A4 {F : Nat → Int} {A : Nat → Int → Int} {f : Int → Prop} (k : f 24) : gN (cR F A) (1, 4) f := by
  rw [cR_n4]
  exact k
theorem aX10_A5 {F : Nat → Int} {A : Nat → Int → Int} {i : Int} {f : eV → Prop} (h : 0 ≤ i ∧ i < 6) (k : f (eI (A 5 i))) : gA (cR F A) (1, 5) 0 i f := by
  rw [cR_a5]
  exact ⟨h, k⟩
theorem yX10_A5 {F : Nat → Int} {A : Nat → Int → Int} {i z : Int} {f : eM → Prop} (h : 0 ≤ i ∧ i < 6) (k : f (cR F (uA A 5 (uI (A 5) i z)))) : pY (cR F A) (1, 5) 0 i (eI z) f := by
  rw [cR_y5]
  exact ⟨h, k⟩
theorem nX10_A5 {F : Nat → Int} {A : Nat → Int → Int} {f : Int → Prop} (k : f 6) : gN (cR F A) (1, 5) f := by
  rw [cR_n5]
  exact k
theorem aX10_A7 {F : Nat → Int} {A : Nat → Int → Int} {i : Int} {f : eV → Prop} (h : 0 ≤ i ∧ i < 24) (k : f (eI (A 7 i))) : gA (cR F A) (1, 7) 0 i f := by
  rw [cR_a7]
  exact ⟨h, k⟩
theorem yX10_A7 {F : Nat → Int} {A : Nat → Int → Int} {i z : Int} {f : eM → Prop} (h : 0 ≤ i ∧ i < 24) (k : f (cR F (uA A 7 (uI (A 7) i z)))) : pY (cR F A) (1, 7) 0 i (eI z) f := by
  rw [cR_y7]
  exact ⟨h, k⟩
theorem nX10_A7 {F : Nat → Int} {A : Nat → Int → Int} {f : Int → Prop} (k : f 24) : gN (cR F A) (1, 7) f := by
  rw [cR_n7]
  exact k
theorem aX10_A8 {F : Nat → Int} {A : Nat → Int → Int} {i : Int} {f : eV → Prop} (h : 0 ≤ i ∧ i < 6) (k : f (eI (A 8 i))) : gA (cR F A) (1, 8) 0 i f := by
  rw [cR_a8]
  exact ⟨h, k⟩
theorem yX10_A8 {F : Nat → Int} {A : Nat → Int → Int} {i z : Int} {f : eM → Prop} (h : 0 ≤ i ∧ i < 6) (k : f (cR F (uA A 8 (uI (A 8) i z)))) : pY (cR F A) (1, 8) 0 i (eI z) f := by
  rw [cR_y8]
  exact ⟨h, k⟩
theorem nX10_A8 {F : Nat → Int} {A : Nat → Int → Int} {f : Int → Prop} (k : f 6) : gN (cR F A) (1, 8) f := by
  rw [cR_n8]
  exact k
theorem aX10_A15 {F : Nat → Int} {A : Nat → Int → Int} {i : Int} {f : eV → Prop} (h : 0 ≤ i ∧ i < 45) (k : f (eI (A 15 i))) : gA (cR F A) (1, 15) 2 i f := by
  rw [cR_a15]
  exact ⟨h, k⟩
theorem yX10_A15 {F : Nat → Int} {A : Nat → Int → Int} {i z : Int} {f : eM → Prop} (h : 0 ≤ i ∧ i < 45) (k : f (cR F (uA A 15 (uI (A 15) i z)))) : pY (cR F A) (1, 15) 2 i (eI z) f := by
  rw [cR_y15]
  exact ⟨h, k⟩
theorem nX10_A15 {F : Nat → Int} {A : Nat → Int → Int} {f : Int → Prop} (k : f 45) : gN (cR F A) (1, 15) f := by
  rw [cR_n15]
  exact k
theorem aX10_A16 {F : Nat → Int} {A : Nat → Int → Int} {i : Int} {f : eV → Prop} (h : 0 ≤ i ∧ i < 45) (k : f (eI (A 16 i))) : gA (cR F A) (1, 16) 0 i f := by
  rw [cR_a16]
  exact ⟨h, k⟩
theorem yX10_A16 {F : Nat → Int} {A : Nat → Int → Int} {i z : Int} {f : eM → Prop} (h : 0 ≤ i ∧ i < 45) (k : f (cR F (uA A 16 (uI (A 16) i z)))) : pY (cR F A) (1, 16) 0 i (eI z) f := by
  rw [cR_y16]
  exact ⟨h, k⟩
theorem nX10_A16 {F : Nat → Int} {A : Nat → Int → Int} {f : Int → Prop} (k : f 45) : gN (cR F A) (1, 16) f := by
  rw [cR_n16]
  exact k
theorem aX10_A18 {F : Nat → Int} {A : Nat → Int → Int} {i : Int} {f : eV → Prop} (h : 0 ≤ i ∧ i < 6) (k : f (eI (A 18 i))) : gA (cR F A) (1, 18) 0 i f := by
  rw [cR_a18]
  exact ⟨h, k⟩
theorem yX10_A18 {F : Nat → Int} {A : Nat → Int → Int} {i z : Int} {f : eM → Prop} (h : 0 ≤ i ∧ i < 6) (k : f (cR F (uA A 18 (uI (A 18) i z)))) : pY (cR F A) (1, 18) 0 i (eI z) f := by
  rw [cR_y18]
  exact ⟨h, k⟩
theorem nX10_A18 {F : Nat → Int} {A : Nat → Int → Int} {f : Int → Prop} (k : f 6) : gN (cR F A) (1, 18) f := by
  rw [cR_n18]
  exact k
theorem aX10_A20 {F : Nat → Int} {A : Nat → Int → Int} {i : Int} {f : eV → Prop} (h : 0 ≤ i ∧ i < 3) (k : f (eI (A 20 i))) : gA (cR F A) (1, 20) 0 i f := by
  rw [cR_a20]
  exact ⟨h, k⟩
theorem yX10_A20 {F : Nat → Int} {A : Nat → Int → Int} {i z : Int} {f : eM → Prop} (h : 0 ≤ i ∧ i < 3) (k : f (cR F (uA A 20 (uI (A 20) i z)))) : pY (cR F A) (1, 20) 0 i (eI z) f := by
  rw [cR_y20]
  exact ⟨h, k⟩
theorem nX10_A20 {F : Nat → Int} {A : Nat → Int → Int} {f : Int → Prop} (k : f 3) : gN (cR F A) (1, 20) f := by
  rw [cR_n20]
  exact k
theorem aX10_A21 {F : Nat → Int} {A : Nat → Int → Int} {i : Int} {f : eV → Prop} (h : 0 ≤ i ∧ i < 3) (k : f (eI (A 21 i))) : gA (cR F A) (1, 21) 0 i f := by
  rw [cR_a21]
  exact ⟨h, k⟩
theorem yX10_A21 {F : Nat → Int} {A : Nat → Int → Int} {i z : Int} {f : eM → Prop} (h : 0 ≤ i ∧ i < 3) (k : f (cR F (uA A 21 (uI (A 21) i z)))) : pY (cR F A) (1, 21) 0 i (eI z) f := by
  rw [cR_y21]
  exact ⟨h, k⟩
theorem nX10_A21 {F : Nat → Int} {A : Nat → Int → Int} {f : Int → Prop} (k : f 3) : gN (cR F A) (1, 21) f := by
  rw [cR_n21]
  exact k
