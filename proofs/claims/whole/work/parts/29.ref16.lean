/-! The reference's monomials: place u is x^(mX u) y^(mY u). -/
def mD (u : Int) : Int := if u < 1 then 0 else if u < 3 then 1 else if u < 6 then 2 else if u < 10 then 3 else if u < 15 then 4 else if u < 21 then 5 else if u < 28 then 6 else if u < 36 then 7 else 8
def mX (u : Int) : Int := u - mD u * (mD u + 1) / 2
def mY (u : Int) : Int := mD u - mX u
def mN (a b : Int) : Int := (a + b) * (a + b + 1) / 2 + a
theorem mD_h {u : Int} (h : 0 ≤ u ∧ u < 45) : 0 ≤ mD u ∧ mD u ≤ 8 ∧ mD u * (mD u + 1) ≤ 2 * u ∧ 2 * u < (mD u + 1) * (mD u + 2) := by
  unfold mD
  repeat' split
  all_goals omega
theorem mX_h {u : Int} (h : 0 ≤ u ∧ u < 45) : 0 ≤ mX u ∧ mX u ≤ mD u := by
  unfold mX mD
  repeat' split
  all_goals omega
theorem mY_h {u : Int} (h : 0 ≤ u ∧ u < 45) : 0 ≤ mY u ∧ mX u + mY u = mD u := by
  have := mX_h h
  unfold mY
  omega
theorem mN_u (u : Int) : mN (mX u) (mY u) = u := by
  unfold mN mY
  rw [show mX u + (mD u - mX u) = mD u by omega]
  unfold mX
  omega
theorem mN_X {a b : Int} (h : 0 ≤ a ∧ 0 ≤ b ∧ a + b ≤ 8) : 0 ≤ mN a b ∧ mN a b < 45 ∧ mD (mN a b) = a + b ∧ mX (mN a b) = a ∧ mY (mN a b) = b := by
  have k : 0 ≤ mN a b ∧ mN a b < 45 ∧ mD (mN a b) = a + b := by
    have hs : a + b = 0 ∨ a + b = 1 ∨ a + b = 2 ∨ a + b = 3 ∨ a + b = 4 ∨ a + b = 5 ∨ a + b = 6 ∨ a + b = 7 ∨ a + b = 8 := by omega
    unfold mN mD
    rcases hs with e | e | e | e | e | e | e | e | e <;> rw [e] <;> refine ⟨by omega, by omega, ?_⟩ <;> repeat' split
    all_goals omega
  obtain ⟨k0, k1, k2⟩ := k
  refine ⟨k0, k1, k2, ?_, ?_⟩
  · unfold mX
    rw [k2]
    unfold mN
    omega
  · unfold mY mX
    rw [k2]
    unfold mN
    omega
theorem tr_d (D : Int) (h : 0 ≤ D) : (D * (D + 1)).tdiv 2 = D * (D + 1) / 2 := Int.tdiv_eq_ediv_of_nonneg (Int.mul_nonneg h (by omega))
theorem tr_2 (D : Int) : 2 * (D * (D + 1) / 2) = D * (D + 1) := by
  rcases Int.emod_two_eq D with e | e
  · obtain ⟨c, hc⟩ : ∃ c, D = 2 * c := ⟨D / 2, by omega⟩
    subst hc
    rw [show 2 * c * (2 * c + 1) = 2 * (c * (2 * c + 1)) by grind]
    omega
  · obtain ⟨c, hc⟩ : ∃ c, D = 2 * c + 1 := ⟨D / 2, by omega⟩
    subst hc
    rw [show (2 * c + 1) * (2 * c + 1 + 1) = 2 * ((2 * c + 1) * (c + 1)) by grind]
    omega
-- row, entry
def SX10_row : eSp := fun as M rt => ∃ l : Int, as = [eI l] ∧ rt (some (eI (45 * l))) M
theorem SX10_row_i {l : Int} {M : eM} {rt : Option eV → eM → Prop} (h : rt (some (eI (45 * l))) M) : SX10_row [eI l] M rt := ⟨l, rfl, h⟩
def kX10_row : List (Nat × Jvm.ClassFile.Instr × Nat) := [(0, .bipush 45, 2), (2, .iload_n 0, 1), (3, .imul, 1), (4, .ireturn, 1)]
theorem kX10_row_0 : cdOf kX10_row 0 = some (.bipush 45, 2) := by decide +kernel
theorem kX10_row_2 : cdOf kX10_row 2 = some (.iload_n 0, 1) := by decide +kernel
theorem kX10_row_3 : cdOf kX10_row 3 = some (.imul, 1) := by decide +kernel
theorem kX10_row_4 : cdOf kX10_row 4 = some (.ireturn, 1) := by decide +kernel
set_option maxRecDepth 20000 in
theorem kX10_row_ok : ∀ pc i len, cdOf kX10_row pc = some (i, len) → decode cX10_row pc = .ok (i, len) ∧ stOK 1 i = true ∧ jOK pc i = true ∧ eLen i len = true := cdOf_ok cX10_row 1 kX10_row (by decide +kernel)
def vtX10_row : Nat → Option (Nat × eSp) := fun _ => none
def stX10_row : Nat → Option (Nat × eSp) := fun _ => none
abbrev TX10_row : eT := (fl_RX10, cl_RX10, dl_RX10, vtX10_row, stX10_row)
set_option maxRecDepth 20000 in
theorem caX10_row : eCalls RX10 { frames := 0, cells := 0, slots := 0, locals := 0 } TX10_row := by
  refine ⟨fun k n sp h => ?_, fun k n sp h => ?_⟩
  · cases h
  · cases h
set_option maxRecDepth 100000 in
set_option maxHeartbeats 4000000 in
theorem sX10_row : eSafe TX10_row (cdOf kX10_row) 1 (some .int) SX10_row := by
  intro K rt hK as M h
  obtain ⟨l, rfl, h⟩ := h
  refine ⟨by simp [eE], ?_⟩
  simp only [eLoc, eE, List.length_cons, List.length_nil, List.replicate, List.cons_append, List.nil_append, Nat.reduceAdd, Nat.reduceSub]
  refine x_bipush hK kX10_row_0 (q := 2) rfl (by decide) ?_
  refine x_iload_n hK kX10_row_2 (q := 3) rfl rfl ?_
  refine x_imul hK kX10_row_3 (q := 4) rfl ?_
  refine x_ireturn hK kX10_row_4 (by first | trivial | exact Or.inl rfl | exact Or.inr rfl) ?_
  exact h
set_option maxRecDepth 20000 in
theorem mX10_row : eMet yX10_row cX10_row 1 (some .int) 0 0 SX10_row := eMet_of (by decide +kernel) sX10_row kX10_row_ok caX10_row tb_RX10
theorem wX10_row : eWS yX10_row cX10_row 1 (some .int) 1 := ⟨(gW_at 1092 (by decide +kernel) rfl), (gW_at 89 (by decide +kernel) rfl), (gW_at 1091 (by decide +kernel) rfl), by decide +kernel⟩
-- monomial, degreeOf, xOf, yOf
def SX10_monomial : eSp := fun as M rt => ∃ a b : Int, as = [eI a, eI b] ∧ (0 ≤ a ∧ 0 ≤ b ∧ a + b ≤ 100) ∧ rt (some (eI (mN a b))) M
theorem SX10_monomial_i {a b : Int} {M : eM} {rt : Option eV → eM → Prop} (h0 : 0 ≤ a ∧ 0 ≤ b ∧ a + b ≤ 100) (h : rt (some (eI (mN a b))) M) : SX10_monomial [eI a, eI b] M rt := ⟨a, b, rfl, h0, h⟩
def kX10_monomial : List (Nat × Jvm.ClassFile.Instr × Nat) := [(0, .iload_n 0, 1), (1, .iload_n 1, 1), (2, .iadd, 1), (3, .istore_n 2, 1), (4, .iload_n 2, 1), (5, .iload_n 2, 1), (6, .iconst 1, 1), (7, .iadd, 1), (8, .imul, 1), (9, .iconst 2, 1), (10, .idiv, 1), (11, .iload_n 0, 1), (12, .iadd, 1), (13, .ireturn, 1)]
theorem kX10_monomial_0 : cdOf kX10_monomial 0 = some (.iload_n 0, 1) := by decide +kernel
theorem kX10_monomial_1 : cdOf kX10_monomial 1 = some (.iload_n 1, 1) := by decide +kernel
theorem kX10_monomial_2 : cdOf kX10_monomial 2 = some (.iadd, 1) := by decide +kernel
theorem kX10_monomial_3 : cdOf kX10_monomial 3 = some (.istore_n 2, 1) := by decide +kernel
theorem kX10_monomial_4 : cdOf kX10_monomial 4 = some (.iload_n 2, 1) := by decide +kernel
theorem kX10_monomial_5 : cdOf kX10_monomial 5 = some (.iload_n 2, 1) := by decide +kernel
theorem kX10_monomial_6 : cdOf kX10_monomial 6 = some (.iconst 1, 1) := by decide +kernel
theorem kX10_monomial_7 : cdOf kX10_monomial 7 = some (.iadd, 1) := by decide +kernel
theorem kX10_monomial_8 : cdOf kX10_monomial 8 = some (.imul, 1) := by decide +kernel
theorem kX10_monomial_9 : cdOf kX10_monomial 9 = some (.iconst 2, 1) := by decide +kernel
theorem kX10_monomial_10 : cdOf kX10_monomial 10 = some (.idiv, 1) := by decide +kernel
theorem kX10_monomial_11 : cdOf kX10_monomial 11 = some (.iload_n 0, 1) := by decide +kernel
theorem kX10_monomial_12 : cdOf kX10_monomial 12 = some (.iadd, 1) := by decide +kernel
theorem kX10_monomial_13 : cdOf kX10_monomial 13 = some (.ireturn, 1) := by decide +kernel
set_option maxRecDepth 20000 in
theorem kX10_monomial_ok : ∀ pc i len, cdOf kX10_monomial pc = some (i, len) → decode cX10_monomial pc = .ok (i, len) ∧ stOK 3 i = true ∧ jOK pc i = true ∧ eLen i len = true := cdOf_ok cX10_monomial 3 kX10_monomial (by decide +kernel)
def vtX10_monomial : Nat → Option (Nat × eSp) := fun _ => none
def stX10_monomial : Nat → Option (Nat × eSp) := fun _ => none
abbrev TX10_monomial : eT := (fl_RX10, cl_RX10, dl_RX10, vtX10_monomial, stX10_monomial)
set_option maxRecDepth 20000 in
theorem caX10_monomial : eCalls RX10 { frames := 0, cells := 0, slots := 0, locals := 0 } TX10_monomial := by
  refine ⟨fun k n sp h => ?_, fun k n sp h => ?_⟩
  · cases h
  · cases h
set_option maxRecDepth 100000 in
set_option maxHeartbeats 4000000 in
theorem sX10_monomial : eSafe TX10_monomial (cdOf kX10_monomial) 3 (some .int) SX10_monomial := by
  intro K rt hK as M h
  obtain ⟨a, b, rfl, h0, h⟩ := h
  refine ⟨by simp [eE], ?_⟩
  have w1 : 0 ≤ (a + b) * (a + b + 1) := Int.mul_nonneg (by omega) (by omega)
  have w2 : (a + b) * (a + b + 1) ≤ 100 * 101 := Int.mul_le_mul (by omega) (by omega) (by omega) (by omega)
  have w3 : w32 ((a + b) * (a + b + 1)) := by constructor <;> omega
  simp only [eLoc, eE, List.length_cons, List.length_nil, List.replicate, List.cons_append, List.nil_append, Nat.reduceAdd, Nat.reduceSub]
  refine x_iload_n hK kX10_monomial_0 (q := 1) rfl rfl ?_
  refine x_iload_n hK kX10_monomial_1 (q := 2) rfl rfl ?_
  refine x_iadd hK kX10_monomial_2 (q := 3) rfl ?_
  refine x_istore_n hK kX10_monomial_3 (q := 4) (jn := 2) rfl rfl ?_
  refine x_iload_n hK kX10_monomial_4 (q := 5) rfl rfl ?_
  refine x_iload_n hK kX10_monomial_5 (q := 6) rfl rfl ?_
  refine x_iconst hK kX10_monomial_6 (q := 7) rfl ?_
  refine x_iadd hK kX10_monomial_7 (q := 8) rfl ?_
  refine x_imul hK kX10_monomial_8 (q := 9) rfl ?_
  refine x_iconst hK kX10_monomial_9 (q := 10) rfl ?_
  refine x_idiv hK kX10_monomial_10 (q := 11) rfl (by exact ⟨w3, by omega, by decide⟩) ?_
  simp only [lS, lS2, clr_0, clr_I, clr_L, clr_R]
  rw [tr_d _ (by omega)]
  refine x_iload_n hK kX10_monomial_11 (q := 12) rfl rfl ?_
  refine x_iadd hK kX10_monomial_12 (q := 13) rfl ?_
  refine x_ireturn hK kX10_monomial_13 (by first | trivial | exact Or.inl rfl | exact Or.inr rfl) ?_
  exact h
set_option maxRecDepth 20000 in
theorem mX10_monomial : eMet yX10_monomial cX10_monomial 3 (some .int) 0 0 SX10_monomial := eMet_of (by decide +kernel) sX10_monomial kX10_monomial_ok caX10_monomial tb_RX10
theorem wX10_monomial : eWS yX10_monomial cX10_monomial 3 (some .int) 2 := ⟨(gW_at 1189 (by decide +kernel) rfl), (gW_at 89 (by decide +kernel) rfl), (gW_at 1188 (by decide +kernel) rfl), by decide +kernel⟩
def SX10_degreeOf : eSp := fun as M rt => ∃ u : Int, as = [eI u] ∧ (0 ≤ u ∧ u < 45) ∧ rt (some (eI (mD u))) M
theorem SX10_degreeOf_i {u : Int} {M : eM} {rt : Option eV → eM → Prop} (h0 : 0 ≤ u ∧ u < 45) (h : rt (some (eI (mD u))) M) : SX10_degreeOf [eI u] M rt := ⟨u, rfl, h0, h⟩
def kX10_degreeOf : List (Nat × Jvm.ClassFile.Instr × Nat) := [(0, .iconst 0, 1), (1, .istore_n 1, 1), (2, .iload_n 1, 1), (3, .iconst 1, 1), (4, .iadd, 1), (5, .iload_n 1, 1), (6, .iconst 2, 1), (7, .iadd, 1), (8, .imul, 1), (9, .iconst 2, 1), (10, .idiv, 1), (11, .iload_n 0, 1), (12, .if_icmp .gt 9, 3), (15, .iinc 1 1, 3), (18, .goto (-16), 3), (21, .iload_n 1, 1), (22, .ireturn, 1)]
theorem kX10_degreeOf_0 : cdOf kX10_degreeOf 0 = some (.iconst 0, 1) := by decide +kernel
theorem kX10_degreeOf_1 : cdOf kX10_degreeOf 1 = some (.istore_n 1, 1) := by decide +kernel
theorem kX10_degreeOf_2 : cdOf kX10_degreeOf 2 = some (.iload_n 1, 1) := by decide +kernel
theorem kX10_degreeOf_3 : cdOf kX10_degreeOf 3 = some (.iconst 1, 1) := by decide +kernel
theorem kX10_degreeOf_4 : cdOf kX10_degreeOf 4 = some (.iadd, 1) := by decide +kernel
theorem kX10_degreeOf_5 : cdOf kX10_degreeOf 5 = some (.iload_n 1, 1) := by decide +kernel
theorem kX10_degreeOf_6 : cdOf kX10_degreeOf 6 = some (.iconst 2, 1) := by decide +kernel
theorem kX10_degreeOf_7 : cdOf kX10_degreeOf 7 = some (.iadd, 1) := by decide +kernel
theorem kX10_degreeOf_8 : cdOf kX10_degreeOf 8 = some (.imul, 1) := by decide +kernel
theorem kX10_degreeOf_9 : cdOf kX10_degreeOf 9 = some (.iconst 2, 1) := by decide +kernel
theorem kX10_degreeOf_10 : cdOf kX10_degreeOf 10 = some (.idiv, 1) := by decide +kernel
theorem kX10_degreeOf_11 : cdOf kX10_degreeOf 11 = some (.iload_n 0, 1) := by decide +kernel
theorem kX10_degreeOf_12 : cdOf kX10_degreeOf 12 = some (.if_icmp .gt 9, 3) := by decide +kernel
theorem kX10_degreeOf_15 : cdOf kX10_degreeOf 15 = some (.iinc 1 1, 3) := by decide +kernel
theorem kX10_degreeOf_18 : cdOf kX10_degreeOf 18 = some (.goto (-16), 3) := by decide +kernel
theorem kX10_degreeOf_21 : cdOf kX10_degreeOf 21 = some (.iload_n 1, 1) := by decide +kernel
theorem kX10_degreeOf_22 : cdOf kX10_degreeOf 22 = some (.ireturn, 1) := by decide +kernel
set_option maxRecDepth 20000 in
theorem kX10_degreeOf_ok : ∀ pc i len, cdOf kX10_degreeOf pc = some (i, len) → decode cX10_degreeOf pc = .ok (i, len) ∧ stOK 2 i = true ∧ jOK pc i = true ∧ eLen i len = true := cdOf_ok cX10_degreeOf 2 kX10_degreeOf (by decide +kernel)
def vtX10_degreeOf : Nat → Option (Nat × eSp) := fun _ => none
def stX10_degreeOf : Nat → Option (Nat × eSp) := fun _ => none
abbrev TX10_degreeOf : eT := (fl_RX10, cl_RX10, dl_RX10, vtX10_degreeOf, stX10_degreeOf)
set_option maxRecDepth 20000 in
theorem caX10_degreeOf : eCalls RX10 { frames := 0, cells := 0, slots := 0, locals := 0 } TX10_degreeOf := by
  refine ⟨fun k n sp h => ?_, fun k n sp h => ?_⟩
  · cases h
  · cases h
set_option maxRecDepth 100000 in
set_option maxHeartbeats 4000000 in
theorem sX10_degreeOf : eSafe TX10_degreeOf (cdOf kX10_degreeOf) 2 (some .int) SX10_degreeOf := by
  intro K rt hK as M h
  obtain ⟨u, rfl, h0, h⟩ := h
  refine ⟨by simp [eE], ?_⟩
  obtain ⟨d0, d1, d2, d3⟩ := mD_h h0
  have loop : ∀ (n : Nat) (k : Int), 0 ≤ k → k + n = mD u → K 2 [some (eI u), some (eI k)] [] M := by
    intro n
    induction n with
    | zero =>
      intro k k0 hk
      have e : k = mD u := by omega
      subst e
      have w1 : (mD u + 1) * (mD u + 2) ≤ 9 * 10 := Int.mul_le_mul (by omega) (by omega) (by omega) (by omega)
      have w3 : w32 ((mD u + 1) * (mD u + 2)) := by constructor <;> omega
      have e2 : ((mD u + 1) * (mD u + 2)).tdiv 2 = (mD u + 1) * (mD u + 2) / 2 := Int.tdiv_eq_ediv_of_nonneg (by omega)
      have e3 := tr_2 (mD u + 1)
      rw [show mD u + 1 + 1 = mD u + 2 by omega] at e3
      refine x_iload_n hK kX10_degreeOf_2 (q := 3) rfl rfl ?_
      refine x_iconst hK kX10_degreeOf_3 (q := 4) rfl ?_
      refine x_iadd hK kX10_degreeOf_4 (q := 5) rfl ?_
      refine x_iload_n hK kX10_degreeOf_5 (q := 6) rfl rfl ?_
      refine x_iconst hK kX10_degreeOf_6 (q := 7) rfl ?_
      refine x_iadd hK kX10_degreeOf_7 (q := 8) rfl ?_
      refine x_imul hK kX10_degreeOf_8 (q := 9) rfl ?_
      refine x_iconst hK kX10_degreeOf_9 (q := 10) rfl ?_
      refine x_idiv hK kX10_degreeOf_10 (q := 11) rfl (by exact ⟨w3, by omega, by decide⟩) ?_
      rw [e2]
      refine x_iload_n hK kX10_degreeOf_11 (q := 12) rfl rfl ?_
      refine x_icmp_gt hK kX10_degreeOf_12 (q := 15) rfl (tg := 21) rfl (by refine ⟨?_, ?_⟩ <;> omega) (fun c12 => ?_) (fun c12 => ?_)
      · refine x_iload_n hK kX10_degreeOf_21 (q := 22) rfl rfl ?_
        refine x_ireturn hK kX10_degreeOf_22 (by first | trivial | exact Or.inl rfl | exact Or.inr rfl) ?_
        exact h
      · exfalso; omega
    | succ n ih =>
      intro k k0 hk
      have w0 : 0 ≤ (k + 1) * (k + 2) := Int.mul_nonneg (by omega) (by omega)
      have w1 : (k + 1) * (k + 2) ≤ mD u * (mD u + 1) := Int.mul_le_mul (by omega) (by omega) (by omega) (by omega)
      have w3 : w32 ((k + 1) * (k + 2)) := by constructor <;> omega
      have e2 : ((k + 1) * (k + 2)).tdiv 2 = (k + 1) * (k + 2) / 2 := Int.tdiv_eq_ediv_of_nonneg (by omega)
      refine x_iload_n hK kX10_degreeOf_2 (q := 3) rfl rfl ?_
      refine x_iconst hK kX10_degreeOf_3 (q := 4) rfl ?_
      refine x_iadd hK kX10_degreeOf_4 (q := 5) rfl ?_
      refine x_iload_n hK kX10_degreeOf_5 (q := 6) rfl rfl ?_
      refine x_iconst hK kX10_degreeOf_6 (q := 7) rfl ?_
      refine x_iadd hK kX10_degreeOf_7 (q := 8) rfl ?_
      refine x_imul hK kX10_degreeOf_8 (q := 9) rfl ?_
      refine x_iconst hK kX10_degreeOf_9 (q := 10) rfl ?_
      refine x_idiv hK kX10_degreeOf_10 (q := 11) rfl (by exact ⟨w3, by omega, by decide⟩) ?_
      rw [e2]
      refine x_iload_n hK kX10_degreeOf_11 (q := 12) rfl rfl ?_
      refine x_icmp_gt hK kX10_degreeOf_12 (q := 15) rfl (tg := 21) rfl (by refine ⟨?_, ?_⟩ <;> omega) (fun c12 => ?_) (fun c12 => ?_)
      · exfalso; omega
      · refine x_iinc hK kX10_degreeOf_15 (q := 18) rfl rfl ?_
        simp only [lS, lS2, clr_0, clr_I, clr_L, clr_R]
        refine x_goto hK kX10_degreeOf_18 (tg := 2) rfl ?_
        exact ih (k + 1) (by omega) (by omega)
  simp only [eLoc, eE, List.length_cons, List.length_nil, List.replicate, List.cons_append, List.nil_append, Nat.reduceAdd, Nat.reduceSub]
  refine x_iconst hK kX10_degreeOf_0 (q := 1) rfl ?_
  refine x_istore_n hK kX10_degreeOf_1 (q := 2) (jn := 1) rfl rfl ?_
  simp only [lS, lS2, clr_0, clr_I, clr_L, clr_R]
  exact loop (mD u).toNat 0 (by omega) (by omega)
set_option maxRecDepth 20000 in
theorem mX10_degreeOf : eMet yX10_degreeOf cX10_degreeOf 2 (some .int) 0 0 SX10_degreeOf := eMet_of (by decide +kernel) sX10_degreeOf kX10_degreeOf_ok caX10_degreeOf tb_RX10
theorem wX10_degreeOf : eWS yX10_degreeOf cX10_degreeOf 2 (some .int) 1 := ⟨(gW_at 1180 (by decide +kernel) rfl), (gW_at 89 (by decide +kernel) rfl), (gW_at 1179 (by decide +kernel) rfl), by decide +kernel⟩
def SX10_xOf : eSp := fun as M rt => ∃ u : Int, as = [eI u] ∧ (0 ≤ u ∧ u < 45) ∧ rt (some (eI (mX u))) M
theorem SX10_xOf_i {u : Int} {M : eM} {rt : Option eV → eM → Prop} (h0 : 0 ≤ u ∧ u < 45) (h : rt (some (eI (mX u))) M) : SX10_xOf [eI u] M rt := ⟨u, rfl, h0, h⟩
def kX10_xOf : List (Nat × Jvm.ClassFile.Instr × Nat) := [(0, .iload_n 0, 1), (1, .invokestatic 139, 3), (4, .istore_n 1, 1), (5, .iload_n 0, 1), (6, .iload_n 1, 1), (7, .iload_n 1, 1), (8, .iconst 1, 1), (9, .iadd, 1), (10, .imul, 1), (11, .iconst 2, 1), (12, .idiv, 1), (13, .isub, 1), (14, .ireturn, 1)]
theorem kX10_xOf_0 : cdOf kX10_xOf 0 = some (.iload_n 0, 1) := by decide +kernel
theorem kX10_xOf_1 : cdOf kX10_xOf 1 = some (.invokestatic 139, 3) := by decide +kernel
theorem kX10_xOf_4 : cdOf kX10_xOf 4 = some (.istore_n 1, 1) := by decide +kernel
theorem kX10_xOf_5 : cdOf kX10_xOf 5 = some (.iload_n 0, 1) := by decide +kernel
theorem kX10_xOf_6 : cdOf kX10_xOf 6 = some (.iload_n 1, 1) := by decide +kernel
theorem kX10_xOf_7 : cdOf kX10_xOf 7 = some (.iload_n 1, 1) := by decide +kernel
theorem kX10_xOf_8 : cdOf kX10_xOf 8 = some (.iconst 1, 1) := by decide +kernel
theorem kX10_xOf_9 : cdOf kX10_xOf 9 = some (.iadd, 1) := by decide +kernel
theorem kX10_xOf_10 : cdOf kX10_xOf 10 = some (.imul, 1) := by decide +kernel
theorem kX10_xOf_11 : cdOf kX10_xOf 11 = some (.iconst 2, 1) := by decide +kernel
theorem kX10_xOf_12 : cdOf kX10_xOf 12 = some (.idiv, 1) := by decide +kernel
theorem kX10_xOf_13 : cdOf kX10_xOf 13 = some (.isub, 1) := by decide +kernel
theorem kX10_xOf_14 : cdOf kX10_xOf 14 = some (.ireturn, 1) := by decide +kernel
set_option maxRecDepth 20000 in
theorem kX10_xOf_ok : ∀ pc i len, cdOf kX10_xOf pc = some (i, len) → decode cX10_xOf pc = .ok (i, len) ∧ stOK 2 i = true ∧ jOK pc i = true ∧ eLen i len = true := cdOf_ok cX10_xOf 2 kX10_xOf (by decide +kernel)
def vtX10_xOf : Nat → Option (Nat × eSp) := fun _ => none
def stX10_xOf : Nat → Option (Nat × eSp) := fun k => match k with
  | 139 => some (1, SX10_degreeOf)
  | _ => none
theorem stX10_xOf_139 : stX10_xOf 139 = some (1, SX10_degreeOf) := rfl
abbrev TX10_xOf : eT := (fl_RX10, cl_RX10, dl_RX10, vtX10_xOf, stX10_xOf)
set_option maxRecDepth 20000 in
theorem caX10_xOf : eCalls RX10 { frames := 1, cells := 0, slots := 0, locals := 21 } TX10_xOf := by
  refine ⟨fun k n sp h => ?_, fun k n sp h => ?_⟩
  · cases h
  · dsimp only [TX10_xOf] at h
    unfold stX10_xOf at h
    split at h
    · cases h; exact eS_mk mX10_degreeOf wX10_degreeOf (by decide +kernel) (Or.inl (gW_at 1178 (by decide +kernel) rfl))
    · cases h
set_option maxRecDepth 100000 in
set_option maxHeartbeats 4000000 in
theorem sX10_xOf : eSafe TX10_xOf (cdOf kX10_xOf) 2 (some .int) SX10_xOf := by
  intro K rt hK as M h
  obtain ⟨u, rfl, h0, h⟩ := h
  refine ⟨by simp [eE], ?_⟩
  obtain ⟨d0, d1, d2, d3⟩ := mD_h h0
  have w0 : 0 ≤ mD u * (mD u + 1) := Int.mul_nonneg (by omega) (by omega)
  have w3 : w32 (mD u * (mD u + 1)) := by constructor <;> omega
  simp only [eLoc, eE, List.length_cons, List.length_nil, List.replicate, List.cons_append, List.nil_append, Nat.reduceAdd, Nat.reduceSub]
  refine x_iload_n hK kX10_xOf_0 (q := 1) rfl rfl ?_
  refine x_cs1 hK kX10_xOf_1 (q := 4) rfl (stX10_xOf_139) (Nat.le_of_ble_eq_true rfl) ?_
  refine SX10_degreeOf_i (by omega) ?_
  refine x_istore_n hK kX10_xOf_4 (q := 5) (jn := 1) rfl rfl ?_
  refine x_iload_n hK kX10_xOf_5 (q := 6) rfl rfl ?_
  refine x_iload_n hK kX10_xOf_6 (q := 7) rfl rfl ?_
  refine x_iload_n hK kX10_xOf_7 (q := 8) rfl rfl ?_
  refine x_iconst hK kX10_xOf_8 (q := 9) rfl ?_
  refine x_iadd hK kX10_xOf_9 (q := 10) rfl ?_
  refine x_imul hK kX10_xOf_10 (q := 11) rfl ?_
  refine x_iconst hK kX10_xOf_11 (q := 12) rfl ?_
  refine x_idiv hK kX10_xOf_12 (q := 13) rfl (by exact ⟨w3, by omega, by decide⟩) ?_
  simp only [lS, lS2, clr_0, clr_I, clr_L, clr_R]
  rw [tr_d _ (by omega)]
  refine x_isub hK kX10_xOf_13 (q := 14) rfl ?_
  refine x_ireturn hK kX10_xOf_14 (by first | trivial | exact Or.inl rfl | exact Or.inr rfl) ?_
  exact h
set_option maxRecDepth 20000 in
theorem mX10_xOf : eMet yX10_xOf cX10_xOf 2 (some .int) 1 21 SX10_xOf := eMet_of (by decide +kernel) sX10_xOf kX10_xOf_ok caX10_xOf tb_RX10
theorem wX10_xOf : eWS yX10_xOf cX10_xOf 2 (some .int) 1 := ⟨(gW_at 1183 (by decide +kernel) rfl), (gW_at 89 (by decide +kernel) rfl), (gW_at 1182 (by decide +kernel) rfl), by decide +kernel⟩
def SX10_yOf : eSp := fun as M rt => ∃ u : Int, as = [eI u] ∧ (0 ≤ u ∧ u < 45) ∧ rt (some (eI (mY u))) M
theorem SX10_yOf_i {u : Int} {M : eM} {rt : Option eV → eM → Prop} (h0 : 0 ≤ u ∧ u < 45) (h : rt (some (eI (mY u))) M) : SX10_yOf [eI u] M rt := ⟨u, rfl, h0, h⟩
def kX10_yOf : List (Nat × Jvm.ClassFile.Instr × Nat) := [(0, .iload_n 0, 1), (1, .invokestatic 139, 3), (4, .iload_n 0, 1), (5, .invokestatic 142, 3), (8, .isub, 1), (9, .ireturn, 1)]
theorem kX10_yOf_0 : cdOf kX10_yOf 0 = some (.iload_n 0, 1) := by decide +kernel
theorem kX10_yOf_1 : cdOf kX10_yOf 1 = some (.invokestatic 139, 3) := by decide +kernel
theorem kX10_yOf_4 : cdOf kX10_yOf 4 = some (.iload_n 0, 1) := by decide +kernel
theorem kX10_yOf_5 : cdOf kX10_yOf 5 = some (.invokestatic 142, 3) := by decide +kernel
theorem kX10_yOf_8 : cdOf kX10_yOf 8 = some (.isub, 1) := by decide +kernel
theorem kX10_yOf_9 : cdOf kX10_yOf 9 = some (.ireturn, 1) := by decide +kernel
set_option maxRecDepth 20000 in
theorem kX10_yOf_ok : ∀ pc i len, cdOf kX10_yOf pc = some (i, len) → decode cX10_yOf pc = .ok (i, len) ∧ stOK 1 i = true ∧ jOK pc i = true ∧ eLen i len = true := cdOf_ok cX10_yOf 1 kX10_yOf (by decide +kernel)
def vtX10_yOf : Nat → Option (Nat × eSp) := fun _ => none
def stX10_yOf : Nat → Option (Nat × eSp) := fun k => match k with
  | 139 => some (1, SX10_degreeOf)
  | 142 => some (1, SX10_xOf)
  | _ => none
theorem stX10_yOf_139 : stX10_yOf 139 = some (1, SX10_degreeOf) := rfl
theorem stX10_yOf_142 : stX10_yOf 142 = some (1, SX10_xOf) := rfl
abbrev TX10_yOf : eT := (fl_RX10, cl_RX10, dl_RX10, vtX10_yOf, stX10_yOf)
set_option maxRecDepth 20000 in
theorem caX10_yOf : eCalls RX10 { frames := 2, cells := 0, slots := 0, locals := 42 } TX10_yOf := by
  refine ⟨fun k n sp h => ?_, fun k n sp h => ?_⟩
  · cases h
  · dsimp only [TX10_yOf] at h
    unfold stX10_yOf at h
    split at h
    · cases h; exact eS_mk mX10_degreeOf wX10_degreeOf (by decide +kernel) (Or.inl (gW_at 1178 (by decide +kernel) rfl))
    · cases h; exact eS_mk mX10_xOf wX10_xOf (by decide +kernel) (Or.inl (gW_at 1181 (by decide +kernel) rfl))
    · cases h
set_option maxRecDepth 100000 in
set_option maxHeartbeats 4000000 in
theorem sX10_yOf : eSafe TX10_yOf (cdOf kX10_yOf) 1 (some .int) SX10_yOf := by
  intro K rt hK as M h
  obtain ⟨u, rfl, h0, h⟩ := h
  refine ⟨by simp [eE], ?_⟩
  simp only [eLoc, eE, List.length_cons, List.length_nil, List.replicate, List.cons_append, List.nil_append, Nat.reduceAdd, Nat.reduceSub]
  refine x_iload_n hK kX10_yOf_0 (q := 1) rfl rfl ?_
  refine x_cs1 hK kX10_yOf_1 (q := 4) rfl (stX10_yOf_139) (Nat.le_of_ble_eq_true rfl) ?_
  refine SX10_degreeOf_i (by omega) ?_
  refine x_iload_n hK kX10_yOf_4 (q := 5) rfl rfl ?_
  refine x_cs1 hK kX10_yOf_5 (q := 8) rfl (stX10_yOf_142) (Nat.le_of_ble_eq_true rfl) ?_
  refine SX10_xOf_i (by omega) ?_
  refine x_isub hK kX10_yOf_8 (q := 9) rfl ?_
  refine x_ireturn hK kX10_yOf_9 (by first | trivial | exact Or.inl rfl | exact Or.inr rfl) ?_
  exact h
set_option maxRecDepth 20000 in
theorem mX10_yOf : eMet yX10_yOf cX10_yOf 1 (some .int) 2 42 SX10_yOf := eMet_of (by decide +kernel) sX10_yOf kX10_yOf_ok caX10_yOf tb_RX10
theorem wX10_yOf : eWS yX10_yOf cX10_yOf 1 (some .int) 1 := ⟨(gW_at 1186 (by decide +kernel) rfl), (gW_at 89 (by decide +kernel) rfl), (gW_at 1185 (by decide +kernel) rfl), by decide +kernel⟩
