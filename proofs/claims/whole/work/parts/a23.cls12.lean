/-! The desk: longDivisor, divisor, share, addProduct, multiply. -/
theorem eu_1 {a b k : Nat} (hb : 0 < b) (hle : b ≤ a) (h : a * b < 2 ^ (k + 1)) : b * (a % b) < 2 ^ k ∧ a % b ≤ b := by
  have h1 := Nat.mod_lt a hb
  have h2 := Nat.div_add_mod a b
  have h3 : 1 ≤ a / b := (Nat.one_le_div_iff hb).mpr hle
  have h4 : b * 1 ≤ b * (a / b) := Nat.mul_le_mul_left b h3
  have h5 : 2 * (a % b) ≤ a := by omega
  have h6 : b * (2 * (a % b)) ≤ b * a := Nat.mul_le_mul_left b h5
  rw [Nat.pow_succ] at h
  have h7 : b * (2 * (a % b)) = 2 * (b * (a % b)) := by rw [← Nat.mul_assoc, Nat.mul_comm b 2, Nat.mul_assoc]
  rw [Nat.mul_comm a b] at h
  exact ⟨by omega, by omega⟩
theorem eu_0 {a b : Nat} (hle : b ≤ a) (h : a * b < 2 ^ 0) : b = 0 := by
  rcases Nat.eq_zero_or_pos b with q | q
  · exact q
  · have : 1 * 1 ≤ a * b := Nat.mul_le_mul (by omega) q
    rw [Nat.pow_zero] at h
    omega
def SX1_longDivisor : eSp := fun as M rt => ∃ (F : Nat → Int) (A W : Nat → Int → Int) (a b : Nat), as = [eR (1, 2), eL a, eL b] ∧ M = cC F A W ∧ (a < 9223372036854775808) ∧ (b < 9223372036854775808) ∧ (rt (some (eL (Nat.gcd a b))) (cC F A W))
theorem SX1_longDivisor_i {F : Nat → Int} {A W : Nat → Int → Int} {a b : Nat} {rt : Option eV → eM → Prop} (ha : a < 9223372036854775808) (hb : b < 9223372036854775808) (h : rt (some (eL (Nat.gcd a b))) (cC F A W)) : SX1_longDivisor [eR (1, 2), eL a, eL b] (cC F A W) rt := ⟨F, A, W, a, b, rfl, rfl, ha, hb, h⟩
theorem SX1_longDivisor_r : ∀ as M rt, SX1_longDivisor as M rt → ∃ a r fs, as = eR a :: r ∧ M a = some (.inl (1, fs)) := by
  rintro as M rt ⟨F, A, W, a, b, rfl, rfl, -⟩
  exact ⟨_, _, _, rfl, rfl⟩
def kX1_longDivisor : List (Nat × Jvm.ClassFile.Instr × Nat) := [(0, .lload_n 1, 1), (1, .lstore 5, 2), (3, .lload_n 3, 1), (4, .lstore 7, 2), (6, .iconst 0, 1), (7, .istore 9, 2), (9, .iload 9, 2), (11, .ldc 117, 2), (13, .if_icmp .ge 31, 3), (16, .lload 7, 2), (18, .lconst 0, 1), (19, .lcmp, 1), (20, .ifCond .eq 24, 3), (23, .lload 5, 2), (25, .lload 7, 2), (27, .lrem, 1), (28, .lstore 10, 2), (30, .lload 7, 2), (32, .lstore 5, 2), (34, .lload 10, 2), (36, .lstore 7, 2), (38, .iinc 9 1, 3), (41, .goto (-32), 3), (44, .lload 5, 2), (46, .lreturn, 1)]
theorem kX1_longDivisor_0 : cdOf kX1_longDivisor 0 = some (.lload_n 1, 1) := by decide +kernel
theorem kX1_longDivisor_1 : cdOf kX1_longDivisor 1 = some (.lstore 5, 2) := by decide +kernel
theorem kX1_longDivisor_3 : cdOf kX1_longDivisor 3 = some (.lload_n 3, 1) := by decide +kernel
theorem kX1_longDivisor_4 : cdOf kX1_longDivisor 4 = some (.lstore 7, 2) := by decide +kernel
theorem kX1_longDivisor_6 : cdOf kX1_longDivisor 6 = some (.iconst 0, 1) := by decide +kernel
theorem kX1_longDivisor_7 : cdOf kX1_longDivisor 7 = some (.istore 9, 2) := by decide +kernel
theorem kX1_longDivisor_9 : cdOf kX1_longDivisor 9 = some (.iload 9, 2) := by decide +kernel
theorem kX1_longDivisor_11 : cdOf kX1_longDivisor 11 = some (.ldc 117, 2) := by decide +kernel
theorem kX1_longDivisor_13 : cdOf kX1_longDivisor 13 = some (.if_icmp .ge 31, 3) := by decide +kernel
theorem kX1_longDivisor_16 : cdOf kX1_longDivisor 16 = some (.lload 7, 2) := by decide +kernel
theorem kX1_longDivisor_18 : cdOf kX1_longDivisor 18 = some (.lconst 0, 1) := by decide +kernel
theorem kX1_longDivisor_19 : cdOf kX1_longDivisor 19 = some (.lcmp, 1) := by decide +kernel
theorem kX1_longDivisor_20 : cdOf kX1_longDivisor 20 = some (.ifCond .eq 24, 3) := by decide +kernel
theorem kX1_longDivisor_23 : cdOf kX1_longDivisor 23 = some (.lload 5, 2) := by decide +kernel
theorem kX1_longDivisor_25 : cdOf kX1_longDivisor 25 = some (.lload 7, 2) := by decide +kernel
theorem kX1_longDivisor_27 : cdOf kX1_longDivisor 27 = some (.lrem, 1) := by decide +kernel
theorem kX1_longDivisor_28 : cdOf kX1_longDivisor 28 = some (.lstore 10, 2) := by decide +kernel
theorem kX1_longDivisor_30 : cdOf kX1_longDivisor 30 = some (.lload 7, 2) := by decide +kernel
theorem kX1_longDivisor_32 : cdOf kX1_longDivisor 32 = some (.lstore 5, 2) := by decide +kernel
theorem kX1_longDivisor_34 : cdOf kX1_longDivisor 34 = some (.lload 10, 2) := by decide +kernel
theorem kX1_longDivisor_36 : cdOf kX1_longDivisor 36 = some (.lstore 7, 2) := by decide +kernel
theorem kX1_longDivisor_38 : cdOf kX1_longDivisor 38 = some (.iinc 9 1, 3) := by decide +kernel
theorem kX1_longDivisor_41 : cdOf kX1_longDivisor 41 = some (.goto (-32), 3) := by decide +kernel
theorem kX1_longDivisor_44 : cdOf kX1_longDivisor 44 = some (.lload 5, 2) := by decide +kernel
theorem kX1_longDivisor_46 : cdOf kX1_longDivisor 46 = some (.lreturn, 1) := by decide +kernel
set_option maxRecDepth 20000 in
theorem kX1_longDivisor_ok : ∀ pc i len, cdOf kX1_longDivisor pc = some (i, len) → decode cX1_longDivisor pc = .ok (i, len) ∧ stOK 12 i = true ∧ jOK pc i = true ∧ eLen i len = true := cdOf_ok cX1_longDivisor 12 kX1_longDivisor (by decide +kernel)
def vtX1_longDivisor : Nat → Option (Nat × eSp) := fun _ => none
def stX1_longDivisor : Nat → Option (Nat × eSp) := fun _ => none
abbrev TX1_longDivisor : eT := (fl_RX1, cl_RX1, dl_RX1, vtX1_longDivisor, stX1_longDivisor)
set_option maxRecDepth 20000 in
theorem caX1_longDivisor : eCalls RX1 { frames := 0, cells := 0, slots := 0, locals := 0 } TX1_longDivisor := by
  refine ⟨fun k n sp h => ?_, fun k n sp h => ?_⟩
  · cases h
  · cases h
set_option maxRecDepth 100000 in
set_option maxHeartbeats 4000000 in
theorem sX1_longDivisor : eSafe TX1_longDivisor (cdOf kX1_longDivisor) 12 (some .long) SX1_longDivisor := by
  intro K rt hK as M h
  obtain ⟨F, A, W, a, b, rfl, rfl, ha, hb, h⟩ := h
  refine ⟨by simp [eE], ?_⟩
  have fin : ∀ (x : Nat) (u1 u3 u8 u9 u10 : Option eV) (st : Int), x = Nat.gcd a b → K 44 [some (eR (1, 2)), some (eL a), none, some (eL b), none, some (eL x), none, some (eL 0), none, some (eI st), u10, none] [] (cC F A W) := by
    intro x u1 u3 u8 u9 u10 st hx
    refine x_lload hK kX1_longDivisor_44 (q := 46) rfl rfl ?_
    refine x_lreturn hK kX1_longDivisor_46 (by first | trivial | exact Or.inl rfl | exact Or.inr rfl) ?_
    rw [hx]; exact h
  have loop : ∀ (k st x y : Nat) (u10 : Option eV), y ≤ x → x * y < 2 ^ k → st + k < 1000000 → x < 9223372036854775808 → Nat.gcd x y = Nat.gcd a b → K 9 [some (eR (1, 2)), some (eL a), none, some (eL b), none, some (eL x), none, some (eL y), none, some (eI st), u10, none] [] (cC F A W) := by
    intro k
    induction k with
    | zero =>
      intro st x y u10 hle hk hst hx hg
      have := eu_0 hle hk
      subst this
      refine x_iload hK kX1_longDivisor_9 (q := 11) rfl rfl ?_
      refine x_ldc hK kX1_longDivisor_11 (q := 13) rfl lc_RX1_117 ?_
      refine x_icmp_ge hK kX1_longDivisor_13 (q := 16) rfl (tg := 44) rfl (by refine ⟨?_, ?_⟩ <;> omega) (fun c13 => ?_) (fun c13 => ?_)
      · exfalso; omega
      · refine x_lload hK kX1_longDivisor_16 (q := 18) rfl rfl ?_
        refine x_lconst0 hK kX1_longDivisor_18 (q := 19) rfl ?_
        refine x_lcmp hK kX1_longDivisor_19 (q := 20) rfl (by refine ⟨?_, ?_⟩ <;> omega) ?_
        refine x_ifc_eq hK kX1_longDivisor_20 (q := 23) rfl (tg := 44) rfl (fun c20 => ?_) (fun c20 => ?_)
        · exact fin x none none none none _ _ (by rw [← hg, Nat.gcd_zero_right])
        · exact absurd rfl c20
    | succ k ih =>
      intro st x y u10 hle hk hst hx hg
      have e1 : (x : Int).tmod y = ((x % y : Nat) : Int) := by rw [Int.tmod_eq_emod_of_nonneg (by omega), Int.natCast_emod]
      refine x_iload hK kX1_longDivisor_9 (q := 11) rfl rfl ?_
      refine x_ldc hK kX1_longDivisor_11 (q := 13) rfl lc_RX1_117 ?_
      refine x_icmp_ge hK kX1_longDivisor_13 (q := 16) rfl (tg := 44) rfl (by refine ⟨?_, ?_⟩ <;> omega) (fun c13 => ?_) (fun c13 => ?_)
      · exfalso; omega
      · refine x_lload hK kX1_longDivisor_16 (q := 18) rfl rfl ?_
        refine x_lconst0 hK kX1_longDivisor_18 (q := 19) rfl ?_
        refine x_lcmp hK kX1_longDivisor_19 (q := 20) rfl (by refine ⟨⟨by omega, by omega⟩, by decide⟩) ?_
        refine x_ifc_eq hK kX1_longDivisor_20 (q := 23) rfl (tg := 44) rfl (fun c20 => ?_) (fun c20 => ?_)
        · have y0 : y = 0 := by omega
          subst y0
          exact fin x none none none none _ _ (by rw [← hg, Nat.gcd_zero_right])
        · refine x_lload hK kX1_longDivisor_23 (q := 25) rfl rfl ?_
          refine x_lload hK kX1_longDivisor_25 (q := 27) rfl rfl ?_
          refine x_lrem hK kX1_longDivisor_27 (q := 28) rfl (by refine ⟨⟨by omega, by omega⟩, ⟨by omega, by omega⟩, by omega⟩) ?_
          rw [e1]
          refine x_lstore hK kX1_longDivisor_28 (q := 30) rfl ?_
          refine x_lload hK kX1_longDivisor_30 (q := 32) rfl rfl ?_
          refine x_lstore hK kX1_longDivisor_32 (q := 34) rfl ?_
          refine x_lload hK kX1_longDivisor_34 (q := 36) rfl rfl ?_
          refine x_lstore hK kX1_longDivisor_36 (q := 38) rfl ?_
          refine x_iinc hK kX1_longDivisor_38 (q := 41) rfl rfl ?_
          simp only [lS, lS2, clr_0, clr_I, clr_L, clr_R]
          refine x_goto hK kX1_longDivisor_41 (tg := 9) rfl ?_
          rw [show (st : Int) + 1 = ((st + 1 : Nat) : Int) by omega]
          have e := eu_1 (by omega) hle hk
          exact ih (st + 1) y (x % y) _ e.2 e.1 (by omega) (by omega) (by rw [← hg, Nat.gcd_comm x y, Nat.gcd_rec y x, Nat.gcd_comm])
  have b126 : ∀ x y : Nat, x < 9223372036854775808 → y < 9223372036854775808 → x * y < 2 ^ 126 := fun x y hx hy => by
    have h1 : x * y ≤ 9223372036854775807 * 9223372036854775807 := Nat.mul_le_mul (by omega) (by omega)
    have h2 : (9223372036854775807 : Nat) * 9223372036854775807 < 2 ^ 126 := by decide
    omega
  simp only [eLoc, eE, List.length_cons, List.length_nil, List.replicate, List.cons_append, List.nil_append, Nat.reduceAdd, Nat.reduceSub]
  rcases Nat.lt_or_ge a b with g | g
  · have e1 : (a : Int).tmod b = ((a % b : Nat) : Int) := by rw [Int.tmod_eq_emod_of_nonneg (by omega), Int.natCast_emod]
    refine x_lload_n hK kX1_longDivisor_0 (q := 1) rfl rfl ?_
    refine x_lstore hK kX1_longDivisor_1 (q := 3) rfl ?_
    refine x_lload_n hK kX1_longDivisor_3 (q := 4) rfl rfl ?_
    refine x_lstore hK kX1_longDivisor_4 (q := 6) rfl ?_
    refine x_iconst hK kX1_longDivisor_6 (q := 7) rfl ?_
    refine x_istore hK kX1_longDivisor_7 (q := 9) rfl ?_
    refine x_iload hK kX1_longDivisor_9 (q := 11) rfl rfl ?_
    refine x_ldc hK kX1_longDivisor_11 (q := 13) rfl lc_RX1_117 ?_
    simp only [lS, lS2, clr_0, clr_I, clr_L, clr_R]
    refine x_icmp_ge hK kX1_longDivisor_13 (q := 16) rfl (tg := 44) rfl (by refine ⟨?_, ?_⟩ <;> omega) (fun c13 => ?_) (fun c13 => ?_)
    · exfalso; omega
    · refine x_lload hK kX1_longDivisor_16 (q := 18) rfl rfl ?_
      refine x_lconst0 hK kX1_longDivisor_18 (q := 19) rfl ?_
      refine x_lcmp hK kX1_longDivisor_19 (q := 20) rfl (by refine ⟨⟨by omega, by omega⟩, by decide⟩) ?_
      refine x_ifc_eq hK kX1_longDivisor_20 (q := 23) rfl (tg := 44) rfl (fun c20 => ?_) (fun c20 => ?_)
      · exfalso; omega
      · refine x_lload hK kX1_longDivisor_23 (q := 25) rfl rfl ?_
        refine x_lload hK kX1_longDivisor_25 (q := 27) rfl rfl ?_
        refine x_lrem hK kX1_longDivisor_27 (q := 28) rfl (by refine ⟨⟨by omega, by omega⟩, ⟨by omega, by omega⟩, by omega⟩) ?_
        rw [e1, Nat.mod_eq_of_lt g]
        refine x_lstore hK kX1_longDivisor_28 (q := 30) rfl ?_
        refine x_lload hK kX1_longDivisor_30 (q := 32) rfl rfl ?_
        refine x_lstore hK kX1_longDivisor_32 (q := 34) rfl ?_
        refine x_lload hK kX1_longDivisor_34 (q := 36) rfl rfl ?_
        refine x_lstore hK kX1_longDivisor_36 (q := 38) rfl ?_
        refine x_iinc hK kX1_longDivisor_38 (q := 41) rfl rfl ?_
        simp only [lS, lS2, clr_0, clr_I, clr_L, clr_R]
        refine x_goto hK kX1_longDivisor_41 (tg := 9) rfl ?_
        exact loop 126 1 b a _ (by omega) (b126 b a hb ha) (by decide) hb (Nat.gcd_comm b a)
  · have _u := g
    refine x_lload_n hK kX1_longDivisor_0 (q := 1) rfl rfl ?_
    refine x_lstore hK kX1_longDivisor_1 (q := 3) rfl ?_
    refine x_lload_n hK kX1_longDivisor_3 (q := 4) rfl rfl ?_
    refine x_lstore hK kX1_longDivisor_4 (q := 6) rfl ?_
    refine x_iconst hK kX1_longDivisor_6 (q := 7) rfl ?_
    refine x_istore hK kX1_longDivisor_7 (q := 9) rfl ?_
    simp only [lS, lS2, clr_0, clr_I, clr_L, clr_R]
    exact loop 126 0 a b _ g (b126 a b ha hb) (by decide) ha rfl
set_option maxRecDepth 20000 in
theorem mX1_longDivisor : eMet yX1_longDivisor cX1_longDivisor 12 (some .long) 0 0 SX1_longDivisor := eMet_of (by decide +kernel) sX1_longDivisor kX1_longDivisor_ok caX1_longDivisor tb_RX1
theorem wX1_longDivisor : eWV yX1_longDivisor cX1_longDivisor 12 (some .long) 3 1 SX1_longDivisor := ⟨(gW_at 464 (by decide +kernel) rfl), (gW_at 80 (by decide +kernel) rfl), (gW_at 463 (by decide +kernel) rfl), ⟨_, rfl, (gW_at 6 (by decide +kernel) rfl)⟩, by decide +kernel, SX1_longDivisor_r⟩
def dv (W : Nat → Int → Int) (t : Nat) : Prop := ∃ v, wq (lw t) (W t) v
/-- a desk's number has room for all -/
theorem to_d {j t : Nat} {f : Int → Int} {z : Int} (ht : t < 10) (h : wq (lw j) f z) : zAbs z < cB ^ lw t := by
  rw [lw_d ht]
  exact wq_64 h
theorem lt_d {t : Nat} {x : Int} (ht : t < 10) (h : x < cB ^ 62) : x < cB ^ lw t := by
  rw [lw_d ht]
  have := cB_mono (show 62 ≤ 64 by decide)
  omega
theorem wq_u2 {L : Nat} {f : Int → Int} {z : Int} (h : wq L f z) (h2 : f 80 < 3) : zAbs z < 4611686018427387904 := by
  obtain ⟨n, a, b, c, d, e1, e2⟩ := h
  have h1 := (wq_n c d e1).2.1
  have h3 := cB_mono (show n ≤ 2 by omega)
  have : cB ^ 2 = 4611686018427387904 := by decide
  omega
theorem c62 : cB ^ 62 * cB ^ 62 = 2 ^ 3844 := by
  rw [← Int.pow_add, show cB = 2 ^ 31 by decide, ← Int.pow_mul]
def SX1_divisor : eSp := fun as M rt => ∃ (F : Nat → Int) (A W : Nat → Int → Int) (a b : Nat) (x y : Int), as = [eR (1, 2), eR (2, a), eR (2, b)] ∧ M = cC F A W ∧ (a < 332) ∧ (b < 332) ∧ (4 ≤ a) ∧ (4 ≤ b) ∧ (wq (lw a) (W a) x) ∧ (wq (lw b) (W b) y) ∧ (zAbs x < cB ^ 62) ∧ (zAbs y < cB ^ 62) ∧ (dv W 2) ∧ (dv W 3) ∧ (∀ (W' : Nat → Int → Int) (r : Nat), (r = 0 ∨ r = 1) → (∀ t, 4 ≤ t → W' t = W t) → (∀ t, t < 4 → dv W' t) → wq (lw r) (W' r) (Int.gcd x y : Int) → rt (some (eR (2, r))) (cC F A W'))
theorem SX1_divisor_i {F : Nat → Int} {A W : Nat → Int → Int} {a b : Nat} {x y : Int} {rt : Option eV → eM → Prop} (ha : a < 332) (hb : b < 332) (a4 : 4 ≤ a) (b4 : 4 ≤ b) (hx : wq (lw a) (W a) x) (hy : wq (lw b) (W b) y) (x78 : zAbs x < cB ^ 62) (y78 : zAbs y < cB ^ 62) (d2 : dv W 2) (d3 : dv W 3) (h : ∀ (W' : Nat → Int → Int) (r : Nat), (r = 0 ∨ r = 1) → (∀ t, 4 ≤ t → W' t = W t) → (∀ t, t < 4 → dv W' t) → wq (lw r) (W' r) (Int.gcd x y : Int) → rt (some (eR (2, r))) (cC F A W')) : SX1_divisor [eR (1, 2), eR (2, a), eR (2, b)] (cC F A W) rt := ⟨F, A, W, a, b, x, y, rfl, rfl, ha, hb, a4, b4, hx, hy, x78, y78, d2, d3, h⟩
theorem SX1_divisor_r : ∀ as M rt, SX1_divisor as M rt → ∃ a r fs, as = eR a :: r ∧ M a = some (.inl (1, fs)) := by
  rintro as M rt ⟨F, A, W, a, b, x, y, rfl, rfl, -⟩
  exact ⟨_, _, _, rfl, rfl⟩
def kX1_divisor : List (Nat × Jvm.ClassFile.Instr × Nat) := [(0, .aload_n 0, 1), (1, .getfield 14, 3), (4, .aload_n 1, 1), (5, .invokevirtual 89, 3), (8, .aload_n 0, 1), (9, .getfield 14, 3), (12, .invokevirtual 114, 3), (15, .aload_n 0, 1), (16, .getfield 20, 3), (19, .aload_n 2, 1), (20, .invokevirtual 89, 3), (23, .aload_n 0, 1), (24, .getfield 20, 3), (27, .invokevirtual 114, 3), (30, .aload_n 0, 1), (31, .getfield 14, 3), (34, .astore_n 3, 1), (35, .aload_n 0, 1), (36, .getfield 20, 3), (39, .astore 4, 2), (41, .iconst 0, 1), (42, .istore 5, 2), (44, .iload 5, 2), (46, .ldc 117, 2), (48, .if_icmp .ge 74, 3), (51, .aload 4, 2), (53, .invokevirtual 47, 3), (56, .ifCond .ne 66, 3), (59, .aload_n 3, 1), (60, .getfield 71, 3), (63, .iconst 3, 1), (64, .if_icmp .ge 31, 3), (67, .aload 4, 2), (69, .getfield 71, 3), (72, .iconst 3, 1), (73, .if_icmp .ge 22, 3), (76, .aload_n 3, 1), (77, .aload_n 0, 1), (78, .aload_n 3, 1), (79, .invokevirtual 118, 3), (82, .aload 4, 2), (84, .invokevirtual 118, 3), (87, .invokevirtual 122, 3), (90, .invokevirtual 59, 3), (93, .aload_n 3, 1), (94, .areturn, 1), (95, .aload_n 0, 1), (96, .aload_n 3, 1), (97, .aload 4, 2), (99, .aload_n 0, 1), (100, .getfield 26, 3), (103, .invokevirtual 126, 3), (106, .aload_n 3, 1), (107, .astore 6, 2), (109, .aload 4, 2), (111, .astore_n 3, 1), (112, .aload 6, 2), (114, .astore 4, 2), (116, .iinc 5 1, 3), (119, .goto (-75), 3), (122, .aload_n 3, 1), (123, .areturn, 1)]
theorem kX1_divisor_0 : cdOf kX1_divisor 0 = some (.aload_n 0, 1) := by decide +kernel
theorem kX1_divisor_1 : cdOf kX1_divisor 1 = some (.getfield 14, 3) := by decide +kernel
theorem kX1_divisor_4 : cdOf kX1_divisor 4 = some (.aload_n 1, 1) := by decide +kernel
theorem kX1_divisor_5 : cdOf kX1_divisor 5 = some (.invokevirtual 89, 3) := by decide +kernel
theorem kX1_divisor_8 : cdOf kX1_divisor 8 = some (.aload_n 0, 1) := by decide +kernel
theorem kX1_divisor_9 : cdOf kX1_divisor 9 = some (.getfield 14, 3) := by decide +kernel
theorem kX1_divisor_12 : cdOf kX1_divisor 12 = some (.invokevirtual 114, 3) := by decide +kernel
theorem kX1_divisor_15 : cdOf kX1_divisor 15 = some (.aload_n 0, 1) := by decide +kernel
theorem kX1_divisor_16 : cdOf kX1_divisor 16 = some (.getfield 20, 3) := by decide +kernel
theorem kX1_divisor_19 : cdOf kX1_divisor 19 = some (.aload_n 2, 1) := by decide +kernel
theorem kX1_divisor_20 : cdOf kX1_divisor 20 = some (.invokevirtual 89, 3) := by decide +kernel
theorem kX1_divisor_23 : cdOf kX1_divisor 23 = some (.aload_n 0, 1) := by decide +kernel
theorem kX1_divisor_24 : cdOf kX1_divisor 24 = some (.getfield 20, 3) := by decide +kernel
theorem kX1_divisor_27 : cdOf kX1_divisor 27 = some (.invokevirtual 114, 3) := by decide +kernel
theorem kX1_divisor_30 : cdOf kX1_divisor 30 = some (.aload_n 0, 1) := by decide +kernel
theorem kX1_divisor_31 : cdOf kX1_divisor 31 = some (.getfield 14, 3) := by decide +kernel
theorem kX1_divisor_34 : cdOf kX1_divisor 34 = some (.astore_n 3, 1) := by decide +kernel
theorem kX1_divisor_35 : cdOf kX1_divisor 35 = some (.aload_n 0, 1) := by decide +kernel
theorem kX1_divisor_36 : cdOf kX1_divisor 36 = some (.getfield 20, 3) := by decide +kernel
theorem kX1_divisor_39 : cdOf kX1_divisor 39 = some (.astore 4, 2) := by decide +kernel
theorem kX1_divisor_41 : cdOf kX1_divisor 41 = some (.iconst 0, 1) := by decide +kernel
theorem kX1_divisor_42 : cdOf kX1_divisor 42 = some (.istore 5, 2) := by decide +kernel
theorem kX1_divisor_44 : cdOf kX1_divisor 44 = some (.iload 5, 2) := by decide +kernel
theorem kX1_divisor_46 : cdOf kX1_divisor 46 = some (.ldc 117, 2) := by decide +kernel
theorem kX1_divisor_48 : cdOf kX1_divisor 48 = some (.if_icmp .ge 74, 3) := by decide +kernel
theorem kX1_divisor_51 : cdOf kX1_divisor 51 = some (.aload 4, 2) := by decide +kernel
theorem kX1_divisor_53 : cdOf kX1_divisor 53 = some (.invokevirtual 47, 3) := by decide +kernel
theorem kX1_divisor_56 : cdOf kX1_divisor 56 = some (.ifCond .ne 66, 3) := by decide +kernel
theorem kX1_divisor_59 : cdOf kX1_divisor 59 = some (.aload_n 3, 1) := by decide +kernel
theorem kX1_divisor_60 : cdOf kX1_divisor 60 = some (.getfield 71, 3) := by decide +kernel
theorem kX1_divisor_63 : cdOf kX1_divisor 63 = some (.iconst 3, 1) := by decide +kernel
theorem kX1_divisor_64 : cdOf kX1_divisor 64 = some (.if_icmp .ge 31, 3) := by decide +kernel
theorem kX1_divisor_67 : cdOf kX1_divisor 67 = some (.aload 4, 2) := by decide +kernel
theorem kX1_divisor_69 : cdOf kX1_divisor 69 = some (.getfield 71, 3) := by decide +kernel
theorem kX1_divisor_72 : cdOf kX1_divisor 72 = some (.iconst 3, 1) := by decide +kernel
theorem kX1_divisor_73 : cdOf kX1_divisor 73 = some (.if_icmp .ge 22, 3) := by decide +kernel
theorem kX1_divisor_76 : cdOf kX1_divisor 76 = some (.aload_n 3, 1) := by decide +kernel
theorem kX1_divisor_77 : cdOf kX1_divisor 77 = some (.aload_n 0, 1) := by decide +kernel
theorem kX1_divisor_78 : cdOf kX1_divisor 78 = some (.aload_n 3, 1) := by decide +kernel
theorem kX1_divisor_79 : cdOf kX1_divisor 79 = some (.invokevirtual 118, 3) := by decide +kernel
theorem kX1_divisor_82 : cdOf kX1_divisor 82 = some (.aload 4, 2) := by decide +kernel
theorem kX1_divisor_84 : cdOf kX1_divisor 84 = some (.invokevirtual 118, 3) := by decide +kernel
theorem kX1_divisor_87 : cdOf kX1_divisor 87 = some (.invokevirtual 122, 3) := by decide +kernel
theorem kX1_divisor_90 : cdOf kX1_divisor 90 = some (.invokevirtual 59, 3) := by decide +kernel
theorem kX1_divisor_93 : cdOf kX1_divisor 93 = some (.aload_n 3, 1) := by decide +kernel
theorem kX1_divisor_94 : cdOf kX1_divisor 94 = some (.areturn, 1) := by decide +kernel
theorem kX1_divisor_95 : cdOf kX1_divisor 95 = some (.aload_n 0, 1) := by decide +kernel
theorem kX1_divisor_96 : cdOf kX1_divisor 96 = some (.aload_n 3, 1) := by decide +kernel
theorem kX1_divisor_97 : cdOf kX1_divisor 97 = some (.aload 4, 2) := by decide +kernel
theorem kX1_divisor_99 : cdOf kX1_divisor 99 = some (.aload_n 0, 1) := by decide +kernel
theorem kX1_divisor_100 : cdOf kX1_divisor 100 = some (.getfield 26, 3) := by decide +kernel
theorem kX1_divisor_103 : cdOf kX1_divisor 103 = some (.invokevirtual 126, 3) := by decide +kernel
theorem kX1_divisor_106 : cdOf kX1_divisor 106 = some (.aload_n 3, 1) := by decide +kernel
theorem kX1_divisor_107 : cdOf kX1_divisor 107 = some (.astore 6, 2) := by decide +kernel
theorem kX1_divisor_109 : cdOf kX1_divisor 109 = some (.aload 4, 2) := by decide +kernel
theorem kX1_divisor_111 : cdOf kX1_divisor 111 = some (.astore_n 3, 1) := by decide +kernel
theorem kX1_divisor_112 : cdOf kX1_divisor 112 = some (.aload 6, 2) := by decide +kernel
theorem kX1_divisor_114 : cdOf kX1_divisor 114 = some (.astore 4, 2) := by decide +kernel
theorem kX1_divisor_116 : cdOf kX1_divisor 116 = some (.iinc 5 1, 3) := by decide +kernel
theorem kX1_divisor_119 : cdOf kX1_divisor 119 = some (.goto (-75), 3) := by decide +kernel
theorem kX1_divisor_122 : cdOf kX1_divisor 122 = some (.aload_n 3, 1) := by decide +kernel
theorem kX1_divisor_123 : cdOf kX1_divisor 123 = some (.areturn, 1) := by decide +kernel
set_option maxRecDepth 20000 in
theorem kX1_divisor_ok : ∀ pc i len, cdOf kX1_divisor pc = some (i, len) → decode cX1_divisor pc = .ok (i, len) ∧ stOK 7 i = true ∧ jOK pc i = true ∧ eLen i len = true := cdOf_ok cX1_divisor 7 kX1_divisor (by decide +kernel)
def vtX1_divisor : Nat → Option (Nat × eSp) := fun k => match k with
  | 89 => some (2, SX8_copy)
  | 114 => some (1, SX8_unsign)
  | 47 => some (1, SX8_isZero)
  | 118 => some (1, SX8_toLong)
  | 122 => some (3, SX1_longDivisor)
  | 59 => some (2, SX8_set)
  | 126 => some (4, SX1_divide)
  | _ => none
theorem vtX1_divisor_89 : vtX1_divisor 89 = some (2, SX8_copy) := rfl
theorem vtX1_divisor_114 : vtX1_divisor 114 = some (1, SX8_unsign) := rfl
theorem vtX1_divisor_47 : vtX1_divisor 47 = some (1, SX8_isZero) := rfl
theorem vtX1_divisor_118 : vtX1_divisor 118 = some (1, SX8_toLong) := rfl
theorem vtX1_divisor_122 : vtX1_divisor 122 = some (3, SX1_longDivisor) := rfl
theorem vtX1_divisor_59 : vtX1_divisor 59 = some (2, SX8_set) := rfl
theorem vtX1_divisor_126 : vtX1_divisor 126 = some (4, SX1_divide) := rfl
def stX1_divisor : Nat → Option (Nat × eSp) := fun _ => none
abbrev TX1_divisor : eT := (fl_RX1, cl_RX1, dl_RX1, vtX1_divisor, stX1_divisor)
set_option maxRecDepth 20000 in
theorem caX1_divisor : eCalls RX1 { frames := 2, cells := 0, slots := 0, locals := 64 } TX1_divisor := by
  refine ⟨fun k n sp h => ?_, fun k n sp h => ?_⟩
  · dsimp only [TX1_divisor] at h
    unfold vtX1_divisor at h
    split at h
    · cases h; exact eV_mk mX8_copy wX8_copy (by decide +kernel) (Or.inl (gW_at 443 (by decide +kernel) rfl))
    · cases h; exact eV_mk mX8_unsign wX8_unsign (by decide +kernel) (Or.inl (gW_at 451 (by decide +kernel) rfl))
    · cases h; exact eV_mk mX8_isZero wX8_isZero (by decide +kernel) (Or.inl (gW_at 456 (by decide +kernel) rfl))
    · cases h; exact eV_mk mX8_toLong wX8_toLong (by decide +kernel) (Or.inl (gW_at 457 (by decide +kernel) rfl))
    · cases h; exact eV_mk mX1_longDivisor wX1_longDivisor (by decide +kernel) (Or.inl (gW_at 461 (by decide +kernel) rfl))
    · cases h; exact eV_mk mX8_set wX8_set (by decide +kernel) (Or.inl (gW_at 465 (by decide +kernel) rfl))
    · cases h; exact eV_mk mX1_divide wX1_divide (by decide +kernel) (Or.inl (gW_at 466 (by decide +kernel) rfl))
    · cases h
  · cases h
set_option maxRecDepth 100000 in
set_option maxHeartbeats 4000000 in
theorem sX1_divisor : eSafe TX1_divisor (cdOf kX1_divisor) 7 (some (.object "ConicMeet$Whole")) SX1_divisor := by
  intro K rt hK as M h
  obtain ⟨F, A, W, a, b, x, y, rfl, rfl, ha, hb, a4, b4, hx, hy, x78, y78, d2, d3, h⟩ := h
  refine ⟨by simp [eE], ?_⟩
  obtain ⟨p, hp⟩ : ∃ p : Nat, zAbs x = p := ⟨x.natAbs, zAbs_n x⟩
  obtain ⟨q, hq⟩ : ∃ q : Nat, zAbs y = q := ⟨y.natAbs, zAbs_n y⟩
  have hG : Int.gcd x y = Nat.gcd p q := by
    have e1 := zAbs_n x
    have e2 := zAbs_n y
    rw [hp] at e1
    rw [hq] at e2
    show Nat.gcd x.natAbs y.natAbs = _
    rw [show x.natAbs = p by omega, show y.natAbs = q by omega]
  rw [hG] at h
  have fin : ∀ (W' : Nat → Int → Int) (hi : Nat) (g : Nat) (u4 u5 u6 : Option eV), (hi = 0 ∨ hi = 1) → (∀ t, 4 ≤ t → W' t = W t) → (∀ t, t < 4 → dv W' t) → wq (lw hi) (W' hi) (g : Int) → g = Nat.gcd p q → K 122 [some (eR (1, 2)), some (eR (2, a)), some (eR (2, b)), some (eR (2, hi)), u4, u5, u6] [] (cC F A W') := by
    intro W' hi g u4 u5 u6 h1 h2 h3 h4 h5
    refine x_aload_n hK kX1_divisor_122 (q := 123) rfl rfl ?_
    refine x_areturn hK kX1_divisor_123 (by first | trivial | exact Or.inl rfl | exact Or.inr rfl) ?_
    exact h W' hi h1 h2 h3 (by rw [← h5]; exact h4)
  have loop : ∀ (k st hi lo : Nat) (W' : Nat → Int → Int) (x y : Nat) (u6 : Option eV), ((hi = 0 ∧ lo = 1) ∨ (hi = 1 ∧ lo = 0)) → ((y ≤ x ∧ x * y < 2 ^ k) ∨ (x < y ∧ x * y < 2 ^ (k - 1) ∧ 0 < k)) → st + k < 1000000 → (x : Int) < cB ^ 62 → (y : Int) < cB ^ 62 → Nat.gcd x y = Nat.gcd p q → wq (lw hi) (W' hi) (x : Int) → wq (lw lo) (W' lo) (y : Int) → (∀ t, 4 ≤ t → W' t = W t) → (∀ t, t < 4 → dv W' t) →
      K 44 [some (eR (1, 2)), some (eR (2, a)), some (eR (2, b)), some (eR (2, hi)), some (eR (2, lo)), some (eI st), u6] [] (cC F A W') := by
    intro k
    induction k with
    | zero =>
      intro st hi lo W' x y u6 hl hk hst hx hy hg wx wy fr dd
      rcases hk with ⟨hle, hk⟩ | ⟨_, _, h0⟩
      · have := eu_0 hle hk
        subst this
        have zz : zZ ((0 : Nat) : Int) = 1 := rfl
        refine x_iload hK kX1_divisor_44 (q := 46) rfl rfl ?_
        refine x_ldc hK kX1_divisor_46 (q := 48) rfl lc_RX1_117 ?_
        refine x_icmp_ge hK kX1_divisor_48 (q := 51) rfl (tg := 122) rfl (by refine ⟨?_, ?_⟩ <;> omega) (fun c48 => ?_) (fun c48 => ?_)
        · exfalso; omega
        · refine x_aload hK kX1_divisor_51 (q := 53) rfl rfl ?_
          refine x_cv1 hK kX1_divisor_53 (q := 56) rfl (vtX1_divisor_47) (Nat.le_of_ble_eq_true rfl) ?_
          refine SX8_isZero_i (by omega) wy ?_
          refine x_if_ne hK kX1_divisor_56 (q := 59) rfl (tg := 122) rfl (by exact zZ_w _) (fun c56 => ?_) (fun c56 => ?_)
          · exact fin W' hi x _ _ _ (by omega) fr dd wx (by rw [← hg, Nat.gcd_zero_right])
          · rw [zz] at c56; exact absurd (by decide) c56
      · omega
    | succ k ih =>
      intro st hi lo W' x y u6 hl hk hst hx hy hg wx wy fr dd
      have hhi : hi < 332 := by omega
      have hlo : lo < 332 := by omega
      have gr : 0 < y → Nat.gcd y (x % y) = Nat.gcd p q := fun _ => by rw [← hg, Nat.gcd_comm x y, Nat.gcd_rec y x, Nat.gcd_comm]
      have nx : 0 < y → (x % y ≤ y ∧ y * (x % y) < 2 ^ k) ∨ (y < x % y ∧ y * (x % y) < 2 ^ (k - 1) ∧ 0 < k) := fun y0 => by
        rcases hk with ⟨hle, hk⟩ | ⟨hlt, hk, _⟩
        · have := eu_1 y0 hle hk
          exact Or.inl ⟨this.2, this.1⟩
        · refine Or.inl ⟨by have := Nat.mod_lt x y0; omega, ?_⟩
          rw [Nat.mod_eq_of_lt hlt, Nat.mul_comm]
          exact hk
      refine x_iload hK kX1_divisor_44 (q := 46) rfl rfl ?_
      refine x_ldc hK kX1_divisor_46 (q := 48) rfl lc_RX1_117 ?_
      refine x_icmp_ge hK kX1_divisor_48 (q := 51) rfl (tg := 122) rfl (by refine ⟨?_, ?_⟩ <;> omega) (fun c48 => ?_) (fun c48 => ?_)
      · exfalso; omega
      · refine x_aload hK kX1_divisor_51 (q := 53) rfl rfl ?_
        refine x_cv1 hK kX1_divisor_53 (q := 56) rfl (vtX1_divisor_47) (Nat.le_of_ble_eq_true rfl) ?_
        refine SX8_isZero_i hlo wy ?_
        refine x_if_ne hK kX1_divisor_56 (q := 59) rfl (tg := 122) rfl (by exact zZ_w _) (fun c56 => ?_) (fun c56 => ?_)
        · have y0 : y = 0 := by
            rcases Nat.eq_zero_or_pos y with g | g
            · exact g
            · exact absurd (zZ_0.mpr (by omega)) c56
          subst y0
          exact fin W' hi x _ _ _ (by omega) fr dd wx (by rw [← hg, Nat.gcd_zero_right])
        · have y0 : 0 < y := by have := zZ_0.mp (Decidable.not_not.mp c56); omega
          refine x_aload_n hK kX1_divisor_59 (q := 60) rfl rfl ?_
          refine x_getfield hK kX1_divisor_60 (q := 63) rfl (gX1_71 ?_)
          refine x_iconst hK kX1_divisor_63 (q := 64) rfl ?_
          refine x_icmp_ge hK kX1_divisor_64 (q := 67) rfl (tg := 95) rfl (by 
                have := wq_80 wx
                have := lw_b hi
                exact ⟨⟨by omega, by omega⟩, by decide⟩) (fun c64 => ?_) (fun c64 => ?_)
          · refine x_aload_n hK kX1_divisor_95 (q := 96) rfl rfl ?_
            refine x_aload_n hK kX1_divisor_96 (q := 97) rfl rfl ?_
            refine x_aload hK kX1_divisor_97 (q := 99) rfl rfl ?_
            refine x_aload_n hK kX1_divisor_99 (q := 100) rfl rfl ?_
            refine x_getfield hK kX1_divisor_100 (q := 103) rfl (gX1_26 ?_)
            refine x_cv4 hK kX1_divisor_103 (q := 106) rfl (vtX1_divisor_126) (Nat.le_of_ble_eq_true rfl) ?_
            refine SX1_divide_i (j := hi) (b := lo) (c := 3) hhi hlo (by decide) (by omega) (by omega) (by decide) (by omega) (by omega) (by omega) wx wy (by omega) (by omega) hx (lw_d (by omega)) (lt_d (by decide) hx) (dd 2 (by decide)) (fun W2 g1 g2 g3 g4 => ?_)
            refine x_aload_n hK kX1_divisor_106 (q := 107) rfl rfl ?_
            refine x_astore hK kX1_divisor_107 (q := 109) rfl ?_
            refine x_aload hK kX1_divisor_109 (q := 111) rfl rfl ?_
            refine x_astore_n hK kX1_divisor_111 (q := 112) (jn := 3) rfl rfl ?_
            refine x_aload hK kX1_divisor_112 (q := 114) rfl rfl ?_
            refine x_astore hK kX1_divisor_114 (q := 116) rfl ?_
            refine x_iinc hK kX1_divisor_116 (q := 119) rfl rfl ?_
            simp only [lS, lS2, clr_0, clr_I, clr_L, clr_R]
            refine x_goto hK kX1_divisor_119 (tg := 44) rfl ?_
            rw [show (st : Int) + 1 = ((st + 1 : Nat) : Int) by omega]
            rw [← Int.natCast_emod] at g3
            have gl : W2 lo = W' lo := g1 lo (by omega) (by omega) (by omega)
            refine ih (st + 1) lo hi W2 y (x % y) _ (by omega) (nx y0) (by omega) hy (by have := Nat.mod_lt x y0; omega) (gr y0) (by rw [gl]; exact wy) g3 (fun t ht => by rw [g1 t (by omega) (by omega) (by omega)]; exact fr t ht) (fun t ht => ?_)
            have ht' : t = 2 ∨ t = 3 ∨ t = hi ∨ t = lo := by omega
            rcases ht' with e | e | e | e
            · rw [e]; exact g4
            · rw [e]; exact ⟨_, g2⟩
            · rw [e]; exact ⟨_, g3⟩
            · rw [e]; exact ⟨_, by rw [gl]; exact wy⟩
          · refine x_aload hK kX1_divisor_67 (q := 69) rfl rfl ?_
            refine x_getfield hK kX1_divisor_69 (q := 72) rfl (gX1_71 ?_)
            refine x_iconst hK kX1_divisor_72 (q := 73) rfl ?_
            refine x_icmp_ge hK kX1_divisor_73 (q := 76) rfl (tg := 95) rfl (by 
                  have := wq_80 wy
                  have := lw_b lo
                  exact ⟨⟨by omega, by omega⟩, by decide⟩) (fun c73 => ?_) (fun c73 => ?_)
            · refine x_aload_n hK kX1_divisor_95 (q := 96) rfl rfl ?_
              refine x_aload_n hK kX1_divisor_96 (q := 97) rfl rfl ?_
              refine x_aload hK kX1_divisor_97 (q := 99) rfl rfl ?_
              refine x_aload_n hK kX1_divisor_99 (q := 100) rfl rfl ?_
              refine x_getfield hK kX1_divisor_100 (q := 103) rfl (gX1_26 ?_)
              refine x_cv4 hK kX1_divisor_103 (q := 106) rfl (vtX1_divisor_126) (Nat.le_of_ble_eq_true rfl) ?_
              refine SX1_divide_i (j := hi) (b := lo) (c := 3) hhi hlo (by decide) (by omega) (by omega) (by decide) (by omega) (by omega) (by omega) wx wy (by omega) (by omega) hx (lw_d (by omega)) (lt_d (by decide) hx) (dd 2 (by decide)) (fun W2 g1 g2 g3 g4 => ?_)
              refine x_aload_n hK kX1_divisor_106 (q := 107) rfl rfl ?_
              refine x_astore hK kX1_divisor_107 (q := 109) rfl ?_
              refine x_aload hK kX1_divisor_109 (q := 111) rfl rfl ?_
              refine x_astore_n hK kX1_divisor_111 (q := 112) (jn := 3) rfl rfl ?_
              refine x_aload hK kX1_divisor_112 (q := 114) rfl rfl ?_
              refine x_astore hK kX1_divisor_114 (q := 116) rfl ?_
              refine x_iinc hK kX1_divisor_116 (q := 119) rfl rfl ?_
              simp only [lS, lS2, clr_0, clr_I, clr_L, clr_R]
              refine x_goto hK kX1_divisor_119 (tg := 44) rfl ?_
              rw [show (st : Int) + 1 = ((st + 1 : Nat) : Int) by omega]
              rw [← Int.natCast_emod] at g3
              have gl : W2 lo = W' lo := g1 lo (by omega) (by omega) (by omega)
              refine ih (st + 1) lo hi W2 y (x % y) _ (by omega) (nx y0) (by omega) hy (by have := Nat.mod_lt x y0; omega) (gr y0) (by rw [gl]; exact wy) g3 (fun t ht => by rw [g1 t (by omega) (by omega) (by omega)]; exact fr t ht) (fun t ht => ?_)
              have ht' : t = 2 ∨ t = 3 ∨ t = hi ∨ t = lo := by omega
              rcases ht' with e | e | e | e
              · rw [e]; exact g4
              · rw [e]; exact ⟨_, g2⟩
              · rw [e]; exact ⟨_, g3⟩
              · rw [e]; exact ⟨_, by rw [gl]; exact wy⟩
            · refine x_aload_n hK kX1_divisor_76 (q := 77) rfl rfl ?_
              refine x_aload_n hK kX1_divisor_77 (q := 78) rfl rfl ?_
              refine x_aload_n hK kX1_divisor_78 (q := 79) rfl rfl ?_
              refine x_cv1 hK kX1_divisor_79 (q := 82) rfl (vtX1_divisor_118) (Nat.le_of_ble_eq_true rfl) ?_
              refine SX8_toLong_i hhi wx (by have := wq_u2 wx (by omega); omega) ?_
              refine x_aload hK kX1_divisor_82 (q := 84) rfl rfl ?_
              refine x_cv1 hK kX1_divisor_84 (q := 87) rfl (vtX1_divisor_118) (Nat.le_of_ble_eq_true rfl) ?_
              refine SX8_toLong_i hlo wy (by have := wq_u2 wy (by omega); omega) ?_
              have x62 := wq_u2 wx (by omega)
              have y62 := wq_u2 wy (by omega)
              rw [zAbs_nn (by omega)] at x62 y62
              refine x_cv3 hK kX1_divisor_87 (q := 90) rfl (vtX1_divisor_122) (Nat.le_of_ble_eq_true rfl) ?_
              refine SX1_longDivisor_i (a := x) (b := y) (by omega) (by omega) ?_
              have gle : Nat.gcd x y ≤ y := Nat.le_of_dvd y0 (Nat.gcd_dvd_right x y)
              refine x_cv2 hK kX1_divisor_90 (q := 93) rfl (vtX1_divisor_59) (Nat.le_of_ble_eq_true rfl) ?_
              refine SX8_set_i hhi ⟨by omega, by omega⟩ (fun f hf => ?_)
              refine x_aload_n hK kX1_divisor_93 (q := 94) rfl rfl ?_
              refine x_areturn hK kX1_divisor_94 (by first | trivial | exact Or.inl rfl | exact Or.inr rfl) ?_
              refine h _ hi (by omega) (fun t ht => by rw [uA_n _ _ (by omega)]; exact fr t ht) (fun t ht => ?_) (by rw [uA_g, ← hg]; exact hf)
              by_cases e : t = hi
              · rw [e]; exact ⟨_, by rw [uA_g]; exact hf⟩
              · obtain ⟨v, hv⟩ := dd t ht
                exact ⟨v, by rw [uA_n _ _ e]; exact hv⟩
  have bpq : p * q < 2 ^ 3844 := by
    have h1 : (p : Int) * q < cB ^ 62 * cB ^ 62 := by
      have c := cB_pos 62
      have h2 := Int.mul_le_mul (show (p : Int) ≤ cB ^ 62 - 1 by omega) (show (q : Int) ≤ cB ^ 62 by omega) (by omega) (by omega)
      have h3 : (cB ^ 62 - 1) * cB ^ 62 = cB ^ 62 * cB ^ 62 - cB ^ 62 := by rw [Int.sub_mul, Int.one_mul]
      omega
    rw [c62] at h1
    have h2 : ((p * q : Nat) : Int) < ((2 ^ 3844 : Nat) : Int) := by
      rw [Int.natCast_mul, Int.natCast_pow]
      exact h1
    omega
  simp only [eLoc, eE, List.length_cons, List.length_nil, List.replicate, List.cons_append, List.nil_append, Nat.reduceAdd, Nat.reduceSub]
  refine x_aload_n hK kX1_divisor_0 (q := 1) rfl rfl ?_
  refine x_getfield hK kX1_divisor_1 (q := 4) rfl (gX1_14 ?_)
  refine x_aload_n hK kX1_divisor_4 (q := 5) rfl rfl ?_
  refine x_cv2 hK kX1_divisor_5 (q := 8) rfl (vtX1_divisor_89) (Nat.le_of_ble_eq_true rfl) ?_
  refine SX8_copy_i (by decide) ha (by omega) hx (lt_d (by decide) x78) (fun f0 hf0 => ?_)
  refine x_aload_n hK kX1_divisor_8 (q := 9) rfl rfl ?_
  refine x_getfield hK kX1_divisor_9 (q := 12) rfl (gX1_14 ?_)
  refine x_cv1 hK kX1_divisor_12 (q := 15) rfl (vtX1_divisor_114) (Nat.le_of_ble_eq_true rfl) ?_
  refine SX8_unsign_i (z := x) (by decide) (by rw [uA_g]; exact hf0) (fun f1 hf1 => ?_)
  rw [uA_u]
  rw [hp] at hf1
  refine x_aload_n hK kX1_divisor_15 (q := 16) rfl rfl ?_
  refine x_getfield hK kX1_divisor_16 (q := 19) rfl (gX1_20 ?_)
  refine x_aload_n hK kX1_divisor_19 (q := 20) rfl rfl ?_
  refine x_cv2 hK kX1_divisor_20 (q := 23) rfl (vtX1_divisor_89) (Nat.le_of_ble_eq_true rfl) ?_
  refine SX8_copy_i (by decide) hb (by omega) (by rw [uA_n _ _ (by omega)]; exact hy) (lt_d (by decide) y78) (fun f2 hf2 => ?_)
  refine x_aload_n hK kX1_divisor_23 (q := 24) rfl rfl ?_
  refine x_getfield hK kX1_divisor_24 (q := 27) rfl (gX1_20 ?_)
  refine x_cv1 hK kX1_divisor_27 (q := 30) rfl (vtX1_divisor_114) (Nat.le_of_ble_eq_true rfl) ?_
  refine SX8_unsign_i (z := y) (by decide) (by rw [uA_g]; exact hf2) (fun f3 hf3 => ?_)
  rw [uA_u]
  rw [hq] at hf3
  refine x_aload_n hK kX1_divisor_30 (q := 31) rfl rfl ?_
  refine x_getfield hK kX1_divisor_31 (q := 34) rfl (gX1_14 ?_)
  refine x_astore_n hK kX1_divisor_34 (q := 35) (jn := 3) rfl rfl ?_
  refine x_aload_n hK kX1_divisor_35 (q := 36) rfl rfl ?_
  refine x_getfield hK kX1_divisor_36 (q := 39) rfl (gX1_20 ?_)
  refine x_astore hK kX1_divisor_39 (q := 41) rfl ?_
  refine x_iconst hK kX1_divisor_41 (q := 42) rfl ?_
  refine x_istore hK kX1_divisor_42 (q := 44) rfl ?_
  simp only [lS, lS2, clr_0, clr_I, clr_L, clr_R]
  refine loop 3845 0 0 1 _ p q _ (Or.inl ⟨rfl, rfl⟩) ?_ (by decide) (by omega) (by omega) rfl (by rw [uA_n _ _ (by decide), uA_g]; exact hf1) (by rw [uA_g]; exact hf3) (fun t ht => by rw [uA_n _ _ (by omega), uA_n _ _ (by omega)]) (fun t ht => ?_)
  · rcases Nat.lt_or_ge p q with g | g
    · exact Or.inr ⟨g, bpq, by decide⟩
    · exact Or.inl ⟨g, Nat.lt_of_lt_of_le bpq (Nat.pow_le_pow_right (by decide) (by decide))⟩
  · have ht' : t = 0 ∨ t = 1 ∨ t = 2 ∨ t = 3 := by omega
    rcases ht' with rfl | rfl | rfl | rfl
    · exact ⟨_, by rw [uA_n _ _ (by decide), uA_g]; exact hf1⟩
    · exact ⟨_, by rw [uA_g]; exact hf3⟩
    · obtain ⟨v, hv⟩ := d2
      exact ⟨v, by rw [uA_n _ _ (by decide), uA_n _ _ (by decide)]; exact hv⟩
    · obtain ⟨v, hv⟩ := d3
      exact ⟨v, by rw [uA_n _ _ (by decide), uA_n _ _ (by decide)]; exact hv⟩
set_option maxRecDepth 20000 in
theorem mX1_divisor : eMet yX1_divisor cX1_divisor 7 (some (.object "ConicMeet$Whole")) 2 64 SX1_divisor := eMet_of (by decide +kernel) sX1_divisor kX1_divisor_ok caX1_divisor tb_RX1
theorem wX1_divisor : eWV yX1_divisor cX1_divisor 7 (some (.object "ConicMeet$Whole")) 3 1 SX1_divisor := ⟨(gW_at 450 (by decide +kernel) rfl), (gW_at 80 (by decide +kernel) rfl), (gW_at 449 (by decide +kernel) rfl), ⟨_, rfl, (gW_at 5 (by decide +kernel) rfl)⟩, by decide +kernel, SX1_divisor_r⟩
