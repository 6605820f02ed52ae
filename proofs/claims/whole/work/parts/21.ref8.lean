/-! zeros(a), compareRows(a, b), small(a). -/
/-- e is how often two goes into z -/
def od (z : Int) (e : Nat) : Prop := ∃ q : Int, 0 ≤ q ∧ z = 2 ^ (e + 1) * q + 2 ^ e
theorem bB_pow (k : Nat) : bB ^ k = 2 ^ (28 * k) := by
  rw [Int.pow_mul]
  rfl
theorem bB_1 : bB ^ 1 = 268435456 := by decide
theorem vl_low {f : Int → Int} {o : Int} (n : Nat) : vl f o (n + 1) = f o + vl f (o + 1) n * bB := by
  have h := vl_split (f := f) (o := o) 1 n
  rw [Nat.add_comm 1 n] at h
  rw [h, bB_1]
  simp [vl]
theorem vl_drop {f : Int → Int} {o : Int} {k n : Nat} (hk : k ≤ n) (h : ∀ j : Nat, j < k → f (o + j) = 0) : vl f o n = vl f (o + k) (n - k) * bB ^ k := by
  have h1 := vl_split (f := f) (o := o) k (n - k)
  rw [show k + (n - k) = n by omega, vl_0 h] at h1
  rw [h1]; omega
theorem od_limb {f : Int → Int} {n k e : Nat} {q : Int} (hr : lr f 1 n) (hk : k < n) (h0 : ∀ j : Nat, j < k → f (1 + j) = 0) (hq : 0 ≤ q) (h : f (1 + k) = 2 ^ (e + 1) * q + 2 ^ e) (he : e < 28) : od (vl f 1 n) (28 * k + e) := by
  have h1 := vl_drop (f := f) (o := 1) (k := k) (n := n) (by omega) h0
  obtain ⟨m, hm⟩ : ∃ m, n - k = m + 1 := ⟨n - k - 1, by omega⟩
  have hr2 : lr f (1 + (k : Int) + 1) m := by
    intro j hj
    have := hr (k + 1 + j) (by omega)
    have e1 : (1 : Int) + ((k + 1 + j : Nat) : Int) = 1 + (k : Int) + 1 + j := by omega
    rw [e1] at this
    exact this
  rw [hm, vl_low, h] at h1
  have hn := vl_nn hr2
  refine ⟨q + 2 ^ (27 - e) * vl f (1 + (k : Int) + 1) m, ?_, ?_⟩
  · have hp : (0 : Int) < 2 ^ (27 - e) := Int.pow_pos (by decide)
    have := Int.mul_nonneg (Int.le_of_lt hp) hn
    omega
  · rw [h1, bB_pow]
    have e2 : bB = 2 ^ (e + 1) * 2 ^ (27 - e) := by
      rw [← Int.pow_add, show e + 1 + (27 - e) = 28 by omega]
      rfl
    have e3 : (2 : Int) ^ (28 * k + e + 1) = 2 ^ (28 * k) * 2 ^ (e + 1) := by rw [← Int.pow_add]; congr 1
    have e4 : (2 : Int) ^ (28 * k + e) = 2 ^ (28 * k) * 2 ^ e := by rw [← Int.pow_add]
    rw [e2, e3, e4]
    grind
def SX10_zeros : eSp := fun as M rt => ∃ (F : Nat → Int) (A : Nat → Int → Int) (t : Nat) (z : Int), as = [eR (1, t)] ∧ M = cR F A ∧ (t = 2 ∨ t = 3) ∧ rw_ (A t) z ∧ 0 < z ∧ ∀ e : Nat, od z e → e < 16800 → rt (some (eI e)) (cR F A)
theorem SX10_zeros_i {F : Nat → Int} {A : Nat → Int → Int} {t : Nat} {rt : Option eV → eM → Prop} (z : Int) (ht : t = 2 ∨ t = 3) (h0 : rw_ (A t) z) (h1 : 0 < z) (h : ∀ e : Nat, od z e → e < 16800 → rt (some (eI e)) (cR F A)) : SX10_zeros [eR (1, t)] (cR F A) rt := ⟨F, A, t, z, rfl, rfl, ht, h0, h1, h⟩
def kX10_zeros : List (Nat × Jvm.ClassFile.Instr × Nat) := [(0, .iconst 1, 1), (1, .istore_n 1, 1), (2, .aload_n 0, 1), (3, .iload_n 1, 1), (4, .iaload, 1), (5, .ifCond .ne 9, 3), (8, .iinc 1 1, 3), (11, .goto (-9), 3), (14, .bipush 28, 2), (16, .iload_n 1, 1), (17, .iconst 1, 1), (18, .isub, 1), (19, .imul, 1), (20, .aload_n 0, 1), (21, .iload_n 1, 1), (22, .iaload, 1), (23, .invokestatic 103, 3), (26, .iadd, 1), (27, .ireturn, 1)]
theorem kX10_zeros_0 : cdOf kX10_zeros 0 = some (.iconst 1, 1) := by decide +kernel
theorem kX10_zeros_1 : cdOf kX10_zeros 1 = some (.istore_n 1, 1) := by decide +kernel
theorem kX10_zeros_2 : cdOf kX10_zeros 2 = some (.aload_n 0, 1) := by decide +kernel
theorem kX10_zeros_3 : cdOf kX10_zeros 3 = some (.iload_n 1, 1) := by decide +kernel
theorem kX10_zeros_4 : cdOf kX10_zeros 4 = some (.iaload, 1) := by decide +kernel
theorem kX10_zeros_5 : cdOf kX10_zeros 5 = some (.ifCond .ne 9, 3) := by decide +kernel
theorem kX10_zeros_8 : cdOf kX10_zeros 8 = some (.iinc 1 1, 3) := by decide +kernel
theorem kX10_zeros_11 : cdOf kX10_zeros 11 = some (.goto (-9), 3) := by decide +kernel
theorem kX10_zeros_14 : cdOf kX10_zeros 14 = some (.bipush 28, 2) := by decide +kernel
theorem kX10_zeros_16 : cdOf kX10_zeros 16 = some (.iload_n 1, 1) := by decide +kernel
theorem kX10_zeros_17 : cdOf kX10_zeros 17 = some (.iconst 1, 1) := by decide +kernel
theorem kX10_zeros_18 : cdOf kX10_zeros 18 = some (.isub, 1) := by decide +kernel
theorem kX10_zeros_19 : cdOf kX10_zeros 19 = some (.imul, 1) := by decide +kernel
theorem kX10_zeros_20 : cdOf kX10_zeros 20 = some (.aload_n 0, 1) := by decide +kernel
theorem kX10_zeros_21 : cdOf kX10_zeros 21 = some (.iload_n 1, 1) := by decide +kernel
theorem kX10_zeros_22 : cdOf kX10_zeros 22 = some (.iaload, 1) := by decide +kernel
theorem kX10_zeros_23 : cdOf kX10_zeros 23 = some (.invokestatic 103, 3) := by decide +kernel
theorem kX10_zeros_26 : cdOf kX10_zeros 26 = some (.iadd, 1) := by decide +kernel
theorem kX10_zeros_27 : cdOf kX10_zeros 27 = some (.ireturn, 1) := by decide +kernel
set_option maxRecDepth 20000 in
theorem kX10_zeros_ok : ∀ pc i len, cdOf kX10_zeros pc = some (i, len) → decode cX10_zeros pc = .ok (i, len) ∧ stOK 2 i = true ∧ jOK pc i = true ∧ eLen i len = true := cdOf_ok cX10_zeros 2 kX10_zeros (by decide +kernel)
def vtX10_zeros : Nat → Option (Nat × eSp) := fun _ => none
def stX10_zeros : Nat → Option (Nat × eSp) := fun k => match k with
  | 103 => some (1, SJ6_numberOfTrailingZeros_0f7a4)
  | _ => none
theorem stX10_zeros_103 : stX10_zeros 103 = some (1, SJ6_numberOfTrailingZeros_0f7a4) := rfl
abbrev TX10_zeros : eT := (fl_RX10, cl_RX10, dl_RX10, vtX10_zeros, stX10_zeros)
set_option maxRecDepth 20000 in
theorem caX10_zeros : eCalls RX10 { frames := 1, cells := 0, slots := 0, locals := 21 } TX10_zeros := by
  refine ⟨fun k n sp h => ?_, fun k n sp h => ?_⟩
  · cases h
  · dsimp only [TX10_zeros] at h
    unfold stX10_zeros at h
    split at h
    · cases h; exact eS_mk mJ6_numberOfTrailingZeros_0f7a4 wJ6_numberOfTrailingZeros_0f7a4 (by decide +kernel) (Or.inl (gW_at 1108 (by decide +kernel) rfl))
    · cases h
set_option maxRecDepth 100000 in
set_option maxHeartbeats 4000000 in
theorem sX10_zeros : eSafe TX10_zeros (cdOf kX10_zeros) 2 (some .int) SX10_zeros := by
  intro K rt hK as M h
  obtain ⟨F, A, t, z, rfl, rfl, ht, ⟨n, hn, hg, hr, htop, hz⟩, hpos, h⟩ := h
  have hn0 : 0 < n := by
    rcases Nat.eq_zero_or_pos n with q | q
    · subst q; simp [vl] at hz; omega
    · exact q
  refine ⟨by simp [eE], ?_⟩
  have loop : ∀ d k : Nat, k + d = n → 1 ≤ k → (∀ j : Nat, 1 ≤ j → j < k → A t j = 0) → K 2 [some (eR (1, t)), some (eI k)] [] (cR F A) := by
    intro d
    induction d with
    | zero =>
      intro k hk h1 h0
      have w := hr (k - 1) (by omega)
      have e1 : (1 : Int) + ((k - 1 : Nat) : Int) = k := by omega
      rw [e1] at w
      have b0 : bB = 268435456 := rfl
      have tp := htop hn0
      rw [show (n : Int) = k by omega] at tp
      refine x_aload_n hK kX10_zeros_2 (q := 3) rfl rfl ?_
      refine x_iload_n hK kX10_zeros_3 (q := 4) rfl rfl ?_
      refine x_iaload hK kX10_zeros_4 (q := 5) rfl (aX10_P ht (by refine ⟨?_, ?_⟩ <;> omega) ?_)
      refine x_if_ne hK kX10_zeros_5 (q := 8) rfl (tg := 14) rfl (by omega) (fun c5 => ?_) (fun c5 => ?_)
      · refine x_bipush hK kX10_zeros_14 (q := 16) rfl (by decide) ?_
        refine x_iload_n hK kX10_zeros_16 (q := 17) rfl rfl ?_
        refine x_iconst hK kX10_zeros_17 (q := 18) rfl ?_
        refine x_isub hK kX10_zeros_18 (q := 19) rfl ?_
        refine x_imul hK kX10_zeros_19 (q := 20) rfl ?_
        refine x_aload_n hK kX10_zeros_20 (q := 21) rfl rfl ?_
        refine x_iload_n hK kX10_zeros_21 (q := 22) rfl rfl ?_
        refine x_iaload hK kX10_zeros_22 (q := 23) rfl (aX10_P ht (by refine ⟨?_, ?_⟩ <;> omega) ?_)
        refine x_cs1 hK kX10_zeros_23 (q := 26) rfl (stX10_zeros_103) (Nat.le_of_ble_eq_true rfl) ?_
        refine SJ6_ntz_i (by omega) (fun e q he he28 => ?_)
        refine x_iadd hK kX10_zeros_26 (q := 27) rfl ?_
        refine x_ireturn hK kX10_zeros_27 (by first | trivial | exact Or.inl rfl | exact Or.inr rfl) ?_
        have e2 : (28 : Int) * ((k : Int) - 1) + e = ((28 * (k - 1) + e : Nat) : Int) := by omega
        rw [e2]
        refine h _ ?_ (by omega)
        rw [hz]
        refine od_limb hr (by omega) (fun j hj => ?_) (Int.natCast_nonneg q) (by rw [e1]; exact he) he28
        have := h0 (j + 1) (by omega) (by omega)
        rw [show ((j + 1 : Nat) : Int) = 1 + (j : Int) by omega] at this
        exact this
      · exact absurd (show A t k = 0 by omega) tp
    | succ d ih =>
      intro k hk h1 h0
      have w := hr (k - 1) (by omega)
      have e1 : (1 : Int) + ((k - 1 : Nat) : Int) = k := by omega
      rw [e1] at w
      have b0 : bB = 268435456 := rfl
      refine x_aload_n hK kX10_zeros_2 (q := 3) rfl rfl ?_
      refine x_iload_n hK kX10_zeros_3 (q := 4) rfl rfl ?_
      refine x_iaload hK kX10_zeros_4 (q := 5) rfl (aX10_P ht (by refine ⟨?_, ?_⟩ <;> omega) ?_)
      refine x_if_ne hK kX10_zeros_5 (q := 8) rfl (tg := 14) rfl (by omega) (fun c5 => ?_) (fun c5 => ?_)
      · refine x_bipush hK kX10_zeros_14 (q := 16) rfl (by decide) ?_
        refine x_iload_n hK kX10_zeros_16 (q := 17) rfl rfl ?_
        refine x_iconst hK kX10_zeros_17 (q := 18) rfl ?_
        refine x_isub hK kX10_zeros_18 (q := 19) rfl ?_
        refine x_imul hK kX10_zeros_19 (q := 20) rfl ?_
        refine x_aload_n hK kX10_zeros_20 (q := 21) rfl rfl ?_
        refine x_iload_n hK kX10_zeros_21 (q := 22) rfl rfl ?_
        refine x_iaload hK kX10_zeros_22 (q := 23) rfl (aX10_P ht (by refine ⟨?_, ?_⟩ <;> omega) ?_)
        refine x_cs1 hK kX10_zeros_23 (q := 26) rfl (stX10_zeros_103) (Nat.le_of_ble_eq_true rfl) ?_
        refine SJ6_ntz_i (by omega) (fun e q he he28 => ?_)
        refine x_iadd hK kX10_zeros_26 (q := 27) rfl ?_
        refine x_ireturn hK kX10_zeros_27 (by first | trivial | exact Or.inl rfl | exact Or.inr rfl) ?_
        have e2 : (28 : Int) * ((k : Int) - 1) + e = ((28 * (k - 1) + e : Nat) : Int) := by omega
        rw [e2]
        refine h _ ?_ (by omega)
        rw [hz]
        refine od_limb hr (by omega) (fun j hj => ?_) (Int.natCast_nonneg q) (by rw [e1]; exact he) he28
        have := h0 (j + 1) (by omega) (by omega)
        rw [show ((j + 1 : Nat) : Int) = 1 + (j : Int) by omega] at this
        exact this
      · refine x_iinc hK kX10_zeros_8 (q := 11) rfl rfl ?_
        simp only [lS, lS2, clr_0, clr_I, clr_L, clr_R]
        refine x_goto hK kX10_zeros_11 (tg := 2) rfl ?_
        refine ih (k + 1) (by omega) (by omega) (fun j a b => ?_)
        rcases Nat.lt_or_ge j k with q | q
        · exact h0 j a q
        · rw [show j = k by omega]; omega
  simp only [eLoc, eE, List.length_cons, List.length_nil, List.replicate, List.cons_append, List.nil_append, Nat.reduceAdd, Nat.reduceSub]
  refine x_iconst hK kX10_zeros_0 (q := 1) rfl ?_
  refine x_istore_n hK kX10_zeros_1 (q := 2) (jn := 1) rfl rfl ?_
  simp only [lS, lS2, clr_0, clr_I, clr_L, clr_R]
  exact loop (n - 1) 1 (by omega) (by omega) (fun j a b => absurd a (by omega))
set_option maxRecDepth 20000 in
theorem mX10_zeros : eMet yX10_zeros cX10_zeros 2 (some .int) 1 21 SX10_zeros := eMet_of (by decide +kernel) sX10_zeros kX10_zeros_ok caX10_zeros tb_RX10
theorem wX10_zeros : eWS yX10_zeros cX10_zeros 2 (some .int) 1 := ⟨(gW_at 1107 (by decide +kernel) rfl), (gW_at 89 (by decide +kernel) rfl), (gW_at 1106 (by decide +kernel) rfl), by decide +kernel⟩
-- compareRows(a, b)
def SX10_compareRows : eSp := fun as M rt => ∃ (F : Nat → Int) (A : Nat → Int → Int) (t t' : Nat) (y z : Int), as = [eR (1, t), eR (1, t')] ∧ M = cR F A ∧ (t = 2 ∨ t = 3) ∧ (t' = 2 ∨ t' = 3) ∧ rw_ (A t) y ∧ rw_ (A t') z ∧ rt (some (eI (zSgn (y - z)))) (cR F A)
theorem SX10_compareRows_i {F : Nat → Int} {A : Nat → Int → Int} {t t' : Nat} {rt : Option eV → eM → Prop} (y z : Int) (ht : t = 2 ∨ t = 3) (ht' : t' = 2 ∨ t' = 3) (h0 : rw_ (A t) y) (h1 : rw_ (A t') z) (h : rt (some (eI (zSgn (y - z)))) (cR F A)) : SX10_compareRows [eR (1, t), eR (1, t')] (cR F A) rt := ⟨F, A, t, t', y, z, rfl, rfl, ht, ht', h0, h1, h⟩
/-- what a row's count says of its number -/
theorem rw_h {g : Int → Int} {z : Int} (h : rw_ g z) : ∃ n : Nat, n ≤ 600 ∧ g 0 = n ∧ lr g 1 n ∧ (0 < n → g n ≠ 0) ∧ z = vl g 1 n ∧ 0 ≤ z ∧ (z = 0 ↔ n = 0) ∧ (z ≠ 0 → bB ^ (n - 1) ≤ z) ∧ z < bB ^ n := by
  obtain ⟨n, hn, hg, hr, ht, hz⟩ := h
  have h1 := vl_nn hr
  have h2 := vl_lt hr
  have h3 : 0 < n → bB ^ (n - 1) ≤ vl g 1 n := by
    intro q
    obtain ⟨k, rfl⟩ : ∃ k, n = k + 1 := ⟨n - 1, by omega⟩
    refine vl_ge hr ?_
    have e : (1 : Int) + ((k + 1 - 1 : Nat) : Int) = ((k + 1 : Nat) : Int) := by omega
    rw [e]; exact ht (by omega)
  refine ⟨n, hn, hg, hr, ht, hz, by omega, ?_, ?_, by omega⟩
  · constructor
    · intro e
      rcases Nat.eq_zero_or_pos n with q | q
      · exact q
      · have := h3 q
        have := bB_pos (n - 1)
        omega
    · intro e; subst e; simpa [vl] using hz
  · intro e
    rw [hz]
    apply h3
    rcases Nat.eq_zero_or_pos n with q | q
    · subst q; simp [vl] at hz; omega
    · exact q
def kX10_compareRows : List (Nat × Jvm.ClassFile.Instr × Nat) := [(0, .aload_n 0, 1), (1, .iconst 0, 1), (2, .iaload, 1), (3, .aload_n 1, 1), (4, .iconst 0, 1), (5, .iaload, 1), (6, .if_icmp .eq 18, 3), (9, .aload_n 0, 1), (10, .iconst 0, 1), (11, .iaload, 1), (12, .aload_n 1, 1), (13, .iconst 0, 1), (14, .iaload, 1), (15, .if_icmp .ge 7, 3), (18, .iconst (-1), 1), (19, .goto 4, 3), (22, .iconst 1, 1), (23, .ireturn, 1), (24, .aload_n 0, 1), (25, .iconst 0, 1), (26, .iaload, 1), (27, .istore_n 2, 1), (28, .iload_n 2, 1), (29, .ifCond .le 33, 3), (32, .aload_n 0, 1), (33, .iload_n 2, 1), (34, .iaload, 1), (35, .aload_n 1, 1), (36, .iload_n 2, 1), (37, .iaload, 1), (38, .if_icmp .eq 18, 3), (41, .aload_n 0, 1), (42, .iload_n 2, 1), (43, .iaload, 1), (44, .aload_n 1, 1), (45, .iload_n 2, 1), (46, .iaload, 1), (47, .if_icmp .ge 7, 3), (50, .iconst (-1), 1), (51, .goto 4, 3), (54, .iconst 1, 1), (55, .ireturn, 1), (56, .iinc 2 (-1), 3), (59, .goto (-31), 3), (62, .iconst 0, 1), (63, .ireturn, 1)]
theorem kX10_compareRows_0 : cdOf kX10_compareRows 0 = some (.aload_n 0, 1) := by decide +kernel
theorem kX10_compareRows_1 : cdOf kX10_compareRows 1 = some (.iconst 0, 1) := by decide +kernel
theorem kX10_compareRows_2 : cdOf kX10_compareRows 2 = some (.iaload, 1) := by decide +kernel
theorem kX10_compareRows_3 : cdOf kX10_compareRows 3 = some (.aload_n 1, 1) := by decide +kernel
theorem kX10_compareRows_4 : cdOf kX10_compareRows 4 = some (.iconst 0, 1) := by decide +kernel
theorem kX10_compareRows_5 : cdOf kX10_compareRows 5 = some (.iaload, 1) := by decide +kernel
theorem kX10_compareRows_6 : cdOf kX10_compareRows 6 = some (.if_icmp .eq 18, 3) := by decide +kernel
theorem kX10_compareRows_9 : cdOf kX10_compareRows 9 = some (.aload_n 0, 1) := by decide +kernel
theorem kX10_compareRows_10 : cdOf kX10_compareRows 10 = some (.iconst 0, 1) := by decide +kernel
theorem kX10_compareRows_11 : cdOf kX10_compareRows 11 = some (.iaload, 1) := by decide +kernel
theorem kX10_compareRows_12 : cdOf kX10_compareRows 12 = some (.aload_n 1, 1) := by decide +kernel
theorem kX10_compareRows_13 : cdOf kX10_compareRows 13 = some (.iconst 0, 1) := by decide +kernel
theorem kX10_compareRows_14 : cdOf kX10_compareRows 14 = some (.iaload, 1) := by decide +kernel
theorem kX10_compareRows_15 : cdOf kX10_compareRows 15 = some (.if_icmp .ge 7, 3) := by decide +kernel
theorem kX10_compareRows_18 : cdOf kX10_compareRows 18 = some (.iconst (-1), 1) := by decide +kernel
theorem kX10_compareRows_19 : cdOf kX10_compareRows 19 = some (.goto 4, 3) := by decide +kernel
theorem kX10_compareRows_22 : cdOf kX10_compareRows 22 = some (.iconst 1, 1) := by decide +kernel
theorem kX10_compareRows_23 : cdOf kX10_compareRows 23 = some (.ireturn, 1) := by decide +kernel
theorem kX10_compareRows_24 : cdOf kX10_compareRows 24 = some (.aload_n 0, 1) := by decide +kernel
theorem kX10_compareRows_25 : cdOf kX10_compareRows 25 = some (.iconst 0, 1) := by decide +kernel
theorem kX10_compareRows_26 : cdOf kX10_compareRows 26 = some (.iaload, 1) := by decide +kernel
theorem kX10_compareRows_27 : cdOf kX10_compareRows 27 = some (.istore_n 2, 1) := by decide +kernel
theorem kX10_compareRows_28 : cdOf kX10_compareRows 28 = some (.iload_n 2, 1) := by decide +kernel
theorem kX10_compareRows_29 : cdOf kX10_compareRows 29 = some (.ifCond .le 33, 3) := by decide +kernel
theorem kX10_compareRows_32 : cdOf kX10_compareRows 32 = some (.aload_n 0, 1) := by decide +kernel
theorem kX10_compareRows_33 : cdOf kX10_compareRows 33 = some (.iload_n 2, 1) := by decide +kernel
theorem kX10_compareRows_34 : cdOf kX10_compareRows 34 = some (.iaload, 1) := by decide +kernel
theorem kX10_compareRows_35 : cdOf kX10_compareRows 35 = some (.aload_n 1, 1) := by decide +kernel
theorem kX10_compareRows_36 : cdOf kX10_compareRows 36 = some (.iload_n 2, 1) := by decide +kernel
theorem kX10_compareRows_37 : cdOf kX10_compareRows 37 = some (.iaload, 1) := by decide +kernel
theorem kX10_compareRows_38 : cdOf kX10_compareRows 38 = some (.if_icmp .eq 18, 3) := by decide +kernel
theorem kX10_compareRows_41 : cdOf kX10_compareRows 41 = some (.aload_n 0, 1) := by decide +kernel
theorem kX10_compareRows_42 : cdOf kX10_compareRows 42 = some (.iload_n 2, 1) := by decide +kernel
theorem kX10_compareRows_43 : cdOf kX10_compareRows 43 = some (.iaload, 1) := by decide +kernel
theorem kX10_compareRows_44 : cdOf kX10_compareRows 44 = some (.aload_n 1, 1) := by decide +kernel
theorem kX10_compareRows_45 : cdOf kX10_compareRows 45 = some (.iload_n 2, 1) := by decide +kernel
theorem kX10_compareRows_46 : cdOf kX10_compareRows 46 = some (.iaload, 1) := by decide +kernel
theorem kX10_compareRows_47 : cdOf kX10_compareRows 47 = some (.if_icmp .ge 7, 3) := by decide +kernel
theorem kX10_compareRows_50 : cdOf kX10_compareRows 50 = some (.iconst (-1), 1) := by decide +kernel
theorem kX10_compareRows_51 : cdOf kX10_compareRows 51 = some (.goto 4, 3) := by decide +kernel
theorem kX10_compareRows_54 : cdOf kX10_compareRows 54 = some (.iconst 1, 1) := by decide +kernel
theorem kX10_compareRows_55 : cdOf kX10_compareRows 55 = some (.ireturn, 1) := by decide +kernel
theorem kX10_compareRows_56 : cdOf kX10_compareRows 56 = some (.iinc 2 (-1), 3) := by decide +kernel
theorem kX10_compareRows_59 : cdOf kX10_compareRows 59 = some (.goto (-31), 3) := by decide +kernel
theorem kX10_compareRows_62 : cdOf kX10_compareRows 62 = some (.iconst 0, 1) := by decide +kernel
theorem kX10_compareRows_63 : cdOf kX10_compareRows 63 = some (.ireturn, 1) := by decide +kernel
set_option maxRecDepth 20000 in
theorem kX10_compareRows_ok : ∀ pc i len, cdOf kX10_compareRows pc = some (i, len) → decode cX10_compareRows pc = .ok (i, len) ∧ stOK 3 i = true ∧ jOK pc i = true ∧ eLen i len = true := cdOf_ok cX10_compareRows 3 kX10_compareRows (by decide +kernel)
def vtX10_compareRows : Nat → Option (Nat × eSp) := fun _ => none
def stX10_compareRows : Nat → Option (Nat × eSp) := fun _ => none
abbrev TX10_compareRows : eT := (fl_RX10, cl_RX10, dl_RX10, vtX10_compareRows, stX10_compareRows)
set_option maxRecDepth 20000 in
theorem caX10_compareRows : eCalls RX10 { frames := 0, cells := 0, slots := 0, locals := 0 } TX10_compareRows := by
  refine ⟨fun k n sp h => ?_, fun k n sp h => ?_⟩
  · cases h
  · cases h
set_option maxRecDepth 100000 in
set_option maxHeartbeats 4000000 in
theorem sX10_compareRows : eSafe TX10_compareRows (cdOf kX10_compareRows) 3 (some .int) SX10_compareRows := by
  intro K rt hK as M h
  obtain ⟨F, A, t, t', y, z, rfl, rfl, ht, ht', h2, h3, h⟩ := h
  obtain ⟨n, hn, hg, hr, htop, hav, -, hz0, hge, hlt⟩ := rw_h h2
  obtain ⟨n', hn', hg', hr', htop', hav', -, hz0', hge', hlt'⟩ := rw_h h3
  have hlow : n < n' → y < z := fun q => by
    have a1 := hge' (by rw [Ne, hz0']; omega)
    have a2 := bB_mono (show n ≤ n' - 1 by omega)
    omega
  have hhigh : n' < n → z < y := fun q => by
    have a1 := hge (by rw [Ne, hz0]; omega)
    have a2 := bB_mono (show n' ≤ n - 1 by omega)
    omega
  refine ⟨by simp [eE], ?_⟩
  have loop : ∀ (i : Nat), n = n' → i ≤ n → (∀ j : Nat, i ≤ j → j < n → A t (1 + j) = A t' (1 + j)) → K 28 [some (eR (1, t)), some (eR (1, t')), some (eI i)] [] (cR F A) := by
    intro i
    induction i with
    | zero =>
      intro e hi he
      subst e
      refine x_iload_n hK kX10_compareRows_28 (q := 29) rfl rfl ?_
      refine x_if_le hK kX10_compareRows_29 (q := 32) rfl (tg := 62) rfl (by omega) (fun c29 => ?_) (fun c29 => ?_)
      · refine x_iconst hK kX10_compareRows_62 (q := 63) rfl ?_
        refine x_ireturn hK kX10_compareRows_63 (by first | trivial | exact Or.inl rfl | exact Or.inr rfl) ?_
        have h5 := vl_diff (f := A t) (g := A t') (o := 1) (o' := 1) (k := 0) n (fun j a b => he j a (by omega))
        rw [Nat.zero_add] at h5
        have h6 : y - z = 0 := by rw [hav, hav', h5]; rfl
        rw [h6] at h; exact h
      · exact absurd (Int.le_refl 0) c29
    | succ i ih =>
      intro e hi he
      subst e
      have e1 : ((i + 1 : Nat) : Int) = 1 + i := by omega
      have w1 := hr i (by omega)
      have w2 := hr' i (by omega)
      have b0 : bB = 268435456 := rfl
      have h5 := vl_diff (f := A t) (g := A t') (o := 1) (o' := 1) (k := i + 1) (n - (i + 1)) (fun j a b => he j a (by omega))
      rw [show i + 1 + (n - (i + 1)) = n by omega, ← hav, ← hav'] at h5
      rw [e1]
      refine x_iload_n hK kX10_compareRows_28 (q := 29) rfl rfl ?_
      refine x_if_le hK kX10_compareRows_29 (q := 32) rfl (tg := 62) rfl (by omega) (fun c29 => ?_) (fun c29 => ?_)
      · exact absurd c29 (by omega)
      · refine x_aload_n hK kX10_compareRows_32 (q := 33) rfl rfl ?_
        refine x_iload_n hK kX10_compareRows_33 (q := 34) rfl rfl ?_
        refine x_iaload hK kX10_compareRows_34 (q := 35) rfl (aX10_P ht (by refine ⟨?_, ?_⟩ <;> omega) ?_)
        refine x_aload_n hK kX10_compareRows_35 (q := 36) rfl rfl ?_
        refine x_iload_n hK kX10_compareRows_36 (q := 37) rfl rfl ?_
        refine x_iaload hK kX10_compareRows_37 (q := 38) rfl (aX10_P ht' (by refine ⟨?_, ?_⟩ <;> omega) ?_)
        refine x_icmp_eq hK kX10_compareRows_38 (q := 41) rfl (tg := 56) rfl (by refine ⟨?_, ?_⟩ <;> omega) (fun c38 => ?_) (fun c38 => ?_)
        · refine x_iinc hK kX10_compareRows_56 (q := 59) rfl rfl ?_
          simp only [lS, lS2, clr_0, clr_I, clr_L, clr_R]
          refine x_goto hK kX10_compareRows_59 (tg := 28) rfl ?_
          rw [show 1 + (i : Int) + -1 = (i : Int) by omega]
          refine ih rfl (by omega) (fun j a b => ?_)
          rcases Nat.lt_or_ge i j with q1 | q1
          · exact he j (by omega) b
          · have : j = i := by omega
            subst this
            exact c38
        · refine x_aload_n hK kX10_compareRows_41 (q := 42) rfl rfl ?_
          refine x_iload_n hK kX10_compareRows_42 (q := 43) rfl rfl ?_
          refine x_iaload hK kX10_compareRows_43 (q := 44) rfl (aX10_P ht (by refine ⟨?_, ?_⟩ <;> omega) ?_)
          refine x_aload_n hK kX10_compareRows_44 (q := 45) rfl rfl ?_
          refine x_iload_n hK kX10_compareRows_45 (q := 46) rfl rfl ?_
          refine x_iaload hK kX10_compareRows_46 (q := 47) rfl (aX10_P ht' (by refine ⟨?_, ?_⟩ <;> omega) ?_)
          refine x_icmp_ge hK kX10_compareRows_47 (q := 50) rfl (tg := 54) rfl (by refine ⟨?_, ?_⟩ <;> omega) (fun c47 => ?_) (fun c47 => ?_)
          · have h6 := vl_less (hr'.sub hi) (hr.sub hi) (show A t' (1 + i) < A t (1 + i) by omega)
            rw [zSgn_gt (by omega)] at h
            refine x_iconst hK kX10_compareRows_54 (q := 55) rfl ?_
            refine x_ireturn hK kX10_compareRows_55 (by first | trivial | exact Or.inl rfl | exact Or.inr rfl) ?_
            exact h
          · have h6 := vl_less (hr.sub hi) (hr'.sub hi) (show A t (1 + i) < A t' (1 + i) by omega)
            rw [zSgn_lt (by omega)] at h
            refine x_iconst hK kX10_compareRows_50 (q := 51) rfl ?_
            refine x_goto hK kX10_compareRows_51 (tg := 55) rfl ?_
            refine x_ireturn hK kX10_compareRows_55 (by first | trivial | exact Or.inl rfl | exact Or.inr rfl) ?_
            exact h
  simp only [eLoc, eE, List.length_cons, List.length_nil, List.replicate, List.cons_append, List.nil_append, Nat.reduceAdd, Nat.reduceSub]
  refine x_aload_n hK kX10_compareRows_0 (q := 1) rfl rfl ?_
  refine x_iconst hK kX10_compareRows_1 (q := 2) rfl ?_
  refine x_iaload hK kX10_compareRows_2 (q := 3) rfl (aX10_P ht (by refine ⟨?_, ?_⟩ <;> omega) ?_)
  refine x_aload_n hK kX10_compareRows_3 (q := 4) rfl rfl ?_
  refine x_iconst hK kX10_compareRows_4 (q := 5) rfl ?_
  refine x_iaload hK kX10_compareRows_5 (q := 6) rfl (aX10_P ht' (by refine ⟨?_, ?_⟩ <;> omega) ?_)
  rw [hg, hg']
  refine x_icmp_eq hK kX10_compareRows_6 (q := 9) rfl (tg := 24) rfl (by refine ⟨?_, ?_⟩ <;> omega) (fun c6 => ?_) (fun c6 => ?_)
  · refine x_aload_n hK kX10_compareRows_24 (q := 25) rfl rfl ?_
    refine x_iconst hK kX10_compareRows_25 (q := 26) rfl ?_
    refine x_iaload hK kX10_compareRows_26 (q := 27) rfl (aX10_P ht (by refine ⟨?_, ?_⟩ <;> omega) ?_)
    rw [hg]
    refine x_istore_n hK kX10_compareRows_27 (q := 28) (jn := 2) rfl rfl ?_
    simp only [lS, lS2, clr_0, clr_I, clr_L, clr_R]
    exact loop n (by omega) (Nat.le_refl _) (fun j a b => by omega)
  · refine x_aload_n hK kX10_compareRows_9 (q := 10) rfl rfl ?_
    refine x_iconst hK kX10_compareRows_10 (q := 11) rfl ?_
    refine x_iaload hK kX10_compareRows_11 (q := 12) rfl (aX10_P ht (by refine ⟨?_, ?_⟩ <;> omega) ?_)
    refine x_aload_n hK kX10_compareRows_12 (q := 13) rfl rfl ?_
    refine x_iconst hK kX10_compareRows_13 (q := 14) rfl ?_
    refine x_iaload hK kX10_compareRows_14 (q := 15) rfl (aX10_P ht' (by refine ⟨?_, ?_⟩ <;> omega) ?_)
    rw [hg, hg']
    refine x_icmp_ge hK kX10_compareRows_15 (q := 18) rfl (tg := 22) rfl (by refine ⟨?_, ?_⟩ <;> omega) (fun c15 => ?_) (fun c15 => ?_)
    · rw [zSgn_gt (by have := hhigh (by omega); omega)] at h
      refine x_iconst hK kX10_compareRows_22 (q := 23) rfl ?_
      refine x_ireturn hK kX10_compareRows_23 (by first | trivial | exact Or.inl rfl | exact Or.inr rfl) ?_
      exact h
    · rw [zSgn_lt (by have := hlow (by omega); omega)] at h
      refine x_iconst hK kX10_compareRows_18 (q := 19) rfl ?_
      refine x_goto hK kX10_compareRows_19 (tg := 23) rfl ?_
      refine x_ireturn hK kX10_compareRows_23 (by first | trivial | exact Or.inl rfl | exact Or.inr rfl) ?_
      exact h
set_option maxRecDepth 20000 in
theorem mX10_compareRows : eMet yX10_compareRows cX10_compareRows 3 (some .int) 0 0 SX10_compareRows := eMet_of (by decide +kernel) sX10_compareRows kX10_compareRows_ok caX10_compareRows tb_RX10
theorem wX10_compareRows : eWS yX10_compareRows cX10_compareRows 3 (some .int) 2 := ⟨(gW_at 1119 (by decide +kernel) rfl), (gW_at 89 (by decide +kernel) rfl), (gW_at 1118 (by decide +kernel) rfl), by decide +kernel⟩
-- small(a)
def SX10_small : eSp := fun as M rt => ∃ (F : Nat → Int) (A : Nat → Int → Int) (t : Nat) (z : Int), as = [eR (1, t)] ∧ M = cR F A ∧ (t = 2 ∨ t = 3) ∧ rw_ (A t) z ∧ z < bB ^ 2 ∧ rt (some (eL z)) (cR F A)
theorem SX10_small_i {F : Nat → Int} {A : Nat → Int → Int} {t : Nat} {rt : Option eV → eM → Prop} (z : Int) (ht : t = 2 ∨ t = 3) (h0 : rw_ (A t) z) (h1 : z < bB ^ 2) (h : rt (some (eL z)) (cR F A)) : SX10_small [eR (1, t)] (cR F A) rt := ⟨F, A, t, z, rfl, rfl, ht, h0, h1, h⟩
def kX10_small : List (Nat × Jvm.ClassFile.Instr × Nat) := [(0, .aload_n 0, 1), (1, .iconst 0, 1), (2, .iaload, 1), (3, .ifCond .ne 7, 3), (6, .lconst 0, 1), (7, .goto 29, 3), (10, .aload_n 0, 1), (11, .iconst 0, 1), (12, .iaload, 1), (13, .iconst 1, 1), (14, .if_icmp .ne 10, 3), (17, .aload_n 0, 1), (18, .iconst 1, 1), (19, .iaload, 1), (20, .i2l, 1), (21, .goto 15, 3), (24, .aload_n 0, 1), (25, .iconst 2, 1), (26, .iaload, 1), (27, .i2l, 1), (28, .bipush 28, 2), (30, .lshl, 1), (31, .aload_n 0, 1), (32, .iconst 1, 1), (33, .iaload, 1), (34, .i2l, 1), (35, .lor, 1), (36, .lreturn, 1)]
theorem kX10_small_0 : cdOf kX10_small 0 = some (.aload_n 0, 1) := by decide +kernel
theorem kX10_small_1 : cdOf kX10_small 1 = some (.iconst 0, 1) := by decide +kernel
theorem kX10_small_2 : cdOf kX10_small 2 = some (.iaload, 1) := by decide +kernel
theorem kX10_small_3 : cdOf kX10_small 3 = some (.ifCond .ne 7, 3) := by decide +kernel
theorem kX10_small_6 : cdOf kX10_small 6 = some (.lconst 0, 1) := by decide +kernel
theorem kX10_small_7 : cdOf kX10_small 7 = some (.goto 29, 3) := by decide +kernel
theorem kX10_small_10 : cdOf kX10_small 10 = some (.aload_n 0, 1) := by decide +kernel
theorem kX10_small_11 : cdOf kX10_small 11 = some (.iconst 0, 1) := by decide +kernel
theorem kX10_small_12 : cdOf kX10_small 12 = some (.iaload, 1) := by decide +kernel
theorem kX10_small_13 : cdOf kX10_small 13 = some (.iconst 1, 1) := by decide +kernel
theorem kX10_small_14 : cdOf kX10_small 14 = some (.if_icmp .ne 10, 3) := by decide +kernel
theorem kX10_small_17 : cdOf kX10_small 17 = some (.aload_n 0, 1) := by decide +kernel
theorem kX10_small_18 : cdOf kX10_small 18 = some (.iconst 1, 1) := by decide +kernel
theorem kX10_small_19 : cdOf kX10_small 19 = some (.iaload, 1) := by decide +kernel
theorem kX10_small_20 : cdOf kX10_small 20 = some (.i2l, 1) := by decide +kernel
theorem kX10_small_21 : cdOf kX10_small 21 = some (.goto 15, 3) := by decide +kernel
theorem kX10_small_24 : cdOf kX10_small 24 = some (.aload_n 0, 1) := by decide +kernel
theorem kX10_small_25 : cdOf kX10_small 25 = some (.iconst 2, 1) := by decide +kernel
theorem kX10_small_26 : cdOf kX10_small 26 = some (.iaload, 1) := by decide +kernel
theorem kX10_small_27 : cdOf kX10_small 27 = some (.i2l, 1) := by decide +kernel
theorem kX10_small_28 : cdOf kX10_small 28 = some (.bipush 28, 2) := by decide +kernel
theorem kX10_small_30 : cdOf kX10_small 30 = some (.lshl, 1) := by decide +kernel
theorem kX10_small_31 : cdOf kX10_small 31 = some (.aload_n 0, 1) := by decide +kernel
theorem kX10_small_32 : cdOf kX10_small 32 = some (.iconst 1, 1) := by decide +kernel
theorem kX10_small_33 : cdOf kX10_small 33 = some (.iaload, 1) := by decide +kernel
theorem kX10_small_34 : cdOf kX10_small 34 = some (.i2l, 1) := by decide +kernel
theorem kX10_small_35 : cdOf kX10_small 35 = some (.lor, 1) := by decide +kernel
theorem kX10_small_36 : cdOf kX10_small 36 = some (.lreturn, 1) := by decide +kernel
set_option maxRecDepth 20000 in
theorem kX10_small_ok : ∀ pc i len, cdOf kX10_small pc = some (i, len) → decode cX10_small pc = .ok (i, len) ∧ stOK 1 i = true ∧ jOK pc i = true ∧ eLen i len = true := cdOf_ok cX10_small 1 kX10_small (by decide +kernel)
def vtX10_small : Nat → Option (Nat × eSp) := fun _ => none
def stX10_small : Nat → Option (Nat × eSp) := fun _ => none
abbrev TX10_small : eT := (fl_RX10, cl_RX10, dl_RX10, vtX10_small, stX10_small)
set_option maxRecDepth 20000 in
theorem caX10_small : eCalls RX10 { frames := 0, cells := 0, slots := 0, locals := 0 } TX10_small := by
  refine ⟨fun k n sp h => ?_, fun k n sp h => ?_⟩
  · cases h
  · cases h
set_option maxRecDepth 100000 in
set_option maxHeartbeats 4000000 in
theorem sX10_small : eSafe TX10_small (cdOf kX10_small) 1 (some .long) SX10_small := by
  intro K rt hK as M h
  obtain ⟨F, A, t, z, rfl, rfl, ht, h2, hlt2, h⟩ := h
  obtain ⟨n, hn, hg, hr, htop, hav, -, hz0, hge, hlt⟩ := rw_h h2
  have b0 : bB = 268435456 := rfl
  have hn2 : n ≤ 2 := by
    rcases Nat.lt_or_ge 2 n with q | q
    · have a1 := hge (by rw [Ne, hz0]; omega)
      have a2 := bB_mono (show 2 ≤ n - 1 by omega)
      omega
    · exact q
  have w1 : 0 < n → 0 ≤ A t 1 ∧ A t 1 < 268435456 := fun q => by simpa using hr 0 q
  have w2 : 1 < n → 0 ≤ A t 2 ∧ A t 2 < 268435456 := fun q => by simpa using hr 1 q
  refine ⟨by simp [eE], ?_⟩
  simp only [eLoc, eE, List.length_cons, List.length_nil, List.replicate, List.cons_append, List.nil_append, Nat.reduceAdd, Nat.reduceSub]
  refine x_aload_n hK kX10_small_0 (q := 1) rfl rfl ?_
  refine x_iconst hK kX10_small_1 (q := 2) rfl ?_
  refine x_iaload hK kX10_small_2 (q := 3) rfl (aX10_P ht (by refine ⟨?_, ?_⟩ <;> omega) ?_)
  rw [hg]
  refine x_if_ne hK kX10_small_3 (q := 6) rfl (tg := 10) rfl (by omega) (fun c3 => ?_) (fun c3 => ?_)
  · refine x_aload_n hK kX10_small_10 (q := 11) rfl rfl ?_
    refine x_iconst hK kX10_small_11 (q := 12) rfl ?_
    refine x_iaload hK kX10_small_12 (q := 13) rfl (aX10_P ht (by refine ⟨?_, ?_⟩ <;> omega) ?_)
    refine x_iconst hK kX10_small_13 (q := 14) rfl ?_
    rw [hg]
    refine x_icmp_ne hK kX10_small_14 (q := 17) rfl (tg := 24) rfl (by refine ⟨?_, ?_⟩ <;> omega) (fun c14 => ?_) (fun c14 => ?_)
    · have : n = 2 := by omega
      subst this
      have e1 : z = A t 2 * 2 ^ 28 + A t 1 := by rw [hav]; simp [vl, bB_1]; omega
      have q1 := w1 (by omega)
      have q2 := w2 (by omega)
      have e3 : zShlL (A t 2) 28 = A t 2 * 2 ^ 28 := zShlL_n (A t 2) 28 (by decide) (by constructor <;> omega)
      have e4 := zOrL_s (A t 2) (A t 1) 28 (by decide) (by omega) (by omega) (by omega) (by omega)
      rw [e1] at h
      refine x_aload_n hK kX10_small_24 (q := 25) rfl rfl ?_
      refine x_iconst hK kX10_small_25 (q := 26) rfl ?_
      refine x_iaload hK kX10_small_26 (q := 27) rfl (aX10_P ht (by refine ⟨?_, ?_⟩ <;> omega) ?_)
      refine x_i2l hK kX10_small_27 (q := 28) rfl (by omega) ?_
      refine x_bipush hK kX10_small_28 (q := 30) rfl (by decide) ?_
      refine x_lshl hK kX10_small_30 (q := 31) rfl ?_
      rw [e3]
      refine x_aload_n hK kX10_small_31 (q := 32) rfl rfl ?_
      refine x_iconst hK kX10_small_32 (q := 33) rfl ?_
      refine x_iaload hK kX10_small_33 (q := 34) rfl (aX10_P ht (by refine ⟨?_, ?_⟩ <;> omega) ?_)
      refine x_i2l hK kX10_small_34 (q := 35) rfl (by omega) ?_
      refine x_lor hK kX10_small_35 (q := 36) rfl ?_
      first | rw [e4] | skip
      refine x_lreturn hK kX10_small_36 (by first | trivial | exact Or.inl rfl | exact Or.inr rfl) ?_
      exact h
    · have : n = 1 := by omega
      subst this
      have e1 : z = A t 1 := by rw [hav]; simp [vl]
      have := w1 (by omega)
      rw [e1] at h
      refine x_aload_n hK kX10_small_17 (q := 18) rfl rfl ?_
      refine x_iconst hK kX10_small_18 (q := 19) rfl ?_
      refine x_iaload hK kX10_small_19 (q := 20) rfl (aX10_P ht (by refine ⟨?_, ?_⟩ <;> omega) ?_)
      refine x_i2l hK kX10_small_20 (q := 21) rfl (by omega) ?_
      refine x_goto hK kX10_small_21 (tg := 36) rfl ?_
      first | rw [e4] | skip
      refine x_lreturn hK kX10_small_36 (by first | trivial | exact Or.inl rfl | exact Or.inr rfl) ?_
      exact h
  · have : n = 0 := by omega
    rw [hz0.mpr this] at h
    refine x_lconst0 hK kX10_small_6 (q := 7) rfl ?_
    refine x_goto hK kX10_small_7 (tg := 36) rfl ?_
    first | rw [e4] | skip
    refine x_lreturn hK kX10_small_36 (by first | trivial | exact Or.inl rfl | exact Or.inr rfl) ?_
    exact h
set_option maxRecDepth 20000 in
theorem mX10_small : eMet yX10_small cX10_small 1 (some .long) 0 0 SX10_small := eMet_of (by decide +kernel) sX10_small kX10_small_ok caX10_small tb_RX10
theorem wX10_small : eWS yX10_small cX10_small 1 (some .long) 1 := ⟨(gW_at 1125 (by decide +kernel) rfl), (gW_at 89 (by decide +kernel) rfl), (gW_at 1124 (by decide +kernel) rfl), by decide +kernel⟩
