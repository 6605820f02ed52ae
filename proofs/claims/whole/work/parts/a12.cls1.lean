/-! Wholes: isZero, isOne, turn, unsign, copy. -/
section
variable {F : Nat → Int} {A W : Nat → Int → Int}
theorem cC_7 {r : Nat} (h : r < 16) : cC F A W (7, r) = some (.inl (6, [eR (8, r)])) := by
  show orM none (orM (cK8 (7, r)) _) = _
  rw [cK8_a7, if_pos h]
  rfl
theorem cC_9 {g : Nat} (h : g < 11) : cC F A W (9, g) = some (.inl (2, [eR (10, g), eR (2, gb g + 16)])) := by
  show orM none (orM (cK8 (9, g)) _) = _
  rw [cK8_a9, if_pos h]
  rfl
theorem cC_1p {p : Nat} (h : p < 2) : cC F A W (1, p) = some (.inl (5, [eR (1, 10 + p), eI (F (2 + p))])) := by
  rcases (show p = 0 ∨ p = 1 by omega) with rfl | rfl <;> rfl
end
def zO (z : Int) : Int := if z = 1 then 1 else 0
def zE (p : Prop) [Decidable p] : Int := if p then 1 else 0
theorem zO_w (a : Int) : w32 (zO a) := by unfold zO; split <;> decide
theorem zO_0 {a : Int} : zO a = 0 ↔ a ≠ 1 := by unfold zO; split <;> simp_all
theorem zSg_w (z : Int) : w32 (zSg z) := by rcases zSg_c z with g | g | g <;> (rw [g.2.1]; decide)
theorem wq_81 {L : Nat} {f : Int → Int} {z : Int} (h : wq L f z) : w32 (f 81) := by rw [wq_s h]; exact zSg_w z
theorem wq_80 {L : Nat} {f : Int → Int} {z : Int} (h : wq L f z) : 0 ≤ f 80 ∧ f 80 ≤ L := by
  obtain ⟨n, a, b, -⟩ := h
  omega
theorem wq_0 {L : Nat} {f : Int → Int} {z : Int} (h : wq L f z) : f 81 = 0 ↔ z = 0 := by
  rw [wq_s h]
  rcases zSg_c z with g | g | g <;> omega
theorem wq_1 {L : Nat} {f : Int → Int} {z : Int} (h : wq L f z) : (f 81 = 1 ∧ f 80 = 1 ∧ f 0 = 1) ↔ z = 1 := by
  obtain ⟨n, a, b, c, d, e1, e2⟩ := h
  have hn := wq_n c d e1
  constructor
  · rintro ⟨h1, h2, h3⟩
    have : n = 1 := by omega
    subst this
    have e3 : vL f 1 = f 0 := by
      show 0 + f 0 * cB ^ 0 = f 0
      rw [Int.pow_zero]
      omega
    rcases zSg_c z with g | g | g <;> omega
  · intro h1
    subst h1
    have z1 : zAbs 1 = 1 := rfl
    have n1 : n ≤ 1 := nl_le hn.2.2 (by rw [z1]; decide)
    have n0 : n ≠ 0 := fun q => absurd (hn.1.mpr q) (by decide)
    have : n = 1 := by omega
    subst this
    have e3 : vL f 1 = f 0 := by
      show 0 + f 0 * cB ^ 0 = f 0
      rw [Int.pow_zero]
      omega
    exact ⟨by rw [e2]; rfl, by rw [b]; rfl, by rw [← e3, e1]; rfl⟩
-- isZero
def SX8_isZero : eSp := fun as M rt => ∃ (F : Nat → Int) (A W : Nat → Int → Int) (k : Nat) (z : Int), as = [eR (2, k)] ∧ M = cC F A W ∧ (k < 332) ∧ (wq (lw k) (W k) z) ∧ (rt (some (eI (zZ z))) (cC F A W))
theorem SX8_isZero_i {F : Nat → Int} {A W : Nat → Int → Int} {k : Nat} {z : Int} {rt : Option eV → eM → Prop} (hk : k < 332) (hz : wq (lw k) (W k) z) (h : rt (some (eI (zZ z))) (cC F A W)) : SX8_isZero [eR (2, k)] (cC F A W) rt := ⟨F, A, W, k, z, rfl, rfl, hk, hz, h⟩
theorem SX8_isZero_r : ∀ as M rt, SX8_isZero as M rt → ∃ a r fs, as = eR a :: r ∧ M a = some (.inl (7, fs)) := by
  rintro as M rt ⟨F, A, W, k, z, rfl, rfl, hk, -⟩
  exact ⟨_, _, _, rfl, cC_2 hk⟩
def kX8_isZero : List (Nat × Jvm.ClassFile.Instr × Nat) := [(0, .aload_n 0, 1), (1, .getfield 13, 3), (4, .ifCond .ne 7, 3), (7, .iconst 1, 1), (8, .goto 4, 3), (11, .iconst 0, 1), (12, .ireturn, 1)]
theorem kX8_isZero_0 : cdOf kX8_isZero 0 = some (.aload_n 0, 1) := by decide +kernel
theorem kX8_isZero_1 : cdOf kX8_isZero 1 = some (.getfield 13, 3) := by decide +kernel
theorem kX8_isZero_4 : cdOf kX8_isZero 4 = some (.ifCond .ne 7, 3) := by decide +kernel
theorem kX8_isZero_7 : cdOf kX8_isZero 7 = some (.iconst 1, 1) := by decide +kernel
theorem kX8_isZero_8 : cdOf kX8_isZero 8 = some (.goto 4, 3) := by decide +kernel
theorem kX8_isZero_11 : cdOf kX8_isZero 11 = some (.iconst 0, 1) := by decide +kernel
theorem kX8_isZero_12 : cdOf kX8_isZero 12 = some (.ireturn, 1) := by decide +kernel
set_option maxRecDepth 20000 in
theorem kX8_isZero_ok : ∀ pc i len, cdOf kX8_isZero pc = some (i, len) → decode cX8_isZero pc = .ok (i, len) ∧ stOK 1 i = true ∧ jOK pc i = true ∧ eLen i len = true := cdOf_ok cX8_isZero 1 kX8_isZero (by decide +kernel)
def vtX8_isZero : Nat → Option (Nat × eSp) := fun _ => none
def stX8_isZero : Nat → Option (Nat × eSp) := fun _ => none
abbrev TX8_isZero : eT := (fl_RX8, cl_RX8, dl_RX8, vtX8_isZero, stX8_isZero)
set_option maxRecDepth 20000 in
theorem caX8_isZero : eCalls RX8 { frames := 0, cells := 0, slots := 0, locals := 0 } TX8_isZero := by
  refine ⟨fun k n sp h => ?_, fun k n sp h => ?_⟩
  · cases h
  · cases h
set_option maxRecDepth 100000 in
set_option maxHeartbeats 4000000 in
theorem sX8_isZero : eSafe TX8_isZero (cdOf kX8_isZero) 1 (some .boolean) SX8_isZero := by
  intro K rt hK as M h
  obtain ⟨F, A, W, k, z, rfl, rfl, hk, hz, h⟩ := h
  refine ⟨by simp [eE], ?_⟩
  have e := wq_0 hz
  have w := wq_81 hz
  simp only [eLoc, eE, List.length_cons, List.length_nil, List.replicate, List.cons_append, List.nil_append, Nat.reduceAdd, Nat.reduceSub]
  refine x_aload_n hK kX8_isZero_0 (q := 1) rfl rfl ?_
  refine x_getfield hK kX8_isZero_1 (q := 4) rfl (gX8_13 ?_)
  refine x_if_ne hK kX8_isZero_4 (q := 7) rfl (tg := 11) rfl (by exact w) (fun c4 => ?_) (fun c4 => ?_)
  · refine x_iconst hK kX8_isZero_11 (q := 12) rfl ?_
    refine x_ireturn hK kX8_isZero_12 (by first | exact Or.inl rfl | exact Or.inr rfl) ?_
    unfold zZ at h
    first | (rw [if_pos (e.mp (by omega))] at h; exact h) | (rw [if_neg (fun q => by have := e.mpr q; omega)] at h; exact h)
  · refine x_iconst hK kX8_isZero_7 (q := 8) rfl ?_
    refine x_goto hK kX8_isZero_8 (tg := 12) rfl ?_
    refine x_ireturn hK kX8_isZero_12 (by first | exact Or.inl rfl | exact Or.inr rfl) ?_
    unfold zZ at h
    first | (rw [if_pos (e.mp (by omega))] at h; exact h) | (rw [if_neg (fun q => by have := e.mpr q; omega)] at h; exact h)
set_option maxRecDepth 20000 in
theorem mX8_isZero : eMet yX8_isZero cX8_isZero 1 (some .boolean) 0 0 SX8_isZero := eMet_of (by decide +kernel) sX8_isZero kX8_isZero_ok caX8_isZero tb_RX8
theorem wX8_isZero : eWV yX8_isZero cX8_isZero 1 (some .boolean) 1 7 SX8_isZero := ⟨(gW_at 438 (by decide +kernel) rfl), (gW_at 81 (by decide +kernel) rfl), (gW_at 436 (by decide +kernel) rfl), ⟨_, rfl, (gW_at 437 (by decide +kernel) rfl)⟩, by decide +kernel, SX8_isZero_r⟩
-- isOne
def SX8_isOne : eSp := fun as M rt => ∃ (F : Nat → Int) (A W : Nat → Int → Int) (k : Nat) (z : Int), as = [eR (2, k)] ∧ M = cC F A W ∧ (k < 332) ∧ (wq (lw k) (W k) z) ∧ (rt (some (eI (zO z))) (cC F A W))
theorem SX8_isOne_i {F : Nat → Int} {A W : Nat → Int → Int} {k : Nat} {z : Int} {rt : Option eV → eM → Prop} (hk : k < 332) (hz : wq (lw k) (W k) z) (h : rt (some (eI (zO z))) (cC F A W)) : SX8_isOne [eR (2, k)] (cC F A W) rt := ⟨F, A, W, k, z, rfl, rfl, hk, hz, h⟩
theorem SX8_isOne_r : ∀ as M rt, SX8_isOne as M rt → ∃ a r fs, as = eR a :: r ∧ M a = some (.inl (7, fs)) := by
  rintro as M rt ⟨F, A, W, k, z, rfl, rfl, hk, -⟩
  exact ⟨_, _, _, rfl, cC_2 hk⟩
def kX8_isOne : List (Nat × Jvm.ClassFile.Instr × Nat) := [(0, .aload_n 0, 1), (1, .getfield 13, 3), (4, .iconst 1, 1), (5, .if_icmp .ne 33, 3), (8, .aload_n 0, 1), (9, .getfield 9, 3), (12, .iconst 1, 1), (13, .if_icmp .ne 25, 3), (16, .aload_n 0, 1), (17, .getfield 22, 3), (20, .arraylength, 1), (21, .ifCond .le 17, 3), (24, .aload_n 0, 1), (25, .getfield 22, 3), (28, .iconst 0, 1), (29, .iaload, 1), (30, .iconst 1, 1), (31, .if_icmp .ne 7, 3), (34, .iconst 1, 1), (35, .goto 4, 3), (38, .iconst 0, 1), (39, .ireturn, 1)]
theorem kX8_isOne_0 : cdOf kX8_isOne 0 = some (.aload_n 0, 1) := by decide +kernel
theorem kX8_isOne_1 : cdOf kX8_isOne 1 = some (.getfield 13, 3) := by decide +kernel
theorem kX8_isOne_4 : cdOf kX8_isOne 4 = some (.iconst 1, 1) := by decide +kernel
theorem kX8_isOne_5 : cdOf kX8_isOne 5 = some (.if_icmp .ne 33, 3) := by decide +kernel
theorem kX8_isOne_8 : cdOf kX8_isOne 8 = some (.aload_n 0, 1) := by decide +kernel
theorem kX8_isOne_9 : cdOf kX8_isOne 9 = some (.getfield 9, 3) := by decide +kernel
theorem kX8_isOne_12 : cdOf kX8_isOne 12 = some (.iconst 1, 1) := by decide +kernel
theorem kX8_isOne_13 : cdOf kX8_isOne 13 = some (.if_icmp .ne 25, 3) := by decide +kernel
theorem kX8_isOne_16 : cdOf kX8_isOne 16 = some (.aload_n 0, 1) := by decide +kernel
theorem kX8_isOne_17 : cdOf kX8_isOne 17 = some (.getfield 22, 3) := by decide +kernel
theorem kX8_isOne_20 : cdOf kX8_isOne 20 = some (.arraylength, 1) := by decide +kernel
theorem kX8_isOne_21 : cdOf kX8_isOne 21 = some (.ifCond .le 17, 3) := by decide +kernel
theorem kX8_isOne_24 : cdOf kX8_isOne 24 = some (.aload_n 0, 1) := by decide +kernel
theorem kX8_isOne_25 : cdOf kX8_isOne 25 = some (.getfield 22, 3) := by decide +kernel
theorem kX8_isOne_28 : cdOf kX8_isOne 28 = some (.iconst 0, 1) := by decide +kernel
theorem kX8_isOne_29 : cdOf kX8_isOne 29 = some (.iaload, 1) := by decide +kernel
theorem kX8_isOne_30 : cdOf kX8_isOne 30 = some (.iconst 1, 1) := by decide +kernel
theorem kX8_isOne_31 : cdOf kX8_isOne 31 = some (.if_icmp .ne 7, 3) := by decide +kernel
theorem kX8_isOne_34 : cdOf kX8_isOne 34 = some (.iconst 1, 1) := by decide +kernel
theorem kX8_isOne_35 : cdOf kX8_isOne 35 = some (.goto 4, 3) := by decide +kernel
theorem kX8_isOne_38 : cdOf kX8_isOne 38 = some (.iconst 0, 1) := by decide +kernel
theorem kX8_isOne_39 : cdOf kX8_isOne 39 = some (.ireturn, 1) := by decide +kernel
set_option maxRecDepth 20000 in
theorem kX8_isOne_ok : ∀ pc i len, cdOf kX8_isOne pc = some (i, len) → decode cX8_isOne pc = .ok (i, len) ∧ stOK 1 i = true ∧ jOK pc i = true ∧ eLen i len = true := cdOf_ok cX8_isOne 1 kX8_isOne (by decide +kernel)
def vtX8_isOne : Nat → Option (Nat × eSp) := fun _ => none
def stX8_isOne : Nat → Option (Nat × eSp) := fun _ => none
abbrev TX8_isOne : eT := (fl_RX8, cl_RX8, dl_RX8, vtX8_isOne, stX8_isOne)
set_option maxRecDepth 20000 in
theorem caX8_isOne : eCalls RX8 { frames := 0, cells := 0, slots := 0, locals := 0 } TX8_isOne := by
  refine ⟨fun k n sp h => ?_, fun k n sp h => ?_⟩
  · cases h
  · cases h
set_option maxRecDepth 100000 in
set_option maxHeartbeats 4000000 in
theorem sX8_isOne : eSafe TX8_isOne (cdOf kX8_isOne) 1 (some .boolean) SX8_isOne := by
  intro K rt hK as M h
  obtain ⟨F, A, W, k, z, rfl, rfl, hk, hz, h⟩ := h
  refine ⟨by simp [eE], ?_⟩
  have e := wq_1 hz
  have w := wq_81 hz
  have w8 := wq_80 hz
  have lk := lw_b k
  have w0 : W k 80 = 1 → 0 ≤ W k 0 ∧ W k 0 < 2147483648 := fun q => by
    obtain ⟨n, a, b, c, -⟩ := hz
    exact c 0 (by omega)
  simp only [eLoc, eE, List.length_cons, List.length_nil, List.replicate, List.cons_append, List.nil_append, Nat.reduceAdd, Nat.reduceSub]
  refine x_aload_n hK kX8_isOne_0 (q := 1) rfl rfl ?_
  refine x_getfield hK kX8_isOne_1 (q := 4) rfl (gX8_13 ?_)
  refine x_iconst hK kX8_isOne_4 (q := 5) rfl ?_
  refine x_icmp_ne hK kX8_isOne_5 (q := 8) rfl (tg := 38) rfl (by refine ⟨w, by decide⟩) (fun c5 => ?_) (fun c5 => ?_)
  · refine x_iconst hK kX8_isOne_38 (q := 39) rfl ?_
    refine x_ireturn hK kX8_isOne_39 (by first | exact Or.inl rfl | exact Or.inr rfl) ?_
    unfold zO at h
    first | (rw [if_pos (e.mp ⟨by omega, by omega, by omega⟩)] at h; exact h) | (rw [if_neg (fun q => by have := e.mpr q; omega)] at h; exact h)
  · refine x_aload_n hK kX8_isOne_8 (q := 9) rfl rfl ?_
    refine x_getfield hK kX8_isOne_9 (q := 12) rfl (gX8_9 ?_)
    refine x_iconst hK kX8_isOne_12 (q := 13) rfl ?_
    refine x_icmp_ne hK kX8_isOne_13 (q := 16) rfl (tg := 38) rfl (by refine ⟨⟨by omega, by omega⟩, by decide⟩) (fun c13 => ?_) (fun c13 => ?_)
    · refine x_iconst hK kX8_isOne_38 (q := 39) rfl ?_
      refine x_ireturn hK kX8_isOne_39 (by first | exact Or.inl rfl | exact Or.inr rfl) ?_
      unfold zO at h
      first | (rw [if_pos (e.mp ⟨by omega, by omega, by omega⟩)] at h; exact h) | (rw [if_neg (fun q => by have := e.mpr q; omega)] at h; exact h)
    · refine x_aload_n hK kX8_isOne_16 (q := 17) rfl rfl ?_
      refine x_getfield hK kX8_isOne_17 (q := 20) rfl (gX8_22 ?_)
      refine x_arraylength hK kX8_isOne_20 (q := 21) rfl (nC7_0 ?_)
      refine x_if_le hK kX8_isOne_21 (q := 24) rfl (tg := 38) rfl (by omega) (fun c21 => ?_) (fun c21 => ?_)
      · exfalso; omega
      · refine x_aload_n hK kX8_isOne_24 (q := 25) rfl rfl ?_
        refine x_getfield hK kX8_isOne_25 (q := 28) rfl (gX8_22 ?_)
        refine x_iconst hK kX8_isOne_28 (q := 29) rfl ?_
        refine x_iaload hK kX8_isOne_29 (q := 30) rfl (aC7_0 (by refine ⟨?_, ?_⟩ <;> omega) ?_)
        have w1 := w0 (by omega)
        refine x_iconst hK kX8_isOne_30 (q := 31) rfl ?_
        refine x_icmp_ne hK kX8_isOne_31 (q := 34) rfl (tg := 38) rfl (by refine ⟨⟨by omega, by omega⟩, by decide⟩) (fun c31 => ?_) (fun c31 => ?_)
        · refine x_iconst hK kX8_isOne_38 (q := 39) rfl ?_
          refine x_ireturn hK kX8_isOne_39 (by first | exact Or.inl rfl | exact Or.inr rfl) ?_
          unfold zO at h
          first | (rw [if_pos (e.mp ⟨by omega, by omega, by omega⟩)] at h; exact h) | (rw [if_neg (fun q => by have := e.mpr q; omega)] at h; exact h)
        · refine x_iconst hK kX8_isOne_34 (q := 35) rfl ?_
          refine x_goto hK kX8_isOne_35 (tg := 39) rfl ?_
          refine x_ireturn hK kX8_isOne_39 (by first | exact Or.inl rfl | exact Or.inr rfl) ?_
          unfold zO at h
          first | (rw [if_pos (e.mp ⟨by omega, by omega, by omega⟩)] at h; exact h) | (rw [if_neg (fun q => by have := e.mpr q; omega)] at h; exact h)
set_option maxRecDepth 20000 in
theorem mX8_isOne : eMet yX8_isOne cX8_isOne 1 (some .boolean) 0 0 SX8_isOne := eMet_of (by decide +kernel) sX8_isOne kX8_isOne_ok caX8_isOne tb_RX8
theorem wX8_isOne : eWV yX8_isOne cX8_isOne 1 (some .boolean) 1 7 SX8_isOne := ⟨(gW_at 517 (by decide +kernel) rfl), (gW_at 81 (by decide +kernel) rfl), (gW_at 515 (by decide +kernel) rfl), ⟨_, rfl, (gW_at 516 (by decide +kernel) rfl)⟩, by decide +kernel, SX8_isOne_r⟩
-- turn
theorem wq_turn {L : Nat} {f : Int → Int} {z : Int} (hL : L ≤ 64) (h : wq L f z) : wq L (uI f 81 (-f 81)) (-z) := by
  obtain ⟨n, a, b, c, d, e1, e2⟩ := h
  refine ⟨n, a, by rw [uI_n _ _ (by decide)]; exact b, lR_cong c (fun k hk => uI_n _ _ (by omega)), fun h0 => by rw [uI_n _ _ (by omega)]; exact d h0, ?_, ?_⟩
  · rw [vL_cong (fun k hk => uI_n _ _ (by omega)), e1, zAbs_ng]
  · rw [uI_s, e2]
    rcases zSg_c z with g | g | g <;> rcases zSg_c (-z) with g2 | g2 | g2 <;> omega
def SX8_turn : eSp := fun as M rt => ∃ (F : Nat → Int) (A W : Nat → Int → Int) (k : Nat) (z : Int), as = [eR (2, k)] ∧ M = cC F A W ∧ (k < 332) ∧ (wq (lw k) (W k) z) ∧ (∀ f, wq (lw k) f (-z) → rt none (cC F A (uA W k f)))
theorem SX8_turn_i {F : Nat → Int} {A W : Nat → Int → Int} {k : Nat} {z : Int} {rt : Option eV → eM → Prop} (hk : k < 332) (hz : wq (lw k) (W k) z) (h : ∀ f, wq (lw k) f (-z) → rt none (cC F A (uA W k f))) : SX8_turn [eR (2, k)] (cC F A W) rt := ⟨F, A, W, k, z, rfl, rfl, hk, hz, h⟩
theorem SX8_turn_r : ∀ as M rt, SX8_turn as M rt → ∃ a r fs, as = eR a :: r ∧ M a = some (.inl (7, fs)) := by
  rintro as M rt ⟨F, A, W, k, z, rfl, rfl, hk, -⟩
  exact ⟨_, _, _, rfl, cC_2 hk⟩
def kX8_turn : List (Nat × Jvm.ClassFile.Instr × Nat) := [(0, .aload_n 0, 1), (1, .aload_n 0, 1), (2, .getfield 13, 3), (5, .ineg, 1), (6, .putfield 13, 3), (9, .return_, 1)]
theorem kX8_turn_0 : cdOf kX8_turn 0 = some (.aload_n 0, 1) := by decide +kernel
theorem kX8_turn_1 : cdOf kX8_turn 1 = some (.aload_n 0, 1) := by decide +kernel
theorem kX8_turn_2 : cdOf kX8_turn 2 = some (.getfield 13, 3) := by decide +kernel
theorem kX8_turn_5 : cdOf kX8_turn 5 = some (.ineg, 1) := by decide +kernel
theorem kX8_turn_6 : cdOf kX8_turn 6 = some (.putfield 13, 3) := by decide +kernel
theorem kX8_turn_9 : cdOf kX8_turn 9 = some (.return_, 1) := by decide +kernel
set_option maxRecDepth 20000 in
theorem kX8_turn_ok : ∀ pc i len, cdOf kX8_turn pc = some (i, len) → decode cX8_turn pc = .ok (i, len) ∧ stOK 1 i = true ∧ jOK pc i = true ∧ eLen i len = true := cdOf_ok cX8_turn 1 kX8_turn (by decide +kernel)
def vtX8_turn : Nat → Option (Nat × eSp) := fun _ => none
def stX8_turn : Nat → Option (Nat × eSp) := fun _ => none
abbrev TX8_turn : eT := (fl_RX8, cl_RX8, dl_RX8, vtX8_turn, stX8_turn)
set_option maxRecDepth 20000 in
theorem caX8_turn : eCalls RX8 { frames := 0, cells := 0, slots := 0, locals := 0 } TX8_turn := by
  refine ⟨fun k n sp h => ?_, fun k n sp h => ?_⟩
  · cases h
  · cases h
set_option maxRecDepth 100000 in
set_option maxHeartbeats 4000000 in
theorem sX8_turn : eSafe TX8_turn (cdOf kX8_turn) 1 none SX8_turn := by
  intro K rt hK as M h
  obtain ⟨F, A, W, k, z, rfl, rfl, hk, hz, h⟩ := h
  refine ⟨by simp [eE], ?_⟩
  simp only [eLoc, eE, List.length_cons, List.length_nil, List.replicate, List.cons_append, List.nil_append, Nat.reduceAdd, Nat.reduceSub]
  refine x_aload_n hK kX8_turn_0 (q := 1) rfl rfl ?_
  refine x_aload_n hK kX8_turn_1 (q := 2) rfl rfl ?_
  refine x_getfield hK kX8_turn_2 (q := 5) rfl (gX8_13 ?_)
  refine x_ineg hK kX8_turn_5 (q := 6) rfl ?_
  refine x_putfield hK kX8_turn_6 (q := 9) rfl (pX8_13 ?_)
  refine x_return_ hK kX8_turn_9 (by first | trivial | exact Or.inl rfl | exact Or.inr rfl) ?_
  exact h _ (wq_turn (by rcases lw_b k with q | q <;> omega) hz)
set_option maxRecDepth 20000 in
theorem mX8_turn : eMet yX8_turn cX8_turn 1 none 0 0 SX8_turn := eMet_of (by decide +kernel) sX8_turn kX8_turn_ok caX8_turn tb_RX8
theorem wX8_turn : eWV yX8_turn cX8_turn 1 none 1 7 SX8_turn := ⟨(gW_at 521 (by decide +kernel) rfl), (gW_at 81 (by decide +kernel) rfl), (gW_at 519 (by decide +kernel) rfl), ⟨_, rfl, (gW_at 520 (by decide +kernel) rfl)⟩, by decide +kernel, SX8_turn_r⟩
-- unsign
theorem wq_uns {L : Nat} {f : Int → Int} {z : Int} (hL : L ≤ 64) (h : wq L f z) : wq L (uI f 81 (zAbs (f 81))) (zAbs z) := by
  obtain ⟨n, a, b, c, d, e1, e2⟩ := h
  refine ⟨n, a, by rw [uI_n _ _ (by decide)]; exact b, lR_cong c (fun k hk => uI_n _ _ (by omega)), fun h0 => by rw [uI_n _ _ (by omega)]; exact d h0, ?_, ?_⟩
  · rw [vL_cong (fun k hk => uI_n _ _ (by omega)), e1]
    rcases zSg_c z with g | g | g <;> rcases zSg_c (zAbs z) with g2 | g2 | g2 <;> omega
  · rw [uI_s, e2]
    rcases zSg_c z with g | g | g <;> rcases zSg_c (zAbs z) with g2 | g2 | g2 <;> rcases zSg_c (zSg z) with g3 | g3 | g3 <;> omega
def SX8_unsign : eSp := fun as M rt => ∃ (F : Nat → Int) (A W : Nat → Int → Int) (k : Nat) (z : Int), as = [eR (2, k)] ∧ M = cC F A W ∧ (k < 332) ∧ (wq (lw k) (W k) z) ∧ (∀ f, wq (lw k) f (zAbs z) → rt none (cC F A (uA W k f)))
theorem SX8_unsign_i {F : Nat → Int} {A W : Nat → Int → Int} {k : Nat} {z : Int} {rt : Option eV → eM → Prop} (hk : k < 332) (hz : wq (lw k) (W k) z) (h : ∀ f, wq (lw k) f (zAbs z) → rt none (cC F A (uA W k f))) : SX8_unsign [eR (2, k)] (cC F A W) rt := ⟨F, A, W, k, z, rfl, rfl, hk, hz, h⟩
theorem SX8_unsign_r : ∀ as M rt, SX8_unsign as M rt → ∃ a r fs, as = eR a :: r ∧ M a = some (.inl (7, fs)) := by
  rintro as M rt ⟨F, A, W, k, z, rfl, rfl, hk, -⟩
  exact ⟨_, _, _, rfl, cC_2 hk⟩
def kX8_unsign : List (Nat × Jvm.ClassFile.Instr × Nat) := [(0, .aload_n 0, 1), (1, .aload_n 0, 1), (2, .getfield 13, 3), (5, .ifCond .ge 11, 3), (8, .aload_n 0, 1), (9, .getfield 13, 3), (12, .ineg, 1), (13, .goto 7, 3), (16, .aload_n 0, 1), (17, .getfield 13, 3), (20, .putfield 13, 3), (23, .return_, 1)]
theorem kX8_unsign_0 : cdOf kX8_unsign 0 = some (.aload_n 0, 1) := by decide +kernel
theorem kX8_unsign_1 : cdOf kX8_unsign 1 = some (.aload_n 0, 1) := by decide +kernel
theorem kX8_unsign_2 : cdOf kX8_unsign 2 = some (.getfield 13, 3) := by decide +kernel
theorem kX8_unsign_5 : cdOf kX8_unsign 5 = some (.ifCond .ge 11, 3) := by decide +kernel
theorem kX8_unsign_8 : cdOf kX8_unsign 8 = some (.aload_n 0, 1) := by decide +kernel
theorem kX8_unsign_9 : cdOf kX8_unsign 9 = some (.getfield 13, 3) := by decide +kernel
theorem kX8_unsign_12 : cdOf kX8_unsign 12 = some (.ineg, 1) := by decide +kernel
theorem kX8_unsign_13 : cdOf kX8_unsign 13 = some (.goto 7, 3) := by decide +kernel
theorem kX8_unsign_16 : cdOf kX8_unsign 16 = some (.aload_n 0, 1) := by decide +kernel
theorem kX8_unsign_17 : cdOf kX8_unsign 17 = some (.getfield 13, 3) := by decide +kernel
theorem kX8_unsign_20 : cdOf kX8_unsign 20 = some (.putfield 13, 3) := by decide +kernel
theorem kX8_unsign_23 : cdOf kX8_unsign 23 = some (.return_, 1) := by decide +kernel
set_option maxRecDepth 20000 in
theorem kX8_unsign_ok : ∀ pc i len, cdOf kX8_unsign pc = some (i, len) → decode cX8_unsign pc = .ok (i, len) ∧ stOK 1 i = true ∧ jOK pc i = true ∧ eLen i len = true := cdOf_ok cX8_unsign 1 kX8_unsign (by decide +kernel)
def vtX8_unsign : Nat → Option (Nat × eSp) := fun _ => none
def stX8_unsign : Nat → Option (Nat × eSp) := fun _ => none
abbrev TX8_unsign : eT := (fl_RX8, cl_RX8, dl_RX8, vtX8_unsign, stX8_unsign)
set_option maxRecDepth 20000 in
theorem caX8_unsign : eCalls RX8 { frames := 0, cells := 0, slots := 0, locals := 0 } TX8_unsign := by
  refine ⟨fun k n sp h => ?_, fun k n sp h => ?_⟩
  · cases h
  · cases h
set_option maxRecDepth 100000 in
set_option maxHeartbeats 4000000 in
theorem sX8_unsign : eSafe TX8_unsign (cdOf kX8_unsign) 1 none SX8_unsign := by
  intro K rt hK as M h
  obtain ⟨F, A, W, k, z, rfl, rfl, hk, hz, h⟩ := h
  refine ⟨by simp [eE], ?_⟩
  have w := wq_81 hz
  have q := h _ (wq_uns (by rcases lw_b k with q | q <;> omega) hz)
  unfold zAbs at q
  simp only [eLoc, eE, List.length_cons, List.length_nil, List.replicate, List.cons_append, List.nil_append, Nat.reduceAdd, Nat.reduceSub]
  refine x_aload_n hK kX8_unsign_0 (q := 1) rfl rfl ?_
  refine x_aload_n hK kX8_unsign_1 (q := 2) rfl rfl ?_
  refine x_getfield hK kX8_unsign_2 (q := 5) rfl (gX8_13 ?_)
  refine x_if_ge hK kX8_unsign_5 (q := 8) rfl (tg := 16) rfl (by exact w) (fun c5 => ?_) (fun c5 => ?_)
  · refine x_aload_n hK kX8_unsign_16 (q := 17) rfl rfl ?_
    refine x_getfield hK kX8_unsign_17 (q := 20) rfl (gX8_13 ?_)
    refine x_putfield hK kX8_unsign_20 (q := 23) rfl (pX8_13 ?_)
    refine x_return_ hK kX8_unsign_23 (by first | trivial | exact Or.inl rfl | exact Or.inr rfl) ?_
    first | (rw [if_pos (by omega)] at q; exact q) | (rw [if_neg (by omega)] at q; exact q)
  · refine x_aload_n hK kX8_unsign_8 (q := 9) rfl rfl ?_
    refine x_getfield hK kX8_unsign_9 (q := 12) rfl (gX8_13 ?_)
    refine x_ineg hK kX8_unsign_12 (q := 13) rfl ?_
    refine x_goto hK kX8_unsign_13 (tg := 20) rfl ?_
    refine x_putfield hK kX8_unsign_20 (q := 23) rfl (pX8_13 ?_)
    refine x_return_ hK kX8_unsign_23 (by first | trivial | exact Or.inl rfl | exact Or.inr rfl) ?_
    first | (rw [if_pos (by omega)] at q; exact q) | (rw [if_neg (by omega)] at q; exact q)
set_option maxRecDepth 20000 in
theorem mX8_unsign : eMet yX8_unsign cX8_unsign 1 none 0 0 SX8_unsign := eMet_of (by decide +kernel) sX8_unsign kX8_unsign_ok caX8_unsign tb_RX8
theorem wX8_unsign : eWV yX8_unsign cX8_unsign 1 none 1 7 SX8_unsign := ⟨(gW_at 454 (by decide +kernel) rfl), (gW_at 81 (by decide +kernel) rfl), (gW_at 452 (by decide +kernel) rfl), ⟨_, rfl, (gW_at 453 (by decide +kernel) rfl)⟩, by decide +kernel, SX8_unsign_r⟩
-- copy
theorem wq_cp {L : Nat} {f g : Int → Int} {z : Int} (h : wq L f z) (e : ∀ i, 0 ≤ i → i < f 80 → g i = f i) (e8 : g 80 = f 80) (e9 : g 81 = f 81) : wq L g z := by
  obtain ⟨n, a, b, c, d, e1, e2⟩ := h
  exact ⟨n, a, by rw [e8]; exact b, lR_cong c (fun k hk => e k (by omega) (by omega)), fun h0 => by rw [e _ (by omega) (by omega)]; exact d h0, by rw [vL_cong (fun k hk => e k (by omega) (by omega))]; exact e1, by rw [e9]; exact e2⟩
def SX8_copy : eSp := fun as M rt => ∃ (F : Nat → Int) (A W : Nat → Int → Int) (k j : Nat) (z : Int), as = [eR (2, k), eR (2, j)] ∧ M = cC F A W ∧ (k < 332) ∧ (j < 332) ∧ (j ≠ k) ∧ (wq (lw j) (W j) z) ∧ (zAbs z < cB ^ lw k) ∧ (∀ f, wq (lw k) f z → rt none (cC F A (uA W k f)))
theorem SX8_copy_i {F : Nat → Int} {A W : Nat → Int → Int} {k j : Nat} {z : Int} {rt : Option eV → eM → Prop} (hk : k < 332) (hj : j < 332) (hn : j ≠ k) (hz : wq (lw j) (W j) z) (hb : zAbs z < cB ^ lw k) (h : ∀ f, wq (lw k) f z → rt none (cC F A (uA W k f))) : SX8_copy [eR (2, k), eR (2, j)] (cC F A W) rt := ⟨F, A, W, k, j, z, rfl, rfl, hk, hj, hn, hz, hb, h⟩
theorem SX8_copy_r : ∀ as M rt, SX8_copy as M rt → ∃ a r fs, as = eR a :: r ∧ M a = some (.inl (7, fs)) := by
  rintro as M rt ⟨F, A, W, k, j, z, rfl, rfl, hk, -⟩
  exact ⟨_, _, _, rfl, cC_2 hk⟩
def kX8_copy : List (Nat × Jvm.ClassFile.Instr × Nat) := [(0, .aload_n 0, 1), (1, .aload_n 1, 1), (2, .getfield 9, 3), (5, .aload_n 0, 1), (6, .getfield 22, 3), (9, .arraylength, 1), (10, .if_icmp .ge 10, 3), (13, .aload_n 1, 1), (14, .getfield 9, 3), (17, .goto 8, 3), (20, .aload_n 0, 1), (21, .getfield 22, 3), (24, .arraylength, 1), (25, .putfield 9, 3), (28, .iconst 0, 1), (29, .istore_n 2, 1), (30, .iload_n 2, 1), (31, .aload_n 0, 1), (32, .getfield 9, 3), (35, .if_icmp .ge 39, 3), (38, .iload_n 2, 1), (39, .aload_n 0, 1), (40, .getfield 22, 3), (43, .arraylength, 1), (44, .if_icmp .ge 30, 3), (47, .iload_n 2, 1), (48, .aload_n 1, 1), (49, .getfield 22, 3), (52, .arraylength, 1), (53, .if_icmp .ge 21, 3), (56, .aload_n 0, 1), (57, .getfield 22, 3), (60, .iload_n 2, 1), (61, .aload_n 1, 1), (62, .getfield 22, 3), (65, .iload_n 2, 1), (66, .iaload, 1), (67, .iastore, 1), (68, .iinc 2 1, 3), (71, .goto (-41), 3), (74, .aload_n 0, 1), (75, .aload_n 1, 1), (76, .getfield 13, 3), (79, .putfield 13, 3), (82, .return_, 1)]
theorem kX8_copy_0 : cdOf kX8_copy 0 = some (.aload_n 0, 1) := by decide +kernel
theorem kX8_copy_1 : cdOf kX8_copy 1 = some (.aload_n 1, 1) := by decide +kernel
theorem kX8_copy_2 : cdOf kX8_copy 2 = some (.getfield 9, 3) := by decide +kernel
theorem kX8_copy_5 : cdOf kX8_copy 5 = some (.aload_n 0, 1) := by decide +kernel
theorem kX8_copy_6 : cdOf kX8_copy 6 = some (.getfield 22, 3) := by decide +kernel
theorem kX8_copy_9 : cdOf kX8_copy 9 = some (.arraylength, 1) := by decide +kernel
theorem kX8_copy_10 : cdOf kX8_copy 10 = some (.if_icmp .ge 10, 3) := by decide +kernel
theorem kX8_copy_13 : cdOf kX8_copy 13 = some (.aload_n 1, 1) := by decide +kernel
theorem kX8_copy_14 : cdOf kX8_copy 14 = some (.getfield 9, 3) := by decide +kernel
theorem kX8_copy_17 : cdOf kX8_copy 17 = some (.goto 8, 3) := by decide +kernel
theorem kX8_copy_20 : cdOf kX8_copy 20 = some (.aload_n 0, 1) := by decide +kernel
theorem kX8_copy_21 : cdOf kX8_copy 21 = some (.getfield 22, 3) := by decide +kernel
theorem kX8_copy_24 : cdOf kX8_copy 24 = some (.arraylength, 1) := by decide +kernel
theorem kX8_copy_25 : cdOf kX8_copy 25 = some (.putfield 9, 3) := by decide +kernel
theorem kX8_copy_28 : cdOf kX8_copy 28 = some (.iconst 0, 1) := by decide +kernel
theorem kX8_copy_29 : cdOf kX8_copy 29 = some (.istore_n 2, 1) := by decide +kernel
theorem kX8_copy_30 : cdOf kX8_copy 30 = some (.iload_n 2, 1) := by decide +kernel
theorem kX8_copy_31 : cdOf kX8_copy 31 = some (.aload_n 0, 1) := by decide +kernel
theorem kX8_copy_32 : cdOf kX8_copy 32 = some (.getfield 9, 3) := by decide +kernel
theorem kX8_copy_35 : cdOf kX8_copy 35 = some (.if_icmp .ge 39, 3) := by decide +kernel
theorem kX8_copy_38 : cdOf kX8_copy 38 = some (.iload_n 2, 1) := by decide +kernel
theorem kX8_copy_39 : cdOf kX8_copy 39 = some (.aload_n 0, 1) := by decide +kernel
theorem kX8_copy_40 : cdOf kX8_copy 40 = some (.getfield 22, 3) := by decide +kernel
theorem kX8_copy_43 : cdOf kX8_copy 43 = some (.arraylength, 1) := by decide +kernel
theorem kX8_copy_44 : cdOf kX8_copy 44 = some (.if_icmp .ge 30, 3) := by decide +kernel
theorem kX8_copy_47 : cdOf kX8_copy 47 = some (.iload_n 2, 1) := by decide +kernel
theorem kX8_copy_48 : cdOf kX8_copy 48 = some (.aload_n 1, 1) := by decide +kernel
theorem kX8_copy_49 : cdOf kX8_copy 49 = some (.getfield 22, 3) := by decide +kernel
theorem kX8_copy_52 : cdOf kX8_copy 52 = some (.arraylength, 1) := by decide +kernel
theorem kX8_copy_53 : cdOf kX8_copy 53 = some (.if_icmp .ge 21, 3) := by decide +kernel
theorem kX8_copy_56 : cdOf kX8_copy 56 = some (.aload_n 0, 1) := by decide +kernel
theorem kX8_copy_57 : cdOf kX8_copy 57 = some (.getfield 22, 3) := by decide +kernel
theorem kX8_copy_60 : cdOf kX8_copy 60 = some (.iload_n 2, 1) := by decide +kernel
theorem kX8_copy_61 : cdOf kX8_copy 61 = some (.aload_n 1, 1) := by decide +kernel
theorem kX8_copy_62 : cdOf kX8_copy 62 = some (.getfield 22, 3) := by decide +kernel
theorem kX8_copy_65 : cdOf kX8_copy 65 = some (.iload_n 2, 1) := by decide +kernel
theorem kX8_copy_66 : cdOf kX8_copy 66 = some (.iaload, 1) := by decide +kernel
theorem kX8_copy_67 : cdOf kX8_copy 67 = some (.iastore, 1) := by decide +kernel
theorem kX8_copy_68 : cdOf kX8_copy 68 = some (.iinc 2 1, 3) := by decide +kernel
theorem kX8_copy_71 : cdOf kX8_copy 71 = some (.goto (-41), 3) := by decide +kernel
theorem kX8_copy_74 : cdOf kX8_copy 74 = some (.aload_n 0, 1) := by decide +kernel
theorem kX8_copy_75 : cdOf kX8_copy 75 = some (.aload_n 1, 1) := by decide +kernel
theorem kX8_copy_76 : cdOf kX8_copy 76 = some (.getfield 13, 3) := by decide +kernel
theorem kX8_copy_79 : cdOf kX8_copy 79 = some (.putfield 13, 3) := by decide +kernel
theorem kX8_copy_82 : cdOf kX8_copy 82 = some (.return_, 1) := by decide +kernel
set_option maxRecDepth 20000 in
theorem kX8_copy_ok : ∀ pc i len, cdOf kX8_copy pc = some (i, len) → decode cX8_copy pc = .ok (i, len) ∧ stOK 3 i = true ∧ jOK pc i = true ∧ eLen i len = true := cdOf_ok cX8_copy 3 kX8_copy (by decide +kernel)
def vtX8_copy : Nat → Option (Nat × eSp) := fun _ => none
def stX8_copy : Nat → Option (Nat × eSp) := fun _ => none
abbrev TX8_copy : eT := (fl_RX8, cl_RX8, dl_RX8, vtX8_copy, stX8_copy)
set_option maxRecDepth 20000 in
theorem caX8_copy : eCalls RX8 { frames := 0, cells := 0, slots := 0, locals := 0 } TX8_copy := by
  refine ⟨fun k n sp h => ?_, fun k n sp h => ?_⟩
  · cases h
  · cases h
set_option maxRecDepth 100000 in
set_option maxHeartbeats 4000000 in
theorem sX8_copy : eSafe TX8_copy (cdOf kX8_copy) 3 none SX8_copy := by
  intro K rt hK as M h
  obtain ⟨F, A, W, k, j, z, rfl, rfl, hk, hj, hn, hz, hb, h⟩ := h
  refine ⟨by simp [eE], ?_⟩
  have w8 := wq_80 hz
  have w9 := wq_80 (wq_to hz hb)
  have lk := lw_b k
  have lj := lw_b j
  have at_ : ∀ f, uA W k f j = W j := fun f => uA_n _ _ hn
  have loop : ∀ (d n : Nat) (f : Int → Int), (n : Int) + d = W j 80 → f 80 = W j 80 → (∀ i : Int, 0 ≤ i → i < n → f i = W j i) → K 30 [some (eR (2, k)), some (eR (2, j)), some (eI n)] [] (cC F A (uA W k f)) := by
    intro d
    induction d with
    | zero =>
      intro n f hd h8 he
      refine x_iload_n hK kX8_copy_30 (q := 31) rfl rfl ?_
      refine x_aload_n hK kX8_copy_31 (q := 32) rfl rfl ?_
      refine x_getfield hK kX8_copy_32 (q := 35) rfl (gX8_9 ?_)
      rw [uA_g, h8]
      refine x_icmp_ge hK kX8_copy_35 (q := 38) rfl (tg := 74) rfl (by refine ⟨?_, ?_⟩ <;> omega) (fun c35 => ?_) (fun c35 => ?_)
      · refine x_aload_n hK kX8_copy_74 (q := 75) rfl rfl ?_
        refine x_aload_n hK kX8_copy_75 (q := 76) rfl rfl ?_
        refine x_getfield hK kX8_copy_76 (q := 79) rfl (gX8_13 ?_)
        rw [at_]
        refine x_putfield hK kX8_copy_79 (q := 82) rfl (pX8_13 ?_)
        refine x_return_ hK kX8_copy_82 (by first | trivial | exact Or.inl rfl | exact Or.inr rfl) ?_
        rw [uA_g, uA_u]
        refine h _ (wq_to (wq_cp hz (fun i i0 i1 => ?_) ?_ ?_) hb)
        · rw [uI_n _ _ (by omega)]; exact he i i0 (by omega)
        · rw [uI_n _ _ (by decide)]; exact h8
        · rw [uI_s]
      · exfalso; omega
    | succ d ih =>
      intro n f hd h8 he
      refine x_iload_n hK kX8_copy_30 (q := 31) rfl rfl ?_
      refine x_aload_n hK kX8_copy_31 (q := 32) rfl rfl ?_
      refine x_getfield hK kX8_copy_32 (q := 35) rfl (gX8_9 ?_)
      rw [uA_g, h8]
      refine x_icmp_ge hK kX8_copy_35 (q := 38) rfl (tg := 74) rfl (by refine ⟨?_, ?_⟩ <;> omega) (fun c35 => ?_) (fun c35 => ?_)
      · exfalso; omega
      · refine x_iload_n hK kX8_copy_38 (q := 39) rfl rfl ?_
        refine x_aload_n hK kX8_copy_39 (q := 40) rfl rfl ?_
        refine x_getfield hK kX8_copy_40 (q := 43) rfl (gX8_22 ?_)
        refine x_arraylength hK kX8_copy_43 (q := 44) rfl (nC7_0 ?_)
        refine x_icmp_ge hK kX8_copy_44 (q := 47) rfl (tg := 74) rfl (by refine ⟨?_, ?_⟩ <;> omega) (fun c44 => ?_) (fun c44 => ?_)
        · exfalso; omega
        · refine x_iload_n hK kX8_copy_47 (q := 48) rfl rfl ?_
          refine x_aload_n hK kX8_copy_48 (q := 49) rfl rfl ?_
          refine x_getfield hK kX8_copy_49 (q := 52) rfl (gX8_22 ?_)
          refine x_arraylength hK kX8_copy_52 (q := 53) rfl (nC7_0 ?_)
          refine x_icmp_ge hK kX8_copy_53 (q := 56) rfl (tg := 74) rfl (by refine ⟨?_, ?_⟩ <;> omega) (fun c53 => ?_) (fun c53 => ?_)
          · exfalso; omega
          · refine x_aload_n hK kX8_copy_56 (q := 57) rfl rfl ?_
            refine x_getfield hK kX8_copy_57 (q := 60) rfl (gX8_22 ?_)
            refine x_iload_n hK kX8_copy_60 (q := 61) rfl rfl ?_
            refine x_aload_n hK kX8_copy_61 (q := 62) rfl rfl ?_
            refine x_getfield hK kX8_copy_62 (q := 65) rfl (gX8_22 ?_)
            refine x_iload_n hK kX8_copy_65 (q := 66) rfl rfl ?_
            refine x_iaload hK kX8_copy_66 (q := 67) rfl (aC7_0 (by refine ⟨?_, ?_⟩ <;> omega) ?_)
            rw [at_]
            refine x_iastore hK kX8_copy_67 (q := 68) rfl (yC7_0 (by refine ⟨?_, ?_⟩ <;> omega) ?_)
            refine x_iinc hK kX8_copy_68 (q := 71) rfl rfl ?_
            simp only [lS, lS2, clr_0, clr_I, clr_L, clr_R]
            refine x_goto hK kX8_copy_71 (tg := 30) rfl ?_
            refine x_to (ih (n + 1) (uI f n (W j n)) (by omega) (by rw [uI_n _ _ (by omega)]; exact h8) (fun i i0 i1 => ?_)) rfl rfl ?_
            · rcases Int.lt_or_le i n with q | q
              · rw [uI_n _ _ (by omega)]; exact he i i0 q
              · rw [show i = n by omega, uI_s]
            · rw [uA_g, uA_u]
  simp only [eLoc, eE, List.length_cons, List.length_nil, List.replicate, List.cons_append, List.nil_append, Nat.reduceAdd, Nat.reduceSub]
  refine x_aload_n hK kX8_copy_0 (q := 1) rfl rfl ?_
  refine x_aload_n hK kX8_copy_1 (q := 2) rfl rfl ?_
  refine x_getfield hK kX8_copy_2 (q := 5) rfl (gX8_9 ?_)
  refine x_aload_n hK kX8_copy_5 (q := 6) rfl rfl ?_
  refine x_getfield hK kX8_copy_6 (q := 9) rfl (gX8_22 ?_)
  refine x_arraylength hK kX8_copy_9 (q := 10) rfl (nC7_0 ?_)
  refine x_icmp_ge hK kX8_copy_10 (q := 13) rfl (tg := 20) rfl (by refine ⟨?_, ?_⟩ <;> omega) (fun c10 => ?_) (fun c10 => ?_)
  · have e8 : (lw k : Int) = W j 80 := by omega
    refine x_aload_n hK kX8_copy_20 (q := 21) rfl rfl ?_
    refine x_getfield hK kX8_copy_21 (q := 24) rfl (gX8_22 ?_)
    refine x_arraylength hK kX8_copy_24 (q := 25) rfl (nC7_0 ?_)
    first | rw [e8] | skip
    refine x_putfield hK kX8_copy_25 (q := 28) rfl (pX8_9 ?_)
    refine x_iconst hK kX8_copy_28 (q := 29) rfl ?_
    refine x_istore_n hK kX8_copy_29 (q := 30) (jn := 2) rfl rfl ?_
    simp only [lS, lS2, clr_0, clr_I, clr_L, clr_R]
    exact x_to (loop (W j 80).toNat 0 (uI (W k) 80 (W j 80)) (by omega) (uI_s _ _ _) (fun i i0 i1 => by omega)) rfl rfl rfl
  · refine x_aload_n hK kX8_copy_13 (q := 14) rfl rfl ?_
    refine x_getfield hK kX8_copy_14 (q := 17) rfl (gX8_9 ?_)
    refine x_goto hK kX8_copy_17 (tg := 25) rfl ?_
    first | rw [e8] | skip
    refine x_putfield hK kX8_copy_25 (q := 28) rfl (pX8_9 ?_)
    refine x_iconst hK kX8_copy_28 (q := 29) rfl ?_
    refine x_istore_n hK kX8_copy_29 (q := 30) (jn := 2) rfl rfl ?_
    simp only [lS, lS2, clr_0, clr_I, clr_L, clr_R]
    exact x_to (loop (W j 80).toNat 0 (uI (W k) 80 (W j 80)) (by omega) (uI_s _ _ _) (fun i i0 i1 => by omega)) rfl rfl rfl
set_option maxRecDepth 20000 in
theorem mX8_copy : eMet yX8_copy cX8_copy 3 none 0 0 SX8_copy := eMet_of (by decide +kernel) sX8_copy kX8_copy_ok caX8_copy tb_RX8
theorem wX8_copy : eWV yX8_copy cX8_copy 3 none 2 7 SX8_copy := ⟨(gW_at 446 (by decide +kernel) rfl), (gW_at 81 (by decide +kernel) rfl), (gW_at 444 (by decide +kernel) rfl), ⟨_, rfl, (gW_at 445 (by decide +kernel) rfl)⟩, by decide +kernel, SX8_copy_r⟩
