/-! Tables: copyTable, unit, product. -/
abbrev mT : Type := Nat → Nat → Int
def tb (s : Int → Int) (T : Int) : mT := fun i j => s (T + 6 * i + j)
def mQ (n : Nat) (M N : mT) : Prop := ∀ i j, i < n → j < n → M i j = N i j
def dS (f : Nat → Int) : Nat → Int
  | 0 => 0
  | k + 1 => dS f k + f k
def mM (n : Nat) (A B : mT) : mT := fun i j => dS (fun k => A i k * B k j) n
def mI : mT := fun i j => if i = j then 1 else 0
def mB (n : Nat) (A : mT) (U : Int) : Prop := ∀ i j, i < n → j < n → zAbs (A i j) ≤ U
def iT (T : Int) (n : Nat) (p : Int) : Prop := T ≤ p ∧ p < T + 36 ∧ (p - T) / 6 < n ∧ (p - T) % 6 < n
theorem iT_in {T : Int} {n i j : Nat} (hn : n ≤ 6) (hi : i < n) (hj : j < n) : iT T n (T + 6 * i + j) := by
  unfold iT
  omega
theorem iT_out {T a : Int} {n i j : Nat} (h : T + 36 ≤ a ∨ a + 36 ≤ T) (hi : i < 6) (hj : j < 6) : ¬ iT T n (a + 6 * i + j) := by
  unfold iT
  omega
theorem dS_c {f g : Nat → Int} : ∀ {n : Nat}, (∀ k, k < n → f k = g k) → dS f n = dS g n
  | 0, _ => rfl
  | n + 1, h => by
    show dS f n + f n = dS g n + g n
    rw [dS_c (fun k hk => h k (by omega)), h n (by omega)]
theorem zAbs_tri (x y : Int) : zAbs (x + y) ≤ zAbs x + zAbs y := by
  unfold zAbs
  split <;> split <;> split <;> omega
theorem dS_b {f : Nat → Int} {W : Int} : ∀ {n : Nat}, (∀ k, k < n → zAbs (f k) ≤ W) → zAbs (dS f n) ≤ n * W
  | 0, _ => by
    show zAbs 0 ≤ _
    rw [show ((0 : Nat) : Int) = 0 from rfl, Int.zero_mul]
    decide
  | n + 1, h => by
    have h1 := dS_b (f := f) (W := W) (n := n) (fun k hk => h k (by omega))
    have h2 := h n (by omega)
    have h3 := zAbs_tri (dS f n) (f n)
    rw [show ((n + 1 : Nat) : Int) = (n : Int) + 1 by omega, Int.add_mul, Int.one_mul]
    show zAbs (dS f n + f n) ≤ _
    omega
-- copyTable
def SX10_copyTable : eSp := fun as M rt => ∃ (F : Nat → Int) (A : Nat → Int → Int) (s : Int → Int) (n : Nat) (to fr : Int), as = [eRR, eI to, eI fr] ∧ M = cR F A ∧ rn (A 0) s ∧ F 19 = n ∧ n ≤ 6 ∧ (0 ≤ to ∧ to + 36 ≤ 2666) ∧ (0 ≤ fr ∧ fr + 36 ≤ 2666) ∧ (to + 36 ≤ fr ∨ fr + 36 ≤ to) ∧ ∀ (A' : Nat → Int → Int) (s' : Int → Int), sN A A' → rn (A' 0) s' → mQ n (tb s' to) (tb s fr) → (∀ p, ¬ iT to n p → s' p = s p) → rt none (cR F A')
theorem SX10_copyTable_i {F : Nat → Int} {A : Nat → Int → Int} {s : Int → Int} {n : Nat} {to fr : Int} {rt : Option eV → eM → Prop} (hr : rn (A 0) s) (h0 : F 19 = n) (h1 : n ≤ 6) (h2 : 0 ≤ to ∧ to + 36 ≤ 2666) (h3 : 0 ≤ fr ∧ fr + 36 ≤ 2666) (h4 : to + 36 ≤ fr ∨ fr + 36 ≤ to) (h : ∀ (A' : Nat → Int → Int) (s' : Int → Int), sN A A' → rn (A' 0) s' → mQ n (tb s' to) (tb s fr) → (∀ p, ¬ iT to n p → s' p = s p) → rt none (cR F A')) : SX10_copyTable [eRR, eI to, eI fr] (cR F A) rt := ⟨F, A, s, n, to, fr, rfl, rfl, hr, h0, h1, h2, h3, h4, h⟩
theorem SX10_copyTable_r : ∀ as M rt, SX10_copyTable as M rt → ∃ a r fs, as = eR a :: r ∧ M a = some (.inl (9, fs)) := by
  rintro as M rt ⟨F, A, s, n, to, fr, rfl, rfl, -⟩
  exact ⟨_, _, _, rfl, rfl⟩
def kX10_copyTable : List (Nat × Jvm.ClassFile.Instr × Nat) := [(0, .iconst 0, 1), (1, .istore_n 3, 1), (2, .iload_n 3, 1), (3, .bipush 36, 2), (5, .if_icmp .ge 41, 3), (8, .iload_n 3, 1), (9, .bipush 6, 2), (11, .idiv, 1), (12, .aload_n 0, 1), (13, .getfield 223, 3), (16, .if_icmp .ge 24, 3), (19, .iload_n 3, 1), (20, .bipush 6, 2), (22, .irem, 1), (23, .aload_n 0, 1), (24, .getfield 223, 3), (27, .if_icmp .ge 13, 3), (30, .aload_n 0, 1), (31, .iload_n 1, 1), (32, .iload_n 3, 1), (33, .iadd, 1), (34, .iload_n 2, 1), (35, .iload_n 3, 1), (36, .iadd, 1), (37, .invokevirtual 85, 3), (40, .iinc 3 1, 3), (43, .goto (-41), 3), (46, .return_, 1)]
theorem kX10_copyTable_0 : cdOf kX10_copyTable 0 = some (.iconst 0, 1) := by decide +kernel
theorem kX10_copyTable_1 : cdOf kX10_copyTable 1 = some (.istore_n 3, 1) := by decide +kernel
theorem kX10_copyTable_2 : cdOf kX10_copyTable 2 = some (.iload_n 3, 1) := by decide +kernel
theorem kX10_copyTable_3 : cdOf kX10_copyTable 3 = some (.bipush 36, 2) := by decide +kernel
theorem kX10_copyTable_5 : cdOf kX10_copyTable 5 = some (.if_icmp .ge 41, 3) := by decide +kernel
theorem kX10_copyTable_8 : cdOf kX10_copyTable 8 = some (.iload_n 3, 1) := by decide +kernel
theorem kX10_copyTable_9 : cdOf kX10_copyTable 9 = some (.bipush 6, 2) := by decide +kernel
theorem kX10_copyTable_11 : cdOf kX10_copyTable 11 = some (.idiv, 1) := by decide +kernel
theorem kX10_copyTable_12 : cdOf kX10_copyTable 12 = some (.aload_n 0, 1) := by decide +kernel
theorem kX10_copyTable_13 : cdOf kX10_copyTable 13 = some (.getfield 223, 3) := by decide +kernel
theorem kX10_copyTable_16 : cdOf kX10_copyTable 16 = some (.if_icmp .ge 24, 3) := by decide +kernel
theorem kX10_copyTable_19 : cdOf kX10_copyTable 19 = some (.iload_n 3, 1) := by decide +kernel
theorem kX10_copyTable_20 : cdOf kX10_copyTable 20 = some (.bipush 6, 2) := by decide +kernel
theorem kX10_copyTable_22 : cdOf kX10_copyTable 22 = some (.irem, 1) := by decide +kernel
theorem kX10_copyTable_23 : cdOf kX10_copyTable 23 = some (.aload_n 0, 1) := by decide +kernel
theorem kX10_copyTable_24 : cdOf kX10_copyTable 24 = some (.getfield 223, 3) := by decide +kernel
theorem kX10_copyTable_27 : cdOf kX10_copyTable 27 = some (.if_icmp .ge 13, 3) := by decide +kernel
theorem kX10_copyTable_30 : cdOf kX10_copyTable 30 = some (.aload_n 0, 1) := by decide +kernel
theorem kX10_copyTable_31 : cdOf kX10_copyTable 31 = some (.iload_n 1, 1) := by decide +kernel
theorem kX10_copyTable_32 : cdOf kX10_copyTable 32 = some (.iload_n 3, 1) := by decide +kernel
theorem kX10_copyTable_33 : cdOf kX10_copyTable 33 = some (.iadd, 1) := by decide +kernel
theorem kX10_copyTable_34 : cdOf kX10_copyTable 34 = some (.iload_n 2, 1) := by decide +kernel
theorem kX10_copyTable_35 : cdOf kX10_copyTable 35 = some (.iload_n 3, 1) := by decide +kernel
theorem kX10_copyTable_36 : cdOf kX10_copyTable 36 = some (.iadd, 1) := by decide +kernel
theorem kX10_copyTable_37 : cdOf kX10_copyTable 37 = some (.invokevirtual 85, 3) := by decide +kernel
theorem kX10_copyTable_40 : cdOf kX10_copyTable 40 = some (.iinc 3 1, 3) := by decide +kernel
theorem kX10_copyTable_43 : cdOf kX10_copyTable 43 = some (.goto (-41), 3) := by decide +kernel
theorem kX10_copyTable_46 : cdOf kX10_copyTable 46 = some (.return_, 1) := by decide +kernel
set_option maxRecDepth 20000 in
theorem kX10_copyTable_ok : ∀ pc i len, cdOf kX10_copyTable pc = some (i, len) → decode cX10_copyTable pc = .ok (i, len) ∧ stOK 4 i = true ∧ jOK pc i = true ∧ eLen i len = true := cdOf_ok cX10_copyTable 4 kX10_copyTable (by decide +kernel)
def vtX10_copyTable : Nat → Option (Nat × eSp) := fun k => match k with
  | 85 => some (3, SX10_copy)
  | _ => none
theorem vtX10_copyTable_85 : vtX10_copyTable 85 = some (3, SX10_copy) := rfl
def stX10_copyTable : Nat → Option (Nat × eSp) := fun _ => none
abbrev TX10_copyTable : eT := (fl_RX10, cl_RX10, dl_RX10, vtX10_copyTable, stX10_copyTable)
set_option maxRecDepth 20000 in
theorem caX10_copyTable : eCalls RX10 { frames := 3, cells := 0, slots := 0, locals := 68 } TX10_copyTable := by
  refine ⟨fun k n sp h => ?_, fun k n sp h => ?_⟩
  · dsimp only [TX10_copyTable] at h
    unfold vtX10_copyTable at h
    split at h
    · cases h; exact eV_mk mX10_copy wX10_copy (by decide +kernel) (Or.inl (gW_at 1134 (by decide +kernel) rfl))
    · cases h
  · cases h
set_option maxRecDepth 100000 in
set_option maxHeartbeats 4000000 in
theorem sX10_copyTable : eSafe TX10_copyTable (cdOf kX10_copyTable) 4 none SX10_copyTable := by
  intro K rt hK as M h
  obtain ⟨F, A, s, n, to, fr, rfl, rfl, hr, hF, hn, h2, h3, h4, h⟩ := h
  refine ⟨by simp [eE], ?_⟩
  have loop : ∀ (d k : Nat) (A' : Nat → Int → Int) (s' : Int → Int), k + d = 36 → sN A A' → rn (A' 0) s' → (∀ p, iT to n p → p < to + k → s' p = s (fr + (p - to))) → (∀ p, ¬ (iT to n p ∧ p < to + k) → s' p = s p) → K 2 [some eRR, some (eI to), some (eI fr), some (eI k)] [] (cR F A') := by
    intro d
    induction d with
    | zero =>
      intro k A' s' hk hA hr' i1 i2
      have e : k = 36 := by omega
      subst e
      refine x_iload_n hK kX10_copyTable_2 (q := 3) rfl rfl ?_
      refine x_bipush hK kX10_copyTable_3 (q := 5) rfl (by decide) ?_
      refine x_icmp_ge hK kX10_copyTable_5 (q := 8) rfl (tg := 46) rfl (by refine ⟨?_, ?_⟩ <;> omega) (fun c5 => ?_) (fun c5 => ?_)
      · refine x_return_ hK kX10_copyTable_46 (by first | trivial | exact Or.inl rfl | exact Or.inr rfl) ?_
        refine h A' s' hA hr' (fun i j hi hj => ?_) (fun p hp => i2 p (fun g => hp g.1))
        show s' (to + 6 * i + j) = s (fr + 6 * i + j)
        rw [i1 _ (iT_in hn hi hj) (by omega)]
        congr 1
        omega
      · exfalso; omega
    | succ d ih =>
      intro k A' s' hk hA hr' i1 i2
      have nx : ∀ (A'' : Nat → Int → Int) (s'' : Int → Int), sN A A'' → rn (A'' 0) s'' → (∀ p, iT to n p → p < to + (k + 1 : Nat) → s'' p = s (fr + (p - to))) → (∀ p, ¬ (iT to n p ∧ p < to + (k + 1 : Nat)) → s'' p = s p) → K 40 [some eRR, some (eI to), some (eI fr), some (eI k)] [] (cR F A'') := by
        intro A'' s'' g1 g2 g3 g4
        refine x_iinc hK kX10_copyTable_40 (q := 43) rfl rfl ?_
        simp only [lS, lS2, clr_0, clr_I, clr_L, clr_R]
        refine x_goto hK kX10_copyTable_43 (tg := 2) rfl ?_
        rw [show (k : Int) + 1 = ((k + 1 : Nat) : Int) by omega]
        exact ih (k + 1) A'' s'' (by omega) g1 g2 g3 g4
      have no : ¬ ((k : Int) / 6 < n ∧ (k : Int) % 6 < n) → K 40 [some eRR, some (eI to), some (eI fr), some (eI k)] [] (cR F A') := by
        intro g
        have g0 : ∀ p, iT to n p → p ≠ to + k := by
          intro p hp e
          unfold iT at hp
          rw [e, show to + (k : Int) - to = k by omega] at hp
          exact g ⟨hp.2.2.1, hp.2.2.2⟩
        exact nx A' s' hA hr' (fun p hp hq => i1 p hp (by have := g0 p hp; omega)) (fun p hp => i2 p (fun q => hp ⟨q.1, by omega⟩))
      refine x_iload_n hK kX10_copyTable_2 (q := 3) rfl rfl ?_
      refine x_bipush hK kX10_copyTable_3 (q := 5) rfl (by decide) ?_
      refine x_icmp_ge hK kX10_copyTable_5 (q := 8) rfl (tg := 46) rfl (by refine ⟨?_, ?_⟩ <;> omega) (fun c5 => ?_) (fun c5 => ?_)
      · exfalso; omega
      · refine x_iload_n hK kX10_copyTable_8 (q := 9) rfl rfl ?_
        refine x_bipush hK kX10_copyTable_9 (q := 11) rfl (by decide) ?_
        refine x_idiv hK kX10_copyTable_11 (q := 12) rfl (by refine ⟨?_, ?_, ?_⟩ <;> omega) ?_
        rw [Int.tdiv_eq_ediv_of_nonneg (by omega)]
        refine x_aload_n hK kX10_copyTable_12 (q := 13) rfl rfl ?_
        refine x_getfield hK kX10_copyTable_13 (q := 16) rfl (gX10_223 ?_)
        rw [hF]
        refine x_icmp_ge hK kX10_copyTable_16 (q := 19) rfl (tg := 40) rfl (by refine ⟨?_, ?_⟩ <;> omega) (fun c16 => ?_) (fun c16 => ?_)
        · exact no (fun q => by omega)
        · refine x_iload_n hK kX10_copyTable_19 (q := 20) rfl rfl ?_
          refine x_bipush hK kX10_copyTable_20 (q := 22) rfl (by decide) ?_
          refine x_irem hK kX10_copyTable_22 (q := 23) rfl (by refine ⟨?_, ?_, ?_⟩ <;> omega) ?_
          rw [Int.tmod_eq_emod_of_nonneg (by omega)]
          refine x_aload_n hK kX10_copyTable_23 (q := 24) rfl rfl ?_
          refine x_getfield hK kX10_copyTable_24 (q := 27) rfl (gX10_223 ?_)
          rw [hF]
          refine x_icmp_ge hK kX10_copyTable_27 (q := 30) rfl (tg := 40) rfl (by refine ⟨?_, ?_⟩ <;> omega) (fun c27 => ?_) (fun c27 => ?_)
          · exact no (fun q => by omega)
          · refine x_aload_n hK kX10_copyTable_30 (q := 31) rfl rfl ?_
            refine x_iload_n hK kX10_copyTable_31 (q := 32) rfl rfl ?_
            refine x_iload_n hK kX10_copyTable_32 (q := 33) rfl rfl ?_
            refine x_iadd hK kX10_copyTable_33 (q := 34) rfl ?_
            refine x_iload_n hK kX10_copyTable_34 (q := 35) rfl rfl ?_
            refine x_iload_n hK kX10_copyTable_35 (q := 36) rfl rfl ?_
            refine x_iadd hK kX10_copyTable_36 (q := 37) rfl ?_
            refine x_cv3 hK kX10_copyTable_37 (q := 40) rfl (vtX10_copyTable_85) (Nat.le_of_ble_eq_true rfl) ?_
            refine SX10_copy_n hr' (by omega) (by omega) (fun A1 k1 r1 => ?_)
            refine nx A1 _ (sN_tr hA k1) r1 (fun p hp hq => ?_) (fun p hp => ?_)
            · rcases Decidable.em (p = to + k) with e | e
              · rw [e, uI_s, i2 _ (fun q => by have := q.1; unfold iT at this; omega), show to + (k : Int) - to = k by omega]
              · rw [uI_n _ _ e]
                exact i1 p hp (by omega)
            · rcases Decidable.em (p = to + k) with e | e
              · refine absurd ⟨?_, by omega⟩ hp
                unfold iT
                rw [e]
                omega
              · rw [uI_n _ _ e]
                exact i2 p (fun q => hp ⟨q.1, by omega⟩)
  simp only [eLoc, eE, List.length_cons, List.length_nil, List.replicate, List.cons_append, List.nil_append, Nat.reduceAdd, Nat.reduceSub]
  refine x_iconst hK kX10_copyTable_0 (q := 1) rfl ?_
  refine x_istore_n hK kX10_copyTable_1 (q := 2) (jn := 3) rfl rfl ?_
  simp only [lS, lS2, clr_0, clr_I, clr_L, clr_R]
  exact loop 36 0 A s (by omega) (sN_rf A) hr (fun p hp hq => by unfold iT at hp; omega) (fun p hp => rfl)
set_option maxRecDepth 20000 in
theorem mX10_copyTable : eMet yX10_copyTable cX10_copyTable 4 none 3 68 SX10_copyTable := eMet_of (by decide +kernel) sX10_copyTable kX10_copyTable_ok caX10_copyTable tb_RX10
theorem wX10_copyTable : eWV yX10_copyTable cX10_copyTable 4 none 3 9 SX10_copyTable := ⟨(gW_at 1236 (by decide +kernel) rfl), (gW_at 89 (by decide +kernel) rfl), (gW_at 1235 (by decide +kernel) rfl), ⟨_, rfl, (gW_at 68 (by decide +kernel) rfl)⟩, by decide +kernel, SX10_copyTable_r⟩
-- unit
def uTf (s : Int → Int) (to k : Int) : Int → Int := fun p => if to ≤ p ∧ p < to + k then (if (p - to) / 6 = (p - to) % 6 then 1 else 0) else s p
def SX10_unit : eSp := fun as M rt => ∃ (F : Nat → Int) (A : Nat → Int → Int) (s : Int → Int) (to : Int), as = [eRR, eI to] ∧ M = cR F A ∧ rn (A 0) s ∧ (0 ≤ to ∧ to + 36 ≤ 2666) ∧ ∀ (A' : Nat → Int → Int), sN A A' → rn (A' 0) (uTf s to 36) → rt none (cR F A')
theorem SX10_unit_i {F : Nat → Int} {A : Nat → Int → Int} {s : Int → Int} {to : Int} {rt : Option eV → eM → Prop} (hr : rn (A 0) s) (h2 : 0 ≤ to ∧ to + 36 ≤ 2666) (h : ∀ (A' : Nat → Int → Int), sN A A' → rn (A' 0) (uTf s to 36) → rt none (cR F A')) : SX10_unit [eRR, eI to] (cR F A) rt := ⟨F, A, s, to, rfl, rfl, hr, h2, h⟩
theorem SX10_unit_r : ∀ as M rt, SX10_unit as M rt → ∃ a r fs, as = eR a :: r ∧ M a = some (.inl (9, fs)) := by
  rintro as M rt ⟨F, A, s, to, rfl, rfl, -⟩
  exact ⟨_, _, _, rfl, rfl⟩
theorem uTf_q (s : Int → Int) (to : Int) : mQ 6 (tb (uTf s to 36) to) mI := by
  intro i j hi hj
  show uTf s to 36 (to + 6 * i + j) = mI i j
  unfold uTf mI
  rw [if_pos (by omega)]
  split <;> split <;> omega
theorem uTf_o (s : Int → Int) (to p : Int) (h : ¬ (to ≤ p ∧ p < to + 36)) : uTf s to 36 p = s p := if_neg h
def kX10_unit : List (Nat × Jvm.ClassFile.Instr × Nat) := [(0, .iconst 0, 1), (1, .istore_n 2, 1), (2, .iload_n 2, 1), (3, .bipush 36, 2), (5, .if_icmp .ge 32, 3), (8, .aload_n 0, 1), (9, .iload_n 1, 1), (10, .iload_n 2, 1), (11, .iadd, 1), (12, .iload_n 2, 1), (13, .bipush 6, 2), (15, .idiv, 1), (16, .iload_n 2, 1), (17, .bipush 6, 2), (19, .irem, 1), (20, .if_icmp .ne 7, 3), (23, .lconst 1, 1), (24, .goto 4, 3), (27, .lconst 0, 1), (28, .invokevirtual 132, 3), (31, .iinc 2 1, 3), (34, .goto (-32), 3), (37, .return_, 1)]
theorem kX10_unit_0 : cdOf kX10_unit 0 = some (.iconst 0, 1) := by decide +kernel
theorem kX10_unit_1 : cdOf kX10_unit 1 = some (.istore_n 2, 1) := by decide +kernel
theorem kX10_unit_2 : cdOf kX10_unit 2 = some (.iload_n 2, 1) := by decide +kernel
theorem kX10_unit_3 : cdOf kX10_unit 3 = some (.bipush 36, 2) := by decide +kernel
theorem kX10_unit_5 : cdOf kX10_unit 5 = some (.if_icmp .ge 32, 3) := by decide +kernel
theorem kX10_unit_8 : cdOf kX10_unit 8 = some (.aload_n 0, 1) := by decide +kernel
theorem kX10_unit_9 : cdOf kX10_unit 9 = some (.iload_n 1, 1) := by decide +kernel
theorem kX10_unit_10 : cdOf kX10_unit 10 = some (.iload_n 2, 1) := by decide +kernel
theorem kX10_unit_11 : cdOf kX10_unit 11 = some (.iadd, 1) := by decide +kernel
theorem kX10_unit_12 : cdOf kX10_unit 12 = some (.iload_n 2, 1) := by decide +kernel
theorem kX10_unit_13 : cdOf kX10_unit 13 = some (.bipush 6, 2) := by decide +kernel
theorem kX10_unit_15 : cdOf kX10_unit 15 = some (.idiv, 1) := by decide +kernel
theorem kX10_unit_16 : cdOf kX10_unit 16 = some (.iload_n 2, 1) := by decide +kernel
theorem kX10_unit_17 : cdOf kX10_unit 17 = some (.bipush 6, 2) := by decide +kernel
theorem kX10_unit_19 : cdOf kX10_unit 19 = some (.irem, 1) := by decide +kernel
theorem kX10_unit_20 : cdOf kX10_unit 20 = some (.if_icmp .ne 7, 3) := by decide +kernel
theorem kX10_unit_23 : cdOf kX10_unit 23 = some (.lconst 1, 1) := by decide +kernel
theorem kX10_unit_24 : cdOf kX10_unit 24 = some (.goto 4, 3) := by decide +kernel
theorem kX10_unit_27 : cdOf kX10_unit 27 = some (.lconst 0, 1) := by decide +kernel
theorem kX10_unit_28 : cdOf kX10_unit 28 = some (.invokevirtual 132, 3) := by decide +kernel
theorem kX10_unit_31 : cdOf kX10_unit 31 = some (.iinc 2 1, 3) := by decide +kernel
theorem kX10_unit_34 : cdOf kX10_unit 34 = some (.goto (-32), 3) := by decide +kernel
theorem kX10_unit_37 : cdOf kX10_unit 37 = some (.return_, 1) := by decide +kernel
set_option maxRecDepth 20000 in
theorem kX10_unit_ok : ∀ pc i len, cdOf kX10_unit pc = some (i, len) → decode cX10_unit pc = .ok (i, len) ∧ stOK 3 i = true ∧ jOK pc i = true ∧ eLen i len = true := cdOf_ok cX10_unit 3 kX10_unit (by decide +kernel)
def vtX10_unit : Nat → Option (Nat × eSp) := fun k => match k with
  | 132 => some (3, SX10_set)
  | _ => none
theorem vtX10_unit_132 : vtX10_unit 132 = some (3, SX10_set) := rfl
def stX10_unit : Nat → Option (Nat × eSp) := fun _ => none
abbrev TX10_unit : eT := (fl_RX10, cl_RX10, dl_RX10, vtX10_unit, stX10_unit)
set_option maxRecDepth 20000 in
theorem caX10_unit : eCalls RX10 { frames := 2, cells := 0, slots := 0, locals := 47 } TX10_unit := by
  refine ⟨fun k n sp h => ?_, fun k n sp h => ?_⟩
  · dsimp only [TX10_unit] at h
    unfold vtX10_unit at h
    split at h
    · cases h; exact eV_mk mX10_set wX10_set (by decide +kernel) (Or.inl (gW_at 1073 (by decide +kernel) rfl))
    · cases h
  · cases h
set_option maxRecDepth 100000 in
set_option maxHeartbeats 4000000 in
theorem sX10_unit : eSafe TX10_unit (cdOf kX10_unit) 3 none SX10_unit := by
  intro K rt hK as M h
  obtain ⟨F, A, s, to, rfl, rfl, hr, h2, h⟩ := h
  refine ⟨by simp [eE], ?_⟩
  have loop : ∀ (d k : Nat) (A' : Nat → Int → Int), k + d = 36 → sN A A' → rn (A' 0) (uTf s to k) → K 2 [some eRR, some (eI to), some (eI k)] [] (cR F A') := by
    intro d
    induction d with
    | zero =>
      intro k A' hk hA hr'
      have e : k = 36 := by omega
      subst e
      refine x_iload_n hK kX10_unit_2 (q := 3) rfl rfl ?_
      refine x_bipush hK kX10_unit_3 (q := 5) rfl (by decide) ?_
      refine x_icmp_ge hK kX10_unit_5 (q := 8) rfl (tg := 37) rfl (by refine ⟨?_, ?_⟩ <;> omega) (fun c5 => ?_) (fun c5 => ?_)
      · refine x_return_ hK kX10_unit_37 (by first | trivial | exact Or.inl rfl | exact Or.inr rfl) ?_
        exact h A' hA hr'
      · exfalso; omega
    | succ d ih =>
      intro k A' hk hA hr'
      have up : uI (uTf s to k) (to + k) (if (k : Int) / 6 = (k : Int) % 6 then 1 else 0) = uTf s to ((k + 1 : Nat) : Int) := by
        funext p
        unfold uI uTf
        split
        · rename_i e
          rw [e, if_pos (show to ≤ to + (k : Int) ∧ to + (k : Int) < to + ((k + 1 : Nat) : Int) by omega), show to + (k : Int) - to = k by omega]
        · rcases Decidable.em (to ≤ p ∧ p < to + (k : Int)) with g | g
          · have g2 : to ≤ p ∧ p < to + ((k + 1 : Nat) : Int) := by omega
            rw [if_pos g, if_pos g2]
          · rw [if_neg g, if_neg (by omega)]
      refine x_iload_n hK kX10_unit_2 (q := 3) rfl rfl ?_
      refine x_bipush hK kX10_unit_3 (q := 5) rfl (by decide) ?_
      refine x_icmp_ge hK kX10_unit_5 (q := 8) rfl (tg := 37) rfl (by refine ⟨?_, ?_⟩ <;> omega) (fun c5 => ?_) (fun c5 => ?_)
      · exfalso; omega
      · refine x_aload_n hK kX10_unit_8 (q := 9) rfl rfl ?_
        refine x_iload_n hK kX10_unit_9 (q := 10) rfl rfl ?_
        refine x_iload_n hK kX10_unit_10 (q := 11) rfl rfl ?_
        refine x_iadd hK kX10_unit_11 (q := 12) rfl ?_
        refine x_iload_n hK kX10_unit_12 (q := 13) rfl rfl ?_
        refine x_bipush hK kX10_unit_13 (q := 15) rfl (by decide) ?_
        refine x_idiv hK kX10_unit_15 (q := 16) rfl (by refine ⟨?_, ?_, ?_⟩ <;> omega) ?_
        rw [Int.tdiv_eq_ediv_of_nonneg (by omega)]
        refine x_iload_n hK kX10_unit_16 (q := 17) rfl rfl ?_
        refine x_bipush hK kX10_unit_17 (q := 19) rfl (by decide) ?_
        refine x_irem hK kX10_unit_19 (q := 20) rfl (by refine ⟨?_, ?_, ?_⟩ <;> omega) ?_
        rw [Int.tmod_eq_emod_of_nonneg (by omega)]
        refine x_icmp_ne hK kX10_unit_20 (q := 23) rfl (tg := 27) rfl (by refine ⟨?_, ?_⟩ <;> omega) (fun c20 => ?_) (fun c20 => ?_)
        · refine x_lconst0 hK kX10_unit_27 (q := 28) rfl ?_
          refine x_cv3 hK kX10_unit_28 (q := 31) rfl (vtX10_unit_132) (Nat.le_of_ble_eq_true rfl) ?_
          refine SX10_set_n hr' (by omega) (by decide) (fun A1 k1 r1 => ?_)
          refine x_iinc hK kX10_unit_31 (q := 34) rfl rfl ?_
          simp only [lS, lS2, clr_0, clr_I, clr_L, clr_R]
          refine x_goto hK kX10_unit_34 (tg := 2) rfl ?_
          rw [show (k : Int) + 1 = ((k + 1 : Nat) : Int) by omega]
          refine ih (k + 1) A1 (by omega) (sN_tr hA k1) ?_
          rw [← up]
          first
          | (rw [if_neg c20]; exact r1)
          | (rw [if_pos (by omega)]; exact r1)
        · refine x_lconst1 hK kX10_unit_23 (q := 24) rfl ?_
          refine x_goto hK kX10_unit_24 (tg := 28) rfl ?_
          refine x_cv3 hK kX10_unit_28 (q := 31) rfl (vtX10_unit_132) (Nat.le_of_ble_eq_true rfl) ?_
          refine SX10_set_n hr' (by omega) (by decide) (fun A1 k1 r1 => ?_)
          refine x_iinc hK kX10_unit_31 (q := 34) rfl rfl ?_
          simp only [lS, lS2, clr_0, clr_I, clr_L, clr_R]
          refine x_goto hK kX10_unit_34 (tg := 2) rfl ?_
          rw [show (k : Int) + 1 = ((k + 1 : Nat) : Int) by omega]
          refine ih (k + 1) A1 (by omega) (sN_tr hA k1) ?_
          rw [← up]
          first
          | (rw [if_neg c20]; exact r1)
          | (rw [if_pos (by omega)]; exact r1)
  simp only [eLoc, eE, List.length_cons, List.length_nil, List.replicate, List.cons_append, List.nil_append, Nat.reduceAdd, Nat.reduceSub]
  refine x_iconst hK kX10_unit_0 (q := 1) rfl ?_
  refine x_istore_n hK kX10_unit_1 (q := 2) (jn := 2) rfl rfl ?_
  simp only [lS, lS2, clr_0, clr_I, clr_L, clr_R]
  refine loop 36 0 A (by omega) (sN_rf A) ?_
  have e : uTf s to ((0 : Nat) : Int) = s := by
    funext p
    unfold uTf
    rw [if_neg (by omega)]
  rw [e]
  exact hr
set_option maxRecDepth 20000 in
theorem mX10_unit : eMet yX10_unit cX10_unit 3 none 2 47 SX10_unit := eMet_of (by decide +kernel) sX10_unit kX10_unit_ok caX10_unit tb_RX10
theorem wX10_unit : eWV yX10_unit cX10_unit 3 none 2 9 SX10_unit := ⟨(gW_at 1228 (by decide +kernel) rfl), (gW_at 89 (by decide +kernel) rfl), (gW_at 1227 (by decide +kernel) rfl), ⟨_, rfl, (gW_at 66 (by decide +kernel) rfl)⟩, by decide +kernel, SX10_unit_r⟩
-- product
def SX10_product : eSp := fun as M rt => ∃ (F : Nat → Int) (A : Nat → Int → Int) (s : Int → Int) (n : Nat) (to a b U V : Int), as = [eRR, eI to, eI a, eI b] ∧ M = cR F A ∧ rn (A 0) s ∧ F 19 = n ∧ n ≤ 6 ∧ (2080 ≤ to ∧ to + 36 ≤ 2666) ∧ (2080 ≤ a ∧ a + 36 ≤ 2666) ∧ (2080 ≤ b ∧ b + 36 ≤ 2666) ∧ (to + 36 ≤ a ∨ a + 36 ≤ to) ∧ (to + 36 ≤ b ∨ b + 36 ≤ to) ∧ 0 ≤ U ∧ 0 ≤ V ∧ mB n (tb s a) U ∧ mB n (tb s b) V ∧ 6 * (U * V) < bB ^ 598 ∧ ∀ (A' : Nat → Int → Int) (s' : Int → Int), sN A A' → rn (A' 0) s' → mQ n (tb s' to) (mM n (tb s a) (tb s b)) → (∀ p, p ≠ 2073 → p ≠ 2075 → ¬ iT to n p → s' p = s p) → rt none (cR F A')
theorem SX10_product_i {F : Nat → Int} {A : Nat → Int → Int} {s : Int → Int} {n : Nat} {to a b : Int} (U V : Int) {rt : Option eV → eM → Prop} (hr : rn (A 0) s) (h0 : F 19 = n) (h1 : n ≤ 6) (h2 : 2080 ≤ to ∧ to + 36 ≤ 2666) (h3 : 2080 ≤ a ∧ a + 36 ≤ 2666) (h4 : 2080 ≤ b ∧ b + 36 ≤ 2666) (h5 : to + 36 ≤ a ∨ a + 36 ≤ to) (h6 : to + 36 ≤ b ∨ b + 36 ≤ to) (hU : 0 ≤ U) (hV : 0 ≤ V) (h7 : mB n (tb s a) U) (h8 : mB n (tb s b) V) (h9 : 6 * (U * V) < bB ^ 598) (h : ∀ (A' : Nat → Int → Int) (s' : Int → Int), sN A A' → rn (A' 0) s' → mQ n (tb s' to) (mM n (tb s a) (tb s b)) → (∀ p, p ≠ 2073 → p ≠ 2075 → ¬ iT to n p → s' p = s p) → rt none (cR F A')) : SX10_product [eRR, eI to, eI a, eI b] (cR F A) rt := ⟨F, A, s, n, to, a, b, U, V, rfl, rfl, hr, h0, h1, h2, h3, h4, h5, h6, hU, hV, h7, h8, h9, h⟩
theorem SX10_product_r : ∀ as M rt, SX10_product as M rt → ∃ a r fs, as = eR a :: r ∧ M a = some (.inl (9, fs)) := by
  rintro as M rt ⟨F, A, s, n, to, a, b, U, V, rfl, rfl, -⟩
  exact ⟨_, _, _, rfl, rfl⟩
theorem bB_598 : bB ^ 598 < bB ^ 599 := by
  rw [bB_succ 598]
  have h : bB ^ 598 * 1 < bB ^ 598 * bB := Int.mul_lt_mul_of_pos_left (by decide) (bB_pos 598)
  rw [Int.mul_one] at h
  exact h
def kX10_product : List (Nat × Jvm.ClassFile.Instr × Nat) := [(0, .aload_n 0, 1), (1, .getfield 223, 3), (4, .istore 4, 2), (6, .iconst 0, 1), (7, .istore 5, 2), (9, .iload 5, 2), (11, .iload 4, 2), (13, .if_icmp .ge 105, 3), (16, .iconst 0, 1), (17, .istore 6, 2), (19, .iload 6, 2), (21, .iload 4, 2), (23, .if_icmp .ge 89, 3), (26, .aload_n 0, 1), (27, .getfield 12, 3), (30, .sipush 2075, 3), (33, .invokestatic 64, 3), (36, .iconst 0, 1), (37, .iastore, 1), (38, .iconst 0, 1), (39, .istore 7, 2), (41, .iload 7, 2), (43, .iload 4, 2), (45, .if_icmp .ge 45, 3), (48, .aload_n 0, 1), (49, .sipush 2073, 3), (52, .aload_n 0, 1), (53, .iload_n 2, 1), (54, .iload 5, 2), (56, .iload 7, 2), (58, .invokevirtual 245, 3), (61, .aload_n 0, 1), (62, .iload_n 3, 1), (63, .iload 7, 2), (65, .iload 6, 2), (67, .invokevirtual 245, 3), (70, .invokevirtual 161, 3), (73, .aload_n 0, 1), (74, .sipush 2075, 3), (77, .sipush 2073, 3), (80, .iconst 1, 1), (81, .invokevirtual 164, 3), (84, .iinc 7 1, 3), (87, .goto (-46), 3), (90, .aload_n 0, 1), (91, .aload_n 0, 1), (92, .iload_n 1, 1), (93, .iload 5, 2), (95, .iload 6, 2), (97, .invokevirtual 245, 3), (100, .sipush 2075, 3), (103, .invokevirtual 85, 3), (106, .iinc 6 1, 3), (109, .goto (-90), 3), (112, .iinc 5 1, 3), (115, .goto (-106), 3), (118, .return_, 1)]
theorem kX10_product_0 : cdOf kX10_product 0 = some (.aload_n 0, 1) := by decide +kernel
theorem kX10_product_1 : cdOf kX10_product 1 = some (.getfield 223, 3) := by decide +kernel
theorem kX10_product_4 : cdOf kX10_product 4 = some (.istore 4, 2) := by decide +kernel
theorem kX10_product_6 : cdOf kX10_product 6 = some (.iconst 0, 1) := by decide +kernel
theorem kX10_product_7 : cdOf kX10_product 7 = some (.istore 5, 2) := by decide +kernel
theorem kX10_product_9 : cdOf kX10_product 9 = some (.iload 5, 2) := by decide +kernel
theorem kX10_product_11 : cdOf kX10_product 11 = some (.iload 4, 2) := by decide +kernel
theorem kX10_product_13 : cdOf kX10_product 13 = some (.if_icmp .ge 105, 3) := by decide +kernel
theorem kX10_product_16 : cdOf kX10_product 16 = some (.iconst 0, 1) := by decide +kernel
theorem kX10_product_17 : cdOf kX10_product 17 = some (.istore 6, 2) := by decide +kernel
theorem kX10_product_19 : cdOf kX10_product 19 = some (.iload 6, 2) := by decide +kernel
theorem kX10_product_21 : cdOf kX10_product 21 = some (.iload 4, 2) := by decide +kernel
theorem kX10_product_23 : cdOf kX10_product 23 = some (.if_icmp .ge 89, 3) := by decide +kernel
theorem kX10_product_26 : cdOf kX10_product 26 = some (.aload_n 0, 1) := by decide +kernel
theorem kX10_product_27 : cdOf kX10_product 27 = some (.getfield 12, 3) := by decide +kernel
theorem kX10_product_30 : cdOf kX10_product 30 = some (.sipush 2075, 3) := by decide +kernel
theorem kX10_product_33 : cdOf kX10_product 33 = some (.invokestatic 64, 3) := by decide +kernel
theorem kX10_product_36 : cdOf kX10_product 36 = some (.iconst 0, 1) := by decide +kernel
theorem kX10_product_37 : cdOf kX10_product 37 = some (.iastore, 1) := by decide +kernel
theorem kX10_product_38 : cdOf kX10_product 38 = some (.iconst 0, 1) := by decide +kernel
theorem kX10_product_39 : cdOf kX10_product 39 = some (.istore 7, 2) := by decide +kernel
theorem kX10_product_41 : cdOf kX10_product 41 = some (.iload 7, 2) := by decide +kernel
theorem kX10_product_43 : cdOf kX10_product 43 = some (.iload 4, 2) := by decide +kernel
theorem kX10_product_45 : cdOf kX10_product 45 = some (.if_icmp .ge 45, 3) := by decide +kernel
theorem kX10_product_48 : cdOf kX10_product 48 = some (.aload_n 0, 1) := by decide +kernel
theorem kX10_product_49 : cdOf kX10_product 49 = some (.sipush 2073, 3) := by decide +kernel
theorem kX10_product_52 : cdOf kX10_product 52 = some (.aload_n 0, 1) := by decide +kernel
theorem kX10_product_53 : cdOf kX10_product 53 = some (.iload_n 2, 1) := by decide +kernel
theorem kX10_product_54 : cdOf kX10_product 54 = some (.iload 5, 2) := by decide +kernel
theorem kX10_product_56 : cdOf kX10_product 56 = some (.iload 7, 2) := by decide +kernel
theorem kX10_product_58 : cdOf kX10_product 58 = some (.invokevirtual 245, 3) := by decide +kernel
theorem kX10_product_61 : cdOf kX10_product 61 = some (.aload_n 0, 1) := by decide +kernel
theorem kX10_product_62 : cdOf kX10_product 62 = some (.iload_n 3, 1) := by decide +kernel
theorem kX10_product_63 : cdOf kX10_product 63 = some (.iload 7, 2) := by decide +kernel
theorem kX10_product_65 : cdOf kX10_product 65 = some (.iload 6, 2) := by decide +kernel
theorem kX10_product_67 : cdOf kX10_product 67 = some (.invokevirtual 245, 3) := by decide +kernel
theorem kX10_product_70 : cdOf kX10_product 70 = some (.invokevirtual 161, 3) := by decide +kernel
theorem kX10_product_73 : cdOf kX10_product 73 = some (.aload_n 0, 1) := by decide +kernel
theorem kX10_product_74 : cdOf kX10_product 74 = some (.sipush 2075, 3) := by decide +kernel
theorem kX10_product_77 : cdOf kX10_product 77 = some (.sipush 2073, 3) := by decide +kernel
theorem kX10_product_80 : cdOf kX10_product 80 = some (.iconst 1, 1) := by decide +kernel
theorem kX10_product_81 : cdOf kX10_product 81 = some (.invokevirtual 164, 3) := by decide +kernel
theorem kX10_product_84 : cdOf kX10_product 84 = some (.iinc 7 1, 3) := by decide +kernel
theorem kX10_product_87 : cdOf kX10_product 87 = some (.goto (-46), 3) := by decide +kernel
theorem kX10_product_90 : cdOf kX10_product 90 = some (.aload_n 0, 1) := by decide +kernel
theorem kX10_product_91 : cdOf kX10_product 91 = some (.aload_n 0, 1) := by decide +kernel
theorem kX10_product_92 : cdOf kX10_product 92 = some (.iload_n 1, 1) := by decide +kernel
theorem kX10_product_93 : cdOf kX10_product 93 = some (.iload 5, 2) := by decide +kernel
theorem kX10_product_95 : cdOf kX10_product 95 = some (.iload 6, 2) := by decide +kernel
theorem kX10_product_97 : cdOf kX10_product 97 = some (.invokevirtual 245, 3) := by decide +kernel
theorem kX10_product_100 : cdOf kX10_product 100 = some (.sipush 2075, 3) := by decide +kernel
theorem kX10_product_103 : cdOf kX10_product 103 = some (.invokevirtual 85, 3) := by decide +kernel
theorem kX10_product_106 : cdOf kX10_product 106 = some (.iinc 6 1, 3) := by decide +kernel
theorem kX10_product_109 : cdOf kX10_product 109 = some (.goto (-90), 3) := by decide +kernel
theorem kX10_product_112 : cdOf kX10_product 112 = some (.iinc 5 1, 3) := by decide +kernel
theorem kX10_product_115 : cdOf kX10_product 115 = some (.goto (-106), 3) := by decide +kernel
theorem kX10_product_118 : cdOf kX10_product 118 = some (.return_, 1) := by decide +kernel
set_option maxRecDepth 20000 in
theorem kX10_product_ok : ∀ pc i len, cdOf kX10_product pc = some (i, len) → decode cX10_product pc = .ok (i, len) ∧ stOK 8 i = true ∧ jOK pc i = true ∧ eLen i len = true := cdOf_ok cX10_product 8 kX10_product (by decide +kernel)
def vtX10_product : Nat → Option (Nat × eSp) := fun k => match k with
  | 245 => some (4, SX10_entry)
  | 161 => some (4, SX10_times)
  | 164 => some (4, SX10_join)
  | 85 => some (3, SX10_copy)
  | _ => none
theorem vtX10_product_245 : vtX10_product 245 = some (4, SX10_entry) := rfl
theorem vtX10_product_161 : vtX10_product 161 = some (4, SX10_times) := rfl
theorem vtX10_product_164 : vtX10_product 164 = some (4, SX10_join) := rfl
theorem vtX10_product_85 : vtX10_product 85 = some (3, SX10_copy) := rfl
def stX10_product : Nat → Option (Nat × eSp) := fun k => match k with
  | 64 => some (1, SX10_at)
  | _ => none
theorem stX10_product_64 : stX10_product 64 = some (1, SX10_at) := rfl
abbrev TX10_product : eT := (fl_RX10, cl_RX10, dl_RX10, vtX10_product, stX10_product)
set_option maxRecDepth 20000 in
theorem caX10_product : eCalls RX10 { frames := 4, cells := 0, slots := 0, locals := 105 } TX10_product := by
  refine ⟨fun k n sp h => ?_, fun k n sp h => ?_⟩
  · dsimp only [TX10_product] at h
    unfold vtX10_product at h
    split at h
    · cases h; exact eV_mk mX10_entry wX10_entry (by decide +kernel) (Or.inl (gW_at 1217 (by decide +kernel) rfl))
    · cases h; exact eV_mk mX10_times wX10_times (by decide +kernel) (Or.inl (gW_at 1149 (by decide +kernel) rfl))
    · cases h; exact eV_mk mX10_join wX10_join (by decide +kernel) (Or.inl (gW_at 1153 (by decide +kernel) rfl))
    · cases h; exact eV_mk mX10_copy wX10_copy (by decide +kernel) (Or.inl (gW_at 1134 (by decide +kernel) rfl))
    · cases h
  · dsimp only [TX10_product] at h
    unfold stX10_product at h
    split at h
    · cases h; exact eS_mk mX10_at wX10_at (by decide +kernel) (Or.inl (gW_at 1070 (by decide +kernel) rfl))
    · cases h
set_option maxRecDepth 100000 in
set_option maxHeartbeats 4000000 in
theorem sX10_product : eSafe TX10_product (cdOf kX10_product) 8 none SX10_product := by
  intro K rt hK as M h
  obtain ⟨F, A, s, n, to, a, b, U, V, rfl, rfl, hr, hF, hn, hto, ha, hb, d1, d2, hU, hV, bU, bV, hB, h⟩ := h
  refine ⟨by simp [eE], ?_⟩
  have hUV : 0 ≤ U * V := Int.mul_nonneg hU hV
  have h599 := bB_598
  -- what stands: the rows before i and of row i the columns before j
  have inv : ∀ (i j : Nat) (s' : Int → Int), (∀ p, p ≠ 2073 → p ≠ 2075 → ¬ iT to n p → s' p = s p) → i < n → j < n → (∀ k, k < n → s' (a + 6 * (i : Int) + (k : Int)) = tb s a i k ∧ s' (b + 6 * (k : Int) + (j : Int)) = tb s b k j) := by
    intro i j s' hs hi hj k hk
    exact ⟨hs _ (by omega) (by omega) (iT_out d1 (by omega) (by omega)), hs _ (by omega) (by omega) (iT_out d2 (by omega) (by omega))⟩
  have cell : ∀ (i j : Nat) (A' : Nat → Int → Int) (s' : Int → Int) (u7 : Option eV), i < n → j < n → sN A A' → rn (A' 0) s' → (∀ p, p ≠ 2073 → p ≠ 2075 → ¬ iT to n p → s' p = s p) → (∀ (A'' : Nat → Int → Int) (s'' : Int → Int) (u7 : Option eV), sN A A'' → rn (A'' 0) s'' → s'' (to + 6 * (i : Int) + (j : Int)) = mM n (tb s a) (tb s b) i j → (∀ p, p ≠ 2073 → p ≠ 2075 → p ≠ to + 6 * (i : Int) + (j : Int) → s'' p = s' p) → K 106 [some eRR, some (eI to), some (eI a), some (eI b), some (eI n), some (eI i), some (eI j), u7] [] (cR F A'')) → K 26 [some eRR, some (eI to), some (eI a), some (eI b), some (eI n), some (eI i), some (eI j), u7] [] (cR F A') := by
    intro i j A' s' u7 hi hj hA hr' hs hf
    have sum : ∀ (d k : Nat) (A'' : Nat → Int → Int) (s'' : Int → Int), k + d = n → sN A A'' → rn (A'' 0) s'' → s'' 2075 = dS (fun k => tb s a i k * tb s b k j) k → (∀ p, p ≠ 2073 → p ≠ 2075 → s'' p = s' p) → K 41 [some eRR, some (eI to), some (eI a), some (eI b), some (eI n), some (eI i), some (eI j), some (eI k)] [] (cR F A'') := by
      intro d
      induction d with
      | zero =>
        intro k A'' s'' hk hA hr'' h6 ho
        have e : k = n := by omega
        subst e
        refine x_iload hK kX10_product_41 (q := 43) rfl rfl ?_
        refine x_iload hK kX10_product_43 (q := 45) rfl rfl ?_
        refine x_icmp_ge hK kX10_product_45 (q := 48) rfl (tg := 90) rfl (by refine ⟨?_, ?_⟩ <;> omega) (fun c45 => ?_) (fun c45 => ?_)
        · refine x_aload_n hK kX10_product_90 (q := 91) rfl rfl ?_
          refine x_aload_n hK kX10_product_91 (q := 92) rfl rfl ?_
          refine x_iload_n hK kX10_product_92 (q := 93) rfl rfl ?_
          refine x_iload hK kX10_product_93 (q := 95) rfl rfl ?_
          refine x_iload hK kX10_product_95 (q := 97) rfl rfl ?_
          refine x_cv4 hK kX10_product_97 (q := 100) rfl (vtX10_product_245) (Nat.le_of_ble_eq_true rfl) ?_
          refine SX10_entry_i ?_
          refine x_sipush hK kX10_product_100 (q := 103) rfl (by decide) ?_
          refine x_cv3 hK kX10_product_103 (q := 106) rfl (vtX10_product_85) (Nat.le_of_ble_eq_true rfl) ?_
          refine SX10_copy_n hr'' (by omega) (by omega) (fun A1 k1 r1 => ?_)
          refine hf A1 _ _ (sN_tr hA k1) r1 ?_ (fun p p0 p1 p2 => ?_)
          · rw [uI_s, h6]; rfl
          · rw [uI_n _ _ p2]; exact ho p p0 p1
        · exfalso; omega
      | succ d ih =>
        intro k A'' s'' hk hA hr'' h6 ho
        obtain ⟨v1, v2⟩ := inv i j s' hs hi hj k (by omega)
        have v3 : s'' (a + 6 * (i : Int) + (k : Int)) = tb s a i k := by rw [ho _ (by omega) (by omega)]; exact v1
        have v4 : s'' (b + 6 * (k : Int) + (j : Int)) = tb s b k j := by rw [ho _ (by omega) (by omega)]; exact v2
        have t1 : ∀ k, k < n → zAbs (tb s a i k * tb s b k j) ≤ U * V := by
          intro k hk
          rw [zAbs_x]
          exact Int.mul_le_mul (bU i k hi hk) (bV k j hk hj) (zAbs_p _) hU
        have t2 := t1 k (by omega)
        have t3 := dS_b (f := fun k => tb s a i k * tb s b k j) (W := U * V) (n := k) (fun l hl => t1 l (by omega))
        have t4 : (k : Int) * (U * V) ≤ 5 * (U * V) := Int.mul_le_mul_of_nonneg_right (by omega) hUV
        have wn : w32 (n : Int) := by constructor <;> omega
        have wk : w32 (k : Int) := by constructor <;> omega
        refine x_iload hK kX10_product_41 (q := 43) rfl rfl ?_
        refine x_iload hK kX10_product_43 (q := 45) rfl rfl ?_
        refine x_icmp_ge hK kX10_product_45 (q := 48) rfl (tg := 90) rfl (by exact ⟨wk, wn⟩) (fun c45 => ?_) (fun c45 => ?_)
        · exfalso; omega
        · refine x_aload_n hK kX10_product_48 (q := 49) rfl rfl ?_
          refine x_sipush hK kX10_product_49 (q := 52) rfl (by decide) ?_
          refine x_aload_n hK kX10_product_52 (q := 53) rfl rfl ?_
          refine x_iload_n hK kX10_product_53 (q := 54) rfl rfl ?_
          refine x_iload hK kX10_product_54 (q := 56) rfl rfl ?_
          refine x_iload hK kX10_product_56 (q := 58) rfl rfl ?_
          refine x_cv4 hK kX10_product_58 (q := 61) rfl (vtX10_product_245) (Nat.le_of_ble_eq_true rfl) ?_
          refine SX10_entry_i ?_
          refine x_aload_n hK kX10_product_61 (q := 62) rfl rfl ?_
          refine x_iload_n hK kX10_product_62 (q := 63) rfl rfl ?_
          refine x_iload hK kX10_product_63 (q := 65) rfl rfl ?_
          refine x_iload hK kX10_product_65 (q := 67) rfl rfl ?_
          refine x_cv4 hK kX10_product_67 (q := 70) rfl (vtX10_product_245) (Nat.le_of_ble_eq_true rfl) ?_
          refine SX10_entry_i ?_
          refine x_cv4 hK kX10_product_70 (q := 73) rfl (vtX10_product_161) (Nat.le_of_ble_eq_true rfl) ?_
          refine SX10_times_n hr'' (by omega) (by omega) (by omega) (by rw [v3, v4, ← zAbs_x]; omega) (fun A1 k1 r1 => ?_)
          rw [v3, v4] at r1
          refine x_aload_n hK kX10_product_73 (q := 74) rfl rfl ?_
          refine x_sipush hK kX10_product_74 (q := 77) rfl (by decide) ?_
          refine x_sipush hK kX10_product_77 (q := 80) rfl (by decide) ?_
          refine x_iconst hK kX10_product_80 (q := 81) rfl ?_
          refine x_cv4 hK kX10_product_81 (q := 84) rfl (vtX10_product_164) (Nat.le_of_ble_eq_true rfl) ?_
          refine SX10_join_n r1 (by omega) (by omega) (by omega) (Or.inl rfl) (by rw [uI_n _ _ (by decide), uI_s, h6]; constructor <;> omega) (fun A2 k2 r2 => ?_)
          rw [uI_n _ _ (by decide), uI_s, h6, Int.one_mul] at r2
          refine x_iinc hK kX10_product_84 (q := 87) rfl rfl ?_
          simp only [lS, lS2, clr_0, clr_I, clr_L, clr_R]
          refine x_goto hK kX10_product_87 (tg := 41) rfl ?_
          rw [show (k : Int) + 1 = ((k + 1 : Nat) : Int) by omega]
          refine ih (k + 1) A2 _ (by omega) (sN_tr hA (sN_tr k1 k2)) r2 (uI_s _ _ _) (fun p p0 p1 => ?_)
          rw [uI_n _ _ p1, uI_n _ _ p0]
          exact ho p p0 p1
    refine x_aload_n hK kX10_product_26 (q := 27) rfl rfl ?_
    refine x_getfield hK kX10_product_27 (q := 30) rfl (gX10_12 ?_)
    refine x_sipush hK kX10_product_30 (q := 33) rfl (by decide) ?_
    refine x_cs1 hK kX10_product_33 (q := 36) rfl (stX10_product_64) (Nat.le_of_ble_eq_true rfl) ?_
    refine SX10_at_i ?_
    refine x_iconst hK kX10_product_36 (q := 37) rfl ?_
    refine x_iastore hK kX10_product_37 (q := 38) rfl (yX10_A0 (by refine ⟨?_, ?_⟩ <;> omega) ?_)
    refine x_iconst hK kX10_product_38 (q := 39) rfl ?_
    refine x_istore hK kX10_product_39 (q := 41) rfl ?_
    simp only [lS, lS2, clr_0, clr_I, clr_L, clr_R]
    exact sum n 0 _ _ (by omega) (sN_tr hA (sN_u (by decide) _)) (rn_nil (p := 2075) hr') (uI_s _ _ _) (fun p p0 p1 => uI_n _ _ p1)
  have cols : ∀ (d i j : Nat) (A' : Nat → Int → Int) (s' : Int → Int) (u7 : Option eV), j + d = n → i < n → sN A A' → rn (A' 0) s' → (∀ p, p ≠ 2073 → p ≠ 2075 → ¬ iT to n p → s' p = s p) → (∀ i' j' : Nat, i' < n → j' < n → (i' < i ∨ (i' = i ∧ j' < j)) → tb s' to i' j' = mM n (tb s a) (tb s b) i' j') → (∀ (A'' : Nat → Int → Int) (s'' : Int → Int) (u6 u7 : Option eV), sN A A'' → rn (A'' 0) s'' → (∀ p, p ≠ 2073 → p ≠ 2075 → ¬ iT to n p → s'' p = s p) → (∀ i' j' : Nat, i' < n → j' < n → i' < i + 1 → tb s'' to i' j' = mM n (tb s a) (tb s b) i' j') → K 112 [some eRR, some (eI to), some (eI a), some (eI b), some (eI n), some (eI i), u6, u7] [] (cR F A'')) → K 19 [some eRR, some (eI to), some (eI a), some (eI b), some (eI n), some (eI i), some (eI j), u7] [] (cR F A') := by
    intro d
    induction d with
    | zero =>
      intro i j A' s' u7 hj hi hA hr' hs hd hf
      have e : j = n := by omega
      subst e
      refine x_iload hK kX10_product_19 (q := 21) rfl rfl ?_
      refine x_iload hK kX10_product_21 (q := 23) rfl rfl ?_
      refine x_icmp_ge hK kX10_product_23 (q := 26) rfl (tg := 112) rfl (by refine ⟨?_, ?_⟩ <;> omega) (fun c23 => ?_) (fun c23 => ?_)
      · exact hf A' s' _ _ hA hr' hs (fun i' j' i0 j0 h0 => hd i' j' i0 j0 (by omega))
      · exfalso; omega
    | succ d ih =>
      intro i j A' s' u7 hj hi hA hr' hs hd hf
      have wn : w32 (n : Int) := by constructor <;> omega
      have wk : w32 (j : Int) := by constructor <;> omega
      refine x_iload hK kX10_product_19 (q := 21) rfl rfl ?_
      refine x_iload hK kX10_product_21 (q := 23) rfl rfl ?_
      refine x_icmp_ge hK kX10_product_23 (q := 26) rfl (tg := 112) rfl (by exact ⟨wk, wn⟩) (fun c23 => ?_) (fun c23 => ?_)
      · exfalso; omega
      · refine cell i j A' s' _ hi (by omega) hA hr' hs (fun A'' s'' u7 k1 k2 k3 k4 => ?_)
        refine x_iinc hK kX10_product_106 (q := 109) rfl rfl ?_
        simp only [lS, lS2, clr_0, clr_I, clr_L, clr_R]
        refine x_goto hK kX10_product_109 (tg := 19) rfl ?_
        rw [show (j : Int) + 1 = ((j + 1 : Nat) : Int) by omega]
        refine ih i (j + 1) A'' s'' _ (by omega) hi k1 k2 (fun p p0 p1 p2 => ?_) (fun i' j' i0 j0 h0 => ?_) hf
        · rw [k4 p p0 p1 (fun e => p2 (e ▸ iT_in hn hi (by omega)))]
          exact hs p p0 p1 p2
        · rcases Decidable.em (i' = i ∧ j' = j) with e | e
          · obtain ⟨rfl, rfl⟩ := e
            exact k3
          · show s'' (to + 6 * (i' : Int) + (j' : Int)) = _
            rw [k4 _ (by omega) (by omega) (by omega)]
            exact hd i' j' i0 j0 (by omega)
  have rows : ∀ (d i : Nat) (A' : Nat → Int → Int) (s' : Int → Int) (u6 u7 : Option eV), i + d = n → sN A A' → rn (A' 0) s' → (∀ p, p ≠ 2073 → p ≠ 2075 → ¬ iT to n p → s' p = s p) → (∀ i' j' : Nat, i' < n → j' < n → i' < i → tb s' to i' j' = mM n (tb s a) (tb s b) i' j') → K 9 [some eRR, some (eI to), some (eI a), some (eI b), some (eI n), some (eI i), u6, u7] [] (cR F A') := by
    intro d
    induction d with
    | zero =>
      intro i A' s' u6 u7 hi hA hr' hs hd
      have e : i = n := by omega
      subst e
      refine x_iload hK kX10_product_9 (q := 11) rfl rfl ?_
      refine x_iload hK kX10_product_11 (q := 13) rfl rfl ?_
      refine x_icmp_ge hK kX10_product_13 (q := 16) rfl (tg := 118) rfl (by refine ⟨?_, ?_⟩ <;> omega) (fun c13 => ?_) (fun c13 => ?_)
      · refine x_return_ hK kX10_product_118 (by first | trivial | exact Or.inl rfl | exact Or.inr rfl) ?_
        exact h A' s' hA hr' (fun i' j' i0 j0 => hd i' j' i0 j0 i0) hs
      · exfalso; omega
    | succ d ih =>
      intro i A' s' u6 u7 hi hA hr' hs hd
      have wn : w32 (n : Int) := by constructor <;> omega
      have wk : w32 (i : Int) := by constructor <;> omega
      refine x_iload hK kX10_product_9 (q := 11) rfl rfl ?_
      refine x_iload hK kX10_product_11 (q := 13) rfl rfl ?_
      refine x_icmp_ge hK kX10_product_13 (q := 16) rfl (tg := 118) rfl (by exact ⟨wk, wn⟩) (fun c13 => ?_) (fun c13 => ?_)
      · exfalso; omega
      · refine x_iconst hK kX10_product_16 (q := 17) rfl ?_
        refine x_istore hK kX10_product_17 (q := 19) rfl ?_
        simp only [lS, lS2, clr_0, clr_I, clr_L, clr_R]
        refine cols n i 0 A' s' _ (by omega) (by omega) hA hr' hs (fun i' j' i0 j0 h0 => hd i' j' i0 j0 (by omega)) (fun A'' s'' u6 u7 k1 k2 k3 k4 => ?_)
        refine x_iinc hK kX10_product_112 (q := 115) rfl rfl ?_
        simp only [lS, lS2, clr_0, clr_I, clr_L, clr_R]
        refine x_goto hK kX10_product_115 (tg := 9) rfl ?_
        rw [show (i : Int) + 1 = ((i + 1 : Nat) : Int) by omega]
        exact ih (i + 1) A'' s'' _ _ (by omega) k1 k2 k3 k4
  simp only [eLoc, eE, List.length_cons, List.length_nil, List.replicate, List.cons_append, List.nil_append, Nat.reduceAdd, Nat.reduceSub]
  refine x_aload_n hK kX10_product_0 (q := 1) rfl rfl ?_
  refine x_getfield hK kX10_product_1 (q := 4) rfl (gX10_223 ?_)
  rw [hF]
  refine x_istore hK kX10_product_4 (q := 6) rfl ?_
  refine x_iconst hK kX10_product_6 (q := 7) rfl ?_
  refine x_istore hK kX10_product_7 (q := 9) rfl ?_
  simp only [lS, lS2, clr_0, clr_I, clr_L, clr_R]
  exact rows n 0 A s _ _ (by omega) (sN_rf A) hr (fun p _ _ _ => rfl) (fun i' j' i0 j0 h0 => by omega)
set_option maxRecDepth 20000 in
theorem mX10_product : eMet yX10_product cX10_product 8 none 4 105 SX10_product := eMet_of (by decide +kernel) sX10_product kX10_product_ok caX10_product tb_RX10
theorem wX10_product : eWV yX10_product cX10_product 8 none 4 9 SX10_product := ⟨(gW_at 1232 (by decide +kernel) rfl), (gW_at 89 (by decide +kernel) rfl), (gW_at 1231 (by decide +kernel) rfl), ⟨_, rfl, (gW_at 67 (by decide +kernel) rfl)⟩, by decide +kernel, SX10_product_r⟩
