/-! grows on the machine. -/
def gR0 (n : Nat) (g : Int) (hs s : Int → Int) : (Int → Int) × (Int → Int) × Int := gAl n g n 0 (hs, s, 0)
theorem cS_s (s : Int → Int) (l w : Int) (k : Nat) : cS s l w (k + 1) = uI (cS s l w k) (2025 + mN (mX k + 1 - w) (mY k + w)) (cS s l w k (45 * l + k)) := rfl
def gOk (z : (Int → Int) × (Int → Int) × Int) : Prop := (z.2.2 = 0 ∨ z.2.2 = 1) ∧ ∀ k, z.1 k = 0 ∨ z.1 k = 1
theorem gOk_1 {n l : Nat} {w : Int} {z : (Int → Int) × (Int → Int) × Int} (h : gOk z) : gOk (g1w n l w z) := by
  refine ⟨?_, ?_⟩
  · show (if _ = 0 then z.2.2 else 1) = 0 ∨ (if _ = 0 then z.2.2 else 1) = 1
    split
    · exact h.1
    · exact Or.inr rfl
  · exact (en_b z.1 _ n).2 h.2
def SX10_grows : eSp := fun as M rt => ∃ (F : Nat → Int) (A : Nat → Int → Int) (s : Int → Int) (n : Nat) (g : Int), as = [eRR] ∧ M = cR F A ∧ rn (A 0) s ∧ F 14 = n ∧ n ≤ 45 ∧ F 13 = g ∧ (1 ≤ g ∧ g ≤ 8) ∧ (∀ k, A 15 k = 0 ∨ A 15 k = 1) ∧ gAlB n g n 0 (A 15, s, 0) ∧ ∀ A', sH A A' → A' 15 = (gR0 n g (A 15) s).1 → rn (A' 0) (gR0 n g (A 15) s).2.1 → rt (some (eI (gR0 n g (A 15) s).2.2)) (cR F A')
theorem SX10_grows_i {F : Nat → Int} {A : Nat → Int → Int} {s : Int → Int} {n : Nat} {g : Int} {rt : Option eV → eM → Prop} (hr : rn (A 0) s) (h0 : F 14 = n) (h1 : n ≤ 45) (h2 : F 13 = g) (h3 : 1 ≤ g ∧ g ≤ 8) (h4 : ∀ k, A 15 k = 0 ∨ A 15 k = 1) (h5 : gAlB n g n 0 (A 15, s, 0)) (h : ∀ A', sH A A' → A' 15 = (gR0 n g (A 15) s).1 → rn (A' 0) (gR0 n g (A 15) s).2.1 → rt (some (eI (gR0 n g (A 15) s).2.2)) (cR F A')) : SX10_grows [eRR] (cR F A) rt := ⟨F, A, s, n, g, rfl, rfl, hr, h0, h1, h2, h3, h4, h5, h⟩
theorem SX10_grows_r : ∀ as M rt, SX10_grows as M rt → ∃ a r fs, as = eR a :: r ∧ M a = some (.inl (9, fs)) := by
  rintro as M rt ⟨F, A, s, n, g, rfl, rfl, -⟩
  exact ⟨_, _, _, rfl, rfl⟩
def kX10_grows : List (Nat × Jvm.ClassFile.Instr × Nat) := [(0, .iconst 0, 1), (1, .istore_n 1, 1), (2, .iconst 0, 1), (3, .istore_n 2, 1), (4, .iload_n 2, 1), (5, .aload_n 0, 1), (6, .getfield 167, 3), (9, .if_icmp .ge 115, 3), (12, .aload_n 0, 1), (13, .getfield 45, 3), (16, .iload_n 2, 1), (17, .baload, 1), (18, .ifCond .eq 100, 3), (21, .iload_n 2, 1), (22, .invokestatic 139, 3), (25, .aload_n 0, 1), (26, .getfield 179, 3), (29, .if_icmp .lt 6, 3), (32, .goto 86, 3), (35, .iconst 0, 1), (36, .istore_n 3, 1), (37, .iload_n 3, 1), (38, .iconst 2, 1), (39, .if_icmp .ge 79, 3), (42, .aload_n 0, 1), (43, .invokevirtual 182, 3), (46, .iconst 0, 1), (47, .istore 4, 2), (49, .iload 4, 2), (51, .iload_n 2, 1), (52, .if_icmp .gt 43, 3), (55, .aload_n 0, 1), (56, .sipush 2025, 3), (59, .iload 4, 2), (61, .invokestatic 142, 3), (64, .iconst 1, 1), (65, .iadd, 1), (66, .iload_n 3, 1), (67, .isub, 1), (68, .iload 4, 2), (70, .invokestatic 145, 3), (73, .iload_n 3, 1), (74, .iadd, 1), (75, .invokestatic 185, 3), (78, .iadd, 1), (79, .iload_n 2, 1), (80, .invokestatic 158, 3), (83, .iload 4, 2), (85, .iadd, 1), (86, .invokevirtual 85, 3), (89, .iinc 4 1, 3), (92, .goto (-43), 3), (95, .aload_n 0, 1), (96, .invokevirtual 188, 3), (99, .ifCond .ne 7, 3), (102, .iload_n 1, 1), (103, .ifCond .eq 7, 3), (106, .iconst 1, 1), (107, .goto 4, 3), (110, .iconst 0, 1), (111, .istore_n 1, 1), (112, .iinc 3 1, 3), (115, .goto (-78), 3), (118, .iinc 2 1, 3), (121, .goto (-117), 3), (124, .iload_n 1, 1), (125, .ireturn, 1)]
theorem kX10_grows_0 : cdOf kX10_grows 0 = some (.iconst 0, 1) := by decide +kernel
theorem kX10_grows_1 : cdOf kX10_grows 1 = some (.istore_n 1, 1) := by decide +kernel
theorem kX10_grows_2 : cdOf kX10_grows 2 = some (.iconst 0, 1) := by decide +kernel
theorem kX10_grows_3 : cdOf kX10_grows 3 = some (.istore_n 2, 1) := by decide +kernel
theorem kX10_grows_4 : cdOf kX10_grows 4 = some (.iload_n 2, 1) := by decide +kernel
theorem kX10_grows_5 : cdOf kX10_grows 5 = some (.aload_n 0, 1) := by decide +kernel
theorem kX10_grows_6 : cdOf kX10_grows 6 = some (.getfield 167, 3) := by decide +kernel
theorem kX10_grows_9 : cdOf kX10_grows 9 = some (.if_icmp .ge 115, 3) := by decide +kernel
theorem kX10_grows_12 : cdOf kX10_grows 12 = some (.aload_n 0, 1) := by decide +kernel
theorem kX10_grows_13 : cdOf kX10_grows 13 = some (.getfield 45, 3) := by decide +kernel
theorem kX10_grows_16 : cdOf kX10_grows 16 = some (.iload_n 2, 1) := by decide +kernel
theorem kX10_grows_17 : cdOf kX10_grows 17 = some (.baload, 1) := by decide +kernel
theorem kX10_grows_18 : cdOf kX10_grows 18 = some (.ifCond .eq 100, 3) := by decide +kernel
theorem kX10_grows_21 : cdOf kX10_grows 21 = some (.iload_n 2, 1) := by decide +kernel
theorem kX10_grows_22 : cdOf kX10_grows 22 = some (.invokestatic 139, 3) := by decide +kernel
theorem kX10_grows_25 : cdOf kX10_grows 25 = some (.aload_n 0, 1) := by decide +kernel
theorem kX10_grows_26 : cdOf kX10_grows 26 = some (.getfield 179, 3) := by decide +kernel
theorem kX10_grows_29 : cdOf kX10_grows 29 = some (.if_icmp .lt 6, 3) := by decide +kernel
theorem kX10_grows_32 : cdOf kX10_grows 32 = some (.goto 86, 3) := by decide +kernel
theorem kX10_grows_35 : cdOf kX10_grows 35 = some (.iconst 0, 1) := by decide +kernel
theorem kX10_grows_36 : cdOf kX10_grows 36 = some (.istore_n 3, 1) := by decide +kernel
theorem kX10_grows_37 : cdOf kX10_grows 37 = some (.iload_n 3, 1) := by decide +kernel
theorem kX10_grows_38 : cdOf kX10_grows 38 = some (.iconst 2, 1) := by decide +kernel
theorem kX10_grows_39 : cdOf kX10_grows 39 = some (.if_icmp .ge 79, 3) := by decide +kernel
theorem kX10_grows_42 : cdOf kX10_grows 42 = some (.aload_n 0, 1) := by decide +kernel
theorem kX10_grows_43 : cdOf kX10_grows 43 = some (.invokevirtual 182, 3) := by decide +kernel
theorem kX10_grows_46 : cdOf kX10_grows 46 = some (.iconst 0, 1) := by decide +kernel
theorem kX10_grows_47 : cdOf kX10_grows 47 = some (.istore 4, 2) := by decide +kernel
theorem kX10_grows_49 : cdOf kX10_grows 49 = some (.iload 4, 2) := by decide +kernel
theorem kX10_grows_51 : cdOf kX10_grows 51 = some (.iload_n 2, 1) := by decide +kernel
theorem kX10_grows_52 : cdOf kX10_grows 52 = some (.if_icmp .gt 43, 3) := by decide +kernel
theorem kX10_grows_55 : cdOf kX10_grows 55 = some (.aload_n 0, 1) := by decide +kernel
theorem kX10_grows_56 : cdOf kX10_grows 56 = some (.sipush 2025, 3) := by decide +kernel
theorem kX10_grows_59 : cdOf kX10_grows 59 = some (.iload 4, 2) := by decide +kernel
theorem kX10_grows_61 : cdOf kX10_grows 61 = some (.invokestatic 142, 3) := by decide +kernel
theorem kX10_grows_64 : cdOf kX10_grows 64 = some (.iconst 1, 1) := by decide +kernel
theorem kX10_grows_65 : cdOf kX10_grows 65 = some (.iadd, 1) := by decide +kernel
theorem kX10_grows_66 : cdOf kX10_grows 66 = some (.iload_n 3, 1) := by decide +kernel
theorem kX10_grows_67 : cdOf kX10_grows 67 = some (.isub, 1) := by decide +kernel
theorem kX10_grows_68 : cdOf kX10_grows 68 = some (.iload 4, 2) := by decide +kernel
theorem kX10_grows_70 : cdOf kX10_grows 70 = some (.invokestatic 145, 3) := by decide +kernel
theorem kX10_grows_73 : cdOf kX10_grows 73 = some (.iload_n 3, 1) := by decide +kernel
theorem kX10_grows_74 : cdOf kX10_grows 74 = some (.iadd, 1) := by decide +kernel
theorem kX10_grows_75 : cdOf kX10_grows 75 = some (.invokestatic 185, 3) := by decide +kernel
theorem kX10_grows_78 : cdOf kX10_grows 78 = some (.iadd, 1) := by decide +kernel
theorem kX10_grows_79 : cdOf kX10_grows 79 = some (.iload_n 2, 1) := by decide +kernel
theorem kX10_grows_80 : cdOf kX10_grows 80 = some (.invokestatic 158, 3) := by decide +kernel
theorem kX10_grows_83 : cdOf kX10_grows 83 = some (.iload 4, 2) := by decide +kernel
theorem kX10_grows_85 : cdOf kX10_grows 85 = some (.iadd, 1) := by decide +kernel
theorem kX10_grows_86 : cdOf kX10_grows 86 = some (.invokevirtual 85, 3) := by decide +kernel
theorem kX10_grows_89 : cdOf kX10_grows 89 = some (.iinc 4 1, 3) := by decide +kernel
theorem kX10_grows_92 : cdOf kX10_grows 92 = some (.goto (-43), 3) := by decide +kernel
theorem kX10_grows_95 : cdOf kX10_grows 95 = some (.aload_n 0, 1) := by decide +kernel
theorem kX10_grows_96 : cdOf kX10_grows 96 = some (.invokevirtual 188, 3) := by decide +kernel
theorem kX10_grows_99 : cdOf kX10_grows 99 = some (.ifCond .ne 7, 3) := by decide +kernel
theorem kX10_grows_102 : cdOf kX10_grows 102 = some (.iload_n 1, 1) := by decide +kernel
theorem kX10_grows_103 : cdOf kX10_grows 103 = some (.ifCond .eq 7, 3) := by decide +kernel
theorem kX10_grows_106 : cdOf kX10_grows 106 = some (.iconst 1, 1) := by decide +kernel
theorem kX10_grows_107 : cdOf kX10_grows 107 = some (.goto 4, 3) := by decide +kernel
theorem kX10_grows_110 : cdOf kX10_grows 110 = some (.iconst 0, 1) := by decide +kernel
theorem kX10_grows_111 : cdOf kX10_grows 111 = some (.istore_n 1, 1) := by decide +kernel
theorem kX10_grows_112 : cdOf kX10_grows 112 = some (.iinc 3 1, 3) := by decide +kernel
theorem kX10_grows_115 : cdOf kX10_grows 115 = some (.goto (-78), 3) := by decide +kernel
theorem kX10_grows_118 : cdOf kX10_grows 118 = some (.iinc 2 1, 3) := by decide +kernel
theorem kX10_grows_121 : cdOf kX10_grows 121 = some (.goto (-117), 3) := by decide +kernel
theorem kX10_grows_124 : cdOf kX10_grows 124 = some (.iload_n 1, 1) := by decide +kernel
theorem kX10_grows_125 : cdOf kX10_grows 125 = some (.ireturn, 1) := by decide +kernel
set_option maxRecDepth 20000 in
theorem kX10_grows_ok : ∀ pc i len, cdOf kX10_grows pc = some (i, len) → decode cX10_grows pc = .ok (i, len) ∧ stOK 5 i = true ∧ jOK pc i = true ∧ eLen i len = true := cdOf_ok cX10_grows 5 kX10_grows (by decide +kernel)
def vtX10_grows : Nat → Option (Nat × eSp) := fun k => match k with
  | 182 => some (1, SX10_clearWork)
  | 85 => some (3, SX10_copy)
  | 188 => some (1, SX10_enters)
  | _ => none
theorem vtX10_grows_182 : vtX10_grows 182 = some (1, SX10_clearWork) := rfl
theorem vtX10_grows_85 : vtX10_grows 85 = some (3, SX10_copy) := rfl
theorem vtX10_grows_188 : vtX10_grows 188 = some (1, SX10_enters) := rfl
def stX10_grows : Nat → Option (Nat × eSp) := fun k => match k with
  | 139 => some (1, SX10_degreeOf)
  | 142 => some (1, SX10_xOf)
  | 145 => some (1, SX10_yOf)
  | 185 => some (2, SX10_monomial)
  | 158 => some (1, SX10_row)
  | _ => none
theorem stX10_grows_139 : stX10_grows 139 = some (1, SX10_degreeOf) := rfl
theorem stX10_grows_142 : stX10_grows 142 = some (1, SX10_xOf) := rfl
theorem stX10_grows_145 : stX10_grows 145 = some (1, SX10_yOf) := rfl
theorem stX10_grows_185 : stX10_grows 185 = some (2, SX10_monomial) := rfl
theorem stX10_grows_158 : stX10_grows 158 = some (1, SX10_row) := rfl
abbrev TX10_grows : eT := (fl_RX10, cl_RX10, dl_RX10, vtX10_grows, stX10_grows)
set_option maxRecDepth 20000 in
theorem caX10_grows : eCalls RX10 { frames := 6, cells := 0, slots := 0, locals := 152 } TX10_grows := by
  refine ⟨fun k n sp h => ?_, fun k n sp h => ?_⟩
  · dsimp only [TX10_grows] at h
    unfold vtX10_grows at h
    split at h
    · cases h; exact eV_mk mX10_clearWork wX10_clearWork (by decide +kernel) (Or.inl (gW_at 1066 (by decide +kernel) rfl))
    · cases h; exact eV_mk mX10_copy wX10_copy (by decide +kernel) (Or.inl (gW_at 1134 (by decide +kernel) rfl))
    · cases h; exact eV_mk mX10_enters wX10_enters (by decide +kernel) (Or.inl (gW_at 1078 (by decide +kernel) rfl))
    · cases h
  · dsimp only [TX10_grows] at h
    unfold stX10_grows at h
    split at h
    · cases h; exact eS_mk mX10_degreeOf wX10_degreeOf (by decide +kernel) (Or.inl (gW_at 1178 (by decide +kernel) rfl))
    · cases h; exact eS_mk mX10_xOf wX10_xOf (by decide +kernel) (Or.inl (gW_at 1181 (by decide +kernel) rfl))
    · cases h; exact eS_mk mX10_yOf wX10_yOf (by decide +kernel) (Or.inl (gW_at 1184 (by decide +kernel) rfl))
    · cases h; exact eS_mk mX10_monomial wX10_monomial (by decide +kernel) (Or.inl (gW_at 1187 (by decide +kernel) rfl))
    · cases h; exact eS_mk mX10_row wX10_row (by decide +kernel) (Or.inl (gW_at 1090 (by decide +kernel) rfl))
    · cases h
set_option maxRecDepth 100000 in
set_option maxHeartbeats 4000000 in
theorem sX10_grows : eSafe TX10_grows (cdOf kX10_grows) 5 (some .boolean) SX10_grows := by
  intro K rt hK as M h
  obtain ⟨F, A, s, n, g, rfl, rfl, hr, hF, hn, hG, hg, hh, hB, h⟩ := h
  refine ⟨by simp [eE], ?_⟩
  -- one way of one row
  have one : ∀ (l : Nat) (w : Int) (A' : Nat → Int → Int) (z : (Int → Int) × (Int → Int) × Int) (u4 : Option eV), l < n → mD l < g → (0 ≤ w ∧ w ≤ 1) → sH A A' → A' 15 = z.1 → rn (A' 0) z.2.1 → gOk z → enB z.1 (cS z.2.1 l w (l + 1)) n → (∀ (A'' : Nat → Int → Int) (u4 : Option eV), sH A A'' → A'' 15 = (g1w n l w z).1 → rn (A'' 0) (g1w n l w z).2.1 → K 112 [some eRR, some (eI (g1w n l w z).2.2), some (eI l), some (eI w), u4] [] (cR F A'')) → K 42 [some eRR, some (eI z.2.2), some (eI l), some (eI w), u4] [] (cR F A') := by
    intro l w A' z u4 hl hd hw hA h15 hr' hz hb hf
    have wl : w32 (l : Int) := by constructor <;> omega
    have wm : w32 z.2.2 := by rcases hz.1 with e | e <;> rw [e] <;> decide
    have cp : ∀ (d k : Nat) (A' : Nat → Int → Int), k + d = l + 1 → sH A A' → A' 15 = z.1 → rn (A' 0) (cS z.2.1 l w k) → K 49 [some eRR, some (eI z.2.2), some (eI l), some (eI w), some (eI k)] [] (cR F A') := by
      intro d
      induction d with
      | zero =>
        intro k A' hk hA h15 hr'
        have e : k = l + 1 := by omega
        subst e
        have e3 : (g1w n l w z).2.2 = if (en z.1 (cS z.2.1 l w (l + 1)) n).2.2 = 0 then z.2.2 else 1 := rfl
        have we : w32 (en z.1 (cS z.2.1 l w (l + 1)) n).2.2 := by rcases (en_b z.1 (cS z.2.1 l w (l + 1)) n).1 with e | e <;> rw [e] <;> decide
        refine x_iload hK kX10_grows_49 (q := 51) rfl rfl ?_
        refine x_iload_n hK kX10_grows_51 (q := 52) rfl rfl ?_
        refine x_icmp_gt hK kX10_grows_52 (q := 55) rfl (tg := 95) rfl (by constructor <;> (constructor <;> omega)) (fun c52 => ?_) (fun c52 => ?_)
        · refine x_aload_n hK kX10_grows_95 (q := 96) rfl rfl ?_
          refine x_cv1 hK kX10_grows_96 (q := 99) rfl (vtX10_grows_188) (Nat.le_of_ble_eq_true rfl) ?_
          refine SX10_enters_f hr' hF hn (by rw [h15]; exact hz.2) (by rw [h15]; exact hb) (fun A1 k1 k2 k3 => ?_)
          rw [h15] at k2 k3 ⊢
          refine x_if_ne hK kX10_grows_99 (q := 102) rfl (tg := 106) rfl (by exact we) (fun c99 => ?_) (fun c99 => ?_)
          · refine x_iconst hK kX10_grows_106 (q := 107) rfl ?_
            refine x_goto hK kX10_grows_107 (tg := 111) rfl ?_
            refine x_istore_n hK kX10_grows_111 (q := 112) (jn := 1) rfl rfl ?_
            simp only [lS, lS2, clr_0, clr_I, clr_L, clr_R]
            have f0 := hf A1 (some (eI ((l + 1 : Nat) : Int))) (sH_tr hA k1) k2 k3
            rw [e3] at f0
            first
            | (rw [if_neg c99] at f0; exact f0)
            | (rw [if_pos (Decidable.not_not.mp c99), show z.2.2 = 1 by (rcases hz.1 with e | e; exact absurd e c103; exact e)] at f0; exact f0)
            | (rw [if_pos (Decidable.not_not.mp c99), c103] at f0; exact f0)
          · refine x_iload_n hK kX10_grows_102 (q := 103) rfl rfl ?_
            refine x_if_eq hK kX10_grows_103 (q := 106) rfl (tg := 110) rfl (by omega) (fun c103 => ?_) (fun c103 => ?_)
            · refine x_iconst hK kX10_grows_110 (q := 111) rfl ?_
              refine x_istore_n hK kX10_grows_111 (q := 112) (jn := 1) rfl rfl ?_
              simp only [lS, lS2, clr_0, clr_I, clr_L, clr_R]
              have f0 := hf A1 (some (eI ((l + 1 : Nat) : Int))) (sH_tr hA k1) k2 k3
              rw [e3] at f0
              first
              | (rw [if_neg c99] at f0; exact f0)
              | (rw [if_pos (Decidable.not_not.mp c99), show z.2.2 = 1 by (rcases hz.1 with e | e; exact absurd e c103; exact e)] at f0; exact f0)
              | (rw [if_pos (Decidable.not_not.mp c99), c103] at f0; exact f0)
            · refine x_iconst hK kX10_grows_106 (q := 107) rfl ?_
              refine x_goto hK kX10_grows_107 (tg := 111) rfl ?_
              refine x_istore_n hK kX10_grows_111 (q := 112) (jn := 1) rfl rfl ?_
              simp only [lS, lS2, clr_0, clr_I, clr_L, clr_R]
              have f0 := hf A1 (some (eI ((l + 1 : Nat) : Int))) (sH_tr hA k1) k2 k3
              rw [e3] at f0
              first
              | (rw [if_neg c99] at f0; exact f0)
              | (rw [if_pos (Decidable.not_not.mp c99), show z.2.2 = 1 by (rcases hz.1 with e | e; exact absurd e c103; exact e)] at f0; exact f0)
              | (rw [if_pos (Decidable.not_not.mp c99), c103] at f0; exact f0)
        · exfalso; omega
      | succ d ih =>
        intro k A' hk hA h15 hr'
        have hkl : k ≤ l := by omega
        have wk : w32 (k : Int) := by constructor <;> omega
        have q0 : 0 ≤ (k : Int) ∧ (k : Int) < 45 := by omega
        have q1 := mX_h q0
        have q2 := mY_h q0
        have q3 := mD_m q0.1 (show (k : Int) ≤ l by omega) (by omega)
        obtain ⟨q4, q5, -⟩ := mN_X (a := mX k + 1 - w) (b := mY k + w) (by omega)
        refine x_iload hK kX10_grows_49 (q := 51) rfl rfl ?_
        refine x_iload_n hK kX10_grows_51 (q := 52) rfl rfl ?_
        refine x_icmp_gt hK kX10_grows_52 (q := 55) rfl (tg := 95) rfl (by exact ⟨wk, wl⟩) (fun c52 => ?_) (fun c52 => ?_)
        · exfalso; omega
        · refine x_aload_n hK kX10_grows_55 (q := 56) rfl rfl ?_
          refine x_sipush hK kX10_grows_56 (q := 59) rfl (by decide) ?_
          refine x_iload hK kX10_grows_59 (q := 61) rfl rfl ?_
          refine x_cs1 hK kX10_grows_61 (q := 64) rfl (stX10_grows_142) (Nat.le_of_ble_eq_true rfl) ?_
          refine SX10_xOf_i (by omega) ?_
          refine x_iconst hK kX10_grows_64 (q := 65) rfl ?_
          refine x_iadd hK kX10_grows_65 (q := 66) rfl ?_
          refine x_iload_n hK kX10_grows_66 (q := 67) rfl rfl ?_
          refine x_isub hK kX10_grows_67 (q := 68) rfl ?_
          refine x_iload hK kX10_grows_68 (q := 70) rfl rfl ?_
          refine x_cs1 hK kX10_grows_70 (q := 73) rfl (stX10_grows_145) (Nat.le_of_ble_eq_true rfl) ?_
          refine SX10_yOf_i (by omega) ?_
          refine x_iload_n hK kX10_grows_73 (q := 74) rfl rfl ?_
          refine x_iadd hK kX10_grows_74 (q := 75) rfl ?_
          refine x_cs2 hK kX10_grows_75 (q := 78) rfl (stX10_grows_185) (Nat.le_of_ble_eq_true rfl) ?_
          refine SX10_monomial_i (by omega) ?_
          refine x_iadd hK kX10_grows_78 (q := 79) rfl ?_
          refine x_iload_n hK kX10_grows_79 (q := 80) rfl rfl ?_
          refine x_cs1 hK kX10_grows_80 (q := 83) rfl (stX10_grows_158) (Nat.le_of_ble_eq_true rfl) ?_
          refine SX10_row_i ?_
          refine x_iload hK kX10_grows_83 (q := 85) rfl rfl ?_
          refine x_iadd hK kX10_grows_85 (q := 86) rfl ?_
          refine x_cv3 hK kX10_grows_86 (q := 89) rfl (vtX10_grows_85) (Nat.le_of_ble_eq_true rfl) ?_
          refine SX10_copy_n hr' (by omega) (by omega) (fun A1 k1 r1 => ?_)
          refine x_iinc hK kX10_grows_89 (q := 92) rfl rfl ?_
          simp only [lS, lS2, clr_0, clr_I, clr_L, clr_R]
          refine x_goto hK kX10_grows_92 (tg := 49) rfl ?_
          rw [show (k : Int) + 1 = ((k + 1 : Nat) : Int) by omega]
          exact ih (k + 1) A1 (by omega) (sH_tr hA (sH_n k1)) (by rw [k1 15 (by decide)]; exact h15) r1
    refine x_aload_n hK kX10_grows_42 (q := 43) rfl rfl ?_
    refine x_cv1 hK kX10_grows_43 (q := 46) rfl (vtX10_grows_182) (Nat.le_of_ble_eq_true rfl) ?_
    refine SX10_clearWork_i hr' (fun A1 k1 r1 => ?_)
    refine x_iconst hK kX10_grows_46 (q := 47) rfl ?_
    refine x_istore hK kX10_grows_47 (q := 49) rfl ?_
    simp only [lS, lS2, clr_0, clr_I, clr_L, clr_R]
    exact cp (l + 1) 0 A1 (by omega) (sH_tr hA (sH_n k1)) (by rw [k1 15 (by decide)]; exact h15) r1
  -- all rows
  have loop : ∀ (d l : Nat) (A' : Nat → Int → Int) (z : (Int → Int) × (Int → Int) × Int) (u3 u4 : Option eV), l + d = n → sH A A' → A' 15 = z.1 → rn (A' 0) z.2.1 → gOk z → gAlB n g d l z → gAl n g d l z = gR0 n g (A 15) s → K 4 [some eRR, some (eI z.2.2), some (eI l), u3, u4] [] (cR F A') := by
    intro d
    induction d with
    | zero =>
      intro l A' z u3 u4 hl hA h15 hr' hz hb he
      have e : z = gR0 n g (A 15) s := he
      refine x_iload_n hK kX10_grows_4 (q := 5) rfl rfl ?_
      refine x_aload_n hK kX10_grows_5 (q := 6) rfl rfl ?_
      refine x_getfield hK kX10_grows_6 (q := 9) rfl (gX10_167 ?_)
      rw [hF]
      refine x_icmp_ge hK kX10_grows_9 (q := 12) rfl (tg := 124) rfl (by refine ⟨?_, ?_⟩ <;> omega) (fun c9 => ?_) (fun c9 => ?_)
      · refine x_iload_n hK kX10_grows_124 (q := 125) rfl rfl ?_
        refine x_ireturn hK kX10_grows_125 (by exact hz.1) ?_
        rw [e] at h15 hr' ⊢
        exact h A' hA h15 hr'
      · exfalso; omega
    | succ d ih =>
      intro l A' z u3 u4 hl hA h15 hr' hz hb he
      obtain ⟨b1, b2⟩ := hb
      have wh : w32 (A' 15 l) := by rw [h15]; rcases hz.2 l with e | e <;> rw [e] <;> decide
      have q0 := mD_h (u := (l : Int)) (by omega)
      have skip : (z.1 l = 0 ∨ g ≤ mD l) → K 118 [some eRR, some (eI z.2.2), some (eI l), u3, u4] [] (cR F A') := by
        intro hc
        have e : gLs n g l z = z := by unfold gLs; exact if_pos hc
        refine x_iinc hK kX10_grows_118 (q := 121) rfl rfl ?_
        simp only [lS, lS2, clr_0, clr_I, clr_L, clr_R]
        refine x_goto hK kX10_grows_121 (tg := 4) rfl ?_
        rw [show (l : Int) + 1 = ((l + 1 : Nat) : Int) by omega]
        have he2 : gAl n g d (l + 1) (gLs n g l z) = gR0 n g (A 15) s := he
        rw [e] at b2 he2
        exact ih (l + 1) A' z u3 u4 (by omega) hA h15 hr' hz b2 he2
      have go : ¬ (z.1 l = 0 ∨ g ≤ mD l) → K 37 [some eRR, some (eI z.2.2), some (eI l), some (eI 0), u4] [] (cR F A') := by
        intro c30
        have b3 := b1
        unfold gLsB at b3
        obtain ⟨b4, b5⟩ : enB z.1 (cS z.2.1 l 0 (l + 1)) n ∧ enB (g1w n l 0 z).1 (cS (g1w n l 0 z).2.1 l 1 (l + 1)) n := by
          rcases b3 with e | e | e
          · exact absurd (Or.inl e) c30
          · exact absurd (Or.inr e) c30
          · exact e
        have e : gLs n g l z = g1w n l 1 (g1w n l 0 z) := by unfold gLs; exact if_neg c30
        have he2 : gAl n g d (l + 1) (gLs n g l z) = gR0 n g (A 15) s := he
        rw [e] at b2 he2
        have last : ∀ (A2 : Nat → Int → Int) (u4 : Option eV), sH A A2 → A2 15 = (g1w n l 1 (g1w n l 0 z)).1 → rn (A2 0) (g1w n l 1 (g1w n l 0 z)).2.1 → K 112 [some eRR, some (eI (g1w n l 1 (g1w n l 0 z)).2.2), some (eI l), some (eI 1), u4] [] (cR F A2) := by
          intro A2 u4 k4 k5 k6
          refine x_iinc hK kX10_grows_112 (q := 115) rfl rfl ?_
          simp only [lS, lS2, clr_0, clr_I, clr_L, clr_R]
          refine x_goto hK kX10_grows_115 (tg := 37) rfl ?_
          refine x_iload_n hK kX10_grows_37 (q := 38) rfl rfl ?_
          refine x_iconst hK kX10_grows_38 (q := 39) rfl ?_
          refine x_icmp_ge hK kX10_grows_39 (q := 42) rfl (tg := 118) rfl (by refine ⟨?_, ?_⟩ <;> omega) (fun c39 => ?_) (fun c39 => ?_)
          · refine x_iinc hK kX10_grows_118 (q := 121) rfl rfl ?_
            simp only [lS, lS2, clr_0, clr_I, clr_L, clr_R]
            refine x_goto hK kX10_grows_121 (tg := 4) rfl ?_
            rw [show (l : Int) + 1 = ((l + 1 : Nat) : Int) by omega]
            exact ih (l + 1) A2 _ _ _ (by omega) k4 k5 k6 (gOk_1 (gOk_1 hz)) b2 he2
          · exfalso; omega
        have mid : ∀ (A1 : Nat → Int → Int) (u4 : Option eV), sH A A1 → A1 15 = (g1w n l 0 z).1 → rn (A1 0) (g1w n l 0 z).2.1 → K 112 [some eRR, some (eI (g1w n l 0 z).2.2), some (eI l), some (eI 0), u4] [] (cR F A1) := by
          intro A1 u4 k1 k2 k3
          refine x_iinc hK kX10_grows_112 (q := 115) rfl rfl ?_
          simp only [lS, lS2, clr_0, clr_I, clr_L, clr_R]
          refine x_goto hK kX10_grows_115 (tg := 37) rfl ?_
          refine x_iload_n hK kX10_grows_37 (q := 38) rfl rfl ?_
          refine x_iconst hK kX10_grows_38 (q := 39) rfl ?_
          refine x_icmp_ge hK kX10_grows_39 (q := 42) rfl (tg := 118) rfl (by refine ⟨?_, ?_⟩ <;> omega) (fun c39 => ?_) (fun c39 => ?_)
          · exfalso; omega
          · exact one l 1 A1 (g1w n l 0 z) u4 (by omega) (by omega) (by decide) k1 k2 k3 (gOk_1 hz) b5 last
        refine x_iload_n hK kX10_grows_37 (q := 38) rfl rfl ?_
        refine x_iconst hK kX10_grows_38 (q := 39) rfl ?_
        refine x_icmp_ge hK kX10_grows_39 (q := 42) rfl (tg := 118) rfl (by refine ⟨?_, ?_⟩ <;> omega) (fun c39 => ?_) (fun c39 => ?_)
        · exfalso; omega
        · exact one l 0 A' z u4 (by omega) (by omega) (by decide) hA h15 hr' hz b4 mid
      refine x_iload_n hK kX10_grows_4 (q := 5) rfl rfl ?_
      refine x_aload_n hK kX10_grows_5 (q := 6) rfl rfl ?_
      refine x_getfield hK kX10_grows_6 (q := 9) rfl (gX10_167 ?_)
      rw [hF]
      refine x_icmp_ge hK kX10_grows_9 (q := 12) rfl (tg := 124) rfl (by refine ⟨?_, ?_⟩ <;> omega) (fun c9 => ?_) (fun c9 => ?_)
      · exfalso; omega
      · refine x_aload_n hK kX10_grows_12 (q := 13) rfl rfl ?_
        refine x_getfield hK kX10_grows_13 (q := 16) rfl (gX10_45 ?_)
        refine x_iload_n hK kX10_grows_16 (q := 17) rfl rfl ?_
        refine x_baload hK kX10_grows_17 (q := 18) rfl (aX10_A15 (by refine ⟨?_, ?_⟩ <;> omega) ?_)
        refine x_if_eq hK kX10_grows_18 (q := 21) rfl (tg := 118) rfl (by exact wh) (fun c18 => ?_) (fun c18 => ?_)
        · exact skip (Or.inl (by rw [← h15]; exact c18))
        · refine x_iload_n hK kX10_grows_21 (q := 22) rfl rfl ?_
          refine x_cs1 hK kX10_grows_22 (q := 25) rfl (stX10_grows_139) (Nat.le_of_ble_eq_true rfl) ?_
          refine SX10_degreeOf_i (by omega) ?_
          refine x_aload_n hK kX10_grows_25 (q := 26) rfl rfl ?_
          refine x_getfield hK kX10_grows_26 (q := 29) rfl (gX10_179 ?_)
          rw [hG]
          refine x_icmp_lt hK kX10_grows_29 (q := 32) rfl (tg := 35) rfl (by constructor <;> (constructor <;> omega)) (fun c29 => ?_) (fun c29 => ?_)
          · refine x_iconst hK kX10_grows_35 (q := 36) rfl ?_
            refine x_istore_n hK kX10_grows_36 (q := 37) (jn := 3) rfl rfl ?_
            simp only [lS, lS2, clr_0, clr_I, clr_L, clr_R]
            exact go (by rintro (e | e); exact c18 (by rw [h15]; exact e); omega)
          · refine x_goto hK kX10_grows_32 (tg := 118) rfl ?_
            exact skip (Or.inr (by omega))
  simp only [eLoc, eE, List.length_cons, List.length_nil, List.replicate, List.cons_append, List.nil_append, Nat.reduceAdd, Nat.reduceSub]
  refine x_iconst hK kX10_grows_0 (q := 1) rfl ?_
  refine x_istore_n hK kX10_grows_1 (q := 2) (jn := 1) rfl rfl ?_
  refine x_iconst hK kX10_grows_2 (q := 3) rfl ?_
  refine x_istore_n hK kX10_grows_3 (q := 4) (jn := 2) rfl rfl ?_
  simp only [lS, lS2, clr_0, clr_I, clr_L, clr_R]
  exact loop n 0 A (A 15, s, 0) _ _ (by omega) (fun k _ _ => rfl) rfl hr ⟨Or.inl rfl, hh⟩ hB rfl
set_option maxRecDepth 20000 in
theorem mX10_grows : eMet yX10_grows cX10_grows 5 (some .boolean) 6 152 SX10_grows := eMet_of (by decide +kernel) sX10_grows kX10_grows_ok caX10_grows tb_RX10
theorem wX10_grows : eWV yX10_grows cX10_grows 5 (some .boolean) 1 9 SX10_grows := ⟨(gW_at 1177 (by decide +kernel) rfl), (gW_at 89 (by decide +kernel) rfl), (gW_at 1176 (by decide +kernel) rfl), ⟨_, rfl, (gW_at 57 (by decide +kernel) rfl)⟩, by decide +kernel, SX10_grows_r⟩
