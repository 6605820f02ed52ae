/-! forms. -/
def uPw (n : Nat) (H : mT) : Nat → mT
  | 0 => mI
  | e + 1 => mM n H (uPw n H e)
def fT (n : Nat) (U : mT) (Mi : Nat → mT) : mT := fun i j => dS (fun k => mM n (mM n U (Mi i)) (Mi j) k k) n
theorem sqP_c {n : Nat} {f g : mT} (h : mQ n f g) : ∀ k, mQ n (sqP n f k).1 (sqP n g k).1 ∧ (sqP n f k).2 = (sqP n g k).2
  | 0 => ⟨mQ_rf n _, rfl⟩
  | k + 1 => by
    obtain ⟨h1, h2⟩ := sqP_c h k
    have h3 : mQ n (sqP n f (k + 1)).1 (sqP n g (k + 1)).1 := fun i j hi hj => by
      rw [sqP_1, sqP_1, mM_q h h1 i j hi hj, h2]
    refine ⟨h3, ?_⟩
    rw [sqP_2, sqP_2, dS_c (fun i hi => mM_q h h3 i i hi hi)]
theorem sqC_c {n : Nat} {f g : mT} (h : mQ n f g) (k : Nat) : sqC n f k = sqC n g k := (sqP_c h (n - k)).2
theorem lz_c {c d : Nat → Int} (h : ∀ k, c k = d k) : ∀ e l : Nat, lz c e l = lz d e l
  | 0, _ => rfl
  | e + 1, l => by
    unfold lz
    rw [h l, lz_c h e (l + 1)]
theorem sqR_c {n : Nat} {f g : mT} (h : mQ n f g) : sqR n f = sqR n g := by
  unfold sqR
  rw [lz_c (sqC_c h)]
theorem sqS_c {n : Nat} {f g : mT} (h : mQ n f g) : sqS n f = sqS n g := by
  unfold sqS
  rw [chF_c 0 _ (fun k _ => sqC_c h k), chF_c 1 _ (fun k _ => sqC_c h k)]
theorem sqM_c {n : Nat} {f g : mT} {V W : Int} (h : mQ n f g) (h2 : sqM n g V W) : sqM n f V W := by
  obtain ⟨a, b, c, d, d2, e, i⟩ := h2
  refine ⟨a, b, mB_q h c, fun k hk => mB_q (sqP_c h k).1 (d k hk), fun k hk => by rw [(sqP_c h k).2]; exact d2 k hk, fun k hk => ?_, i⟩
  rw [dS_c (fun i hi => mM_q h (sqP_c h (k + 1)).1 i i hi hi)]
  exact e k hk
/-- the room that forms needs -/
def fRm (n : Nat) (H : mT) (Mi : Nat → mT) (H0 W0 M0 : Int) : Prop := 0 ≤ H0 ∧ 0 ≤ W0 ∧ 0 ≤ M0 ∧ mB n H H0 ∧ (∀ e, e < 3 → mB n (uPw n H e) W0) ∧ (∀ i, i < n → mB n (Mi i) M0) ∧ 6 * (H0 * W0) < bB ^ 598 ∧ 6 * (W0 * M0) < bB ^ 598 ∧ 36 * (6 * (W0 * M0) * M0) < bB ^ 598 ∧ ∀ e, e < 3 → ∃ V W, sqM n (fT n (uPw n H e) Mi) V W
def fKp (p : Int) : Prop := p < 2070 ∨ p = 2076 ∨ (2080 ≤ p ∧ p < 2188) ∨ (2440 ≤ p ∧ p < 2656)
def SX10_forms : eSp := fun as M rt => ∃ (F : Nat → Int) (A : Nat → Int → Int) (s : Int → Int) (n : Nat) (H : mT) (Mi : Nat → mT) (H0 W0 M0 : Int), as = [eRR] ∧ M = cR F A ∧ rn (A 0) s ∧ F 19 = n ∧ n ≤ 6 ∧ mQ n (tb s 2152) H ∧ (∀ i : Nat, i < n → mQ n (tb s (2440 + 36 * i)) (Mi i)) ∧ fRm n H Mi H0 W0 M0 ∧ ∀ (A' : Nat → Int → Int) (s' : Int → Int), sS A A' → (∀ e : Nat, e < 3 → A' 20 e = sqR n (fT n (uPw n H e) Mi) ∧ A' 21 e = sqS n (fT n (uPw n H e) Mi)) → rn (A' 0) s' → (∀ e : Nat, e < 3 → mQ n (tb s' (2332 + 36 * e)) (fT n (uPw n H e) Mi)) → (∀ p, fKp p → s' p = s p) → rt none (cR F A')
theorem SX10_forms_i {F : Nat → Int} {A : Nat → Int → Int} {s : Int → Int} {n : Nat} (H : mT) (Mi : Nat → mT) (H0 W0 M0 : Int) {rt : Option eV → eM → Prop} (hr : rn (A 0) s) (h0 : F 19 = n) (h1 : n ≤ 6) (h2 : mQ n (tb s 2152) H) (h3 : ∀ i : Nat, i < n → mQ n (tb s (2440 + 36 * i)) (Mi i)) (h4 : fRm n H Mi H0 W0 M0) (h : ∀ (A' : Nat → Int → Int) (s' : Int → Int), sS A A' → (∀ e : Nat, e < 3 → A' 20 e = sqR n (fT n (uPw n H e) Mi) ∧ A' 21 e = sqS n (fT n (uPw n H e) Mi)) → rn (A' 0) s' → (∀ e : Nat, e < 3 → mQ n (tb s' (2332 + 36 * e)) (fT n (uPw n H e) Mi)) → (∀ p, fKp p → s' p = s p) → rt none (cR F A')) : SX10_forms [eRR] (cR F A) rt := ⟨F, A, s, n, H, Mi, H0, W0, M0, rfl, rfl, hr, h0, h1, h2, h3, h4, h⟩
theorem SX10_forms_r : ∀ as M rt, SX10_forms as M rt → ∃ a r fs, as = eR a :: r ∧ M a = some (.inl (9, fs)) := by
  rintro as M rt ⟨F, A, s, n, H, Mi, H0, W0, M0, rfl, rfl, -⟩
  exact ⟨_, _, _, rfl, rfl⟩
theorem sS_tr {A B C : Nat → Int → Int} (h : sS A B) (h2 : sS B C) : sS A C := fun k hk hn hm => (h2 k hk hn hm).trans (h k hk hn hm)
theorem sS_n {A A' : Nat → Int → Int} (h : sN A A') : sS A A' := fun k hk _ _ => h k hk
def kX10_forms : List (Nat × Jvm.ClassFile.Instr × Nat) := [(0, .aload_n 0, 1), (1, .getfield 223, 3), (4, .istore_n 1, 1), (5, .aload_n 0, 1), (6, .sipush 2296, 3), (9, .invokevirtual 249, 3), (12, .iconst 0, 1), (13, .istore_n 2, 1), (14, .iload_n 2, 1), (15, .iconst 3, 1), (16, .if_icmp .ge 167, 3), (19, .iload_n 2, 1), (20, .ifCond .le 26, 3), (23, .aload_n 0, 1), (24, .sipush 2260, 3), (27, .sipush 2152, 3), (30, .sipush 2296, 3), (33, .invokevirtual 252, 3), (36, .aload_n 0, 1), (37, .sipush 2296, 3), (40, .sipush 2260, 3), (43, .invokevirtual 255, 3), (46, .iconst 0, 1), (47, .istore_n 3, 1), (48, .iload_n 3, 1), (49, .iload_n 1, 1), (50, .if_icmp .ge 122, 3), (53, .aload_n 0, 1), (54, .sipush 2188, 3), (57, .sipush 2296, 3), (60, .sipush 2440, 3), (63, .bipush 36, 2), (65, .iload_n 3, 1), (66, .imul, 1), (67, .iadd, 1), (68, .invokevirtual 252, 3), (71, .iconst 0, 1), (72, .istore 4, 2), (74, .iload 4, 2), (76, .iload_n 1, 1), (77, .if_icmp .ge 89, 3), (80, .aload_n 0, 1), (81, .sipush 2260, 3), (84, .sipush 2188, 3), (87, .sipush 2440, 3), (90, .bipush 36, 2), (92, .iload 4, 2), (94, .imul, 1), (95, .iadd, 1), (96, .invokevirtual 252, 3), (99, .aload_n 0, 1), (100, .sipush 2332, 3), (103, .bipush 36, 2), (105, .iload_n 2, 1), (106, .imul, 1), (107, .iadd, 1), (108, .iload_n 3, 1), (109, .iload 4, 2), (111, .invokevirtual 245, 3), (114, .istore 5, 2), (116, .aload_n 0, 1), (117, .getfield 12, 3), (120, .iload 5, 2), (122, .invokestatic 64, 3), (125, .iconst 0, 1), (126, .iastore, 1), (127, .iconst 0, 1), (128, .istore 6, 2), (130, .iload 6, 2), (132, .iload_n 1, 1), (133, .if_icmp .ge 27, 3), (136, .aload_n 0, 1), (137, .iload 5, 2), (139, .aload_n 0, 1), (140, .sipush 2260, 3), (143, .iload 6, 2), (145, .iload 6, 2), (147, .invokevirtual 245, 3), (150, .iconst 1, 1), (151, .invokevirtual 164, 3), (154, .iinc 6 1, 3), (157, .goto (-27), 3), (160, .iinc 4 1, 3), (163, .goto (-89), 3), (166, .iinc 3 1, 3), (169, .goto (-121), 3), (172, .aload_n 0, 1), (173, .iload_n 2, 1), (174, .invokevirtual 258, 3), (177, .iinc 2 1, 3), (180, .goto (-166), 3), (183, .return_, 1)]
theorem kX10_forms_0 : cdOf kX10_forms 0 = some (.aload_n 0, 1) := by decide +kernel
theorem kX10_forms_1 : cdOf kX10_forms 1 = some (.getfield 223, 3) := by decide +kernel
theorem kX10_forms_4 : cdOf kX10_forms 4 = some (.istore_n 1, 1) := by decide +kernel
theorem kX10_forms_5 : cdOf kX10_forms 5 = some (.aload_n 0, 1) := by decide +kernel
theorem kX10_forms_6 : cdOf kX10_forms 6 = some (.sipush 2296, 3) := by decide +kernel
theorem kX10_forms_9 : cdOf kX10_forms 9 = some (.invokevirtual 249, 3) := by decide +kernel
theorem kX10_forms_12 : cdOf kX10_forms 12 = some (.iconst 0, 1) := by decide +kernel
theorem kX10_forms_13 : cdOf kX10_forms 13 = some (.istore_n 2, 1) := by decide +kernel
theorem kX10_forms_14 : cdOf kX10_forms 14 = some (.iload_n 2, 1) := by decide +kernel
theorem kX10_forms_15 : cdOf kX10_forms 15 = some (.iconst 3, 1) := by decide +kernel
theorem kX10_forms_16 : cdOf kX10_forms 16 = some (.if_icmp .ge 167, 3) := by decide +kernel
theorem kX10_forms_19 : cdOf kX10_forms 19 = some (.iload_n 2, 1) := by decide +kernel
theorem kX10_forms_20 : cdOf kX10_forms 20 = some (.ifCond .le 26, 3) := by decide +kernel
theorem kX10_forms_23 : cdOf kX10_forms 23 = some (.aload_n 0, 1) := by decide +kernel
theorem kX10_forms_24 : cdOf kX10_forms 24 = some (.sipush 2260, 3) := by decide +kernel
theorem kX10_forms_27 : cdOf kX10_forms 27 = some (.sipush 2152, 3) := by decide +kernel
theorem kX10_forms_30 : cdOf kX10_forms 30 = some (.sipush 2296, 3) := by decide +kernel
theorem kX10_forms_33 : cdOf kX10_forms 33 = some (.invokevirtual 252, 3) := by decide +kernel
theorem kX10_forms_36 : cdOf kX10_forms 36 = some (.aload_n 0, 1) := by decide +kernel
theorem kX10_forms_37 : cdOf kX10_forms 37 = some (.sipush 2296, 3) := by decide +kernel
theorem kX10_forms_40 : cdOf kX10_forms 40 = some (.sipush 2260, 3) := by decide +kernel
theorem kX10_forms_43 : cdOf kX10_forms 43 = some (.invokevirtual 255, 3) := by decide +kernel
theorem kX10_forms_46 : cdOf kX10_forms 46 = some (.iconst 0, 1) := by decide +kernel
theorem kX10_forms_47 : cdOf kX10_forms 47 = some (.istore_n 3, 1) := by decide +kernel
theorem kX10_forms_48 : cdOf kX10_forms 48 = some (.iload_n 3, 1) := by decide +kernel
theorem kX10_forms_49 : cdOf kX10_forms 49 = some (.iload_n 1, 1) := by decide +kernel
theorem kX10_forms_50 : cdOf kX10_forms 50 = some (.if_icmp .ge 122, 3) := by decide +kernel
theorem kX10_forms_53 : cdOf kX10_forms 53 = some (.aload_n 0, 1) := by decide +kernel
theorem kX10_forms_54 : cdOf kX10_forms 54 = some (.sipush 2188, 3) := by decide +kernel
theorem kX10_forms_57 : cdOf kX10_forms 57 = some (.sipush 2296, 3) := by decide +kernel
theorem kX10_forms_60 : cdOf kX10_forms 60 = some (.sipush 2440, 3) := by decide +kernel
theorem kX10_forms_63 : cdOf kX10_forms 63 = some (.bipush 36, 2) := by decide +kernel
theorem kX10_forms_65 : cdOf kX10_forms 65 = some (.iload_n 3, 1) := by decide +kernel
theorem kX10_forms_66 : cdOf kX10_forms 66 = some (.imul, 1) := by decide +kernel
theorem kX10_forms_67 : cdOf kX10_forms 67 = some (.iadd, 1) := by decide +kernel
theorem kX10_forms_68 : cdOf kX10_forms 68 = some (.invokevirtual 252, 3) := by decide +kernel
theorem kX10_forms_71 : cdOf kX10_forms 71 = some (.iconst 0, 1) := by decide +kernel
theorem kX10_forms_72 : cdOf kX10_forms 72 = some (.istore 4, 2) := by decide +kernel
theorem kX10_forms_74 : cdOf kX10_forms 74 = some (.iload 4, 2) := by decide +kernel
theorem kX10_forms_76 : cdOf kX10_forms 76 = some (.iload_n 1, 1) := by decide +kernel
theorem kX10_forms_77 : cdOf kX10_forms 77 = some (.if_icmp .ge 89, 3) := by decide +kernel
theorem kX10_forms_80 : cdOf kX10_forms 80 = some (.aload_n 0, 1) := by decide +kernel
theorem kX10_forms_81 : cdOf kX10_forms 81 = some (.sipush 2260, 3) := by decide +kernel
theorem kX10_forms_84 : cdOf kX10_forms 84 = some (.sipush 2188, 3) := by decide +kernel
theorem kX10_forms_87 : cdOf kX10_forms 87 = some (.sipush 2440, 3) := by decide +kernel
theorem kX10_forms_90 : cdOf kX10_forms 90 = some (.bipush 36, 2) := by decide +kernel
theorem kX10_forms_92 : cdOf kX10_forms 92 = some (.iload 4, 2) := by decide +kernel
theorem kX10_forms_94 : cdOf kX10_forms 94 = some (.imul, 1) := by decide +kernel
theorem kX10_forms_95 : cdOf kX10_forms 95 = some (.iadd, 1) := by decide +kernel
theorem kX10_forms_96 : cdOf kX10_forms 96 = some (.invokevirtual 252, 3) := by decide +kernel
theorem kX10_forms_99 : cdOf kX10_forms 99 = some (.aload_n 0, 1) := by decide +kernel
theorem kX10_forms_100 : cdOf kX10_forms 100 = some (.sipush 2332, 3) := by decide +kernel
theorem kX10_forms_103 : cdOf kX10_forms 103 = some (.bipush 36, 2) := by decide +kernel
theorem kX10_forms_105 : cdOf kX10_forms 105 = some (.iload_n 2, 1) := by decide +kernel
theorem kX10_forms_106 : cdOf kX10_forms 106 = some (.imul, 1) := by decide +kernel
theorem kX10_forms_107 : cdOf kX10_forms 107 = some (.iadd, 1) := by decide +kernel
theorem kX10_forms_108 : cdOf kX10_forms 108 = some (.iload_n 3, 1) := by decide +kernel
theorem kX10_forms_109 : cdOf kX10_forms 109 = some (.iload 4, 2) := by decide +kernel
theorem kX10_forms_111 : cdOf kX10_forms 111 = some (.invokevirtual 245, 3) := by decide +kernel
theorem kX10_forms_114 : cdOf kX10_forms 114 = some (.istore 5, 2) := by decide +kernel
theorem kX10_forms_116 : cdOf kX10_forms 116 = some (.aload_n 0, 1) := by decide +kernel
theorem kX10_forms_117 : cdOf kX10_forms 117 = some (.getfield 12, 3) := by decide +kernel
theorem kX10_forms_120 : cdOf kX10_forms 120 = some (.iload 5, 2) := by decide +kernel
theorem kX10_forms_122 : cdOf kX10_forms 122 = some (.invokestatic 64, 3) := by decide +kernel
theorem kX10_forms_125 : cdOf kX10_forms 125 = some (.iconst 0, 1) := by decide +kernel
theorem kX10_forms_126 : cdOf kX10_forms 126 = some (.iastore, 1) := by decide +kernel
theorem kX10_forms_127 : cdOf kX10_forms 127 = some (.iconst 0, 1) := by decide +kernel
theorem kX10_forms_128 : cdOf kX10_forms 128 = some (.istore 6, 2) := by decide +kernel
theorem kX10_forms_130 : cdOf kX10_forms 130 = some (.iload 6, 2) := by decide +kernel
theorem kX10_forms_132 : cdOf kX10_forms 132 = some (.iload_n 1, 1) := by decide +kernel
theorem kX10_forms_133 : cdOf kX10_forms 133 = some (.if_icmp .ge 27, 3) := by decide +kernel
theorem kX10_forms_136 : cdOf kX10_forms 136 = some (.aload_n 0, 1) := by decide +kernel
theorem kX10_forms_137 : cdOf kX10_forms 137 = some (.iload 5, 2) := by decide +kernel
theorem kX10_forms_139 : cdOf kX10_forms 139 = some (.aload_n 0, 1) := by decide +kernel
theorem kX10_forms_140 : cdOf kX10_forms 140 = some (.sipush 2260, 3) := by decide +kernel
theorem kX10_forms_143 : cdOf kX10_forms 143 = some (.iload 6, 2) := by decide +kernel
theorem kX10_forms_145 : cdOf kX10_forms 145 = some (.iload 6, 2) := by decide +kernel
theorem kX10_forms_147 : cdOf kX10_forms 147 = some (.invokevirtual 245, 3) := by decide +kernel
theorem kX10_forms_150 : cdOf kX10_forms 150 = some (.iconst 1, 1) := by decide +kernel
theorem kX10_forms_151 : cdOf kX10_forms 151 = some (.invokevirtual 164, 3) := by decide +kernel
theorem kX10_forms_154 : cdOf kX10_forms 154 = some (.iinc 6 1, 3) := by decide +kernel
theorem kX10_forms_157 : cdOf kX10_forms 157 = some (.goto (-27), 3) := by decide +kernel
theorem kX10_forms_160 : cdOf kX10_forms 160 = some (.iinc 4 1, 3) := by decide +kernel
theorem kX10_forms_163 : cdOf kX10_forms 163 = some (.goto (-89), 3) := by decide +kernel
theorem kX10_forms_166 : cdOf kX10_forms 166 = some (.iinc 3 1, 3) := by decide +kernel
theorem kX10_forms_169 : cdOf kX10_forms 169 = some (.goto (-121), 3) := by decide +kernel
theorem kX10_forms_172 : cdOf kX10_forms 172 = some (.aload_n 0, 1) := by decide +kernel
theorem kX10_forms_173 : cdOf kX10_forms 173 = some (.iload_n 2, 1) := by decide +kernel
theorem kX10_forms_174 : cdOf kX10_forms 174 = some (.invokevirtual 258, 3) := by decide +kernel
theorem kX10_forms_177 : cdOf kX10_forms 177 = some (.iinc 2 1, 3) := by decide +kernel
theorem kX10_forms_180 : cdOf kX10_forms 180 = some (.goto (-166), 3) := by decide +kernel
theorem kX10_forms_183 : cdOf kX10_forms 183 = some (.return_, 1) := by decide +kernel
set_option maxRecDepth 20000 in
theorem kX10_forms_ok : ∀ pc i len, cdOf kX10_forms pc = some (i, len) → decode cX10_forms pc = .ok (i, len) ∧ stOK 7 i = true ∧ jOK pc i = true ∧ eLen i len = true := cdOf_ok cX10_forms 7 kX10_forms (by decide +kernel)
def vtX10_forms : Nat → Option (Nat × eSp) := fun k => match k with
  | 249 => some (2, SX10_unit)
  | 252 => some (4, SX10_product)
  | 255 => some (3, SX10_copyTable)
  | 245 => some (4, SX10_entry)
  | 164 => some (4, SX10_join)
  | 258 => some (2, SX10_squares)
  | _ => none
theorem vtX10_forms_249 : vtX10_forms 249 = some (2, SX10_unit) := rfl
theorem vtX10_forms_252 : vtX10_forms 252 = some (4, SX10_product) := rfl
theorem vtX10_forms_255 : vtX10_forms 255 = some (3, SX10_copyTable) := rfl
theorem vtX10_forms_245 : vtX10_forms 245 = some (4, SX10_entry) := rfl
theorem vtX10_forms_164 : vtX10_forms 164 = some (4, SX10_join) := rfl
theorem vtX10_forms_258 : vtX10_forms 258 = some (2, SX10_squares) := rfl
def stX10_forms : Nat → Option (Nat × eSp) := fun k => match k with
  | 64 => some (1, SX10_at)
  | _ => none
theorem stX10_forms_64 : stX10_forms 64 = some (1, SX10_at) := rfl
abbrev TX10_forms : eT := (fl_RX10, cl_RX10, dl_RX10, vtX10_forms, stX10_forms)
set_option maxRecDepth 20000 in
theorem caX10_forms : eCalls RX10 { frames := 6, cells := 0, slots := 0, locals := 157 } TX10_forms := by
  refine ⟨fun k n sp h => ?_, fun k n sp h => ?_⟩
  · dsimp only [TX10_forms] at h
    unfold vtX10_forms at h
    split at h
    · cases h; exact eV_mk mX10_unit wX10_unit (by decide +kernel) (Or.inl (gW_at 1225 (by decide +kernel) rfl))
    · cases h; exact eV_mk mX10_product wX10_product (by decide +kernel) (Or.inl (gW_at 1229 (by decide +kernel) rfl))
    · cases h; exact eV_mk mX10_copyTable wX10_copyTable (by decide +kernel) (Or.inl (gW_at 1233 (by decide +kernel) rfl))
    · cases h; exact eV_mk mX10_entry wX10_entry (by decide +kernel) (Or.inl (gW_at 1217 (by decide +kernel) rfl))
    · cases h; exact eV_mk mX10_join wX10_join (by decide +kernel) (Or.inl (gW_at 1153 (by decide +kernel) rfl))
    · cases h; exact eV_mk mX10_squares wX10_squares (by decide +kernel) (Or.inl (gW_at 1241 (by decide +kernel) rfl))
    · cases h
  · dsimp only [TX10_forms] at h
    unfold stX10_forms at h
    split at h
    · cases h; exact eS_mk mX10_at wX10_at (by decide +kernel) (Or.inl (gW_at 1070 (by decide +kernel) rfl))
    · cases h
set_option maxRecDepth 100000 in
set_option maxHeartbeats 4000000 in
theorem sX10_forms : eSafe TX10_forms (cdOf kX10_forms) 7 none SX10_forms := by
  intro K rt hK as M h
  obtain ⟨F, A, s, n, H, Mi, H0, W0, M0, rfl, rfl, hr, hF, hn, qH, qM, ⟨h0, w0, m0, bH, bU, bM, r1, r2, r3, sq⟩, h⟩ := h
  refine ⟨by simp [eE], ?_⟩
  have h599 := bB_598
  have wn : w32 (n : Int) := by constructor <;> omega
  have z0 : 0 ≤ W0 * M0 := Int.mul_nonneg w0 m0
  have z1 : 0 ≤ 6 * (W0 * M0) * M0 := Int.mul_nonneg (by omega) m0
  -- a table whose entries before (i, j) stand
  have ent : ∀ (e i j : Nat) (A' : Nat → Int → Int) (s' : Int → Int) (u5 u6 : Option eV), e < 3 → i < n → j < n → rn (A' 0) s' → mQ n (tb s' 2188) (mM n (uPw n H e) (Mi i)) → (∀ l : Nat, l < n → mQ n (tb s' (2440 + 36 * l)) (Mi l)) → (∀ (A'' : Nat → Int → Int) (s'' : Int → Int) (u5 u6 : Option eV), sN A' A'' → rn (A'' 0) s'' → s'' (2332 + 36 * (e : Int) + 6 * i + j) = fT n (uPw n H e) Mi i j → (∀ p, p ≠ 2073 → p ≠ 2075 → ¬ (2260 ≤ p ∧ p < 2296) → p ≠ 2332 + 36 * (e : Int) + 6 * i + j → s'' p = s' p) → K 160 [some eRR, some (eI n), some (eI e), some (eI i), some (eI j), u5, u6] [] (cR F A'')) → K 80 [some eRR, some (eI n), some (eI e), some (eI i), some (eI j), u5, u6] [] (cR F A') := by
    intro e i j A' s' u5 u6 he hi hj hr' qP qM' hf
    have tb1 : mB n (mM n (uPw n H e) (Mi i)) (6 * (W0 * M0)) := mM_b hn w0 m0 (bU e he) (bM i hi)
    have tb2 : mB n (mM n (mM n (uPw n H e) (Mi i)) (Mi j)) (6 * (6 * (W0 * M0) * M0)) := mM_b hn (by omega) m0 tb1 (bM j hj)
    have sum : ∀ (d k : Nat) (A1 : Nat → Int → Int) (s1 : Int → Int), k + d = n → sN A' A1 → rn (A1 0) s1 → mQ n (tb s1 2260) (mM n (mM n (uPw n H e) (Mi i)) (Mi j)) → s1 (2332 + 36 * (e : Int) + 6 * i + j) = dS (fun k => mM n (mM n (uPw n H e) (Mi i)) (Mi j) k k) k → (∀ p, p ≠ 2073 → p ≠ 2075 → ¬ (2260 ≤ p ∧ p < 2296) → p ≠ 2332 + 36 * (e : Int) + 6 * i + j → s1 p = s' p) → K 130 [some eRR, some (eI n), some (eI e), some (eI i), some (eI j), some (eI (2332 + 36 * (e : Int) + 6 * i + j)), some (eI k)] [] (cR F A1) := by
      intro d
      induction d with
      | zero =>
        intro k A1 s1 hk hA1 hr1 qR v ho
        have e2 : k = n := by omega
        subst e2
        refine x_iload hK kX10_forms_130 (q := 132) rfl rfl ?_
        refine x_iload_n hK kX10_forms_132 (q := 133) rfl rfl ?_
        refine x_icmp_ge hK kX10_forms_133 (q := 136) rfl (tg := 160) rfl (by refine ⟨?_, ?_⟩ <;> omega) (fun c133 => ?_) (fun c133 => ?_)
        · exact hf A1 s1 _ _ hA1 hr1 v ho
        · exfalso; omega
      | succ d ih =>
        intro k A1 s1 hk hA1 hr1 qR v ho
        have wk : w32 (k : Int) := by constructor <;> omega
        have hkn : k < n := by omega
        have v1 : s1 (2260 + 6 * (k : Int) + (k : Int)) = mM n (mM n (uPw n H e) (Mi i)) (Mi j) k k := qR k k hkn hkn
        have t1 := tb2 k k hkn hkn
        have t2 := dS_b (f := fun k => mM n (mM n (uPw n H e) (Mi i)) (Mi j) k k) (W := 6 * (6 * (W0 * M0) * M0)) (n := k) (fun l hl => tb2 l l (by omega) (by omega))
        have t3 : (k : Int) * (6 * (6 * (W0 * M0) * M0)) ≤ 5 * (6 * (6 * (W0 * M0) * M0)) := Int.mul_le_mul_of_nonneg_right (by omega) (by omega)
        refine x_iload hK kX10_forms_130 (q := 132) rfl rfl ?_
        refine x_iload_n hK kX10_forms_132 (q := 133) rfl rfl ?_
        refine x_icmp_ge hK kX10_forms_133 (q := 136) rfl (tg := 160) rfl (by exact ⟨wk, wn⟩) (fun c133 => ?_) (fun c133 => ?_)
        · exfalso; omega
        · refine x_aload_n hK kX10_forms_136 (q := 137) rfl rfl ?_
          refine x_iload hK kX10_forms_137 (q := 139) rfl rfl ?_
          refine x_aload_n hK kX10_forms_139 (q := 140) rfl rfl ?_
          refine x_sipush hK kX10_forms_140 (q := 143) rfl (by decide) ?_
          refine x_iload hK kX10_forms_143 (q := 145) rfl rfl ?_
          refine x_iload hK kX10_forms_145 (q := 147) rfl rfl ?_
          refine x_cv4 hK kX10_forms_147 (q := 150) rfl (vtX10_forms_245) (Nat.le_of_ble_eq_true rfl) ?_
          refine SX10_entry_i ?_
          refine x_iconst hK kX10_forms_150 (q := 151) rfl ?_
          refine x_cv4 hK kX10_forms_151 (q := 154) rfl (vtX10_forms_164) (Nat.le_of_ble_eq_true rfl) ?_
          refine SX10_join_n hr1 (by omega) (by omega) (by omega) (Or.inl rfl) (by rw [v, v1]; constructor <;> omega) (fun A2 k2 r2 => ?_)
          rw [v, v1, Int.one_mul] at r2
          refine x_iinc hK kX10_forms_154 (q := 157) rfl rfl ?_
          simp only [lS, lS2, clr_0, clr_I, clr_L, clr_R]
          refine x_goto hK kX10_forms_157 (tg := 130) rfl ?_
          rw [show (k : Int) + 1 = ((k + 1 : Nat) : Int) by omega]
          refine ih (k + 1) A2 _ (by omega) (sN_tr hA1 k2) r2 (fun i' j' i0 j0 => (uI_n _ _ (by omega)).trans (qR i' j' i0 j0)) (uI_s _ _ _) (fun p p0 p1 p2 p3 => ?_)
          rw [uI_n _ _ p3]
          exact ho p p0 p1 p2 p3
    refine x_aload_n hK kX10_forms_80 (q := 81) rfl rfl ?_
    refine x_sipush hK kX10_forms_81 (q := 84) rfl (by decide) ?_
    refine x_sipush hK kX10_forms_84 (q := 87) rfl (by decide) ?_
    refine x_sipush hK kX10_forms_87 (q := 90) rfl (by decide) ?_
    refine x_bipush hK kX10_forms_90 (q := 92) rfl (by decide) ?_
    refine x_iload hK kX10_forms_92 (q := 94) rfl rfl ?_
    refine x_imul hK kX10_forms_94 (q := 95) rfl ?_
    refine x_iadd hK kX10_forms_95 (q := 96) rfl ?_
    refine x_cv4 hK kX10_forms_96 (q := 99) rfl (vtX10_forms_252) (Nat.le_of_ble_eq_true rfl) ?_
    refine SX10_product_i (6 * (W0 * M0)) M0 hr' hF hn (by decide) (by decide) (by omega) (by decide) (by omega) (by omega) m0 (mB_q qP tb1) (mB_q (qM' j hj) (bM j hj)) (by omega) (fun A1 s1 k1 r1' q1 o1 => ?_)
    refine x_aload_n hK kX10_forms_99 (q := 100) rfl rfl ?_
    refine x_sipush hK kX10_forms_100 (q := 103) rfl (by decide) ?_
    refine x_bipush hK kX10_forms_103 (q := 105) rfl (by decide) ?_
    refine x_iload_n hK kX10_forms_105 (q := 106) rfl rfl ?_
    refine x_imul hK kX10_forms_106 (q := 107) rfl ?_
    refine x_iadd hK kX10_forms_107 (q := 108) rfl ?_
    refine x_iload_n hK kX10_forms_108 (q := 109) rfl rfl ?_
    refine x_iload hK kX10_forms_109 (q := 111) rfl rfl ?_
    refine x_cv4 hK kX10_forms_111 (q := 114) rfl (vtX10_forms_245) (Nat.le_of_ble_eq_true rfl) ?_
    refine SX10_entry_i ?_
    refine x_istore hK kX10_forms_114 (q := 116) rfl ?_
    refine x_aload_n hK kX10_forms_116 (q := 117) rfl rfl ?_
    refine x_getfield hK kX10_forms_117 (q := 120) rfl (gX10_12 ?_)
    refine x_iload hK kX10_forms_120 (q := 122) rfl rfl ?_
    simp only [lS, lS2, clr_0, clr_I, clr_L, clr_R]
    refine x_cs1 hK kX10_forms_122 (q := 125) rfl (stX10_forms_64) (Nat.le_of_ble_eq_true rfl) ?_
    refine SX10_at_i ?_
    refine x_iconst hK kX10_forms_125 (q := 126) rfl ?_
    refine x_iastore hK kX10_forms_126 (q := 127) rfl (yX10_A0 (by refine ⟨?_, ?_⟩ <;> omega) ?_)
    refine x_iconst hK kX10_forms_127 (q := 128) rfl ?_
    refine x_istore hK kX10_forms_128 (q := 130) rfl ?_
    simp only [lS, lS2, clr_0, clr_I, clr_L, clr_R]
    refine sum n 0 _ (uI s1 (2332 + 36 * (e : Int) + 6 * i + j) 0) (by omega) (sN_tr k1 (sN_u (by decide) _)) (rn_nil r1') (fun i' j' i0 j0 => ?_) (uI_s _ _ _) (fun p p0 p1 p2 p3 => ?_)
    · exact (uI_n _ _ (by omega)).trans ((q1 i' j' i0 j0).trans (mM_q qP (qM' j hj) i' j' i0 j0))
    · rw [uI_n _ _ p3]
      exact o1 p p0 p1 (fun g => by unfold iT at g; omega)
  have cols : ∀ (d e i j : Nat) (A' : Nat → Int → Int) (s' : Int → Int) (u5 u6 : Option eV), j + d = n → e < 3 → i < n → rn (A' 0) s' → mQ n (tb s' 2188) (mM n (uPw n H e) (Mi i)) → (∀ l : Nat, l < n → mQ n (tb s' (2440 + 36 * l)) (Mi l)) → (∀ j' : Nat, j' < j → s' (2332 + 36 * (e : Int) + 6 * i + j') = fT n (uPw n H e) Mi i j') → (∀ (A'' : Nat → Int → Int) (s'' : Int → Int) (u4 u5 u6 : Option eV), sN A' A'' → rn (A'' 0) s'' → (∀ j' : Nat, j' < n → s'' (2332 + 36 * (e : Int) + 6 * i + j') = fT n (uPw n H e) Mi i j') → (∀ p, p ≠ 2073 → p ≠ 2075 → ¬ (2260 ≤ p ∧ p < 2296) → (∀ j' : Nat, j' < n → p ≠ 2332 + 36 * (e : Int) + 6 * i + j') → s'' p = s' p) → K 166 [some eRR, some (eI n), some (eI e), some (eI i), u4, u5, u6] [] (cR F A'')) → K 74 [some eRR, some (eI n), some (eI e), some (eI i), some (eI j), u5, u6] [] (cR F A') := by
    intro d
    induction d with
    | zero =>
      intro e i j A' s' u5 u6 hj he hi hr' qP qM' hv hf
      have e2 : j = n := by omega
      subst e2
      refine x_iload hK kX10_forms_74 (q := 76) rfl rfl ?_
      refine x_iload_n hK kX10_forms_76 (q := 77) rfl rfl ?_
      refine x_icmp_ge hK kX10_forms_77 (q := 80) rfl (tg := 166) rfl (by refine ⟨?_, ?_⟩ <;> omega) (fun c77 => ?_) (fun c77 => ?_)
      · exact hf A' s' _ _ _ (sN_rf A') hr' hv (fun p _ _ _ _ => rfl)
      · exfalso; omega
    | succ d ih =>
      intro e i j A' s' u5 u6 hj he hi hr' qP qM' hv hf
      have wj : w32 (j : Int) := by constructor <;> omega
      refine x_iload hK kX10_forms_74 (q := 76) rfl rfl ?_
      refine x_iload_n hK kX10_forms_76 (q := 77) rfl rfl ?_
      refine x_icmp_ge hK kX10_forms_77 (q := 80) rfl (tg := 166) rfl (by exact ⟨wj, wn⟩) (fun c77 => ?_) (fun c77 => ?_)
      · exfalso; omega
      · refine ent e i j A' s' _ _ he hi (by omega) hr' qP qM' (fun A1 s1 u5 u6 k1 r1' v1 o1 => ?_)
        refine x_iinc hK kX10_forms_160 (q := 163) rfl rfl ?_
        simp only [lS, lS2, clr_0, clr_I, clr_L, clr_R]
        refine x_goto hK kX10_forms_163 (tg := 74) rfl ?_
        rw [show (j : Int) + 1 = ((j + 1 : Nat) : Int) by omega]
        refine ih e i (j + 1) A1 s1 _ _ (by omega) he hi r1' (fun i' j' i0 j0 => (o1 _ (by omega) (by omega) (by omega) (by omega)).trans (qP i' j' i0 j0)) (fun l hl i' j' i0 j0 => (o1 _ (by omega) (by omega) (by omega) (by omega)).trans (qM' l hl i' j' i0 j0)) (fun j' hj' => ?_) (fun A2 s2 u4 u5 u6 k2 r2' v2 o2 => ?_)
        · rcases Nat.lt_or_ge j' j with g | g
          · rw [o1 _ (by omega) (by omega) (by omega) (by omega)]; exact hv j' g
          · rw [show j' = j by omega]; exact v1
        · exact hf A2 s2 u4 u5 u6 (sN_tr k1 k2) r2' v2 (fun p p0 p1 p2 p3 => by rw [o2 p p0 p1 p2 p3, o1 p p0 p1 p2 (p3 j (by omega))])
  have rows : ∀ (d e i : Nat) (A' : Nat → Int → Int) (s' : Int → Int) (u4 u5 u6 : Option eV), i + d = n → e < 3 → rn (A' 0) s' → mQ n (tb s' 2296) (uPw n H e) → (∀ l : Nat, l < n → mQ n (tb s' (2440 + 36 * l)) (Mi l)) → (∀ i' j' : Nat, i' < i → j' < n → s' (2332 + 36 * (e : Int) + 6 * i' + j') = fT n (uPw n H e) Mi i' j') → (∀ (A'' : Nat → Int → Int) (s'' : Int → Int) (u3 u4 u5 u6 : Option eV), sN A' A'' → rn (A'' 0) s'' → mQ n (tb s'' (2332 + 36 * (e : Int))) (fT n (uPw n H e) Mi) → (∀ p, p ≠ 2073 → p ≠ 2075 → ¬ (2188 ≤ p ∧ p < 2224) → ¬ (2260 ≤ p ∧ p < 2296) → ¬ iT (2332 + 36 * (e : Int)) n p → s'' p = s' p) → K 172 [some eRR, some (eI n), some (eI e), u3, u4, u5, u6] [] (cR F A'')) → K 48 [some eRR, some (eI n), some (eI e), some (eI i), u4, u5, u6] [] (cR F A') := by
    intro d
    induction d with
    | zero =>
      intro e i A' s' u4 u5 u6 hi he hr' qU qM' hv hf
      have e2 : i = n := by omega
      subst e2
      refine x_iload_n hK kX10_forms_48 (q := 49) rfl rfl ?_
      refine x_iload_n hK kX10_forms_49 (q := 50) rfl rfl ?_
      refine x_icmp_ge hK kX10_forms_50 (q := 53) rfl (tg := 172) rfl (by refine ⟨?_, ?_⟩ <;> omega) (fun c50 => ?_) (fun c50 => ?_)
      · exact hf A' s' _ _ _ _ (sN_rf A') hr' (fun i' j' i0 j0 => hv i' j' i0 j0) (fun p _ _ _ _ _ => rfl)
      · exfalso; omega
    | succ d ih =>
      intro e i A' s' u4 u5 u6 hi he hr' qU qM' hv hf
      have wi : w32 (i : Int) := by constructor <;> omega
      have hin : i < n := by omega
      refine x_iload_n hK kX10_forms_48 (q := 49) rfl rfl ?_
      refine x_iload_n hK kX10_forms_49 (q := 50) rfl rfl ?_
      refine x_icmp_ge hK kX10_forms_50 (q := 53) rfl (tg := 172) rfl (by exact ⟨wi, wn⟩) (fun c50 => ?_) (fun c50 => ?_)
      · exfalso; omega
      · refine x_aload_n hK kX10_forms_53 (q := 54) rfl rfl ?_
        refine x_sipush hK kX10_forms_54 (q := 57) rfl (by decide) ?_
        refine x_sipush hK kX10_forms_57 (q := 60) rfl (by decide) ?_
        refine x_sipush hK kX10_forms_60 (q := 63) rfl (by decide) ?_
        refine x_bipush hK kX10_forms_63 (q := 65) rfl (by decide) ?_
        refine x_iload_n hK kX10_forms_65 (q := 66) rfl rfl ?_
        refine x_imul hK kX10_forms_66 (q := 67) rfl ?_
        refine x_iadd hK kX10_forms_67 (q := 68) rfl ?_
        refine x_cv4 hK kX10_forms_68 (q := 71) rfl (vtX10_forms_252) (Nat.le_of_ble_eq_true rfl) ?_
        refine SX10_product_i W0 M0 hr' hF hn (by decide) (by decide) (by omega) (by decide) (by omega) w0 m0 (mB_q qU (bU e he)) (mB_q (qM' i hin) (bM i hin)) (by omega) (fun A1 s1 k1 r1' q1 o1 => ?_)
        refine x_iconst hK kX10_forms_71 (q := 72) rfl ?_
        refine x_istore hK kX10_forms_72 (q := 74) rfl ?_
        simp only [lS, lS2, clr_0, clr_I, clr_L, clr_R]
        have o1' : ∀ p, p ≠ 2073 → p ≠ 2075 → ¬ (2188 ≤ p ∧ p < 2224) → s1 p = s' p := fun p p0 p1 p2 => o1 p p0 p1 (fun g => p2 (by unfold iT at g; omega))
        refine cols n e i 0 A1 s1 _ _ (by omega) he hin r1' (mQ_tr q1 (mM_q qU (qM' i hin))) (fun l hl i' j' i0 j0 => (o1' _ (by omega) (by omega) (by omega)).trans (qM' l hl i' j' i0 j0)) (fun j' hj' => by omega) (fun A2 s2 u4 u5 u6 k2 r2' v2 o2 => ?_)
        refine x_iinc hK kX10_forms_166 (q := 169) rfl rfl ?_
        simp only [lS, lS2, clr_0, clr_I, clr_L, clr_R]
        refine x_goto hK kX10_forms_169 (tg := 48) rfl ?_
        rw [show (i : Int) + 1 = ((i + 1 : Nat) : Int) by omega]
        have o3 : ∀ p, p ≠ 2073 → p ≠ 2075 → ¬ (2188 ≤ p ∧ p < 2224) → ¬ (2260 ≤ p ∧ p < 2296) → (∀ j' : Nat, j' < n → p ≠ 2332 + 36 * (e : Int) + 6 * i + j') → s2 p = s' p := fun p p0 p1 p2 p3 p4 => by rw [o2 p p0 p1 p3 p4, o1' p p0 p1 p2]
        refine ih e (i + 1) A2 s2 _ _ _ (by omega) he r2' (fun i' j' i0 j0 => (o3 _ (by omega) (by omega) (by omega) (by omega) (fun j2 hj2 => by omega)).trans (qU i' j' i0 j0)) (fun l hl i' j' i0 j0 => (o3 _ (by omega) (by omega) (by omega) (by omega) (fun j2 hj2 => by omega)).trans (qM' l hl i' j' i0 j0)) (fun i' j' hi' hj' => ?_) (fun A3 s3 u3 u4 u5 u6 k3 r3' v3 o4 => ?_)
        · rcases Nat.lt_or_ge i' i with g | g
          · rw [o3 _ (by omega) (by omega) (by omega) (by omega) (fun j2 hj2 => by omega)]; exact hv i' j' g hj'
          · rw [show i' = i by omega]; exact v2 j' hj'
        · refine hf A3 s3 u3 u4 u5 u6 (sN_tr k1 (sN_tr k2 k3)) r3' v3 (fun p p0 p1 p2 p3 p4 => ?_)
          rw [o4 p p0 p1 p2 p3 p4]
          exact o3 p p0 p1 p2 p3 (fun j' hj' g => p4 (g ▸ iT_in hn hin hj'))
  have loop : ∀ (d e : Nat) (A' : Nat → Int → Int) (s' : Int → Int) (u3 u4 u5 u6 : Option eV), e + d = 3 → sS A A' → rn (A' 0) s' → mQ n (tb s' 2296) (uPw n H (e - 1)) → (∀ p, fKp p → s' p = s p) → (∀ e' : Nat, e' < e → mQ n (tb s' (2332 + 36 * e')) (fT n (uPw n H e') Mi)) → (∀ e' : Nat, e' < e → A' 20 e' = sqR n (fT n (uPw n H e') Mi) ∧ A' 21 e' = sqS n (fT n (uPw n H e') Mi)) → K 14 [some eRR, some (eI n), some (eI e), u3, u4, u5, u6] [] (cR F A') := by
    intro d
    induction d with
    | zero =>
      intro e A' s' u3 u4 u5 u6 he hA hr' qU ho qF hs
      have e2 : e = 3 := by omega
      subst e2
      refine x_iload_n hK kX10_forms_14 (q := 15) rfl rfl ?_
      refine x_iconst hK kX10_forms_15 (q := 16) rfl ?_
      refine x_icmp_ge hK kX10_forms_16 (q := 19) rfl (tg := 183) rfl (by refine ⟨?_, ?_⟩ <;> omega) (fun c16 => ?_) (fun c16 => ?_)
      · refine x_return_ hK kX10_forms_183 (by first | trivial | exact Or.inl rfl | exact Or.inr rfl) ?_
        exact h A' s' hA hs hr' qF ho
      · exfalso; omega
    | succ d ih =>
      intro e A' s' u3 u4 u5 u6 he hA hr' qU ho qF hs
      have he3 : e < 3 := by omega
      have mid : ∀ (A1 : Nat → Int → Int) (s1 : Int → Int), sS A A1 → (∀ k, k = 20 ∨ k = 21 → A1 k = A' k) → rn (A1 0) s1 → mQ n (tb s1 2296) (uPw n H e) → (∀ p, fKp p → s1 p = s p) → (∀ e' : Nat, e' < e → mQ n (tb s1 (2332 + 36 * e')) (fT n (uPw n H e') Mi)) → K 46 [some eRR, some (eI n), some (eI e), u3, u4, u5, u6] [] (cR F A1) := by
        intro A1 s1 hA1 h20 hr1 qU1 ho1 qF1
        obtain ⟨V, W, hsq⟩ := sq e he3
        have sqr : ∀ (A2 : Nat → Int → Int) (s2 : Int → Int) (u3 u4 u5 u6 : Option eV), sN A1 A2 → rn (A2 0) s2 → mQ n (tb s2 (2332 + 36 * (e : Int))) (fT n (uPw n H e) Mi) → (∀ p, p ≠ 2073 → p ≠ 2075 → ¬ (2188 ≤ p ∧ p < 2224) → ¬ (2260 ≤ p ∧ p < 2296) → ¬ iT (2332 + 36 * (e : Int)) n p → s2 p = s1 p) → K 172 [some eRR, some (eI n), some (eI e), u3, u4, u5, u6] [] (cR F A2) := by
          intro A2 s2 u3 u4 u5 u6 k2 r2' v2 o2
          refine x_aload_n hK kX10_forms_172 (q := 173) rfl rfl ?_
          refine x_iload_n hK kX10_forms_173 (q := 174) rfl rfl ?_
          refine x_cv2 hK kX10_forms_174 (q := 177) rfl (vtX10_forms_258) (Nat.le_of_ble_eq_true rfl) ?_
          refine SX10_squares_i V W r2' hF hn he3 (sqM_c v2 hsq) (fun A3 s3 k3 v20 v21 r3' o3 => ?_)
          rw [sqR_c v2] at v20
          rw [sqS_c v2] at v21
          refine x_iinc hK kX10_forms_177 (q := 180) rfl rfl ?_
          simp only [lS, lS2, clr_0, clr_I, clr_L, clr_R]
          refine x_goto hK kX10_forms_180 (tg := 14) rfl ?_
          rw [show (e : Int) + 1 = ((e + 1 : Nat) : Int) by omega]
          have o4 : ∀ p, p ≠ 2073 → p ≠ 2074 → p ≠ 2075 → ¬ (2188 ≤ p ∧ p < 2224) → ¬ (2260 ≤ p ∧ p < 2296) → ¬ (2656 ≤ p ∧ p < 2666) → ¬ iT (2332 + 36 * (e : Int)) n p → s3 p = s1 p := fun p p0 p1 p2 p3 p4 p5 p6 => by rw [o3 p p0 p1 p2 p3 p4 p5, o2 p p0 p2 p3 p4 p6]
          refine ih (e + 1) A3 s3 _ _ _ _ (by omega) (sS_tr hA1 (sS_tr (sS_n k2) k3)) r3' (fun i' j' i0 j0 => (o4 _ (by omega) (by omega) (by omega) (by omega) (by omega) (by omega) (fun g => by unfold iT at g; omega)).trans (qU1 i' j' i0 j0)) (fun p p0 => ?_) (fun e' he' i' j' i0 j0 => ?_) (fun e' he' => ?_)
          · rw [o4 p (by unfold fKp at p0; omega) (by unfold fKp at p0; omega) (by unfold fKp at p0; omega) (by unfold fKp at p0; omega) (by unfold fKp at p0; omega) (by unfold fKp at p0; omega) (fun g => by unfold fKp at p0; unfold iT at g; omega)]
            exact ho1 p p0
          · rcases Nat.lt_or_ge e' e with g | g
            · exact (o4 _ (by omega) (by omega) (by omega) (by omega) (by omega) (by omega) (fun g => by unfold iT at g; omega)).trans (qF1 e' g i' j' i0 j0)
            · have e5 : e' = e := by omega
              subst e5
              exact (o3 _ (by omega) (by omega) (by omega) (by omega) (by omega) (by omega)).trans (v2 i' j' i0 j0)
          · rw [v20, v21, k2 20 (by decide), k2 21 (by decide), h20 20 (Or.inl rfl), h20 21 (Or.inr rfl)]
            rcases Nat.lt_or_ge e' e with g | g
            · rw [uI_n _ _ (by omega), uI_n _ _ (by omega)]
              exact hs e' g
            · have e5 : e' = e := by omega
              subst e5
              rw [uI_s, uI_s]
              exact ⟨rfl, rfl⟩
        refine x_iconst hK kX10_forms_46 (q := 47) rfl ?_
        refine x_istore_n hK kX10_forms_47 (q := 48) (jn := 3) rfl rfl ?_
        simp only [lS, lS2, clr_0, clr_I, clr_L, clr_R]
        refine rows n e 0 A1 s1 _ _ _ (by omega) he3 hr1 qU1 (fun l hl i' j' i0 j0 => (ho1 _ (Or.inr (Or.inr (Or.inr (by omega))))).trans (qM l hl i' j' i0 j0)) (fun i' j' i0 j0 => by omega) sqr
      refine x_iload_n hK kX10_forms_14 (q := 15) rfl rfl ?_
      refine x_iconst hK kX10_forms_15 (q := 16) rfl ?_
      refine x_icmp_ge hK kX10_forms_16 (q := 19) rfl (tg := 183) rfl (by refine ⟨?_, ?_⟩ <;> omega) (fun c16 => ?_) (fun c16 => ?_)
      · exfalso; omega
      · refine x_iload_n hK kX10_forms_19 (q := 20) rfl rfl ?_
        refine x_if_le hK kX10_forms_20 (q := 23) rfl (tg := 46) rfl (by omega) (fun c20 => ?_) (fun c20 => ?_)
        · have e0 : e = 0 := by omega
          subst e0
          exact mid A' s' hA (fun _ _ => rfl) hr' qU ho qF
        · refine x_aload_n hK kX10_forms_23 (q := 24) rfl rfl ?_
          refine x_sipush hK kX10_forms_24 (q := 27) rfl (by decide) ?_
          refine x_sipush hK kX10_forms_27 (q := 30) rfl (by decide) ?_
          refine x_sipush hK kX10_forms_30 (q := 33) rfl (by decide) ?_
          refine x_cv4 hK kX10_forms_33 (q := 36) rfl (vtX10_forms_252) (Nat.le_of_ble_eq_true rfl) ?_
          have qH1 : mQ n (tb s' 2152) H := fun i' j' i0 j0 => (ho _ (Or.inr (Or.inr (Or.inl (by omega))))).trans (qH i' j' i0 j0)
          refine SX10_product_i H0 W0 hr' hF hn (by decide) (by decide) (by decide) (by decide) (by decide) h0 w0 (mB_q qH1 bH) (mB_q qU (bU (e - 1) (by omega))) r1 (fun A1 s1 k1 r1' q1 o1 => ?_)
          refine x_aload_n hK kX10_forms_36 (q := 37) rfl rfl ?_
          refine x_sipush hK kX10_forms_37 (q := 40) rfl (by decide) ?_
          refine x_sipush hK kX10_forms_40 (q := 43) rfl (by decide) ?_
          refine x_cv3 hK kX10_forms_43 (q := 46) rfl (vtX10_forms_255) (Nat.le_of_ble_eq_true rfl) ?_
          refine SX10_copyTable_i r1' hF hn (by decide) (by decide) (by decide) (fun A2 s2 k2 r2' q2 o2 => ?_)
          have o3 : ∀ p, p ≠ 2073 → p ≠ 2075 → ¬ (2260 ≤ p ∧ p < 2332) → s2 p = s' p := fun p p0 p1 p2 => by
            rw [o2 p (fun g => by unfold iT at g; omega), o1 p p0 p1 (fun g => by unfold iT at g; omega)]
          refine mid A2 s2 (sS_tr hA (sS_n (sN_tr k1 k2))) (fun k hk => by rw [k2 k (by omega), k1 k (by omega)]) r2' ?_ (fun p p0 => by unfold fKp at p0; rw [o3 p (by omega) (by omega) (by omega)]; exact ho p p0) (fun e' he' i' j' i0 j0 => (o3 _ (by omega) (by omega) (by omega)).trans (qF e' he' i' j' i0 j0))
          have e4 : uPw n H e = mM n H (uPw n H (e - 1)) := by
            obtain ⟨m, rfl⟩ : ∃ m, e = m + 1 := ⟨e - 1, by omega⟩
            rfl
          rw [e4]
          exact mQ_tr q2 (mQ_tr q1 (mM_q qH1 qU))
  simp only [eLoc, eE, List.length_cons, List.length_nil, List.replicate, List.cons_append, List.nil_append, Nat.reduceAdd, Nat.reduceSub]
  refine x_aload_n hK kX10_forms_0 (q := 1) rfl rfl ?_
  refine x_getfield hK kX10_forms_1 (q := 4) rfl (gX10_223 ?_)
  rw [hF]
  refine x_istore_n hK kX10_forms_4 (q := 5) (jn := 1) rfl rfl ?_
  refine x_aload_n hK kX10_forms_5 (q := 6) rfl rfl ?_
  refine x_sipush hK kX10_forms_6 (q := 9) rfl (by decide) ?_
  simp only [lS, lS2, clr_0, clr_I, clr_L, clr_R]
  refine x_cv2 hK kX10_forms_9 (q := 12) rfl (vtX10_forms_249) (Nat.le_of_ble_eq_true rfl) ?_
  refine SX10_unit_i hr (by decide) (fun A1 k1 r1' => ?_)
  refine x_iconst hK kX10_forms_12 (q := 13) rfl ?_
  refine x_istore_n hK kX10_forms_13 (q := 14) (jn := 2) rfl rfl ?_
  simp only [lS, lS2, clr_0, clr_I, clr_L, clr_R]
  refine loop 3 0 A1 _ _ _ _ _ (by omega) (sS_n k1) r1' (mQ_le (uTf_q _ _) hn) (fun p p0 => by unfold fKp at p0; exact uTf_o _ _ _ (by omega)) (fun e' he' => by omega) (fun e' he' => by omega)
set_option maxRecDepth 20000 in
theorem mX10_forms : eMet yX10_forms cX10_forms 7 none 6 157 SX10_forms := eMet_of (by decide +kernel) sX10_forms kX10_forms_ok caX10_forms tb_RX10
theorem wX10_forms : eWV yX10_forms cX10_forms 7 none 1 9 SX10_forms := ⟨(gW_at 1240 (by decide +kernel) rfl), (gW_at 89 (by decide +kernel) rfl), (gW_at 1239 (by decide +kernel) rfl), ⟨_, rfl, (gW_at 69 (by decide +kernel) rfl)⟩, by decide +kernel, SX10_forms_r⟩
