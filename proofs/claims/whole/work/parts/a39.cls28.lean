/-! The algebra: multiplyByQuery. -/
theorem tm_b {V : Nat → Int} {n g m k : Nat} {v : Nat → Int} (n4 : n ≤ 4) (hm : ∀ i j, i < n → j < n → zAbs (V (gb g + (4 * i + j))) ≤ 2 ^ m) (hv : ∀ i, i < n → zAbs (v i) ≤ 2 ^ k) (i : Nat) (hi : i < n) : zAbs (tmF V g n v i) ≤ 2 ^ (m + k + 2) := by
  unfold tmF
  rw [if_pos hi]
  exact dS_le n4 (fun x hx => two_le (hm i x hi hx) (hv x hx))
theorem cy_b {V : Nat → Int} {n m q j : Nat} (n4 : n ≤ 4) (hb : xyB V n m) (hq : q < 6) (i : Nat) (hi : i < n) : zAbs (cyF V n q j i) ≤ 2 ^ (2 * m + 4) := by
  have z0 : zAbs 0 = 0 := rfl
  have z1 : zAbs 1 = 1 := rfl
  have gg : (cyG q).1 < 2 ∧ (cyG q).2 < 2 := by
    have : ∀ q : Fin 6, (cyG q.val).1 < 2 ∧ (cyG q.val).2 < 2 := by decide +kernel
    exact this ⟨q, hq⟩
  have p := p2_pos m
  unfold cyF
  split
  · rename_i q0
    unfold cy0
    split
    · first | exact Int.le_trans hb.2.2.1 (p2_m (by omega)) | (rw [if_pos q0]; exact Int.le_trans hb.2.2.1 (p2_m (by omega)))
    · rw [z0]
      have := p2_pos (2 * m + 4)
      omega
  · rename_i q0
    split
    · rename_i q3
      have := tm_b (v := cy0 V q j) (k := m) n4 (hb.1 _ gg.1) (fun x _ => by
        unfold cy0
        split
        · first | exact hb.2.1 | (rw [if_neg q0, if_pos q3]; exact hb.2.1)
        · rw [z0]; omega) i hi
      exact Int.le_trans this (p2_m (by omega))
    · rename_i q3
      have a1 := tm_b (v := cy0 V q j) (k := 0) n4 (hb.1 _ gg.1) (fun x _ => by
        unfold cy0
        split
        · first | decide | (rw [if_neg q0, if_neg q3]; decide)
        · decide)
      have := tm_b (k := m + 0 + 2) n4 (hb.1 _ gg.2) a1 i hi
      exact Int.le_trans this (p2_m (by omega))
def qSf (V : Nat → Int) (f : Nat → Int) (n i j pl : Nat) : Int := dS (fun p => cyF V n p j i * f p) pl
def mqP (V : Nat → Int) (f : Nat → Int) (n pl j i c : Nat) : Int := if c / 4 < n ∧ c % 4 < n then qSf V f n (c / 4) (c % 4) (if c % 4 < j ∨ (c % 4 = j ∧ c / 4 < i) then pl + 1 else pl) else 0
def mqX (V : Nat → Int) (f : Nat → Int) (n pl j i : Nat) : Nat → Int := vU (vG8 V (gb 2) 16 (mqP V f n pl j i)) (gb 2 + 16) (V 329)
def mqV (V : Nat → Int) (f : Nat → Int) (n : Nat) : Nat → Int := mqX V f n 6 0 0
theorem mqX_o {V : Nat → Int} {f : Nat → Int} {n pl j i t : Nat} (h : t < 175 ∨ 192 ≤ t) : mqX V f n pl j i t = V t := by
  have : gb 2 = 175 := rfl
  unfold mqX
  rw [vU_n _ _ (by omega), vG8_o _ _ (by omega)]
theorem mqX_e {V : Nat → Int} {f : Nat → Int} {n pl j i pl' j' i' : Nat} (h : ∀ c, c < 16 → mqP V f n pl j i c = mqP V f n pl' j' i' c) (t : Nat) : mqX V f n pl j i t = mqX V f n pl' j' i' t := by
  unfold mqX vU vG8
  split
  · rfl
  · split
    · exact h _ (by omega)
    · rfl
def SX0_multiplyByQuery : eSp := fun as M rt => ∃ (F : Nat → Int) (A W : Nat → Int → Int) (p : Nat) (V w u : Nat → Int) (n m : Nat), as = [eR (1, 4), eR (1, p)] ∧ M = cC F A W ∧ (p < 2) ∧ (aR W (wu2 V w u)) ∧ (F 5 = n) ∧ (n ≤ 4) ∧ (xyB V n m) ∧ (2 * m + 12 ≤ 930) ∧ (∀ i : Int, 24 ≤ i → i < 30 → -5 ≤ A p i ∧ A p i ≤ 5) ∧ (∀ (w u : Nat → Int) (W' : Nat → Int → Int), aR W' (wu2 (mqV V (fun c => A p (24 + (c : Int))) n) w u) → rt none (cC F A W'))
theorem SX0_multiplyByQuery_i {F : Nat → Int} {A W : Nat → Int → Int} {p : Nat} {V w u : Nat → Int} {n m : Nat} {rt : Option eV → eM → Prop} (hp : p < 2) (hV : aR W (wu2 V w u)) (hn : F 5 = n) (n4 : n ≤ 4) (hb : xyB V n m) (hm : 2 * m + 12 ≤ 930) (hA : ∀ i : Int, 24 ≤ i → i < 30 → -5 ≤ A p i ∧ A p i ≤ 5) (h : ∀ (w u : Nat → Int) (W' : Nat → Int → Int), aR W' (wu2 (mqV V (fun c => A p (24 + (c : Int))) n) w u) → rt none (cC F A W')) : SX0_multiplyByQuery [eR (1, 4), eR (1, p)] (cC F A W) rt := ⟨F, A, W, p, V, w, u, n, m, rfl, rfl, hp, hV, hn, n4, hb, hm, hA, h⟩
theorem SX0_multiplyByQuery_r : ∀ as M rt, SX0_multiplyByQuery as M rt → ∃ a r fs, as = eR a :: r ∧ M a = some (.inl (0, fs)) := by
  rintro as M rt ⟨F, A, W, p, V, w, u, n, m, rfl, rfl, -⟩
  exact ⟨_, _, _, rfl, rfl⟩
def kX0_multiplyByQuery : List (Nat × Jvm.ClassFile.Instr × Nat) := [(0, .aload_n 0, 1), (1, .getfield 21, 3), (4, .iconst 2, 1), (5, .aaload, 1), (6, .astore_n 2, 1), (7, .aload_n 2, 1), (8, .invokevirtual 150, 3), (11, .aload_n 2, 1), (12, .getfield 153, 3), (15, .aload_n 0, 1), (16, .getfield 54, 3), (19, .invokevirtual 156, 3), (22, .iconst 0, 1), (23, .istore_n 3, 1), (24, .iload_n 3, 1), (25, .bipush 6, 2), (27, .if_icmp .ge 121, 3), (30, .aload_n 1, 1), (31, .iconst 4, 1), (32, .iload_n 3, 1), (33, .invokevirtual 199, 3), (36, .istore 4, 2), (38, .iconst 0, 1), (39, .istore 5, 2), (41, .iload 5, 2), (43, .aload_n 0, 1), (44, .getfield 17, 3), (47, .if_icmp .ge 95, 3), (50, .iload 4, 2), (52, .ifCond .eq 90, 3), (55, .aload_n 0, 1), (56, .iload_n 3, 1), (57, .iload 5, 2), (59, .invokevirtual 193, 3), (62, .aload_n 0, 1), (63, .getfield 40, 3), (66, .getfield 177, 3), (69, .iconst 0, 1), (70, .aaload, 1), (71, .iload 4, 2), (73, .i2l, 1), (74, .invokevirtual 129, 3), (77, .iconst 0, 1), (78, .istore 6, 2), (80, .iload 6, 2), (82, .aload_n 0, 1), (83, .getfield 17, 3), (86, .if_icmp .ge 50, 3), (89, .iload 6, 2), (91, .iconst 4, 1), (92, .if_icmp .ge 44, 3), (95, .aload_n 0, 1), (96, .getfield 63, 3), (99, .aload_n 2, 1), (100, .iload 6, 2), (102, .iload 5, 2), (104, .invokevirtual 160, 3), (107, .aload_n 0, 1), (108, .getfield 44, 3), (111, .getfield 177, 3), (114, .iload 6, 2), (116, .aaload, 1), (117, .aload_n 0, 1), (118, .getfield 40, 3), (121, .getfield 177, 3), (124, .iconst 0, 1), (125, .aaload, 1), (126, .iconst 1, 1), (127, .invokevirtual 189, 3), (130, .iinc 6 1, 3), (133, .goto (-53), 3), (136, .iinc 5 1, 3), (139, .goto (-98), 3), (142, .iinc 3 1, 3), (145, .goto (-121), 3), (148, .return_, 1)]
theorem kX0_multiplyByQuery_0 : cdOf kX0_multiplyByQuery 0 = some (.aload_n 0, 1) := by decide +kernel
theorem kX0_multiplyByQuery_1 : cdOf kX0_multiplyByQuery 1 = some (.getfield 21, 3) := by decide +kernel
theorem kX0_multiplyByQuery_4 : cdOf kX0_multiplyByQuery 4 = some (.iconst 2, 1) := by decide +kernel
theorem kX0_multiplyByQuery_5 : cdOf kX0_multiplyByQuery 5 = some (.aaload, 1) := by decide +kernel
theorem kX0_multiplyByQuery_6 : cdOf kX0_multiplyByQuery 6 = some (.astore_n 2, 1) := by decide +kernel
theorem kX0_multiplyByQuery_7 : cdOf kX0_multiplyByQuery 7 = some (.aload_n 2, 1) := by decide +kernel
theorem kX0_multiplyByQuery_8 : cdOf kX0_multiplyByQuery 8 = some (.invokevirtual 150, 3) := by decide +kernel
theorem kX0_multiplyByQuery_11 : cdOf kX0_multiplyByQuery 11 = some (.aload_n 2, 1) := by decide +kernel
theorem kX0_multiplyByQuery_12 : cdOf kX0_multiplyByQuery 12 = some (.getfield 153, 3) := by decide +kernel
theorem kX0_multiplyByQuery_15 : cdOf kX0_multiplyByQuery 15 = some (.aload_n 0, 1) := by decide +kernel
theorem kX0_multiplyByQuery_16 : cdOf kX0_multiplyByQuery 16 = some (.getfield 54, 3) := by decide +kernel
theorem kX0_multiplyByQuery_19 : cdOf kX0_multiplyByQuery 19 = some (.invokevirtual 156, 3) := by decide +kernel
theorem kX0_multiplyByQuery_22 : cdOf kX0_multiplyByQuery 22 = some (.iconst 0, 1) := by decide +kernel
theorem kX0_multiplyByQuery_23 : cdOf kX0_multiplyByQuery 23 = some (.istore_n 3, 1) := by decide +kernel
theorem kX0_multiplyByQuery_24 : cdOf kX0_multiplyByQuery 24 = some (.iload_n 3, 1) := by decide +kernel
theorem kX0_multiplyByQuery_25 : cdOf kX0_multiplyByQuery 25 = some (.bipush 6, 2) := by decide +kernel
theorem kX0_multiplyByQuery_27 : cdOf kX0_multiplyByQuery 27 = some (.if_icmp .ge 121, 3) := by decide +kernel
theorem kX0_multiplyByQuery_30 : cdOf kX0_multiplyByQuery 30 = some (.aload_n 1, 1) := by decide +kernel
theorem kX0_multiplyByQuery_31 : cdOf kX0_multiplyByQuery 31 = some (.iconst 4, 1) := by decide +kernel
theorem kX0_multiplyByQuery_32 : cdOf kX0_multiplyByQuery 32 = some (.iload_n 3, 1) := by decide +kernel
theorem kX0_multiplyByQuery_33 : cdOf kX0_multiplyByQuery 33 = some (.invokevirtual 199, 3) := by decide +kernel
theorem kX0_multiplyByQuery_36 : cdOf kX0_multiplyByQuery 36 = some (.istore 4, 2) := by decide +kernel
theorem kX0_multiplyByQuery_38 : cdOf kX0_multiplyByQuery 38 = some (.iconst 0, 1) := by decide +kernel
theorem kX0_multiplyByQuery_39 : cdOf kX0_multiplyByQuery 39 = some (.istore 5, 2) := by decide +kernel
theorem kX0_multiplyByQuery_41 : cdOf kX0_multiplyByQuery 41 = some (.iload 5, 2) := by decide +kernel
theorem kX0_multiplyByQuery_43 : cdOf kX0_multiplyByQuery 43 = some (.aload_n 0, 1) := by decide +kernel
theorem kX0_multiplyByQuery_44 : cdOf kX0_multiplyByQuery 44 = some (.getfield 17, 3) := by decide +kernel
theorem kX0_multiplyByQuery_47 : cdOf kX0_multiplyByQuery 47 = some (.if_icmp .ge 95, 3) := by decide +kernel
theorem kX0_multiplyByQuery_50 : cdOf kX0_multiplyByQuery 50 = some (.iload 4, 2) := by decide +kernel
theorem kX0_multiplyByQuery_52 : cdOf kX0_multiplyByQuery 52 = some (.ifCond .eq 90, 3) := by decide +kernel
theorem kX0_multiplyByQuery_55 : cdOf kX0_multiplyByQuery 55 = some (.aload_n 0, 1) := by decide +kernel
theorem kX0_multiplyByQuery_56 : cdOf kX0_multiplyByQuery 56 = some (.iload_n 3, 1) := by decide +kernel
theorem kX0_multiplyByQuery_57 : cdOf kX0_multiplyByQuery 57 = some (.iload 5, 2) := by decide +kernel
theorem kX0_multiplyByQuery_59 : cdOf kX0_multiplyByQuery 59 = some (.invokevirtual 193, 3) := by decide +kernel
theorem kX0_multiplyByQuery_62 : cdOf kX0_multiplyByQuery 62 = some (.aload_n 0, 1) := by decide +kernel
theorem kX0_multiplyByQuery_63 : cdOf kX0_multiplyByQuery 63 = some (.getfield 40, 3) := by decide +kernel
theorem kX0_multiplyByQuery_66 : cdOf kX0_multiplyByQuery 66 = some (.getfield 177, 3) := by decide +kernel
theorem kX0_multiplyByQuery_69 : cdOf kX0_multiplyByQuery 69 = some (.iconst 0, 1) := by decide +kernel
theorem kX0_multiplyByQuery_70 : cdOf kX0_multiplyByQuery 70 = some (.aaload, 1) := by decide +kernel
theorem kX0_multiplyByQuery_71 : cdOf kX0_multiplyByQuery 71 = some (.iload 4, 2) := by decide +kernel
theorem kX0_multiplyByQuery_73 : cdOf kX0_multiplyByQuery 73 = some (.i2l, 1) := by decide +kernel
theorem kX0_multiplyByQuery_74 : cdOf kX0_multiplyByQuery 74 = some (.invokevirtual 129, 3) := by decide +kernel
theorem kX0_multiplyByQuery_77 : cdOf kX0_multiplyByQuery 77 = some (.iconst 0, 1) := by decide +kernel
theorem kX0_multiplyByQuery_78 : cdOf kX0_multiplyByQuery 78 = some (.istore 6, 2) := by decide +kernel
theorem kX0_multiplyByQuery_80 : cdOf kX0_multiplyByQuery 80 = some (.iload 6, 2) := by decide +kernel
theorem kX0_multiplyByQuery_82 : cdOf kX0_multiplyByQuery 82 = some (.aload_n 0, 1) := by decide +kernel
theorem kX0_multiplyByQuery_83 : cdOf kX0_multiplyByQuery 83 = some (.getfield 17, 3) := by decide +kernel
theorem kX0_multiplyByQuery_86 : cdOf kX0_multiplyByQuery 86 = some (.if_icmp .ge 50, 3) := by decide +kernel
theorem kX0_multiplyByQuery_89 : cdOf kX0_multiplyByQuery 89 = some (.iload 6, 2) := by decide +kernel
theorem kX0_multiplyByQuery_91 : cdOf kX0_multiplyByQuery 91 = some (.iconst 4, 1) := by decide +kernel
theorem kX0_multiplyByQuery_92 : cdOf kX0_multiplyByQuery 92 = some (.if_icmp .ge 44, 3) := by decide +kernel
theorem kX0_multiplyByQuery_95 : cdOf kX0_multiplyByQuery 95 = some (.aload_n 0, 1) := by decide +kernel
theorem kX0_multiplyByQuery_96 : cdOf kX0_multiplyByQuery 96 = some (.getfield 63, 3) := by decide +kernel
theorem kX0_multiplyByQuery_99 : cdOf kX0_multiplyByQuery 99 = some (.aload_n 2, 1) := by decide +kernel
theorem kX0_multiplyByQuery_100 : cdOf kX0_multiplyByQuery 100 = some (.iload 6, 2) := by decide +kernel
theorem kX0_multiplyByQuery_102 : cdOf kX0_multiplyByQuery 102 = some (.iload 5, 2) := by decide +kernel
theorem kX0_multiplyByQuery_104 : cdOf kX0_multiplyByQuery 104 = some (.invokevirtual 160, 3) := by decide +kernel
theorem kX0_multiplyByQuery_107 : cdOf kX0_multiplyByQuery 107 = some (.aload_n 0, 1) := by decide +kernel
theorem kX0_multiplyByQuery_108 : cdOf kX0_multiplyByQuery 108 = some (.getfield 44, 3) := by decide +kernel
theorem kX0_multiplyByQuery_111 : cdOf kX0_multiplyByQuery 111 = some (.getfield 177, 3) := by decide +kernel
theorem kX0_multiplyByQuery_114 : cdOf kX0_multiplyByQuery 114 = some (.iload 6, 2) := by decide +kernel
theorem kX0_multiplyByQuery_116 : cdOf kX0_multiplyByQuery 116 = some (.aaload, 1) := by decide +kernel
theorem kX0_multiplyByQuery_117 : cdOf kX0_multiplyByQuery 117 = some (.aload_n 0, 1) := by decide +kernel
theorem kX0_multiplyByQuery_118 : cdOf kX0_multiplyByQuery 118 = some (.getfield 40, 3) := by decide +kernel
theorem kX0_multiplyByQuery_121 : cdOf kX0_multiplyByQuery 121 = some (.getfield 177, 3) := by decide +kernel
theorem kX0_multiplyByQuery_124 : cdOf kX0_multiplyByQuery 124 = some (.iconst 0, 1) := by decide +kernel
theorem kX0_multiplyByQuery_125 : cdOf kX0_multiplyByQuery 125 = some (.aaload, 1) := by decide +kernel
theorem kX0_multiplyByQuery_126 : cdOf kX0_multiplyByQuery 126 = some (.iconst 1, 1) := by decide +kernel
theorem kX0_multiplyByQuery_127 : cdOf kX0_multiplyByQuery 127 = some (.invokevirtual 189, 3) := by decide +kernel
theorem kX0_multiplyByQuery_130 : cdOf kX0_multiplyByQuery 130 = some (.iinc 6 1, 3) := by decide +kernel
theorem kX0_multiplyByQuery_133 : cdOf kX0_multiplyByQuery 133 = some (.goto (-53), 3) := by decide +kernel
theorem kX0_multiplyByQuery_136 : cdOf kX0_multiplyByQuery 136 = some (.iinc 5 1, 3) := by decide +kernel
theorem kX0_multiplyByQuery_139 : cdOf kX0_multiplyByQuery 139 = some (.goto (-98), 3) := by decide +kernel
theorem kX0_multiplyByQuery_142 : cdOf kX0_multiplyByQuery 142 = some (.iinc 3 1, 3) := by decide +kernel
theorem kX0_multiplyByQuery_145 : cdOf kX0_multiplyByQuery 145 = some (.goto (-121), 3) := by decide +kernel
theorem kX0_multiplyByQuery_148 : cdOf kX0_multiplyByQuery 148 = some (.return_, 1) := by decide +kernel
set_option maxRecDepth 20000 in
theorem kX0_multiplyByQuery_ok : ∀ pc i len, cdOf kX0_multiplyByQuery pc = some (i, len) → decode cX0_multiplyByQuery pc = .ok (i, len) ∧ stOK 7 i = true ∧ jOK pc i = true ∧ eLen i len = true := cdOf_ok cX0_multiplyByQuery 7 kX0_multiplyByQuery (by decide +kernel)
def vtX0_multiplyByQuery : Nat → Option (Nat × eSp) := fun k => match k with
  | 150 => some (1, SX2_wipe)
  | 156 => some (2, SX8_copy)
  | 199 => some (3, SX6_read)
  | 193 => some (3, SX0_carry)
  | 129 => some (2, SX8_set)
  | 160 => some (3, SX2_read)
  | 189 => some (5, SX1_addProduct)
  | _ => none
theorem vtX0_multiplyByQuery_150 : vtX0_multiplyByQuery 150 = some (1, SX2_wipe) := rfl
theorem vtX0_multiplyByQuery_156 : vtX0_multiplyByQuery 156 = some (2, SX8_copy) := rfl
theorem vtX0_multiplyByQuery_199 : vtX0_multiplyByQuery 199 = some (3, SX6_read) := rfl
theorem vtX0_multiplyByQuery_193 : vtX0_multiplyByQuery 193 = some (3, SX0_carry) := rfl
theorem vtX0_multiplyByQuery_129 : vtX0_multiplyByQuery 129 = some (2, SX8_set) := rfl
theorem vtX0_multiplyByQuery_160 : vtX0_multiplyByQuery 160 = some (3, SX2_read) := rfl
theorem vtX0_multiplyByQuery_189 : vtX0_multiplyByQuery 189 = some (5, SX1_addProduct) := rfl
def stX0_multiplyByQuery : Nat → Option (Nat × eSp) := fun _ => none
abbrev TX0_multiplyByQuery : eT := (fl_RX0, cl_RX0, dl_RX0, vtX0_multiplyByQuery, stX0_multiplyByQuery)
set_option maxRecDepth 20000 in
theorem caX0_multiplyByQuery : eCalls RX0 { frames := 5, cells := 0, slots := 0, locals := 127 } TX0_multiplyByQuery := by
  refine ⟨fun k n sp h => ?_, fun k n sp h => ?_⟩
  · dsimp only [TX0_multiplyByQuery] at h
    unfold vtX0_multiplyByQuery at h
    split at h
    · cases h; exact eV_mk mX2_wipe wX2_wipe (by decide +kernel) (Or.inl (gW_at 633 (by decide +kernel) rfl))
    · cases h; exact eV_mk mX8_copy wX8_copy (by decide +kernel) (Or.inl (gW_at 637 (by decide +kernel) rfl))
    · cases h; exact eV_mk mX6_read wX6_read (by decide +kernel) (Or.inl (gW_at 673 (by decide +kernel) rfl))
    · cases h; exact eV_mk mX0_carry wX0_carry (by decide +kernel) (Or.inl (gW_at 651 (by decide +kernel) rfl))
    · cases h; exact eV_mk mX8_set wX8_set (by decide +kernel) (Or.inl (gW_at 605 (by decide +kernel) rfl))
    · cases h; exact eV_mk mX2_read wX2_read (by decide +kernel) (Or.inl (gW_at 638 (by decide +kernel) rfl))
    · cases h; exact eV_mk mX1_addProduct wX1_addProduct (by decide +kernel) (Or.inl (gW_at 668 (by decide +kernel) rfl))
    · cases h
  · cases h
set_option maxRecDepth 100000 in
set_option maxHeartbeats 4000000 in
theorem sX0_multiplyByQuery : eSafe TX0_multiplyByQuery (cdOf kX0_multiplyByQuery) 7 none SX0_multiplyByQuery := by
  intro K rt hK as M h
  obtain ⟨F, A, W, p, V, w, u, n, m, rfl, rfl, hp, hV, hn, n4, hb, hm, hA, h⟩ := h
  refine ⟨by simp [eE], ?_⟩
  obtain ⟨e14, l14, e15, l15⟩ := rb_14
  have g2 : gb 2 = 175 := rfl
  obtain ⟨f, hf⟩ : ∃ f : Nat → Int, (fun c : Nat => A p (24 + (c : Int))) = f := ⟨_, rfl⟩
  rw [hf] at h
  have fe : ∀ c : Nat, A p (24 + (c : Int)) = f c := fun c => by rw [← hf]
  have fr : ∀ c : Nat, c < 6 → -5 ≤ f c ∧ f c ≤ 5 := fun c hc => by rw [← fe]; exact hA _ (by omega) (by omega)
  have f3 : ∀ c, c < 6 → zAbs (f c) ≤ 2 ^ 3 := fun c hc => by
    have := fr c hc
    rw [show (2 : Int) ^ 3 = 8 by decide]
    unfold zAbs
    split <;> omega
  have bq : ∀ i j pl, i < n → pl ≤ 6 → zAbs (qSf V f n i j pl) ≤ 2 ^ (2 * m + 12) := fun i j pl hi hpl => by
    have h1 := dS_b (f := fun p => cyF V n p j i * f p) (W := 2 ^ (2 * m + 4 + 3)) (n := pl) (fun x hx => two_le (cy_b n4 hb (by omega) i hi) (f3 x (by omega)))
    have p := p2_pos (2 * m + 4 + 3)
    have e : (2 : Int) ^ (2 * m + 12) = 2 ^ (2 * m + 4 + 3) * 32 := by rw [show 2 * m + 12 = 2 * m + 4 + 3 + 5 by omega, Int.pow_add]; rfl
    have h2 : (pl : Int) * 2 ^ (2 * m + 4 + 3) ≤ 6 * 2 ^ (2 * m + 4 + 3) := Int.mul_le_mul_of_nonneg_right (by omega) (by omega)
    unfold qSf
    omega
  have inner : ∀ (pl j : Nat) (w0 : Int) (w : Nat → Int), pl < 6 → j < n → w 0 = f pl → (∀ (W1 : Nat → Int → Int) (u6 : Option eV), aR W1 (wu2 (mqX V f n pl (j + 1) 0) w (cyF V n pl j)) → K 41 [some (eR (1, 4)), some (eR (1, p)), some (eR (9, 2)), some (eI pl), some (eI (f pl)), some (eI ((j + 1 : Nat) : Int)), u6] [] (cC F A W1)) →
      ∀ (d i : Nat) (W1 : Nat → Int → Int), i + d = n → aR W1 (wu2 (mqX V f n pl j i) w (cyF V n pl j)) → K 80 [some (eR (1, 4)), some (eR (1, p)), some (eR (9, 2)), some (eI pl), some (eI (f pl)), some (eI j), some (eI i)] [] (cC F A W1) := by
    intro pl j w0 w hpl hj hw0 cont d
    induction d with
    | zero =>
      intro i W1 hi ha
      have : i = n := by omega
      subst this
      refine x_iload hK kX0_multiplyByQuery_80 (q := 82) rfl rfl ?_
      refine x_aload_n hK kX0_multiplyByQuery_82 (q := 83) rfl rfl ?_
      refine x_getfield hK kX0_multiplyByQuery_83 (q := 86) rfl (gX0_17 ?_)
      rw [hn]
      refine x_icmp_ge hK kX0_multiplyByQuery_86 (q := 89) rfl (tg := 136) rfl (by refine ⟨?_, ?_⟩ <;> omega) (fun c86 => ?_) (fun c86 => ?_)
      · refine x_iinc hK kX0_multiplyByQuery_136 (q := 139) rfl rfl ?_
        simp only [lS, lS2, clr_0, clr_I, clr_L, clr_R]
        refine x_goto hK kX0_multiplyByQuery_139 (tg := 41) rfl ?_
        rw [show (j : Int) + 1 = ((j + 1 : Nat) : Int) by omega]
        refine cont W1 _ (aR_c ha (fun t _ _ => wu2_c (fun _ => mqX_e (fun c hc => ?_) t)))
        unfold mqP
        by_cases a : c / 4 < i ∧ c % 4 < i
        · rw [if_pos a, if_pos a]
          by_cases b : c % 4 < j ∨ c % 4 = j
          · rw [if_pos (by omega), if_pos (by omega)]
          · rw [if_neg (by omega), if_neg (by omega)]
        · rw [if_neg a, if_neg a]
      · exfalso; omega
    | succ d ih =>
      intro i W1 hi ha
      have hc : mqX V f n pl j i (gb 2 + (4 * i + j)) = qSf V f n i j pl := by
        unfold mqX
        rw [vU_n _ _ (by omega), vG8_i _ _ (by omega)]
        unfold mqP
        rw [show (4 * i + j) / 4 = i by omega, show (4 * i + j) % 4 = j by omega, if_pos (by omega), if_neg (by omega)]
      have b1 := bq i j pl (by omega) (by omega)
      have b2 := p2_m hm
      refine x_iload hK kX0_multiplyByQuery_80 (q := 82) rfl rfl ?_
      refine x_aload_n hK kX0_multiplyByQuery_82 (q := 83) rfl rfl ?_
      refine x_getfield hK kX0_multiplyByQuery_83 (q := 86) rfl (gX0_17 ?_)
      rw [hn]
      refine x_icmp_ge hK kX0_multiplyByQuery_86 (q := 89) rfl (tg := 136) rfl (by refine ⟨?_, ?_⟩ <;> omega) (fun c86 => ?_) (fun c86 => ?_)
      · exfalso; omega
      · refine x_iload hK kX0_multiplyByQuery_89 (q := 91) rfl rfl ?_
        refine x_iconst hK kX0_multiplyByQuery_91 (q := 92) rfl ?_
        refine x_icmp_ge hK kX0_multiplyByQuery_92 (q := 95) rfl (tg := 136) rfl (by refine ⟨?_, ?_⟩ <;> omega) (fun c92 => ?_) (fun c92 => ?_)
        · exfalso; omega
        · refine x_aload_n hK kX0_multiplyByQuery_95 (q := 96) rfl rfl ?_
          refine x_getfield hK kX0_multiplyByQuery_96 (q := 99) rfl (gX0_63 ?_)
          refine x_aload_n hK kX0_multiplyByQuery_99 (q := 100) rfl rfl ?_
          refine x_iload hK kX0_multiplyByQuery_100 (q := 102) rfl rfl ?_
          refine x_iload hK kX0_multiplyByQuery_102 (q := 104) rfl rfl ?_
          refine x_cv3 hK kX0_multiplyByQuery_104 (q := 107) rfl (vtX0_multiplyByQuery_160) (Nat.le_of_ble_eq_true rfl) ?_
          refine SX2_read_i (g := 2) (i := i) (j := j) (by decide) (by omega) (by omega) ?_
          refine x_aload_n hK kX0_multiplyByQuery_107 (q := 108) rfl rfl ?_
          refine x_getfield hK kX0_multiplyByQuery_108 (q := 111) rfl (gX0_44 ?_)
          refine x_getfield hK kX0_multiplyByQuery_111 (q := 114) rfl (gX0_177 ?_)
          refine x_iload hK kX0_multiplyByQuery_114 (q := 116) rfl rfl ?_
          refine x_aaload hK kX0_multiplyByQuery_116 (q := 117) rfl (wa_a wa_6 (by rw [l15]; omega) ?_)
          refine x_aload_n hK kX0_multiplyByQuery_117 (q := 118) rfl rfl ?_
          refine x_getfield hK kX0_multiplyByQuery_118 (q := 121) rfl (gX0_40 ?_)
          refine x_getfield hK kX0_multiplyByQuery_121 (q := 124) rfl (gX0_177 ?_)
          refine x_iconst hK kX0_multiplyByQuery_124 (q := 125) rfl ?_
          refine x_aaload hK kX0_multiplyByQuery_125 (q := 126) rfl (wa_a (q := 0) wa_6 (by rw [l14]; decide) ?_)
          refine x_iconst hK kX0_multiplyByQuery_126 (q := 127) rfl ?_
          refine x_cv5 hK kX0_multiplyByQuery_127 (q := 130) rfl (vtX0_multiplyByQuery_189) (Nat.le_of_ble_eq_true rfl) ?_
          refine addP_a (k := gb 2 + (4 * i + j)) (a := rb 15 + i) (b := rb 14 + 0) (m := 2 * m + 4) (n := 3) ha (by omega) (by omega) (by omega) (by omega) (by omega) (by omega) (Or.inl rfl) (by rw [wu2_u _ _ _ (by omega)]; exact cy_b n4 hb hpl i (by omega)) (by rw [wu2_w _ _ _ (by decide), hw0]; exact f3 pl hpl) (by omega) (by rw [wu2_o _ _ _ (by omega), hc]; omega) (fun W2 h2 => ?_)
          rw [wu2_o _ _ _ (by omega), wu2_u _ _ _ (by omega), wu2_w _ _ _ (by decide), hw0, hc, Int.one_mul] at h2
          refine x_iinc hK kX0_multiplyByQuery_130 (q := 133) rfl rfl ?_
          simp only [lS, lS2, clr_0, clr_I, clr_L, clr_R]
          refine x_goto hK kX0_multiplyByQuery_133 (tg := 80) rfl ?_
          rw [show (i : Int) + 1 = ((i + 1 : Nat) : Int) by omega]
          refine ih (i + 1) W2 (by omega) (aR_c h2 (fun t _ _ => ?_))
          rw [← wu2_k (by omega)]
          refine wu2_c (fun _ => ?_)
          unfold mqX vU vG8
          by_cases a : t = gb 2 + 16
          · rw [if_pos a, if_neg (by omega), if_pos a]
          · rw [if_neg a]
            by_cases b : t = gb 2 + (4 * i + j)
            · rw [if_pos b, if_pos (by omega)]
              unfold mqP
              rw [show t - gb 2 = 4 * i + j by omega, show (4 * i + j) / 4 = i by omega, show (4 * i + j) % 4 = j by omega, if_pos (by omega), if_pos (by omega)]
              rfl
            · rw [if_neg b, if_neg a]
              by_cases c : gb 2 ≤ t ∧ t < gb 2 + 16
              · rw [if_pos c, if_pos c]
                unfold mqP
                by_cases g : (t - gb 2) / 4 < n ∧ (t - gb 2) % 4 < n
                · rw [if_pos g, if_pos g]
                  by_cases g3 : (t - gb 2) % 4 < j ∨ ((t - gb 2) % 4 = j ∧ (t - gb 2) / 4 < i)
                  · rw [if_pos (by omega), if_pos g3]
                  · rw [if_neg (by omega), if_neg g3]
                · rw [if_neg g, if_neg g]
              · rw [if_neg c, if_neg c]
  have mid : ∀ (pl : Nat), pl < 6 → f pl ≠ 0 → (∀ (W1 : Nat → Int → Int) (u4 u5 u6 : Option eV) (w u : Nat → Int), aR W1 (wu2 (mqX V f n (pl + 1) 0 0) w u) → K 24 [some (eR (1, 4)), some (eR (1, p)), some (eR (9, 2)), some (eI ((pl + 1 : Nat) : Int)), u4, u5, u6] [] (cC F A W1)) →
      ∀ (d j : Nat) (W1 : Nat → Int → Int) (u6 : Option eV) (w u : Nat → Int), j + d = n → aR W1 (wu2 (mqX V f n pl j 0) w u) → K 41 [some (eR (1, 4)), some (eR (1, p)), some (eR (9, 2)), some (eI pl), some (eI (f pl)), some (eI j), u6] [] (cC F A W1) := by
    intro pl hpl f0 cont d
    have fw := fr pl hpl
    induction d with
    | zero =>
      intro j W1 u6 w u hj ha
      have : j = n := by omega
      subst this
      refine x_iload hK kX0_multiplyByQuery_41 (q := 43) rfl rfl ?_
      refine x_aload_n hK kX0_multiplyByQuery_43 (q := 44) rfl rfl ?_
      refine x_getfield hK kX0_multiplyByQuery_44 (q := 47) rfl (gX0_17 ?_)
      rw [hn]
      refine x_icmp_ge hK kX0_multiplyByQuery_47 (q := 50) rfl (tg := 142) rfl (by refine ⟨?_, ?_⟩ <;> omega) (fun c47 => ?_) (fun c47 => ?_)
      · refine x_iinc hK kX0_multiplyByQuery_142 (q := 145) rfl rfl ?_
        simp only [lS, lS2, clr_0, clr_I, clr_L, clr_R]
        refine x_goto hK kX0_multiplyByQuery_145 (tg := 24) rfl ?_
        rw [show (pl : Int) + 1 = ((pl + 1 : Nat) : Int) by omega]
        refine cont W1 _ _ _ w u (aR_c ha (fun t _ _ => wu2_c (fun _ => mqX_e (fun c hc => ?_) t)))
        unfold mqP
        by_cases a : c / 4 < j ∧ c % 4 < j
        · rw [if_pos a, if_pos a, if_pos (show c % 4 < j ∨ (c % 4 = j ∧ c / 4 < 0) by omega), if_neg (show ¬ (c % 4 < 0 ∨ (c % 4 = 0 ∧ c / 4 < 0)) by omega)]
        · rw [if_neg a, if_neg a]
      · exfalso; omega
    | succ d ih =>
      intro j W1 u6 w u hj ha
      refine x_iload hK kX0_multiplyByQuery_41 (q := 43) rfl rfl ?_
      refine x_aload_n hK kX0_multiplyByQuery_43 (q := 44) rfl rfl ?_
      refine x_getfield hK kX0_multiplyByQuery_44 (q := 47) rfl (gX0_17 ?_)
      rw [hn]
      refine x_icmp_ge hK kX0_multiplyByQuery_47 (q := 50) rfl (tg := 142) rfl (by refine ⟨?_, ?_⟩ <;> omega) (fun c47 => ?_) (fun c47 => ?_)
      · exfalso; omega
      · refine x_iload hK kX0_multiplyByQuery_50 (q := 52) rfl rfl ?_
        refine x_if_eq hK kX0_multiplyByQuery_52 (q := 55) rfl (tg := 142) rfl (by exact ⟨by omega, by omega⟩) (fun c52 => ?_) (fun c52 => ?_)
        · exact absurd c52 f0
        · refine x_aload_n hK kX0_multiplyByQuery_55 (q := 56) rfl rfl ?_
          refine x_iload_n hK kX0_multiplyByQuery_56 (q := 57) rfl rfl ?_
          refine x_iload hK kX0_multiplyByQuery_57 (q := 59) rfl rfl ?_
          refine x_cv3 hK kX0_multiplyByQuery_59 (q := 62) rfl (vtX0_multiplyByQuery_193) (Nat.le_of_ble_eq_true rfl) ?_
          refine carry_v (q := pl) (B := V) ha hn n4 hpl (by omega) hb (fun t ht _ => by rw [mqX_o (by omega)]) (fun w' W2 h2 => ?_)
          refine x_aload_n hK kX0_multiplyByQuery_62 (q := 63) rfl rfl ?_
          refine x_getfield hK kX0_multiplyByQuery_63 (q := 66) rfl (gX0_40 ?_)
          refine x_getfield hK kX0_multiplyByQuery_66 (q := 69) rfl (gX0_177 ?_)
          refine x_iconst hK kX0_multiplyByQuery_69 (q := 70) rfl ?_
          refine x_aaload hK kX0_multiplyByQuery_70 (q := 71) rfl (wa_a (q := 0) wa_6 (by rw [l14]; decide) ?_)
          refine x_iload hK kX0_multiplyByQuery_71 (q := 73) rfl rfl ?_
          refine x_i2l hK kX0_multiplyByQuery_73 (q := 74) rfl (by exact ⟨by omega, by omega⟩) ?_
          refine x_cv2 hK kX0_multiplyByQuery_74 (q := 77) rfl (vtX0_multiplyByQuery_129) (Nat.le_of_ble_eq_true rfl) ?_
          refine set_a (k := rb 14 + 0) h2 (by omega) (by omega) ⟨by omega, by omega⟩ (fun W3 h3 => ?_)
          refine x_iconst hK kX0_multiplyByQuery_77 (q := 78) rfl ?_
          refine x_istore hK kX0_multiplyByQuery_78 (q := 80) rfl ?_
          simp only [lS, lS2, clr_0, clr_I, clr_L, clr_R]
          refine inner pl j 0 (fun c => if c = 0 then f pl else w' c) hpl (by omega) (if_pos rfl) (fun W4 u6 h4 => ih (j + 1) W4 u6 _ _ (by omega) h4) n 0 W3 (by omega) (aR_c h3 (fun t _ _ => ?_))
          unfold wu2 vU vG8
          by_cases a : t = rb 14 + 0
          · rw [if_pos a, if_neg (by omega), if_pos (by omega)]
            exact if_pos (by omega)
          · rw [if_neg a]
            by_cases b : rb 15 ≤ t ∧ t < rb 15 + 4
            · rw [if_pos b, if_pos b]
            · rw [if_neg b, if_neg b]
              by_cases c : rb 14 ≤ t ∧ t < rb 14 + 4
              · rw [if_pos c, if_pos c]
                exact if_neg (by omega)
              · rw [if_neg c, if_neg c]
  have outer : ∀ (d pl : Nat) (W1 : Nat → Int → Int) (u4 u5 u6 : Option eV) (w u : Nat → Int), pl + d = 6 → aR W1 (wu2 (mqX V f n pl 0 0) w u) → K 24 [some (eR (1, 4)), some (eR (1, p)), some (eR (9, 2)), some (eI pl), u4, u5, u6] [] (cC F A W1) := by
    intro d
    induction d with
    | zero =>
      intro pl W1 u4 u5 u6 w u hp' ha
      have : pl = 6 := by omega
      subst this
      refine x_iload_n hK kX0_multiplyByQuery_24 (q := 25) rfl rfl ?_
      refine x_bipush hK kX0_multiplyByQuery_25 (q := 27) rfl (by decide) ?_
      refine x_icmp_ge hK kX0_multiplyByQuery_27 (q := 30) rfl (tg := 148) rfl (by refine ⟨?_, ?_⟩ <;> omega) (fun c27 => ?_) (fun c27 => ?_)
      · refine x_return_ hK kX0_multiplyByQuery_148 (by first | trivial | exact Or.inl rfl | exact Or.inr rfl) ?_
        exact h w u W1 ha
      · exfalso; omega
    | succ d ih =>
      intro pl W1 u4 u5 u6 w u hp' ha
      have e : pr (A p) 4 pl = f pl := by unfold pr; rw [if_pos ⟨by omega, by omega, by omega, by omega⟩]; exact fe pl
      have fw := fr pl (by omega)
      have head : ∀ (u6 : Option eV), K 41 [some (eR (1, 4)), some (eR (1, p)), some (eR (9, 2)), some (eI pl), some (eI (f pl)), some (eI ((0 : Nat) : Int)), u6] [] (cC F A W1) := by
        intro u6
        rcases Decidable.em (f pl = 0) with f0 | f0
        · have nx := fun u4 u5 u6 => ih (pl + 1) W1 u4 u5 u6 w u (by omega) (aR_c ha (fun t _ _ => wu2_c (fun _ => mqX_e (fun c hc => by
            unfold mqP
            split
            · rw [if_neg (show ¬ (c % 4 < 0 ∨ (c % 4 = 0 ∧ c / 4 < 0)) by omega), if_neg (show ¬ (c % 4 < 0 ∨ (c % 4 = 0 ∧ c / 4 < 0)) by omega)]
              show dS _ pl + cyF V n pl (c % 4) (c / 4) * f pl = dS _ pl
              rw [f0]
              omega
            · rfl) t)))
          refine x_iload hK kX0_multiplyByQuery_41 (q := 43) rfl rfl ?_
          refine x_aload_n hK kX0_multiplyByQuery_43 (q := 44) rfl rfl ?_
          refine x_getfield hK kX0_multiplyByQuery_44 (q := 47) rfl (gX0_17 ?_)
          rw [hn]
          refine x_icmp_ge hK kX0_multiplyByQuery_47 (q := 50) rfl (tg := 142) rfl (by refine ⟨?_, ?_⟩ <;> omega) (fun c47 => ?_) (fun c47 => ?_)
          · refine x_iinc hK kX0_multiplyByQuery_142 (q := 145) rfl rfl ?_
            simp only [lS, lS2, clr_0, clr_I, clr_L, clr_R]
            refine x_goto hK kX0_multiplyByQuery_145 (tg := 24) rfl ?_
            rw [show (pl : Int) + 1 = ((pl + 1 : Nat) : Int) by omega]
            exact nx _ _ _
          · refine x_iload hK kX0_multiplyByQuery_50 (q := 52) rfl rfl ?_
            refine x_if_eq hK kX0_multiplyByQuery_52 (q := 55) rfl (tg := 142) rfl (by exact ⟨by omega, by omega⟩) (fun c52 => ?_) (fun c52 => ?_)
            · refine x_iinc hK kX0_multiplyByQuery_142 (q := 145) rfl rfl ?_
              simp only [lS, lS2, clr_0, clr_I, clr_L, clr_R]
              refine x_goto hK kX0_multiplyByQuery_145 (tg := 24) rfl ?_
              rw [show (pl : Int) + 1 = ((pl + 1 : Nat) : Int) by omega]
              exact nx _ _ _
            · exact absurd f0 c52
        · exact mid pl (by omega) f0 (fun W2 u4 u5 u6 w u h2 => ih (pl + 1) W2 u4 u5 u6 w u (by omega) h2) n 0 W1 u6 w u (by omega) ha
      refine x_iload_n hK kX0_multiplyByQuery_24 (q := 25) rfl rfl ?_
      refine x_bipush hK kX0_multiplyByQuery_25 (q := 27) rfl (by decide) ?_
      refine x_icmp_ge hK kX0_multiplyByQuery_27 (q := 30) rfl (tg := 148) rfl (by refine ⟨?_, ?_⟩ <;> omega) (fun c27 => ?_) (fun c27 => ?_)
      · exfalso; omega
      · refine x_aload_n hK kX0_multiplyByQuery_30 (q := 31) rfl rfl ?_
        refine x_iconst hK kX0_multiplyByQuery_31 (q := 32) rfl ?_
        refine x_iload_n hK kX0_multiplyByQuery_32 (q := 33) rfl rfl ?_
        refine x_cv3 hK kX0_multiplyByQuery_33 (q := 36) rfl (vtX0_multiplyByQuery_199) (Nat.le_of_ble_eq_true rfl) ?_
        refine SX6_read_i hp (by decide) ⟨by omega, by omega⟩ ?_
        rw [e]
        refine x_istore hK kX0_multiplyByQuery_36 (q := 38) rfl ?_
        refine x_iconst hK kX0_multiplyByQuery_38 (q := 39) rfl ?_
        refine x_istore hK kX0_multiplyByQuery_39 (q := 41) rfl ?_
        simp only [lS, lS2, clr_0, clr_I, clr_L, clr_R]
        exact head _
  simp only [eLoc, eE, List.length_cons, List.length_nil, List.replicate, List.cons_append, List.nil_append, Nat.reduceAdd, Nat.reduceSub]
  refine x_aload_n hK kX0_multiplyByQuery_0 (q := 1) rfl rfl ?_
  refine x_getfield hK kX0_multiplyByQuery_1 (q := 4) rfl (gX0_21 ?_)
  refine x_iconst hK kX0_multiplyByQuery_4 (q := 5) rfl ?_
  refine x_aaload hK kX0_multiplyByQuery_5 (q := 6) rfl (aC0_4 (q := 2) (by omega) ?_)
  refine x_astore_n hK kX0_multiplyByQuery_6 (q := 7) (jn := 2) rfl rfl ?_
  refine x_aload_n hK kX0_multiplyByQuery_7 (q := 8) rfl rfl ?_
  simp only [lS, lS2, clr_0, clr_I, clr_L, clr_R]
  refine x_cv1 hK kX0_multiplyByQuery_8 (q := 11) rfl (vtX0_multiplyByQuery_150) (Nat.le_of_ble_eq_true rfl) ?_
  refine gwipe_a (g := 2) hV (by decide) (fun W1 h1 => ?_)
  refine x_aload_n hK kX0_multiplyByQuery_11 (q := 12) rfl rfl ?_
  refine x_getfield hK kX0_multiplyByQuery_12 (q := 15) rfl (gX0_153 ?_)
  refine x_aload_n hK kX0_multiplyByQuery_15 (q := 16) rfl rfl ?_
  refine x_getfield hK kX0_multiplyByQuery_16 (q := 19) rfl (gX0_54 ?_)
  refine x_cv2 hK kX0_multiplyByQuery_19 (q := 22) rfl (vtX0_multiplyByQuery_156) (Nat.le_of_ble_eq_true rfl) ?_
  refine copy_a h1 (by decide) (by decide) (by decide) (by decide) (by decide) (fun W2 h2 => ?_)
  rw [vG8_o _ _ (by omega), wu2_o _ _ _ (by omega)] at h2
  refine x_iconst hK kX0_multiplyByQuery_22 (q := 23) rfl ?_
  refine x_istore_n hK kX0_multiplyByQuery_23 (q := 24) (jn := 3) rfl rfl ?_
  simp only [lS, lS2, clr_0, clr_I, clr_L, clr_R]
  refine outer 6 0 W2 _ _ _ w u rfl (aR_c h2 (fun t _ _ => ?_))
  unfold vU
  by_cases a : t = gb 2 + 16
  · rw [if_pos a, wu2_o _ _ _ (by omega)]
    unfold mqX vU
    rw [if_pos a]
  · rw [if_neg a]
    by_cases b : gb 2 ≤ t ∧ t < gb 2 + 16
    · rw [vG8_v (wu2 V w u) _ b, wu2_o _ _ _ (by omega)]
      unfold mqX vU vG8
      rw [if_neg a, if_pos b]
      unfold mqP
      split
      · rw [if_neg (by omega)]
        rfl
      · rfl
    · rw [vG8_o (wu2 V w u) _ (by omega)]
      refine wu2_c (fun _ => ?_)
      rw [mqX_o (by omega)]
set_option maxRecDepth 20000 in
theorem mX0_multiplyByQuery : eMet yX0_multiplyByQuery cX0_multiplyByQuery 7 none 5 127 SX0_multiplyByQuery := eMet_of (by decide +kernel) sX0_multiplyByQuery kX0_multiplyByQuery_ok caX0_multiplyByQuery tb_RX0
theorem wX0_multiplyByQuery : eWV yX0_multiplyByQuery cX0_multiplyByQuery 7 none 2 0 SX0_multiplyByQuery := ⟨(gW_at 672 (by decide +kernel) rfl), (gW_at 86 (by decide +kernel) rfl), (gW_at 671 (by decide +kernel) rfl), ⟨_, rfl, (gW_at 24 (by decide +kernel) rfl)⟩, by decide +kernel, SX0_multiplyByQuery_r⟩
