/-! The algebra: multiplyByStandard, multiplyByQuery. -/
/-- beside the two rows to work in -/
def wu2 (V : Nat → Int) (w u : Nat → Int) : Nat → Int := vG8 (vG8 V (rb 14) 4 w) (rb 15) 4 u
theorem wu2_o (V w u : Nat → Int) {t : Nat} (h : t < 133 ∨ 141 ≤ t) : wu2 V w u t = V t := by
  obtain ⟨e14, l14, e15, l15⟩ := rb_14
  unfold wu2
  rw [vG8_o _ _ (by omega), vG8_o _ _ (by omega)]
theorem wu2_u (V w u : Nat → Int) {i : Nat} (h : i < 4) : wu2 V w u (rb 15 + i) = u i := by
  unfold wu2
  rw [vG8_i _ _ h]
theorem wu2_w (V w u : Nat → Int) {i : Nat} (h : i < 4) : wu2 V w u (rb 14 + i) = w i := by
  obtain ⟨e14, l14, e15, l15⟩ := rb_14
  unfold wu2
  rw [vG8_o _ _ (by omega), vG8_i _ _ h]
/-- the same beside those rows -/
theorem wu2_c {V V' w u : Nat → Int} {t : Nat} (h : (t < 133 ∨ 141 ≤ t) → V t = V' t) : wu2 V w u t = wu2 V' w u t := by
  obtain ⟨e14, l14, e15, l15⟩ := rb_14
  unfold wu2 vG8
  by_cases a : rb 15 ≤ t ∧ t < rb 15 + 4
  · rw [if_pos a, if_pos a]
  · rw [if_neg a, if_neg a]
    by_cases b : rb 14 ≤ t ∧ t < rb 14 + 4
    · rw [if_pos b, if_pos b]
    · rw [if_neg b, if_neg b]
      exact h (by omega)
theorem wu2_2 (V w u w' u' : Nat → Int) (t : Nat) : wu2 (wu2 V w u) w' u' t = wu2 V w' u' t := by
  refine wu2_c (fun h => wu2_o V w u h)
theorem wu2_k {V w u : Nat → Int} {k : Nat} {x : Int} (hk : k < 133 ∨ 141 ≤ k) (t : Nat) : wu2 (vU V k x) w u t = vU (wu2 V w u) k x t := by
  obtain ⟨e14, l14, e15, l15⟩ := rb_14
  unfold vU
  by_cases a : t = k
  · rw [if_pos a]
    rw [wu2_o _ _ _ (by omega)]
    exact if_pos a
  · rw [if_neg a]
    exact wu2_c (fun _ => if_neg a)
theorem tm_c {V V' : Nat → Int} {n g : Nat} {v : Nat → Int} (n4 : n ≤ 4) (e : ∀ c, c < 16 → V' (gb g + c) = V (gb g + c)) : tmF V' g n v = tmF V g n v := by
  funext i
  unfold tmF
  split
  · exact dS_c (fun x hx => by rw [e _ (by omega)])
  · rfl
theorem cy_c {V V' : Nat → Int} {n q j : Nat} (n4 : n ≤ 4) (hq : q < 6) (e : ∀ g, g < 2 → ∀ c, c < 16 → V' (gb g + c) = V (gb g + c)) (e8 : V' 328 = V 328) (e9 : V' 329 = V 329) : cyF V' n q j = cyF V n q j := by
  have z : cy0 V' q j = cy0 V q j := by
    unfold cy0
    rw [e8, e9]
  have gg : (cyG q).1 < 2 ∧ (cyG q).2 < 2 := by
    have : ∀ q : Fin 6, (cyG q.val).1 < 2 ∧ (cyG q.val).2 < 2 := by decide +kernel
    exact this ⟨q, hq⟩
  unfold cyF
  rw [z, tm_c n4 (e _ gg.1), tm_c n4 (e _ gg.2)]
/-- what the tables of x and y are to keep to -/
def xyB (V : Nat → Int) (n m : Nat) : Prop := (∀ g, g < 2 → ∀ i j, i < n → j < n → zAbs (V (gb g + (4 * i + j))) ≤ 2 ^ m) ∧ zAbs (V 328) ≤ 2 ^ m ∧ zAbs (V 329) ≤ 2 ^ (2 * m) ∧ 2 * m + 6 ≤ 930
theorem carry_v {F : Nat → Int} {A W : Nat → Int → Int} {V B w u : Nat → Int} {rt : Option eV → eM → Prop} {n q j m : Nat} (h : aR W (wu2 V w u)) (hn : F 5 = n) (n4 : n ≤ 4) (hq : q < 6) (hj : j < n) (hb : xyB B n m) (e : ∀ t, (t < 175 ∨ 328 ≤ t) → (t < 133 ∨ 141 ≤ t) → V t = B t) (qq : ∀ (w : Nat → Int) (W' : Nat → Int → Int), aR W' (wu2 V w (cyF B n q j)) → rt none (cC F A W')) : SX0_carry [eR (1, 4), eI q, eI j] (cC F A W) rt := by
  have gl : ∀ g, g < 2 → 141 ≤ gb g ∧ gb g + 17 ≤ 175 := fun g hg => by unfold gb; omega
  have eb : ∀ g, g < 2 → ∀ c, c < 16 → wu2 V w u (gb g + c) = B (gb g + c) := fun g hg c hc => by
    have := gl g hg
    rw [wu2_o _ _ _ (by omega), e _ (by omega) (by omega)]
  have e8 : wu2 V w u 328 = B 328 := by rw [wu2_o _ _ _ (by omega), e _ (by omega) (by omega)]
  have e9 : wu2 V w u 329 = B 329 := by rw [wu2_o _ _ _ (by omega), e _ (by omega) (by omega)]
  refine SX0_carry_i (m := m) h hn n4 hq hj (fun g hg i x hi hx => by rw [eb g hg _ (by omega)]; exact hb.1 g hg i x hi hx) (by rw [e8]; exact hb.2.1) (by rw [e9]; exact hb.2.2.1) hb.2.2.2 (fun w' W' h' => qq w' W' ?_)
  rw [cy_c (V := B) n4 hq eb e8 e9] at h'
  exact aR_c h' (fun t _ _ => (wu2_2 V w u w' _ t).symm)
def msP (B : Nat → Int) (n q j i c : Nat) : Int := if c / 4 < n ∧ (c % 4 < j ∨ (c % 4 = j ∧ c / 4 < i)) then cyF B n q (c % 4) (c / 4) else 0
def msX (Vk B : Nat → Int) (n q G j i : Nat) : Nat → Int := vU (vG8 Vk (gb G) 16 (msP B n q j i)) (gb G + 16) (B 329)
def msF (B : Nat → Int) (st : Int → Int) (n : Nat) : Nat → Nat → Int
  | 0 => B
  | k + 1 => msX (msF B st n k) B n (st k).toNat (3 + k) n 0
theorem msX_o {Vk B : Nat → Int} {n q G j i t : Nat} (h : t < gb G ∨ gb G + 17 ≤ t) : msX Vk B n q G j i t = Vk t := by
  unfold msX
  rw [vU_n _ _ (by omega), vG8_o _ _ (by omega)]
theorem msF_o {B : Nat → Int} {st : Int → Int} {n t : Nat} (h : t < gb 3 ∨ gb 7 ≤ t) : ∀ k, k ≤ 4 → msF B st n k t = B t
  | 0, _ => rfl
  | k + 1, hk => by
    show msX (msF B st n k) B n (st k).toNat (3 + k) n 0 t = _
    have : gb 3 = 192 ∧ gb 7 = 260 ∧ gb (3 + k) = 141 + 17 * (3 + k) := ⟨rfl, rfl, rfl⟩
    rw [msX_o (by omega), msF_o h k (by omega)]
def SX0_multiplyByStandard : eSp := fun as M rt => ∃ (F : Nat → Int) (A W : Nat → Int → Int) (V w u : Nat → Int) (n m : Nat), as = [eR (1, 4)] ∧ M = cC F A W ∧ (aR W (wu2 V w u)) ∧ (F 5 = n) ∧ (n ≤ 4) ∧ (∀ j : Nat, j < n → 0 ≤ A 4 j ∧ A 4 j < 6) ∧ (xyB V n m) ∧ (∀ (w u : Nat → Int) (W' : Nat → Int → Int), aR W' (wu2 (msF V (A 4) n n) w u) → rt none (cC F A W'))
theorem SX0_multiplyByStandard_i {F : Nat → Int} {A W : Nat → Int → Int} {V w u : Nat → Int} {n m : Nat} {rt : Option eV → eM → Prop} (hV : aR W (wu2 V w u)) (hn : F 5 = n) (n4 : n ≤ 4) (hst : ∀ j : Nat, j < n → 0 ≤ A 4 j ∧ A 4 j < 6) (hb : xyB V n m) (h : ∀ (w u : Nat → Int) (W' : Nat → Int → Int), aR W' (wu2 (msF V (A 4) n n) w u) → rt none (cC F A W')) : SX0_multiplyByStandard [eR (1, 4)] (cC F A W) rt := ⟨F, A, W, V, w, u, n, m, rfl, rfl, hV, hn, n4, hst, hb, h⟩
theorem SX0_multiplyByStandard_r : ∀ as M rt, SX0_multiplyByStandard as M rt → ∃ a r fs, as = eR a :: r ∧ M a = some (.inl (0, fs)) := by
  rintro as M rt ⟨F, A, W, V, w, u, n, m, rfl, rfl, -⟩
  exact ⟨_, _, _, rfl, rfl⟩
def kX0_multiplyByStandard : List (Nat × Jvm.ClassFile.Instr × Nat) := [(0, .iconst 0, 1), (1, .istore_n 1, 1), (2, .iload_n 1, 1), (3, .aload_n 0, 1), (4, .getfield 17, 3), (7, .if_icmp .ge 109, 3), (10, .iload_n 1, 1), (11, .iconst 4, 1), (12, .if_icmp .ge 104, 3), (15, .aload_n 0, 1), (16, .getfield 25, 3), (19, .iload_n 1, 1), (20, .aaload, 1), (21, .invokevirtual 150, 3), (24, .aload_n 0, 1), (25, .getfield 25, 3), (28, .iload_n 1, 1), (29, .aaload, 1), (30, .getfield 153, 3), (33, .aload_n 0, 1), (34, .getfield 54, 3), (37, .invokevirtual 156, 3), (40, .iconst 0, 1), (41, .istore_n 2, 1), (42, .iload_n 2, 1), (43, .aload_n 0, 1), (44, .getfield 17, 3), (47, .if_icmp .ge 63, 3), (50, .aload_n 0, 1), (51, .aload_n 0, 1), (52, .iload_n 1, 1), (53, .invokevirtual 119, 3), (56, .iload_n 2, 1), (57, .invokevirtual 193, 3), (60, .iconst 0, 1), (61, .istore_n 3, 1), (62, .iload_n 3, 1), (63, .aload_n 0, 1), (64, .getfield 17, 3), (67, .if_icmp .ge 37, 3), (70, .iload_n 3, 1), (71, .iconst 4, 1), (72, .if_icmp .ge 32, 3), (75, .aload_n 0, 1), (76, .getfield 25, 3), (79, .iload_n 1, 1), (80, .aaload, 1), (81, .iload_n 3, 1), (82, .iload_n 2, 1), (83, .invokevirtual 160, 3), (86, .aload_n 0, 1), (87, .getfield 44, 3), (90, .getfield 177, 3), (93, .iload_n 3, 1), (94, .aaload, 1), (95, .invokevirtual 156, 3), (98, .iinc 3 1, 3), (101, .goto (-39), 3), (104, .iinc 2 1, 3), (107, .goto (-65), 3), (110, .iinc 1 1, 3), (113, .goto (-111), 3), (116, .return_, 1)]
theorem kX0_multiplyByStandard_0 : cdOf kX0_multiplyByStandard 0 = some (.iconst 0, 1) := by decide +kernel
theorem kX0_multiplyByStandard_1 : cdOf kX0_multiplyByStandard 1 = some (.istore_n 1, 1) := by decide +kernel
theorem kX0_multiplyByStandard_2 : cdOf kX0_multiplyByStandard 2 = some (.iload_n 1, 1) := by decide +kernel
theorem kX0_multiplyByStandard_3 : cdOf kX0_multiplyByStandard 3 = some (.aload_n 0, 1) := by decide +kernel
theorem kX0_multiplyByStandard_4 : cdOf kX0_multiplyByStandard 4 = some (.getfield 17, 3) := by decide +kernel
theorem kX0_multiplyByStandard_7 : cdOf kX0_multiplyByStandard 7 = some (.if_icmp .ge 109, 3) := by decide +kernel
theorem kX0_multiplyByStandard_10 : cdOf kX0_multiplyByStandard 10 = some (.iload_n 1, 1) := by decide +kernel
theorem kX0_multiplyByStandard_11 : cdOf kX0_multiplyByStandard 11 = some (.iconst 4, 1) := by decide +kernel
theorem kX0_multiplyByStandard_12 : cdOf kX0_multiplyByStandard 12 = some (.if_icmp .ge 104, 3) := by decide +kernel
theorem kX0_multiplyByStandard_15 : cdOf kX0_multiplyByStandard 15 = some (.aload_n 0, 1) := by decide +kernel
theorem kX0_multiplyByStandard_16 : cdOf kX0_multiplyByStandard 16 = some (.getfield 25, 3) := by decide +kernel
theorem kX0_multiplyByStandard_19 : cdOf kX0_multiplyByStandard 19 = some (.iload_n 1, 1) := by decide +kernel
theorem kX0_multiplyByStandard_20 : cdOf kX0_multiplyByStandard 20 = some (.aaload, 1) := by decide +kernel
theorem kX0_multiplyByStandard_21 : cdOf kX0_multiplyByStandard 21 = some (.invokevirtual 150, 3) := by decide +kernel
theorem kX0_multiplyByStandard_24 : cdOf kX0_multiplyByStandard 24 = some (.aload_n 0, 1) := by decide +kernel
theorem kX0_multiplyByStandard_25 : cdOf kX0_multiplyByStandard 25 = some (.getfield 25, 3) := by decide +kernel
theorem kX0_multiplyByStandard_28 : cdOf kX0_multiplyByStandard 28 = some (.iload_n 1, 1) := by decide +kernel
theorem kX0_multiplyByStandard_29 : cdOf kX0_multiplyByStandard 29 = some (.aaload, 1) := by decide +kernel
theorem kX0_multiplyByStandard_30 : cdOf kX0_multiplyByStandard 30 = some (.getfield 153, 3) := by decide +kernel
theorem kX0_multiplyByStandard_33 : cdOf kX0_multiplyByStandard 33 = some (.aload_n 0, 1) := by decide +kernel
theorem kX0_multiplyByStandard_34 : cdOf kX0_multiplyByStandard 34 = some (.getfield 54, 3) := by decide +kernel
theorem kX0_multiplyByStandard_37 : cdOf kX0_multiplyByStandard 37 = some (.invokevirtual 156, 3) := by decide +kernel
theorem kX0_multiplyByStandard_40 : cdOf kX0_multiplyByStandard 40 = some (.iconst 0, 1) := by decide +kernel
theorem kX0_multiplyByStandard_41 : cdOf kX0_multiplyByStandard 41 = some (.istore_n 2, 1) := by decide +kernel
theorem kX0_multiplyByStandard_42 : cdOf kX0_multiplyByStandard 42 = some (.iload_n 2, 1) := by decide +kernel
theorem kX0_multiplyByStandard_43 : cdOf kX0_multiplyByStandard 43 = some (.aload_n 0, 1) := by decide +kernel
theorem kX0_multiplyByStandard_44 : cdOf kX0_multiplyByStandard 44 = some (.getfield 17, 3) := by decide +kernel
theorem kX0_multiplyByStandard_47 : cdOf kX0_multiplyByStandard 47 = some (.if_icmp .ge 63, 3) := by decide +kernel
theorem kX0_multiplyByStandard_50 : cdOf kX0_multiplyByStandard 50 = some (.aload_n 0, 1) := by decide +kernel
theorem kX0_multiplyByStandard_51 : cdOf kX0_multiplyByStandard 51 = some (.aload_n 0, 1) := by decide +kernel
theorem kX0_multiplyByStandard_52 : cdOf kX0_multiplyByStandard 52 = some (.iload_n 1, 1) := by decide +kernel
theorem kX0_multiplyByStandard_53 : cdOf kX0_multiplyByStandard 53 = some (.invokevirtual 119, 3) := by decide +kernel
theorem kX0_multiplyByStandard_56 : cdOf kX0_multiplyByStandard 56 = some (.iload_n 2, 1) := by decide +kernel
theorem kX0_multiplyByStandard_57 : cdOf kX0_multiplyByStandard 57 = some (.invokevirtual 193, 3) := by decide +kernel
theorem kX0_multiplyByStandard_60 : cdOf kX0_multiplyByStandard 60 = some (.iconst 0, 1) := by decide +kernel
theorem kX0_multiplyByStandard_61 : cdOf kX0_multiplyByStandard 61 = some (.istore_n 3, 1) := by decide +kernel
theorem kX0_multiplyByStandard_62 : cdOf kX0_multiplyByStandard 62 = some (.iload_n 3, 1) := by decide +kernel
theorem kX0_multiplyByStandard_63 : cdOf kX0_multiplyByStandard 63 = some (.aload_n 0, 1) := by decide +kernel
theorem kX0_multiplyByStandard_64 : cdOf kX0_multiplyByStandard 64 = some (.getfield 17, 3) := by decide +kernel
theorem kX0_multiplyByStandard_67 : cdOf kX0_multiplyByStandard 67 = some (.if_icmp .ge 37, 3) := by decide +kernel
theorem kX0_multiplyByStandard_70 : cdOf kX0_multiplyByStandard 70 = some (.iload_n 3, 1) := by decide +kernel
theorem kX0_multiplyByStandard_71 : cdOf kX0_multiplyByStandard 71 = some (.iconst 4, 1) := by decide +kernel
theorem kX0_multiplyByStandard_72 : cdOf kX0_multiplyByStandard 72 = some (.if_icmp .ge 32, 3) := by decide +kernel
theorem kX0_multiplyByStandard_75 : cdOf kX0_multiplyByStandard 75 = some (.aload_n 0, 1) := by decide +kernel
theorem kX0_multiplyByStandard_76 : cdOf kX0_multiplyByStandard 76 = some (.getfield 25, 3) := by decide +kernel
theorem kX0_multiplyByStandard_79 : cdOf kX0_multiplyByStandard 79 = some (.iload_n 1, 1) := by decide +kernel
theorem kX0_multiplyByStandard_80 : cdOf kX0_multiplyByStandard 80 = some (.aaload, 1) := by decide +kernel
theorem kX0_multiplyByStandard_81 : cdOf kX0_multiplyByStandard 81 = some (.iload_n 3, 1) := by decide +kernel
theorem kX0_multiplyByStandard_82 : cdOf kX0_multiplyByStandard 82 = some (.iload_n 2, 1) := by decide +kernel
theorem kX0_multiplyByStandard_83 : cdOf kX0_multiplyByStandard 83 = some (.invokevirtual 160, 3) := by decide +kernel
theorem kX0_multiplyByStandard_86 : cdOf kX0_multiplyByStandard 86 = some (.aload_n 0, 1) := by decide +kernel
theorem kX0_multiplyByStandard_87 : cdOf kX0_multiplyByStandard 87 = some (.getfield 44, 3) := by decide +kernel
theorem kX0_multiplyByStandard_90 : cdOf kX0_multiplyByStandard 90 = some (.getfield 177, 3) := by decide +kernel
theorem kX0_multiplyByStandard_93 : cdOf kX0_multiplyByStandard 93 = some (.iload_n 3, 1) := by decide +kernel
theorem kX0_multiplyByStandard_94 : cdOf kX0_multiplyByStandard 94 = some (.aaload, 1) := by decide +kernel
theorem kX0_multiplyByStandard_95 : cdOf kX0_multiplyByStandard 95 = some (.invokevirtual 156, 3) := by decide +kernel
theorem kX0_multiplyByStandard_98 : cdOf kX0_multiplyByStandard 98 = some (.iinc 3 1, 3) := by decide +kernel
theorem kX0_multiplyByStandard_101 : cdOf kX0_multiplyByStandard 101 = some (.goto (-39), 3) := by decide +kernel
theorem kX0_multiplyByStandard_104 : cdOf kX0_multiplyByStandard 104 = some (.iinc 2 1, 3) := by decide +kernel
theorem kX0_multiplyByStandard_107 : cdOf kX0_multiplyByStandard 107 = some (.goto (-65), 3) := by decide +kernel
theorem kX0_multiplyByStandard_110 : cdOf kX0_multiplyByStandard 110 = some (.iinc 1 1, 3) := by decide +kernel
theorem kX0_multiplyByStandard_113 : cdOf kX0_multiplyByStandard 113 = some (.goto (-111), 3) := by decide +kernel
theorem kX0_multiplyByStandard_116 : cdOf kX0_multiplyByStandard 116 = some (.return_, 1) := by decide +kernel
set_option maxRecDepth 20000 in
theorem kX0_multiplyByStandard_ok : ∀ pc i len, cdOf kX0_multiplyByStandard pc = some (i, len) → decode cX0_multiplyByStandard pc = .ok (i, len) ∧ stOK 4 i = true ∧ jOK pc i = true ∧ eLen i len = true := cdOf_ok cX0_multiplyByStandard 4 kX0_multiplyByStandard (by decide +kernel)
def vtX0_multiplyByStandard : Nat → Option (Nat × eSp) := fun k => match k with
  | 150 => some (1, SX2_wipe)
  | 156 => some (2, SX8_copy)
  | 119 => some (2, SX0_place)
  | 193 => some (3, SX0_carry)
  | 160 => some (3, SX2_read)
  | _ => none
theorem vtX0_multiplyByStandard_150 : vtX0_multiplyByStandard 150 = some (1, SX2_wipe) := rfl
theorem vtX0_multiplyByStandard_156 : vtX0_multiplyByStandard 156 = some (2, SX8_copy) := rfl
theorem vtX0_multiplyByStandard_119 : vtX0_multiplyByStandard 119 = some (2, SX0_place) := rfl
theorem vtX0_multiplyByStandard_193 : vtX0_multiplyByStandard 193 = some (3, SX0_carry) := rfl
theorem vtX0_multiplyByStandard_160 : vtX0_multiplyByStandard 160 = some (3, SX2_read) := rfl
def stX0_multiplyByStandard : Nat → Option (Nat × eSp) := fun _ => none
abbrev TX0_multiplyByStandard : eT := (fl_RX0, cl_RX0, dl_RX0, vtX0_multiplyByStandard, stX0_multiplyByStandard)
set_option maxRecDepth 20000 in
theorem caX0_multiplyByStandard : eCalls RX0 { frames := 5, cells := 0, slots := 0, locals := 127 } TX0_multiplyByStandard := by
  refine ⟨fun k n sp h => ?_, fun k n sp h => ?_⟩
  · dsimp only [TX0_multiplyByStandard] at h
    unfold vtX0_multiplyByStandard at h
    split at h
    · cases h; exact eV_mk mX2_wipe wX2_wipe (by decide +kernel) (Or.inl (gW_at 633 (by decide +kernel) rfl))
    · cases h; exact eV_mk mX8_copy wX8_copy (by decide +kernel) (Or.inl (gW_at 637 (by decide +kernel) rfl))
    · cases h; exact eV_mk mX0_place wX0_place (by decide +kernel) (Or.inl (gW_at 610 (by decide +kernel) rfl))
    · cases h; exact eV_mk mX0_carry wX0_carry (by decide +kernel) (Or.inl (gW_at 651 (by decide +kernel) rfl))
    · cases h; exact eV_mk mX2_read wX2_read (by decide +kernel) (Or.inl (gW_at 638 (by decide +kernel) rfl))
    · cases h
  · cases h
set_option maxRecDepth 100000 in
set_option maxHeartbeats 4000000 in
theorem sX0_multiplyByStandard : eSafe TX0_multiplyByStandard (cdOf kX0_multiplyByStandard) 4 none SX0_multiplyByStandard := by
  intro K rt hK as M h
  obtain ⟨F, A, W, V, w, u, n, m, rfl, rfl, hV, hn, n4, hst, hb, h⟩ := h
  refine ⟨by simp [eE], ?_⟩
  obtain ⟨e14, l14, e15, l15⟩ := rb_14
  have inner : ∀ (k q j : Nat) (Vk : Nat → Int) (w : Nat → Int), k < n → j < n → (∀ (W1 : Nat → Int → Int) (u3 : Option eV), aR W1 (wu2 (msX Vk V n q (3 + k) (j + 1) 0) w (cyF V n q j)) → K 42 [some (eR (1, 4)), some (eI k), some (eI ((j + 1 : Nat) : Int)), u3] [] (cC F A W1)) →
      ∀ (d i : Nat) (W1 : Nat → Int → Int), i + d = n → aR W1 (wu2 (msX Vk V n q (3 + k) j i) w (cyF V n q j)) → K 62 [some (eR (1, 4)), some (eI k), some (eI j), some (eI i)] [] (cC F A W1) := by
    intro k q j Vk w hk hj cont d
    have gl : gb (3 + k) = 141 + 17 * (3 + k) := rfl
    induction d with
    | zero =>
      intro i W1 hi ha
      have : i = n := by omega
      subst this
      refine x_iload_n hK kX0_multiplyByStandard_62 (q := 63) rfl rfl ?_
      refine x_aload_n hK kX0_multiplyByStandard_63 (q := 64) rfl rfl ?_
      refine x_getfield hK kX0_multiplyByStandard_64 (q := 67) rfl (gX0_17 ?_)
      rw [hn]
      refine x_icmp_ge hK kX0_multiplyByStandard_67 (q := 70) rfl (tg := 104) rfl (by refine ⟨?_, ?_⟩ <;> omega) (fun c67 => ?_) (fun c67 => ?_)
      · refine x_iinc hK kX0_multiplyByStandard_104 (q := 107) rfl rfl ?_
        simp only [lS, lS2, clr_0, clr_I, clr_L, clr_R]
        refine x_goto hK kX0_multiplyByStandard_107 (tg := 42) rfl ?_
        rw [show (j : Int) + 1 = ((j + 1 : Nat) : Int) by omega]
        refine cont W1 _ (aR_c ha (fun t _ _ => wu2_c (fun _ => ?_)))
        unfold msX vU vG8
        by_cases a : t = gb (3 + k) + 16
        · rw [if_pos a, if_pos a]
        · rw [if_neg a, if_neg a]
          by_cases b : gb (3 + k) ≤ t ∧ t < gb (3 + k) + 16
          · rw [if_pos b, if_pos b]
            unfold msP
            by_cases g : (t - gb (3 + k)) / 4 < i ∧ ((t - gb (3 + k)) % 4 < j ∨ (t - gb (3 + k)) % 4 = j)
            · rw [if_pos (by omega), if_pos (by omega)]
            · rw [if_neg (by omega), if_neg (by omega)]
          · rw [if_neg b, if_neg b]
      · exfalso; omega
    | succ d ih =>
      intro i W1 hi ha
      refine x_iload_n hK kX0_multiplyByStandard_62 (q := 63) rfl rfl ?_
      refine x_aload_n hK kX0_multiplyByStandard_63 (q := 64) rfl rfl ?_
      refine x_getfield hK kX0_multiplyByStandard_64 (q := 67) rfl (gX0_17 ?_)
      rw [hn]
      refine x_icmp_ge hK kX0_multiplyByStandard_67 (q := 70) rfl (tg := 104) rfl (by refine ⟨?_, ?_⟩ <;> omega) (fun c67 => ?_) (fun c67 => ?_)
      · exfalso; omega
      · refine x_iload_n hK kX0_multiplyByStandard_70 (q := 71) rfl rfl ?_
        refine x_iconst hK kX0_multiplyByStandard_71 (q := 72) rfl ?_
        refine x_icmp_ge hK kX0_multiplyByStandard_72 (q := 75) rfl (tg := 104) rfl (by refine ⟨?_, ?_⟩ <;> omega) (fun c72 => ?_) (fun c72 => ?_)
        · exfalso; omega
        · refine x_aload_n hK kX0_multiplyByStandard_75 (q := 76) rfl rfl ?_
          refine x_getfield hK kX0_multiplyByStandard_76 (q := 79) rfl (gX0_25 ?_)
          refine x_iload_n hK kX0_multiplyByStandard_79 (q := 80) rfl rfl ?_
          refine x_aaload hK kX0_multiplyByStandard_80 (q := 81) rfl (aC0_5 (by omega) ?_)
          refine x_iload_n hK kX0_multiplyByStandard_81 (q := 82) rfl rfl ?_
          refine x_iload_n hK kX0_multiplyByStandard_82 (q := 83) rfl rfl ?_
          refine x_cv3 hK kX0_multiplyByStandard_83 (q := 86) rfl (vtX0_multiplyByStandard_160) (Nat.le_of_ble_eq_true rfl) ?_
          refine SX2_read_i (g := 3 + k) (i := i) (j := j) (by omega) (by omega) (by omega) ?_
          refine x_aload_n hK kX0_multiplyByStandard_86 (q := 87) rfl rfl ?_
          refine x_getfield hK kX0_multiplyByStandard_87 (q := 90) rfl (gX0_44 ?_)
          refine x_getfield hK kX0_multiplyByStandard_90 (q := 93) rfl (gX0_177 ?_)
          refine x_iload_n hK kX0_multiplyByStandard_93 (q := 94) rfl rfl ?_
          refine x_aaload hK kX0_multiplyByStandard_94 (q := 95) rfl (wa_a wa_6 (by rw [l15]; omega) ?_)
          refine x_cv2 hK kX0_multiplyByStandard_95 (q := 98) rfl (vtX0_multiplyByStandard_156) (Nat.le_of_ble_eq_true rfl) ?_
          refine copy_a (k := gb (3 + k) + (4 * i + j)) (j := rb 15 + i) ha (by omega) (by omega) (by omega) (by omega) (by omega) (fun W2 h2 => ?_)
          rw [wu2_u _ _ _ (by omega)] at h2
          refine x_iinc hK kX0_multiplyByStandard_98 (q := 101) rfl rfl ?_
          simp only [lS, lS2, clr_0, clr_I, clr_L, clr_R]
          refine x_goto hK kX0_multiplyByStandard_101 (tg := 62) rfl ?_
          rw [show (i : Int) + 1 = ((i + 1 : Nat) : Int) by omega]
          refine ih (i + 1) W2 (by omega) (aR_c h2 (fun t _ _ => ?_))
          rw [← wu2_k (by omega)]
          refine wu2_c (fun _ => ?_)
          unfold msX vU vG8
          by_cases a : t = gb (3 + k) + 16
          · rw [if_pos a, if_neg (by omega), if_pos a]
          · rw [if_neg a]
            by_cases b : t = gb (3 + k) + (4 * i + j)
            · rw [if_pos b, if_pos (by omega)]
              unfold msP
              rw [show t - gb (3 + k) = 4 * i + j by omega, if_pos (by omega), show (4 * i + j) % 4 = j by omega, show (4 * i + j) / 4 = i by omega]
            · rw [if_neg b, if_neg a]
              by_cases c : gb (3 + k) ≤ t ∧ t < gb (3 + k) + 16
              · rw [if_pos c, if_pos c]
                unfold msP
                by_cases g : (t - gb (3 + k)) / 4 < n ∧ ((t - gb (3 + k)) % 4 < j ∨ ((t - gb (3 + k)) % 4 = j ∧ (t - gb (3 + k)) / 4 < i))
                · rw [if_pos (by omega), if_pos g]
                · rw [if_neg (by omega), if_neg g]
              · rw [if_neg c, if_neg c]
  have mid : ∀ (k q : Nat) (Vk : Nat → Int), k < n → A 4 k = q → (∀ t, (t < gb 3 ∨ gb 7 ≤ t) → Vk t = V t) → (∀ (W1 : Nat → Int → Int) (u2 u3 : Option eV) (w u : Nat → Int), aR W1 (wu2 (msX Vk V n q (3 + k) n 0) w u) → K 2 [some (eR (1, 4)), some (eI ((k + 1 : Nat) : Int)), u2, u3] [] (cC F A W1)) →
      ∀ (d j : Nat) (W1 : Nat → Int → Int) (u3 : Option eV) (w u : Nat → Int), j + d = n → aR W1 (wu2 (msX Vk V n q (3 + k) j 0) w u) → K 42 [some (eR (1, 4)), some (eI k), some (eI j), u3] [] (cC F A W1) := by
    intro k q Vk hk hq hVk cont d
    have gl : gb (3 + k) = 141 + 17 * (3 + k) ∧ gb 3 = 192 ∧ gb 7 = 260 := ⟨rfl, rfl, rfl⟩
    induction d with
    | zero =>
      intro j W1 u3 w u hj ha
      have : j = n := by omega
      subst this
      refine x_iload_n hK kX0_multiplyByStandard_42 (q := 43) rfl rfl ?_
      refine x_aload_n hK kX0_multiplyByStandard_43 (q := 44) rfl rfl ?_
      refine x_getfield hK kX0_multiplyByStandard_44 (q := 47) rfl (gX0_17 ?_)
      rw [hn]
      refine x_icmp_ge hK kX0_multiplyByStandard_47 (q := 50) rfl (tg := 110) rfl (by refine ⟨?_, ?_⟩ <;> omega) (fun c47 => ?_) (fun c47 => ?_)
      · refine x_iinc hK kX0_multiplyByStandard_110 (q := 113) rfl rfl ?_
        simp only [lS, lS2, clr_0, clr_I, clr_L, clr_R]
        refine x_goto hK kX0_multiplyByStandard_113 (tg := 2) rfl ?_
        rw [show (k : Int) + 1 = ((k + 1 : Nat) : Int) by omega]
        exact cont W1 _ _ w u ha
      · exfalso; omega
    | succ d ih =>
      intro j W1 u3 w u hj ha
      have sk := hst k hk
      have e : plI (A 4) (F 5) k = q := by unfold plI; rw [if_pos ⟨by omega, by omega, by omega⟩]; exact hq
      refine x_iload_n hK kX0_multiplyByStandard_42 (q := 43) rfl rfl ?_
      refine x_aload_n hK kX0_multiplyByStandard_43 (q := 44) rfl rfl ?_
      refine x_getfield hK kX0_multiplyByStandard_44 (q := 47) rfl (gX0_17 ?_)
      rw [hn]
      refine x_icmp_ge hK kX0_multiplyByStandard_47 (q := 50) rfl (tg := 110) rfl (by refine ⟨?_, ?_⟩ <;> omega) (fun c47 => ?_) (fun c47 => ?_)
      · exfalso; omega
      · refine x_aload_n hK kX0_multiplyByStandard_50 (q := 51) rfl rfl ?_
        refine x_aload_n hK kX0_multiplyByStandard_51 (q := 52) rfl rfl ?_
        refine x_iload_n hK kX0_multiplyByStandard_52 (q := 53) rfl rfl ?_
        refine x_cv2 hK kX0_multiplyByStandard_53 (q := 56) rfl (vtX0_multiplyByStandard_119) (Nat.le_of_ble_eq_true rfl) ?_
        refine SX0_place_i ⟨by omega, by omega⟩ ⟨by omega, by omega⟩ ?_
        rw [e]
        refine x_iload_n hK kX0_multiplyByStandard_56 (q := 57) rfl rfl ?_
        refine x_cv3 hK kX0_multiplyByStandard_57 (q := 60) rfl (vtX0_multiplyByStandard_193) (Nat.le_of_ble_eq_true rfl) ?_
        refine carry_v (q := q) (B := V) ha hn n4 (by omega) (by omega) hb (fun t ht _ => by rw [msX_o (by omega), hVk t (by omega)]) (fun w' W2 h2 => ?_)
        refine x_iconst hK kX0_multiplyByStandard_60 (q := 61) rfl ?_
        refine x_istore_n hK kX0_multiplyByStandard_61 (q := 62) (jn := 3) rfl rfl ?_
        simp only [lS, lS2, clr_0, clr_I, clr_L, clr_R]
        exact inner k q j Vk w' hk (by omega) (fun W3 u3 h3 => ih (j + 1) W3 u3 w' _ (by omega) h3) n 0 W2 (by omega) h2
  have outer : ∀ (d k : Nat) (W1 : Nat → Int → Int) (u2 u3 : Option eV) (w u : Nat → Int), k + d = n → aR W1 (wu2 (msF V (A 4) n k) w u) → K 2 [some (eR (1, 4)), some (eI k), u2, u3] [] (cC F A W1) := by
    intro d
    induction d with
    | zero =>
      intro k W1 u2 u3 w u hk ha
      have : k = n := by omega
      subst this
      refine x_iload_n hK kX0_multiplyByStandard_2 (q := 3) rfl rfl ?_
      refine x_aload_n hK kX0_multiplyByStandard_3 (q := 4) rfl rfl ?_
      refine x_getfield hK kX0_multiplyByStandard_4 (q := 7) rfl (gX0_17 ?_)
      rw [hn]
      refine x_icmp_ge hK kX0_multiplyByStandard_7 (q := 10) rfl (tg := 116) rfl (by refine ⟨?_, ?_⟩ <;> omega) (fun c7 => ?_) (fun c7 => ?_)
      · refine x_return_ hK kX0_multiplyByStandard_116 (by first | trivial | exact Or.inl rfl | exact Or.inr rfl) ?_
        exact h w u W1 ha
      · exfalso; omega
    | succ d ih =>
      intro k W1 u2 u3 w u hk ha
      have sk := hst k (by omega)
      obtain ⟨q, hq⟩ : ∃ q : Nat, A 4 k = q := ⟨(A 4 k).toNat, by omega⟩
      have gl : gb (3 + k) = 141 + 17 * (3 + k) ∧ gb 3 = 192 ∧ gb 7 = 260 := ⟨rfl, rfl, rfl⟩
      have mo := fun t ht => msF_o (B := V) (st := A 4) (n := n) (t := t) ht k (by omega)
      have nx : ∀ (W1 : Nat → Int → Int) (u2 u3 : Option eV) (w u : Nat → Int), aR W1 (wu2 (msX (msF V (A 4) n k) V n q (3 + k) n 0) w u) → K 2 [some (eR (1, 4)), some (eI ((k + 1 : Nat) : Int)), u2, u3] [] (cC F A W1) := fun W1 u2 u3 w u h1 => ih (k + 1) W1 u2 u3 w u (by omega) (by
        unfold msF
        rw [hq]
        exact h1)
      refine x_iload_n hK kX0_multiplyByStandard_2 (q := 3) rfl rfl ?_
      refine x_aload_n hK kX0_multiplyByStandard_3 (q := 4) rfl rfl ?_
      refine x_getfield hK kX0_multiplyByStandard_4 (q := 7) rfl (gX0_17 ?_)
      rw [hn]
      refine x_icmp_ge hK kX0_multiplyByStandard_7 (q := 10) rfl (tg := 116) rfl (by refine ⟨?_, ?_⟩ <;> omega) (fun c7 => ?_) (fun c7 => ?_)
      · exfalso; omega
      · refine x_iload_n hK kX0_multiplyByStandard_10 (q := 11) rfl rfl ?_
        refine x_iconst hK kX0_multiplyByStandard_11 (q := 12) rfl ?_
        refine x_icmp_ge hK kX0_multiplyByStandard_12 (q := 15) rfl (tg := 116) rfl (by refine ⟨?_, ?_⟩ <;> omega) (fun c12 => ?_) (fun c12 => ?_)
        · exfalso; omega
        · refine x_aload_n hK kX0_multiplyByStandard_15 (q := 16) rfl rfl ?_
          refine x_getfield hK kX0_multiplyByStandard_16 (q := 19) rfl (gX0_25 ?_)
          refine x_iload_n hK kX0_multiplyByStandard_19 (q := 20) rfl rfl ?_
          refine x_aaload hK kX0_multiplyByStandard_20 (q := 21) rfl (aC0_5 (by omega) ?_)
          refine x_cv1 hK kX0_multiplyByStandard_21 (q := 24) rfl (vtX0_multiplyByStandard_150) (Nat.le_of_ble_eq_true rfl) ?_
          refine gwipe_a (g := 3 + k) ha (by omega) (fun W2 h2 => ?_)
          refine x_aload_n hK kX0_multiplyByStandard_24 (q := 25) rfl rfl ?_
          refine x_getfield hK kX0_multiplyByStandard_25 (q := 28) rfl (gX0_25 ?_)
          refine x_iload_n hK kX0_multiplyByStandard_28 (q := 29) rfl rfl ?_
          refine x_aaload hK kX0_multiplyByStandard_29 (q := 30) rfl (aC0_5 (by omega) ?_)
          refine x_getfield hK kX0_multiplyByStandard_30 (q := 33) rfl (gX0_153 ?_)
          refine x_aload_n hK kX0_multiplyByStandard_33 (q := 34) rfl rfl ?_
          refine x_getfield hK kX0_multiplyByStandard_34 (q := 37) rfl (gX0_54 ?_)
          refine x_cv2 hK kX0_multiplyByStandard_37 (q := 40) rfl (vtX0_multiplyByStandard_156) (Nat.le_of_ble_eq_true rfl) ?_
          refine copy_a h2 (by omega) (by omega) (by decide) (by decide) (by omega) (fun W3 h3 => ?_)
          rw [vG8_o _ _ (by omega), wu2_o _ _ _ (by omega), mo _ (by omega)] at h3
          refine x_iconst hK kX0_multiplyByStandard_40 (q := 41) rfl ?_
          refine x_istore_n hK kX0_multiplyByStandard_41 (q := 42) (jn := 2) rfl rfl ?_
          simp only [lS, lS2, clr_0, clr_I, clr_L, clr_R]
          refine mid k q (msF V (A 4) n k) (by omega) hq mo nx n 0 W3 _ w u (by omega) (aR_c h3 (fun t _ _ => ?_))
          unfold vU
          by_cases a : t = gb (3 + k) + 16
          · rw [if_pos a, wu2_o _ _ _ (by omega)]
            unfold msX vU
            rw [if_pos a]
          · rw [if_neg a]
            by_cases b : gb (3 + k) ≤ t ∧ t < gb (3 + k) + 16
            · rw [vG8_v (wu2 (msF V (A 4) n k) w u) _ b, wu2_o _ _ _ (by omega)]
              unfold msX vU vG8
              rw [if_neg a, if_pos b]
              unfold msP
              rw [if_neg (by omega)]
            · rw [vG8_o (wu2 (msF V (A 4) n k) w u) _ (by omega)]
              refine wu2_c (fun _ => ?_)
              rw [msX_o (by omega)]
  simp only [eLoc, eE, List.length_cons, List.length_nil, List.replicate, List.cons_append, List.nil_append, Nat.reduceAdd, Nat.reduceSub]
  refine x_iconst hK kX0_multiplyByStandard_0 (q := 1) rfl ?_
  refine x_istore_n hK kX0_multiplyByStandard_1 (q := 2) (jn := 1) rfl rfl ?_
  simp only [lS, lS2, clr_0, clr_I, clr_L, clr_R]
  exact outer n 0 W _ _ w u (by omega) hV
set_option maxRecDepth 20000 in
theorem mX0_multiplyByStandard : eMet yX0_multiplyByStandard cX0_multiplyByStandard 4 none 5 127 SX0_multiplyByStandard := eMet_of (by decide +kernel) sX0_multiplyByStandard kX0_multiplyByStandard_ok caX0_multiplyByStandard tb_RX0
theorem wX0_multiplyByStandard : eWV yX0_multiplyByStandard cX0_multiplyByStandard 4 none 1 0 SX0_multiplyByStandard := ⟨(gW_at 650 (by decide +kernel) rfl), (gW_at 86 (by decide +kernel) rfl), (gW_at 649 (by decide +kernel) rfl), ⟨_, rfl, (gW_at 21 (by decide +kernel) rfl)⟩, by decide +kernel, SX0_multiplyByStandard_r⟩
