/-! close. -/
theorem uF_g (F : Nat → Int) (k : Nat) (z : Int) : uF F k z k = z := by unfold uF; exact if_pos rfl
theorem uF_n (F : Nat → Int) {k j : Nat} (z : Int) (h : j ≠ k) : uF F k z j = F j := by unfold uF; exact if_neg h
def sE (A A' : Nat → Int → Int) : Prop := ∀ k, 4 ≤ k → k ≠ 15 → k ≠ 16 → A' k = A k
theorem sE_h {A A' : Nat → Int → Int} (h : sH A A') : sE A A' := fun k hk h2 _ => h k hk h2
theorem sE_tr {A B C : Nat → Int → Int} (h : sE A B) (h2 : sE B C) : sE A C := fun k hk hn hm => (h2 k hk hn hm).trans (h k hk hn hm)
theorem sE_u {A : Nat → Int → Int} (f : Int → Int) : sE A (uA A 16 f) := fun k _ _ hm => uA_n _ _ hm
theorem sE_n {A A' : Nat → Int → Int} (h : sN A A') : sE A A' := fun k hk _ _ => h k hk
def iLb (hs : Int → Int) (n l : Nat) : Bool := decide (hs l = 1) && (List.range n).all (fun k => !(decide (k ≠ l ∧ hs k = 1 ∧ mX k ≤ mX l ∧ mY k ≤ mY l)))
theorem iLb_iff (hs : Int → Int) (n l : Nat) : iLb hs n l = true ↔ iL hs n l := by
  unfold iLb iL
  simp only [Bool.and_eq_true, decide_eq_true_eq, List.all_eq_true, List.mem_range, Bool.not_eq_true', decide_eq_false_iff_not]
  constructor
  · rintro ⟨h1, h2⟩
    refine ⟨h1, fun k k0 k1 k2 k3 k4 => ?_⟩
    have := h2 k.toNat (by omega)
    rw [show ((k.toNat : Nat) : Int) = k by omega] at this
    exact this ⟨by omega, k3, k4⟩
  · rintro ⟨h1, h2⟩
    exact ⟨h1, fun k hk g => h2 k (by omega) (by omega) (by omega) g.2.1 g.2.2⟩
/-- the least leads, laid down in order -/
def fE (hs : Int → Int) (n : Nat) (f : Int → Int) : Nat → (Int → Int) × Nat
  | 0 => (f, 0)
  | l + 1 => if iLb hs n l then (uI (fE hs n f l).1 (fE hs n f l).2 l, (fE hs n f l).2 + 1) else fE hs n f l
theorem fE_le (hs : Int → Int) (n : Nat) (f : Int → Int) : ∀ l, (fE hs n f l).2 ≤ l
  | 0 => Nat.le_refl _
  | l + 1 => by
    have := fE_le hs n f l
    unfold fE
    split
    · show (fE hs n f l).2 + 1 ≤ l + 1
      omega
    · omega
theorem fE_b (hs : Int → Int) (n : Nat) (f : Int → Int) : ∀ l (i : Nat), i < (fE hs n f l).2 → 0 ≤ (fE hs n f l).1 i ∧ (fE hs n f l).1 i < l
  | 0, i, h => absurd h (by unfold fE; exact Nat.not_lt_zero _)
  | l + 1, i, h => by
    unfold fE at h ⊢
    split at h
    · rename_i hc
      rw [if_pos hc]
      have h2 : i < (fE hs n f l).2 + 1 := h
      show 0 ≤ uI _ _ _ (i : Int) ∧ uI _ _ _ (i : Int) < _
      rcases Nat.lt_or_ge i (fE hs n f l).2 with g | g
      · rw [uI_n _ _ (by omega)]
        have := fE_b hs n f l i g
        omega
      · rw [show (i : Int) = ((fE hs n f l).2 : Int) by omega, uI_s]
        omega
    · rename_i hc
      rw [if_neg hc]
      have := fE_b hs n f l i h
      omega
/-- six numbers laid on the row at hand -/
def lW (s : Int → Int) (f : Int → Int) (o : Int) : Nat → (Int → Int)
  | 0 => cw s 45
  | k + 1 => uI (lW s f o k) (2025 + k) (f (o + k))
def hC (h : Int → Int) (n : Int) : Int → Int := fun j => if 0 ≤ j ∧ j < n then 0 else h j
/-- the system's rows -/
def sL (n : Nat) (sy hs s : Int → Int) : Nat → (Int → Int) × (Int → Int)
  | 0 => (hs, s)
  | p + 1 => ((en (sL n sy hs s p).1 (lW (sL n sy hs s p).2 sy (6 * p) 6) n).1, (en (sL n sy hs s p).1 (lW (sL n sy hs s p).2 sy (6 * p) 6) n).2.1)
def sLB (n : Nat) (sy hs s : Int → Int) : Nat → Prop
  | 0 => True
  | p + 1 => sLB n sy hs s p ∧ enB (sL n sy hs s p).1 (lW (sL n sy hs s p).2 sy (6 * p) 6) n
set_option maxRecDepth 100000 in
set_option maxHeartbeats 4000000 in
theorem sL_b {n : Nat} {sy hs s : Int → Int} (h : ∀ k, hs k = 0 ∨ hs k = 1) : ∀ p k, (sL n sy hs s p).1 k = 0 ∨ (sL n sy hs s p).1 k = 1
  | 0 => h
  | p + 1 => (en_b (sL n sy hs s p).1 _ n).2 (sL_b h p)
/-- grows, until nothing grows -/
def gWr (n : Nat) (g : Int) : Nat → (Int → Int) × (Int → Int) → (Int → Int) × (Int → Int)
  | 0, z => z
  | m + 1, z => if (gR0 n g z.1 z.2).2.2 = 0 then ((gR0 n g z.1 z.2).1, (gR0 n g z.1 z.2).2.1) else gWr n g m ((gR0 n g z.1 z.2).1, (gR0 n g z.1 z.2).2.1)
def gWB (n : Nat) (g : Int) : Nat → (Int → Int) × (Int → Int) → Prop
  | 0, _ => False
  | m + 1, z => gAlB n g n 0 (z.1, z.2, 0) ∧ ((gR0 n g z.1 z.2).2.2 = 0 ∨ gWB n g m ((gR0 n g z.1 z.2).1, (gR0 n g z.1 z.2).2.1))
theorem gAl_ok {n : Nat} {g : Int} : ∀ (d l : Nat) (z : (Int → Int) × (Int → Int) × Int), gOk z → gOk (gAl n g d l z)
  | 0, _, _, h => h
  | d + 1, l, z, h => by
    refine gAl_ok d (l + 1) _ ?_
    unfold gLs
    split
    · exact h
    · exact gOk_1 (gOk_1 h)
theorem gR0_ok {n : Nat} {g : Int} {hs s : Int → Int} (h : ∀ k, hs k = 0 ∨ hs k = 1) : gOk (gR0 n g hs s) := gAl_ok n 0 _ ⟨Or.inl rfl, h⟩
def cFk (F F' : Nat → Int) : Prop := ∀ j, j ≠ 13 → j ≠ 14 → j ≠ 17 → F' j = F j
/-- what close leaves, worked at degree 4 -/
def cZ0 (F : Nat → Int) (A : Nat → Int → Int) (s : Int → Int) (P : Nat) : (Int → Int) × (Int → Int) := sL 15 (A 4) (hC (A 15) 45) s P
def cZ1 (F : Nat → Int) (A : Nat → Int → Int) (s : Int → Int) (P m : Nat) : (Int → Int) × (Int → Int) := gWr 15 4 m (cZ0 F A s P)
def cE1 (F : Nat → Int) (A : Nat → Int → Int) (s : Int → Int) (P m : Nat) : (Int → Int) × Nat := fE (cZ1 F A s P m).1 15 (A 16) 15
def SX10_close : eSp := fun as M rt => ∃ (F : Nat → Int) (A : Nat → Int → Int) (s : Int → Int) (P m : Nat), as = [eRR] ∧ M = cR F A ∧ rn (A 0) s ∧ F 6 = P ∧ P ≤ 4 ∧ (∀ k, A 15 k = 0 ∨ A 15 k = 1) ∧ (∀ k : Nat, k < 24 → w32 (A 4 k)) ∧ sLB 15 (A 4) (hC (A 15) 45) s P ∧ gWB 15 4 m (cZ0 F A s P) ∧ eNo (cE1 F A s P m).1 (cE1 F A s P m).2 4 ∧
  ∀ F' A', cFk F F' → F' 13 = 4 → F' 14 = 15 → F' 17 = (cE1 F A s P m).2 → sE A A' → A' 15 = (cZ1 F A s P m).1 → A' 16 = (cE1 F A s P m).1 → rn (A' 0) (cZ1 F A s P m).2 → rt none (cR F' A')
theorem SX10_close_i {F : Nat → Int} {A : Nat → Int → Int} {s : Int → Int} {P : Nat} (m : Nat) {rt : Option eV → eM → Prop} (hr : rn (A 0) s) (h0 : F 6 = P) (h1 : P ≤ 4) (h2 : ∀ k, A 15 k = 0 ∨ A 15 k = 1) (h3 : ∀ k : Nat, k < 24 → w32 (A 4 k)) (h4 : sLB 15 (A 4) (hC (A 15) 45) s P) (h5 : gWB 15 4 m (cZ0 F A s P)) (h6 : eNo (cE1 F A s P m).1 (cE1 F A s P m).2 4)
  (h : ∀ F' A', cFk F F' → F' 13 = 4 → F' 14 = 15 → F' 17 = (cE1 F A s P m).2 → sE A A' → A' 15 = (cZ1 F A s P m).1 → A' 16 = (cE1 F A s P m).1 → rn (A' 0) (cZ1 F A s P m).2 → rt none (cR F' A')) : SX10_close [eRR] (cR F A) rt := ⟨F, A, s, P, m, rfl, rfl, hr, h0, h1, h2, h3, h4, h5, h6, h⟩
theorem SX10_close_r : ∀ as M rt, SX10_close as M rt → ∃ a r fs, as = eR a :: r ∧ M a = some (.inl (9, fs)) := by
  rintro as M rt ⟨F, A, s, P, m, rfl, rfl, -⟩
  exact ⟨_, _, _, rfl, rfl⟩
def kX10_close : List (Nat × Jvm.ClassFile.Instr × Nat) := [(0, .aload_n 0, 1), (1, .iconst 3, 1), (2, .putfield 179, 3), (5, .iconst 0, 1), (6, .istore_n 1, 1), (7, .iload_n 1, 1), (8, .ifCond .ne 193, 3), (11, .aload_n 0, 1), (12, .getfield 179, 3), (15, .bipush 8, 2), (17, .if_icmp .ge 184, 3), (20, .aload_n 0, 1), (21, .dup, 1), (22, .getfield 179, 3), (25, .iconst 1, 1), (26, .iadd, 1), (27, .putfield 179, 3), (30, .aload_n 0, 1), (31, .aload_n 0, 1), (32, .getfield 179, 3), (35, .iconst 1, 1), (36, .iadd, 1), (37, .aload_n 0, 1), (38, .getfield 179, 3), (41, .iconst 2, 1), (42, .iadd, 1), (43, .imul, 1), (44, .iconst 2, 1), (45, .idiv, 1), (46, .putfield 167, 3), (49, .iconst 0, 1), (50, .istore_n 2, 1), (51, .iload_n 2, 1), (52, .bipush 45, 2), (54, .if_icmp .ge 16, 3), (57, .aload_n 0, 1), (58, .getfield 45, 3), (61, .iload_n 2, 1), (62, .iconst 0, 1), (63, .bastore, 1), (64, .iinc 2 1, 3), (67, .goto (-16), 3), (70, .iconst 0, 1), (71, .istore_n 2, 1), (72, .iload_n 2, 1), (73, .aload_n 0, 1), (74, .getfield 199, 3), (77, .if_icmp .ge 53, 3), (80, .aload_n 0, 1), (81, .invokevirtual 182, 3), (84, .iconst 0, 1), (85, .istore_n 3, 1), (86, .iload_n 3, 1), (87, .bipush 6, 2), (89, .if_icmp .ge 30, 3), (92, .aload_n 0, 1), (93, .sipush 2025, 3), (96, .iload_n 3, 1), (97, .iadd, 1), (98, .aload_n 0, 1), (99, .getfield 26, 3), (102, .bipush 6, 2), (104, .iload_n 2, 1), (105, .imul, 1), (106, .iload_n 3, 1), (107, .iadd, 1), (108, .iaload, 1), (109, .i2l, 1), (110, .invokevirtual 132, 3), (113, .iinc 3 1, 3), (116, .goto (-30), 3), (119, .aload_n 0, 1), (120, .invokevirtual 188, 3), (123, .pop, 1), (124, .iinc 2 1, 3), (127, .goto (-55), 3), (130, .iconst 1, 1), (131, .istore_n 2, 1), (132, .iload_n 2, 1), (133, .ifCond .eq 11, 3), (136, .aload_n 0, 1), (137, .invokevirtual 202, 3), (140, .istore_n 2, 1), (141, .goto (-9), 3), (144, .aload_n 0, 1), (145, .iconst 0, 1), (146, .putfield 196, 3), (149, .iconst 0, 1), (150, .istore_n 3, 1), (151, .iload_n 3, 1), (152, .aload_n 0, 1), (153, .getfield 167, 3), (156, .if_icmp .ge 37, 3), (159, .aload_n 0, 1), (160, .iload_n 3, 1), (161, .invokevirtual 205, 3), (164, .ifCond .eq 23, 3), (167, .aload_n 0, 1), (168, .getfield 49, 3), (171, .aload_n 0, 1), (172, .getfield 196, 3), (175, .iload_n 3, 1), (176, .iastore, 1), (177, .aload_n 0, 1), (178, .dup, 1), (179, .getfield 196, 3), (182, .iconst 1, 1), (183, .iadd, 1), (184, .putfield 196, 3), (187, .iinc 3 1, 3), (190, .goto (-39), 3), (193, .aload_n 0, 1), (194, .invokevirtual 208, 3), (197, .istore_n 1, 1), (198, .goto (-191), 3), (201, .return_, 1)]
theorem kX10_close_0 : cdOf kX10_close 0 = some (.aload_n 0, 1) := by decide +kernel
theorem kX10_close_1 : cdOf kX10_close 1 = some (.iconst 3, 1) := by decide +kernel
theorem kX10_close_2 : cdOf kX10_close 2 = some (.putfield 179, 3) := by decide +kernel
theorem kX10_close_5 : cdOf kX10_close 5 = some (.iconst 0, 1) := by decide +kernel
theorem kX10_close_6 : cdOf kX10_close 6 = some (.istore_n 1, 1) := by decide +kernel
theorem kX10_close_7 : cdOf kX10_close 7 = some (.iload_n 1, 1) := by decide +kernel
theorem kX10_close_8 : cdOf kX10_close 8 = some (.ifCond .ne 193, 3) := by decide +kernel
theorem kX10_close_11 : cdOf kX10_close 11 = some (.aload_n 0, 1) := by decide +kernel
theorem kX10_close_12 : cdOf kX10_close 12 = some (.getfield 179, 3) := by decide +kernel
theorem kX10_close_15 : cdOf kX10_close 15 = some (.bipush 8, 2) := by decide +kernel
theorem kX10_close_17 : cdOf kX10_close 17 = some (.if_icmp .ge 184, 3) := by decide +kernel
theorem kX10_close_20 : cdOf kX10_close 20 = some (.aload_n 0, 1) := by decide +kernel
theorem kX10_close_21 : cdOf kX10_close 21 = some (.dup, 1) := by decide +kernel
theorem kX10_close_22 : cdOf kX10_close 22 = some (.getfield 179, 3) := by decide +kernel
theorem kX10_close_25 : cdOf kX10_close 25 = some (.iconst 1, 1) := by decide +kernel
theorem kX10_close_26 : cdOf kX10_close 26 = some (.iadd, 1) := by decide +kernel
theorem kX10_close_27 : cdOf kX10_close 27 = some (.putfield 179, 3) := by decide +kernel
theorem kX10_close_30 : cdOf kX10_close 30 = some (.aload_n 0, 1) := by decide +kernel
theorem kX10_close_31 : cdOf kX10_close 31 = some (.aload_n 0, 1) := by decide +kernel
theorem kX10_close_32 : cdOf kX10_close 32 = some (.getfield 179, 3) := by decide +kernel
theorem kX10_close_35 : cdOf kX10_close 35 = some (.iconst 1, 1) := by decide +kernel
theorem kX10_close_36 : cdOf kX10_close 36 = some (.iadd, 1) := by decide +kernel
theorem kX10_close_37 : cdOf kX10_close 37 = some (.aload_n 0, 1) := by decide +kernel
theorem kX10_close_38 : cdOf kX10_close 38 = some (.getfield 179, 3) := by decide +kernel
theorem kX10_close_41 : cdOf kX10_close 41 = some (.iconst 2, 1) := by decide +kernel
theorem kX10_close_42 : cdOf kX10_close 42 = some (.iadd, 1) := by decide +kernel
theorem kX10_close_43 : cdOf kX10_close 43 = some (.imul, 1) := by decide +kernel
theorem kX10_close_44 : cdOf kX10_close 44 = some (.iconst 2, 1) := by decide +kernel
theorem kX10_close_45 : cdOf kX10_close 45 = some (.idiv, 1) := by decide +kernel
theorem kX10_close_46 : cdOf kX10_close 46 = some (.putfield 167, 3) := by decide +kernel
theorem kX10_close_49 : cdOf kX10_close 49 = some (.iconst 0, 1) := by decide +kernel
theorem kX10_close_50 : cdOf kX10_close 50 = some (.istore_n 2, 1) := by decide +kernel
theorem kX10_close_51 : cdOf kX10_close 51 = some (.iload_n 2, 1) := by decide +kernel
theorem kX10_close_52 : cdOf kX10_close 52 = some (.bipush 45, 2) := by decide +kernel
theorem kX10_close_54 : cdOf kX10_close 54 = some (.if_icmp .ge 16, 3) := by decide +kernel
theorem kX10_close_57 : cdOf kX10_close 57 = some (.aload_n 0, 1) := by decide +kernel
theorem kX10_close_58 : cdOf kX10_close 58 = some (.getfield 45, 3) := by decide +kernel
theorem kX10_close_61 : cdOf kX10_close 61 = some (.iload_n 2, 1) := by decide +kernel
theorem kX10_close_62 : cdOf kX10_close 62 = some (.iconst 0, 1) := by decide +kernel
theorem kX10_close_63 : cdOf kX10_close 63 = some (.bastore, 1) := by decide +kernel
theorem kX10_close_64 : cdOf kX10_close 64 = some (.iinc 2 1, 3) := by decide +kernel
theorem kX10_close_67 : cdOf kX10_close 67 = some (.goto (-16), 3) := by decide +kernel
theorem kX10_close_70 : cdOf kX10_close 70 = some (.iconst 0, 1) := by decide +kernel
theorem kX10_close_71 : cdOf kX10_close 71 = some (.istore_n 2, 1) := by decide +kernel
theorem kX10_close_72 : cdOf kX10_close 72 = some (.iload_n 2, 1) := by decide +kernel
theorem kX10_close_73 : cdOf kX10_close 73 = some (.aload_n 0, 1) := by decide +kernel
theorem kX10_close_74 : cdOf kX10_close 74 = some (.getfield 199, 3) := by decide +kernel
theorem kX10_close_77 : cdOf kX10_close 77 = some (.if_icmp .ge 53, 3) := by decide +kernel
theorem kX10_close_80 : cdOf kX10_close 80 = some (.aload_n 0, 1) := by decide +kernel
theorem kX10_close_81 : cdOf kX10_close 81 = some (.invokevirtual 182, 3) := by decide +kernel
theorem kX10_close_84 : cdOf kX10_close 84 = some (.iconst 0, 1) := by decide +kernel
theorem kX10_close_85 : cdOf kX10_close 85 = some (.istore_n 3, 1) := by decide +kernel
theorem kX10_close_86 : cdOf kX10_close 86 = some (.iload_n 3, 1) := by decide +kernel
theorem kX10_close_87 : cdOf kX10_close 87 = some (.bipush 6, 2) := by decide +kernel
theorem kX10_close_89 : cdOf kX10_close 89 = some (.if_icmp .ge 30, 3) := by decide +kernel
theorem kX10_close_92 : cdOf kX10_close 92 = some (.aload_n 0, 1) := by decide +kernel
theorem kX10_close_93 : cdOf kX10_close 93 = some (.sipush 2025, 3) := by decide +kernel
theorem kX10_close_96 : cdOf kX10_close 96 = some (.iload_n 3, 1) := by decide +kernel
theorem kX10_close_97 : cdOf kX10_close 97 = some (.iadd, 1) := by decide +kernel
theorem kX10_close_98 : cdOf kX10_close 98 = some (.aload_n 0, 1) := by decide +kernel
theorem kX10_close_99 : cdOf kX10_close 99 = some (.getfield 26, 3) := by decide +kernel
theorem kX10_close_102 : cdOf kX10_close 102 = some (.bipush 6, 2) := by decide +kernel
theorem kX10_close_104 : cdOf kX10_close 104 = some (.iload_n 2, 1) := by decide +kernel
theorem kX10_close_105 : cdOf kX10_close 105 = some (.imul, 1) := by decide +kernel
theorem kX10_close_106 : cdOf kX10_close 106 = some (.iload_n 3, 1) := by decide +kernel
theorem kX10_close_107 : cdOf kX10_close 107 = some (.iadd, 1) := by decide +kernel
theorem kX10_close_108 : cdOf kX10_close 108 = some (.iaload, 1) := by decide +kernel
theorem kX10_close_109 : cdOf kX10_close 109 = some (.i2l, 1) := by decide +kernel
theorem kX10_close_110 : cdOf kX10_close 110 = some (.invokevirtual 132, 3) := by decide +kernel
theorem kX10_close_113 : cdOf kX10_close 113 = some (.iinc 3 1, 3) := by decide +kernel
theorem kX10_close_116 : cdOf kX10_close 116 = some (.goto (-30), 3) := by decide +kernel
theorem kX10_close_119 : cdOf kX10_close 119 = some (.aload_n 0, 1) := by decide +kernel
theorem kX10_close_120 : cdOf kX10_close 120 = some (.invokevirtual 188, 3) := by decide +kernel
theorem kX10_close_123 : cdOf kX10_close 123 = some (.pop, 1) := by decide +kernel
theorem kX10_close_124 : cdOf kX10_close 124 = some (.iinc 2 1, 3) := by decide +kernel
theorem kX10_close_127 : cdOf kX10_close 127 = some (.goto (-55), 3) := by decide +kernel
theorem kX10_close_130 : cdOf kX10_close 130 = some (.iconst 1, 1) := by decide +kernel
theorem kX10_close_131 : cdOf kX10_close 131 = some (.istore_n 2, 1) := by decide +kernel
theorem kX10_close_132 : cdOf kX10_close 132 = some (.iload_n 2, 1) := by decide +kernel
theorem kX10_close_133 : cdOf kX10_close 133 = some (.ifCond .eq 11, 3) := by decide +kernel
theorem kX10_close_136 : cdOf kX10_close 136 = some (.aload_n 0, 1) := by decide +kernel
theorem kX10_close_137 : cdOf kX10_close 137 = some (.invokevirtual 202, 3) := by decide +kernel
theorem kX10_close_140 : cdOf kX10_close 140 = some (.istore_n 2, 1) := by decide +kernel
theorem kX10_close_141 : cdOf kX10_close 141 = some (.goto (-9), 3) := by decide +kernel
theorem kX10_close_144 : cdOf kX10_close 144 = some (.aload_n 0, 1) := by decide +kernel
theorem kX10_close_145 : cdOf kX10_close 145 = some (.iconst 0, 1) := by decide +kernel
theorem kX10_close_146 : cdOf kX10_close 146 = some (.putfield 196, 3) := by decide +kernel
theorem kX10_close_149 : cdOf kX10_close 149 = some (.iconst 0, 1) := by decide +kernel
theorem kX10_close_150 : cdOf kX10_close 150 = some (.istore_n 3, 1) := by decide +kernel
theorem kX10_close_151 : cdOf kX10_close 151 = some (.iload_n 3, 1) := by decide +kernel
theorem kX10_close_152 : cdOf kX10_close 152 = some (.aload_n 0, 1) := by decide +kernel
theorem kX10_close_153 : cdOf kX10_close 153 = some (.getfield 167, 3) := by decide +kernel
theorem kX10_close_156 : cdOf kX10_close 156 = some (.if_icmp .ge 37, 3) := by decide +kernel
theorem kX10_close_159 : cdOf kX10_close 159 = some (.aload_n 0, 1) := by decide +kernel
theorem kX10_close_160 : cdOf kX10_close 160 = some (.iload_n 3, 1) := by decide +kernel
theorem kX10_close_161 : cdOf kX10_close 161 = some (.invokevirtual 205, 3) := by decide +kernel
theorem kX10_close_164 : cdOf kX10_close 164 = some (.ifCond .eq 23, 3) := by decide +kernel
theorem kX10_close_167 : cdOf kX10_close 167 = some (.aload_n 0, 1) := by decide +kernel
theorem kX10_close_168 : cdOf kX10_close 168 = some (.getfield 49, 3) := by decide +kernel
theorem kX10_close_171 : cdOf kX10_close 171 = some (.aload_n 0, 1) := by decide +kernel
theorem kX10_close_172 : cdOf kX10_close 172 = some (.getfield 196, 3) := by decide +kernel
theorem kX10_close_175 : cdOf kX10_close 175 = some (.iload_n 3, 1) := by decide +kernel
theorem kX10_close_176 : cdOf kX10_close 176 = some (.iastore, 1) := by decide +kernel
theorem kX10_close_177 : cdOf kX10_close 177 = some (.aload_n 0, 1) := by decide +kernel
theorem kX10_close_178 : cdOf kX10_close 178 = some (.dup, 1) := by decide +kernel
theorem kX10_close_179 : cdOf kX10_close 179 = some (.getfield 196, 3) := by decide +kernel
theorem kX10_close_182 : cdOf kX10_close 182 = some (.iconst 1, 1) := by decide +kernel
theorem kX10_close_183 : cdOf kX10_close 183 = some (.iadd, 1) := by decide +kernel
theorem kX10_close_184 : cdOf kX10_close 184 = some (.putfield 196, 3) := by decide +kernel
theorem kX10_close_187 : cdOf kX10_close 187 = some (.iinc 3 1, 3) := by decide +kernel
theorem kX10_close_190 : cdOf kX10_close 190 = some (.goto (-39), 3) := by decide +kernel
theorem kX10_close_193 : cdOf kX10_close 193 = some (.aload_n 0, 1) := by decide +kernel
theorem kX10_close_194 : cdOf kX10_close 194 = some (.invokevirtual 208, 3) := by decide +kernel
theorem kX10_close_197 : cdOf kX10_close 197 = some (.istore_n 1, 1) := by decide +kernel
theorem kX10_close_198 : cdOf kX10_close 198 = some (.goto (-191), 3) := by decide +kernel
theorem kX10_close_201 : cdOf kX10_close 201 = some (.return_, 1) := by decide +kernel
set_option maxRecDepth 20000 in
theorem kX10_close_ok : ∀ pc i len, cdOf kX10_close pc = some (i, len) → decode cX10_close pc = .ok (i, len) ∧ stOK 4 i = true ∧ jOK pc i = true ∧ eLen i len = true := cdOf_ok cX10_close 4 kX10_close (by decide +kernel)
def vtX10_close : Nat → Option (Nat × eSp) := fun k => match k with
  | 182 => some (1, SX10_clearWork)
  | 132 => some (3, SX10_set)
  | 188 => some (1, SX10_enters)
  | 202 => some (1, SX10_grows)
  | 205 => some (2, SX10_isLeast)
  | 208 => some (1, SX10_isEnough)
  | _ => none
theorem vtX10_close_182 : vtX10_close 182 = some (1, SX10_clearWork) := rfl
theorem vtX10_close_132 : vtX10_close 132 = some (3, SX10_set) := rfl
theorem vtX10_close_188 : vtX10_close 188 = some (1, SX10_enters) := rfl
theorem vtX10_close_202 : vtX10_close 202 = some (1, SX10_grows) := rfl
theorem vtX10_close_205 : vtX10_close 205 = some (2, SX10_isLeast) := rfl
theorem vtX10_close_208 : vtX10_close 208 = some (1, SX10_isEnough) := rfl
def stX10_close : Nat → Option (Nat × eSp) := fun _ => none
abbrev TX10_close : eT := (fl_RX10, cl_RX10, dl_RX10, vtX10_close, stX10_close)
set_option maxRecDepth 20000 in
theorem caX10_close : eCalls RX10 { frames := 7, cells := 0, slots := 0, locals := 176 } TX10_close := by
  refine ⟨fun k n sp h => ?_, fun k n sp h => ?_⟩
  · dsimp only [TX10_close] at h
    unfold vtX10_close at h
    split at h
    · cases h; exact eV_mk mX10_clearWork wX10_clearWork (by decide +kernel) (Or.inl (gW_at 1066 (by decide +kernel) rfl))
    · cases h; exact eV_mk mX10_set wX10_set (by decide +kernel) (Or.inl (gW_at 1073 (by decide +kernel) rfl))
    · cases h; exact eV_mk mX10_enters wX10_enters (by decide +kernel) (Or.inl (gW_at 1078 (by decide +kernel) rfl))
    · cases h; exact eV_mk mX10_grows wX10_grows (by decide +kernel) (Or.inl (gW_at 1174 (by decide +kernel) rfl))
    · cases h; exact eV_mk mX10_isLeast wX10_isLeast (by decide +kernel) (Or.inl (gW_at 1190 (by decide +kernel) rfl))
    · cases h; exact eV_mk mX10_isEnough wX10_isEnough (by decide +kernel) (Or.inl (gW_at 1197 (by decide +kernel) rfl))
    · cases h
  · cases h
set_option maxRecDepth 100000 in
set_option maxHeartbeats 4000000 in
theorem sX10_close : eSafe TX10_close (cdOf kX10_close) 4 none SX10_close := by
  intro K rt hK as M h
  obtain ⟨F, A, s, P, m, rfl, rfl, hr, hP, hP4, hh, h4, hB, hW, hE, h⟩ := h
  refine ⟨by simp [eE], ?_⟩
  obtain ⟨z1, hz1⟩ : ∃ z, cZ1 F A s P m = z := ⟨_, rfl⟩
  have hfe : cE1 F A s P m = fE z1.1 15 (A 16) 15 := by unfold cE1; rw [hz1]
  rw [hfe] at hE h
  rw [hz1] at h
  -- the elements
  have elm : ∀ (d l : Nat) (F' : Nat → Int) (A' : Nat → Int → Int) (u2 : Option eV), l + d = 15 → cFk F F' → F' 13 = 4 → F' 14 = 15 → F' 17 = (fE z1.1 15 (A 16) l).2 → sE A A' → A' 15 = z1.1 → (∀ k, z1.1 k = 0 ∨ z1.1 k = 1) → A' 16 = (fE z1.1 15 (A 16) l).1 → rn (A' 0) z1.2 → K 151 [some eRR, some (eI 0), u2, some (eI l)] [] (cR F' A') := by
    intro d
    induction d with
    | zero =>
      intro l F' A' u2 hl hk h13 h14 h17 hA h15 hz h16 hr'
      have e : l = 15 := by omega
      subst e
      refine x_iload_n hK kX10_close_151 (q := 152) rfl rfl ?_
      refine x_aload_n hK kX10_close_152 (q := 153) rfl rfl ?_
      refine x_getfield hK kX10_close_153 (q := 156) rfl (gX10_167 ?_)
      rw [h14]
      refine x_icmp_ge hK kX10_close_156 (q := 159) rfl (tg := 193) rfl (by refine ⟨?_, ?_⟩ <;> omega) (fun c156 => ?_) (fun c156 => ?_)
      · refine x_aload_n hK kX10_close_193 (q := 194) rfl rfl ?_
        refine x_cv1 hK kX10_close_194 (q := 197) rfl (vtX10_close_208) (Nat.le_of_ble_eq_true rfl) ?_
        refine SX10_isEnough_i h17 (Nat.le_trans (fE_le _ _ _ _) (by decide)) h13 (by decide) (fun i hi => by rw [h16]; have := fE_b _ _ _ _ i hi; omega) (fun b b0 b1 => ?_)
        rw [h16] at b1
        have b2 := b1.mpr hE
        subst b2
        refine x_istore_n hK kX10_close_197 (q := 198) (jn := 1) rfl rfl ?_
        simp only [lS, lS2, clr_0, clr_I, clr_L, clr_R]
        refine x_goto hK kX10_close_198 (tg := 7) rfl ?_
        refine x_iload_n hK kX10_close_7 (q := 8) rfl rfl ?_
        refine x_if_ne hK kX10_close_8 (q := 11) rfl (tg := 201) rfl (by omega) (fun c8 => ?_) (fun c8 => ?_)
        · refine x_return_ hK kX10_close_201 (by first | trivial | exact Or.inl rfl | exact Or.inr rfl) ?_
          exact h F' A' hk h13 h14 h17 hA h15 h16 hr'
        · exfalso; omega
      · exfalso; omega
    | succ d ih =>
      intro l F' A' u2 hl hk h13 h14 h17 hA h15 hz h16 hr'
      have hle := fE_le z1.1 15 (A 16) l
      refine x_iload_n hK kX10_close_151 (q := 152) rfl rfl ?_
      refine x_aload_n hK kX10_close_152 (q := 153) rfl rfl ?_
      refine x_getfield hK kX10_close_153 (q := 156) rfl (gX10_167 ?_)
      rw [h14]
      refine x_icmp_ge hK kX10_close_156 (q := 159) rfl (tg := 193) rfl (by refine ⟨?_, ?_⟩ <;> omega) (fun c156 => ?_) (fun c156 => ?_)
      · exfalso; omega
      · refine x_aload_n hK kX10_close_159 (q := 160) rfl rfl ?_
        refine x_iload_n hK kX10_close_160 (q := 161) rfl rfl ?_
        refine x_cv2 hK kX10_close_161 (q := 164) rfl (vtX10_close_205) (Nat.le_of_ble_eq_true rfl) ?_
        refine SX10_isLeast_i (n := 15) h14 (by decide) (by omega) (by rw [h15]; exact hz) (fun b b0 b1 => ?_)
        rw [h15, ← iLb_iff] at b1
        refine x_if_eq hK kX10_close_164 (q := 167) rfl (tg := 187) rfl (by rcases b0 with e | e <;> rw [e] <;> decide) (fun c164 => ?_) (fun c164 => ?_)
        · refine x_iinc hK kX10_close_187 (q := 190) rfl rfl ?_
          simp only [lS, lS2, clr_0, clr_I, clr_L, clr_R]
          refine x_goto hK kX10_close_190 (tg := 151) rfl ?_
          rw [show (l : Int) + 1 = ((l + 1 : Nat) : Int) by omega]
          have e : fE z1.1 15 (A 16) (l + 1) = fE z1.1 15 (A 16) l := if_neg (fun g => by have := b1.mpr g; omega)
          exact ih (l + 1) F' A' _ (by omega) hk h13 h14 (by rw [e]; exact h17) hA h15 hz (by rw [e]; exact h16) hr'
        · refine x_aload_n hK kX10_close_167 (q := 168) rfl rfl ?_
          refine x_getfield hK kX10_close_168 (q := 171) rfl (gX10_49 ?_)
          refine x_aload_n hK kX10_close_171 (q := 172) rfl rfl ?_
          refine x_getfield hK kX10_close_172 (q := 175) rfl (gX10_196 ?_)
          rw [h17]
          refine x_iload_n hK kX10_close_175 (q := 176) rfl rfl ?_
          refine x_iastore hK kX10_close_176 (q := 177) rfl (yX10_A16 (by refine ⟨?_, ?_⟩ <;> omega) ?_)
          refine x_aload_n hK kX10_close_177 (q := 178) rfl rfl ?_
          refine x_dupR hK kX10_close_178 (q := 179) rfl ?_
          refine x_getfield hK kX10_close_179 (q := 182) rfl (gX10_196 ?_)
          refine x_iconst hK kX10_close_182 (q := 183) rfl ?_
          refine x_iadd hK kX10_close_183 (q := 184) rfl ?_
          refine x_putfield hK kX10_close_184 (q := 187) rfl (pX10_196 ?_)
          refine x_iinc hK kX10_close_187 (q := 190) rfl rfl ?_
          simp only [lS, lS2, clr_0, clr_I, clr_L, clr_R]
          refine x_goto hK kX10_close_190 (tg := 151) rfl ?_
          rw [show (l : Int) + 1 = ((l + 1 : Nat) : Int) by omega, h17]
          have e : fE z1.1 15 (A 16) (l + 1) = (uI (fE z1.1 15 (A 16) l).1 (fE z1.1 15 (A 16) l).2 l, (fE z1.1 15 (A 16) l).2 + 1) := if_pos (b1.mp (by omega))
          refine ih (l + 1) (uF F' 17 ((fE z1.1 15 (A 16) l).2 + 1)) (uA A' 16 (uI (A' 16) ((fE z1.1 15 (A 16) l).2) l)) _ (by omega) (fun j j0 j1 j2 => by rw [uF_n _ _ j2]; exact hk j j0 j1 j2) (by rw [uF_n _ _ (by decide)]; exact h13) (by rw [uF_n _ _ (by decide)]; exact h14) (by rw [uF_g, e]; rfl) (sE_tr hA (sE_u _)) (by rw [uA_n _ _ (by decide)]; exact h15) hz (by rw [uA_g, e, h16]) (by rw [uA_n _ _ (by decide)]; exact hr')
  -- growing
  have exi : ∀ (F' : Nat → Int) (A' : Nat → Int → Int) (u3 : Option eV), cFk F F' → F' 13 = 4 → F' 14 = 15 → sH A A' → A' 15 = z1.1 → (∀ k, z1.1 k = 0 ∨ z1.1 k = 1) → rn (A' 0) z1.2 → K 132 [some eRR, some (eI 0), some (eI 0), u3] [] (cR F' A') := by
    intro F' A' u3 hk h13 h14 hA h15 hz hr'
    refine x_iload_n hK kX10_close_132 (q := 133) rfl rfl ?_
    refine x_if_eq hK kX10_close_133 (q := 136) rfl (tg := 144) rfl (by omega) (fun c133 => ?_) (fun c133 => ?_)
    · refine x_aload_n hK kX10_close_144 (q := 145) rfl rfl ?_
      refine x_iconst hK kX10_close_145 (q := 146) rfl ?_
      refine x_putfield hK kX10_close_146 (q := 149) rfl (pX10_196 ?_)
      refine x_iconst hK kX10_close_149 (q := 150) rfl ?_
      refine x_istore_n hK kX10_close_150 (q := 151) (jn := 3) rfl rfl ?_
      simp only [lS, lS2, clr_0, clr_I, clr_L, clr_R]
      exact elm 15 0 _ A' _ (by omega) (fun j j0 j1 j2 => by rw [uF_n _ _ j2]; exact hk j j0 j1 j2) (by rw [uF_n _ _ (by decide)]; exact h13) (by rw [uF_n _ _ (by decide)]; exact h14) (by rw [uF_g]; rfl) (sE_h hA) h15 hz (hA 16 (by decide) (by decide)) hr'
    · exfalso; omega
  have gro : ∀ (m : Nat) (F' : Nat → Int) (A' : Nat → Int → Int) (z : (Int → Int) × (Int → Int)) (u3 : Option eV), cFk F F' → F' 13 = 4 → F' 14 = 15 → sH A A' → A' 15 = z.1 → (∀ k, z.1 k = 0 ∨ z.1 k = 1) → rn (A' 0) z.2 → gWB 15 4 m z → gWr 15 4 m z = z1 → K 132 [some eRR, some (eI 0), some (eI 1), u3] [] (cR F' A') := by
    intro m
    induction m with
    | zero =>
      intro F' A' z u3 hk h13 h14 hA h15 hz hr' hb he
      exact hb.elim
    | succ m ih =>
      intro F' A' z u3 hk h13 h14 hA h15 hz hr' hb he
      obtain ⟨b1, b2⟩ := hb
      have ok := gR0_ok (n := 15) (g := 4) (hs := z.1) (s := z.2) hz
      refine x_iload_n hK kX10_close_132 (q := 133) rfl rfl ?_
      refine x_if_eq hK kX10_close_133 (q := 136) rfl (tg := 144) rfl (by omega) (fun c133 => ?_) (fun c133 => ?_)
      · exfalso; omega
      · refine x_aload_n hK kX10_close_136 (q := 137) rfl rfl ?_
        refine x_cv1 hK kX10_close_137 (q := 140) rfl (vtX10_close_202) (Nat.le_of_ble_eq_true rfl) ?_
        refine SX10_grows_i (n := 15) hr' h14 (by decide) h13 (by decide) (by rw [h15]; exact hz) (by rw [h15]; exact b1) (fun A1 k1 k2 k3 => ?_)
        rw [h15] at k2 k3 ⊢
        refine x_istore_n hK kX10_close_140 (q := 141) (jn := 2) rfl rfl ?_
        simp only [lS, lS2, clr_0, clr_I, clr_L, clr_R]
        refine x_goto hK kX10_close_141 (tg := 132) rfl ?_
        rcases ok.1 with e | e
        · have he2 : ((gR0 15 4 z.1 z.2).1, (gR0 15 4 z.1 z.2).2.1) = z1 := by
            rw [← he]
            exact (if_pos e).symm
          rw [e]
          subst he2
          exact exi F' A1 u3 hk h13 h14 (sH_tr hA k1) k2 ok.2 k3
        · have hne : ¬ (gR0 15 4 z.1 z.2).2.2 = 0 := by omega
          have he2 : gWr 15 4 m ((gR0 15 4 z.1 z.2).1, (gR0 15 4 z.1 z.2).2.1) = z1 := by
            rw [← he]
            exact (if_neg hne).symm
          rw [e]
          refine ih F' A1 _ u3 hk h13 h14 (sH_tr hA k1) k2 ok.2 k3 ?_ he2
          rcases b2 with g | g
          · exact absurd g hne
          · exact g
  -- the system
  have hc01 : ∀ k, hC (A 15) 45 k = 0 ∨ hC (A 15) 45 k = 1 := by
    intro k
    unfold hC
    split
    · exact Or.inl rfl
    · exact hh k
  have sys : ∀ (d p : Nat) (F' : Nat → Int) (A' : Nat → Int → Int) (u3 : Option eV), p + d = P → cFk F F' → F' 13 = 4 → F' 14 = 15 → sH A A' → A' 15 = (sL 15 (A 4) (hC (A 15) 45) s p).1 → rn (A' 0) (sL 15 (A 4) (hC (A 15) 45) s p).2 → (∀ q, q ≤ P → sLB 15 (A 4) (hC (A 15) 45) s q) → K 72 [some eRR, some (eI 0), some (eI p), u3] [] (cR F' A') := by
    intro d
    induction d with
    | zero =>
      intro p F' A' u3 hp hk h13 h14 hA h15 hr' hb
      have e : p = P := by omega
      subst e
      refine x_iload_n hK kX10_close_72 (q := 73) rfl rfl ?_
      refine x_aload_n hK kX10_close_73 (q := 74) rfl rfl ?_
      refine x_getfield hK kX10_close_74 (q := 77) rfl (gX10_199 ?_)
      rw [hk 6 (by decide) (by decide) (by decide), hP]
      refine x_icmp_ge hK kX10_close_77 (q := 80) rfl (tg := 130) rfl (by refine ⟨?_, ?_⟩ <;> omega) (fun c77 => ?_) (fun c77 => ?_)
      · refine x_iconst hK kX10_close_130 (q := 131) rfl ?_
        refine x_istore_n hK kX10_close_131 (q := 132) (jn := 2) rfl rfl ?_
        simp only [lS, lS2, clr_0, clr_I, clr_L, clr_R]
        exact gro m F' A' _ u3 hk h13 h14 hA h15 (sL_b hc01 p) hr' hW hz1
      · exfalso; omega
    | succ d ih =>
      intro p F' A' u3 hp hk h13 h14 hA h15 hr' hb
      obtain ⟨z, hz⟩ : ∃ z, sL 15 (A 4) (hC (A 15) 45) s p = z := ⟨_, rfl⟩
      have b1 := (hb (p + 1) (by omega)).2
      have zb := sL_b (n := 15) (sy := A 4) (s := s) hc01 p
      rw [hz] at b1 h15 hr' zb
      have six : ∀ (d k : Nat) (A' : Nat → Int → Int), k + d = 6 → sH A A' → A' 15 = z.1 → rn (A' 0) (lW z.2 (A 4) (6 * p) k) → K 86 [some eRR, some (eI 0), some (eI p), some (eI k)] [] (cR F' A') := by
        intro d
        induction d with
        | zero =>
          intro k A' hk2 hA h15 hr'
          have e : k = 6 := by omega
          subst e
          refine x_iload_n hK kX10_close_86 (q := 87) rfl rfl ?_
          refine x_bipush hK kX10_close_87 (q := 89) rfl (by decide) ?_
          refine x_icmp_ge hK kX10_close_89 (q := 92) rfl (tg := 119) rfl (by refine ⟨?_, ?_⟩ <;> omega) (fun c89 => ?_) (fun c89 => ?_)
          · refine x_aload_n hK kX10_close_119 (q := 120) rfl rfl ?_
            refine x_cv1 hK kX10_close_120 (q := 123) rfl (vtX10_close_188) (Nat.le_of_ble_eq_true rfl) ?_
            refine SX10_enters_f hr' h14 (by decide) (by rw [h15]; exact zb) (by rw [h15]; exact b1) (fun A1 k1 k2 k3 => ?_)
            rw [h15] at k2 k3 ⊢
            refine x_popI hK kX10_close_123 (q := 124) rfl ?_
            refine x_iinc hK kX10_close_124 (q := 127) rfl rfl ?_
            simp only [lS, lS2, clr_0, clr_I, clr_L, clr_R]
            refine x_goto hK kX10_close_127 (tg := 72) rfl ?_
            rw [show (p : Int) + 1 = ((p + 1 : Nat) : Int) by omega]
            refine ih (p + 1) F' A1 _ (by omega) hk h13 h14 (sH_tr hA k1) ?_ ?_ hb
            · rw [k2, ← hz]; rfl
            · rw [← hz] at k3; exact k3
          · exfalso; omega
        | succ d ih2 =>
          intro k A' hk2 hA h15 hr'
          have w4 := h4 (6 * p + k) (by omega)
          have e4 : A' 4 (6 * (p : Int) + k) = A 4 ((6 * p + k : Nat) : Int) := by rw [hA 4 (by decide) (by decide), show 6 * (p : Int) + k = ((6 * p + k : Nat) : Int) by omega]
          have e5 : 2025 + (k : Int) = 2025 + k := rfl
          refine x_iload_n hK kX10_close_86 (q := 87) rfl rfl ?_
          refine x_bipush hK kX10_close_87 (q := 89) rfl (by decide) ?_
          refine x_icmp_ge hK kX10_close_89 (q := 92) rfl (tg := 119) rfl (by refine ⟨?_, ?_⟩ <;> omega) (fun c89 => ?_) (fun c89 => ?_)
          · exfalso; omega
          · refine x_aload_n hK kX10_close_92 (q := 93) rfl rfl ?_
            refine x_sipush hK kX10_close_93 (q := 96) rfl (by decide) ?_
            refine x_iload_n hK kX10_close_96 (q := 97) rfl rfl ?_
            refine x_iadd hK kX10_close_97 (q := 98) rfl ?_
            refine x_aload_n hK kX10_close_98 (q := 99) rfl rfl ?_
            refine x_getfield hK kX10_close_99 (q := 102) rfl (gX10_26 ?_)
            refine x_bipush hK kX10_close_102 (q := 104) rfl (by decide) ?_
            refine x_iload_n hK kX10_close_104 (q := 105) rfl rfl ?_
            refine x_imul hK kX10_close_105 (q := 106) rfl ?_
            refine x_iload_n hK kX10_close_106 (q := 107) rfl rfl ?_
            refine x_iadd hK kX10_close_107 (q := 108) rfl ?_
            refine x_iaload hK kX10_close_108 (q := 109) rfl (aX10_A4 (by omega) ?_)
            rw [e4]
            refine x_i2l hK kX10_close_109 (q := 110) rfl (by exact w4) ?_
            refine x_cv3 hK kX10_close_110 (q := 113) rfl (vtX10_close_132) (Nat.le_of_ble_eq_true rfl) ?_
            refine SX10_set_n hr' (by omega) (by obtain ⟨g0, g1⟩ := w4; constructor <;> omega) (fun A1 k1 r1 => ?_)
            refine x_iinc hK kX10_close_113 (q := 116) rfl rfl ?_
            simp only [lS, lS2, clr_0, clr_I, clr_L, clr_R]
            refine x_goto hK kX10_close_116 (tg := 86) rfl ?_
            rw [show (k : Int) + 1 = ((k + 1 : Nat) : Int) by omega]
            refine ih2 (k + 1) A1 (by omega) (sH_tr hA (sH_n k1)) (by rw [k1 15 (by decide)]; exact h15) ?_
            rw [show ((6 * p + k : Nat) : Int) = 6 * (p : Int) + k by omega] at r1
            exact r1
      refine x_iload_n hK kX10_close_72 (q := 73) rfl rfl ?_
      refine x_aload_n hK kX10_close_73 (q := 74) rfl rfl ?_
      refine x_getfield hK kX10_close_74 (q := 77) rfl (gX10_199 ?_)
      rw [hk 6 (by decide) (by decide) (by decide), hP]
      refine x_icmp_ge hK kX10_close_77 (q := 80) rfl (tg := 130) rfl (by refine ⟨?_, ?_⟩ <;> omega) (fun c77 => ?_) (fun c77 => ?_)
      · exfalso; omega
      · refine x_aload_n hK kX10_close_80 (q := 81) rfl rfl ?_
        refine x_cv1 hK kX10_close_81 (q := 84) rfl (vtX10_close_182) (Nat.le_of_ble_eq_true rfl) ?_
        refine SX10_clearWork_i hr' (fun A1 k1 r1 => ?_)
        refine x_iconst hK kX10_close_84 (q := 85) rfl ?_
        refine x_istore_n hK kX10_close_85 (q := 86) (jn := 3) rfl rfl ?_
        simp only [lS, lS2, clr_0, clr_I, clr_L, clr_R]
        exact six 6 0 A1 (by omega) (sH_tr hA (sH_n k1)) (by rw [k1 15 (by decide)]; exact h15) r1
  -- clearing has
  have clr : ∀ (d k : Nat) (F' : Nat → Int) (A' : Nat → Int → Int) (u3 : Option eV), k + d = 45 → cFk F F' → F' 13 = 4 → F' 14 = 15 → sH A A' → A' 15 = hC (A 15) k → rn (A' 0) s → K 51 [some eRR, some (eI 0), some (eI k), u3] [] (cR F' A') := by
    intro d
    induction d with
    | zero =>
      intro k F' A' u3 hkk hk h13 h14 hA h15 hr'
      have e : k = 45 := by omega
      subst e
      have sb : ∀ q, q ≤ P → sLB 15 (A 4) (hC (A 15) 45) s q := by
        intro q hq
        obtain ⟨e, he⟩ : ∃ e, q + e = P := ⟨P - q, by omega⟩
        clear hq
        induction e generalizing q with
        | zero => rw [show q = P by omega]; exact hB
        | succ e ih => exact (ih (q + 1) (by omega)).1
      refine x_iload_n hK kX10_close_51 (q := 52) rfl rfl ?_
      refine x_bipush hK kX10_close_52 (q := 54) rfl (by decide) ?_
      refine x_icmp_ge hK kX10_close_54 (q := 57) rfl (tg := 70) rfl (by refine ⟨?_, ?_⟩ <;> omega) (fun c54 => ?_) (fun c54 => ?_)
      · refine x_iconst hK kX10_close_70 (q := 71) rfl ?_
        refine x_istore_n hK kX10_close_71 (q := 72) (jn := 2) rfl rfl ?_
        simp only [lS, lS2, clr_0, clr_I, clr_L, clr_R]
        exact sys P 0 F' A' u3 (by omega) hk h13 h14 hA h15 hr' sb
      · exfalso; omega
    | succ d ih =>
      intro k F' A' u3 hkk hk h13 h14 hA h15 hr'
      refine x_iload_n hK kX10_close_51 (q := 52) rfl rfl ?_
      refine x_bipush hK kX10_close_52 (q := 54) rfl (by decide) ?_
      refine x_icmp_ge hK kX10_close_54 (q := 57) rfl (tg := 70) rfl (by refine ⟨?_, ?_⟩ <;> omega) (fun c54 => ?_) (fun c54 => ?_)
      · exfalso; omega
      · refine x_aload_n hK kX10_close_57 (q := 58) rfl rfl ?_
        refine x_getfield hK kX10_close_58 (q := 61) rfl (gX10_45 ?_)
        refine x_iload_n hK kX10_close_61 (q := 62) rfl rfl ?_
        refine x_iconst hK kX10_close_62 (q := 63) rfl ?_
        refine x_bastore hK kX10_close_63 (q := 64) rfl (by omega) (yX10_A15 (by refine ⟨?_, ?_⟩ <;> omega) ?_)
        refine x_iinc hK kX10_close_64 (q := 67) rfl rfl ?_
        simp only [lS, lS2, clr_0, clr_I, clr_L, clr_R]
        refine x_goto hK kX10_close_67 (tg := 51) rfl ?_
        rw [show (k : Int) + 1 = ((k + 1 : Nat) : Int) by omega]
        refine ih (k + 1) F' _ u3 (by omega) hk h13 h14 (sH_tr hA (sH_u _)) ?_ (by rw [uA_n _ _ (by decide)]; exact hr')
        rw [uA_g, h15]
        funext j
        unfold uI hC
        split
        · rw [if_pos (by omega)]
        · split
          · rw [if_pos (by omega)]
          · rw [if_neg (by omega)]
  simp only [eLoc, eE, List.length_cons, List.length_nil, List.replicate, List.cons_append, List.nil_append, Nat.reduceAdd, Nat.reduceSub]
  refine x_aload_n hK kX10_close_0 (q := 1) rfl rfl ?_
  refine x_iconst hK kX10_close_1 (q := 2) rfl ?_
  refine x_putfield hK kX10_close_2 (q := 5) rfl (pX10_179 ?_)
  refine x_iconst hK kX10_close_5 (q := 6) rfl ?_
  refine x_istore_n hK kX10_close_6 (q := 7) (jn := 1) rfl rfl ?_
  refine x_iload_n hK kX10_close_7 (q := 8) rfl rfl ?_
  simp only [lS, lS2, clr_0, clr_I, clr_L, clr_R]
  refine x_if_ne hK kX10_close_8 (q := 11) rfl (tg := 201) rfl (by omega) (fun c8 => ?_) (fun c8 => ?_)
  · exfalso; omega
  · refine x_aload_n hK kX10_close_11 (q := 12) rfl rfl ?_
    refine x_getfield hK kX10_close_12 (q := 15) rfl (gX10_179 ?_)
    rw [uF_g]
    refine x_bipush hK kX10_close_15 (q := 17) rfl (by decide) ?_
    refine x_icmp_ge hK kX10_close_17 (q := 20) rfl (tg := 201) rfl (by refine ⟨?_, ?_⟩ <;> omega) (fun c17 => ?_) (fun c17 => ?_)
    · exfalso; omega
    · refine x_aload_n hK kX10_close_20 (q := 21) rfl rfl ?_
      refine x_dupR hK kX10_close_21 (q := 22) rfl ?_
      refine x_getfield hK kX10_close_22 (q := 25) rfl (gX10_179 ?_)
      rw [uF_g]
      refine x_iconst hK kX10_close_25 (q := 26) rfl ?_
      refine x_iadd hK kX10_close_26 (q := 27) rfl ?_
      refine x_putfield hK kX10_close_27 (q := 30) rfl (pX10_179 ?_)
      refine x_aload_n hK kX10_close_30 (q := 31) rfl rfl ?_
      refine x_aload_n hK kX10_close_31 (q := 32) rfl rfl ?_
      refine x_getfield hK kX10_close_32 (q := 35) rfl (gX10_179 ?_)
      rw [uF_g]
      refine x_iconst hK kX10_close_35 (q := 36) rfl ?_
      refine x_iadd hK kX10_close_36 (q := 37) rfl ?_
      refine x_aload_n hK kX10_close_37 (q := 38) rfl rfl ?_
      refine x_getfield hK kX10_close_38 (q := 41) rfl (gX10_179 ?_)
      rw [uF_g]
      refine x_iconst hK kX10_close_41 (q := 42) rfl ?_
      refine x_iadd hK kX10_close_42 (q := 43) rfl ?_
      refine x_imul hK kX10_close_43 (q := 44) rfl ?_
      refine x_iconst hK kX10_close_44 (q := 45) rfl ?_
      refine x_idiv hK kX10_close_45 (q := 46) rfl (by decide) ?_
      refine x_putfield hK kX10_close_46 (q := 49) rfl (pX10_167 ?_)
      refine x_iconst hK kX10_close_49 (q := 50) rfl ?_
      refine x_istore_n hK kX10_close_50 (q := 51) (jn := 2) rfl rfl ?_
      simp only [lS, lS2, clr_0, clr_I, clr_L, clr_R]
      refine clr 45 0 _ A _ (by omega) (fun j j0 j1 j2 => by rw [uF_n _ _ j1, uF_n _ _ j0, uF_n _ _ j0]) (by rw [uF_n _ _ (by decide), uF_g]; rfl) (by rw [uF_g]; decide) (fun k _ _ => rfl) ?_ hr
      funext j
      unfold hC
      rw [if_neg (by omega)]
set_option maxRecDepth 20000 in
theorem mX10_close : eMet yX10_close cX10_close 4 none 7 176 SX10_close := eMet_of (by decide +kernel) sX10_close kX10_close_ok caX10_close tb_RX10
theorem wX10_close : eWV yX10_close cX10_close 4 none 1 9 SX10_close := ⟨(gW_at 1065 (by decide +kernel) rfl), (gW_at 89 (by decide +kernel) rfl), (gW_at 1064 (by decide +kernel) rfl), ⟨_, rfl, (gW_at 37 (by decide +kernel) rfl)⟩, by decide +kernel, SX10_close_r⟩
