/-! solve. -/
theorem hS_o {s : Int → Int} {l t p : Int} (h : p < 2025) : hS s 2025 l t p = s p := by
  unfold hS
  split
  · rfl
  · unfold lF lo
    rw [if_neg (by omega), if_neg (by omega), if_neg (by omega), if_neg (by omega), if_neg (by omega)]
theorem dA_o {hs : Int → Int} {n p : Int} (h : p < 2025) : ∀ (m : Nat) (s : Int → Int), dA hs n m s p = s p
  | 0, _ => rfl
  | m + 1, s => by
    show dA hs n m _ p = s p
    rw [dA_o h m]
    split
    · rfl
    · exact hS_o h
theorem lW_o {s f : Int → Int} {o p : Int} (h : p < 2025) : ∀ k : Nat, lW s f o k p = s p
  | 0 => by
    show cw s 45 p = s p
    unfold cw
    rw [if_neg (by omega)]
  | k + 1 => by
    show uI (lW s f o k) (2025 + k) (f (o + k)) p = s p
    rw [uI_n _ _ (by omega), lW_o h k]
def vZ (A : Nat → Int → Int) (s : Int → Int) (P m : Nat) : (Int → Int) × (Int → Int) := gWr 15 4 m (sL 15 (A 4) (hC (A 15) 45) s P)
def vE (A : Nat → Int → Int) (s : Int → Int) (P m : Nat) : (Int → Int) × Nat := fE (vZ A s P m).1 15 (A 16) 15
def vK (A : Nat → Int → Int) (s : Int → Int) (P m : Nat) : Int → Int := aK (vZ A s P m).1 (A 5) (vZ A s P m).2 15
def vB (e : Int → Int) (N : Nat) : Bool := (List.range N).any (fun i => decide (mY (e i) = 0)) && (List.range N).any (fun i => decide (mX (e i) = 0))
def vA (A : Nat → Int → Int) (s : Int → Int) (P m : Nat) : Int := if (vZ A s P m).1 0 = 0 then (if vB (vE A s P m).1 (vE A s P m).2 then 1 else 2) else 0
def vG (A : Nat → Int → Int) (s : Int → Int) (P m : Nat) : (Int → Int) × Nat := fG (vE A s P m).1 (vE A s P m).2 (A 18) 15
def vD (A : Nat → Int → Int) (s : Int → Int) (P m : Nat) : Int := dnF (vZ A s P m).1 (vK A s P m) (vG A s P m).1 (vG A s P m).2
def vX (A : Nat → Int → Int) (s : Int → Int) (P m : Nat) (w : Int) : mT := xT (vZ A s P m).1 (vK A s P m) (vG A s P m).1 (vD A s P m) w
def vH (A : Nat → Int → Int) (s : Int → Int) (P m : Nat) : mT := hT (vG A s P m).2 (vX A s P m 0) (vX A s P m 1) (vD A s P m) (A 5) 6
def vM (A : Nat → Int → Int) (s : Int → Int) (P m : Nat) (i : Nat) : mT := pQ (vG A s P m).2 (vX A s P m 0) (vX A s P m 1) (mX ((vG A s P m).1 i)).toNat (mD ((vG A s P m).1 i)).toNat
def vF (A : Nat → Int → Int) (s : Int → Int) (P m : Nat) (e : Nat) : mT := fT (vG A s P m).2 (uPw (vG A s P m).2 (vH A s P m) e) (vM A s P m)
/-- the room of a solve that is worked -/
def svB (A : Nat → Int → Int) (s : Int → Int) (P m : Nat) : Prop :=
  sLB 15 (A 4) (hC (A 15) 45) s P ∧ gWB 15 4 m (sL 15 (A 4) (hC (A 15) 45) s P) ∧ eNo (vE A s P m).1 (vE A s P m).2 4 ∧ dP (vZ A s P m).1 15 15 (lW (vZ A s P m).2 (A 5) 0 6) ∧
  (vA A s P m < 2 → (vG A s P m).2 ≤ 6 ∧ (∀ j : Nat, j < (vG A s P m).2 → 0 ≤ (vG A s P m).1 j ∧ (vG A s P m).1 j < 6) ∧ (∃ Δ U, tRm (vZ A s P m).1 (vK A s P m) (vG A s P m).1 (A 5) (vG A s P m).2 Δ U) ∧ ∃ H0 W0 M0, fRm (vG A s P m).2 (vH A s P m) (vM A s P m) H0 W0 M0)
/-- what it leaves -/
def svR (F : Nat → Int) (A : Nat → Int → Int) (s : Int → Int) (P m : Nat) (F' : Nat → Int) (A' : Nat → Int → Int) (s' : Int → Int) : Prop :=
  (F' 12 = 0 ∧ F' 6 = F 6 ∧ F' 9 = F 6 ∧ F' 10 = vA A s P m ∧ F' 11 = F 11 + 1 ∧ F' 13 = 4 ∧ F' 14 = 15 ∧ F' 17 = (vE A s P m).2 ∧ F' 22 = (if tF (vK A s P m) 2025 15 < 0 then 1 else 0)) ∧
  (A' 4 = A 4 ∧ A' 5 = A 5 ∧ (∀ k : Nat, k < 24 → A' 7 k = A 4 k) ∧ (∀ k : Nat, k < 6 → A' 8 k = A 5 k) ∧ A' 15 = (vZ A s P m).1 ∧ A' 16 = (vE A s P m).1 ∧ ∀ p, p < 2025 → s' p = (vZ A s P m).2 p) ∧
  (vA A s P m < 2 → F' 19 = (vG A s P m).2 ∧ A' 18 = (vG A s P m).1 ∧ s' 2076 = vD A s P m ∧ mQ (vG A s P m).2 (tb s' 2080) (vX A s P m 0) ∧ mQ (vG A s P m).2 (tb s' 2116) (vX A s P m 1) ∧ mQ (vG A s P m).2 (tb s' 2152) (vH A s P m) ∧ ∀ e : Nat, e < 3 → mQ (vG A s P m).2 (tb s' (2332 + 36 * e)) (vF A s P m e) ∧ A' 20 e = sqR (vG A s P m).2 (vF A s P m e) ∧ A' 21 e = sqS (vG A s P m).2 (vF A s P m e)) ∧ (0 ≤ F' 19 ∧ F' 19 ≤ 6)
theorem vA_b (A : Nat → Int → Int) (s : Int → Int) (P m : Nat) : 0 ≤ vA A s P m ∧ vA A s P m ≤ 2 := by
  unfold vA
  split
  · split <;> decide
  · decide
def SX10_solve : eSp := fun as M rt => ∃ (F : Nat → Int) (A : Nat → Int → Int) (s : Int → Int) (P m : Nat), as = [eRR] ∧ M = cR F A ∧ rn (A 0) s ∧ F 6 = P ∧ P ≤ 4 ∧ w32 (F 9) ∧ w32 (F 11) ∧ (∀ k : Nat, k < 24 → w32 (A 7 k) ∧ w32 (A 4 k)) ∧ (∀ k : Nat, k < 6 → w32 (A 8 k) ∧ (-5 ≤ A 5 k ∧ A 5 k ≤ 5)) ∧ (∀ k, A 15 k = 0 ∨ A 15 k = 1) ∧ (eSm F A → rt (some (eI (F 10))) (cR (uF F 12 0) A)) ∧ (¬ eSm F A → F 11 = 40 → rt (some (eI (-1))) (cR (uF F 12 0) A)) ∧ (¬ eSm F A → F 11 ≠ 40 → svB A s P m ∧ ∀ (F' : Nat → Int) (A' : Nat → Int → Int) (s' : Int → Int), rn (A' 0) s' → svR F A s P m F' A' s' → rt (some (eI (vA A s P m))) (cR F' A'))
theorem SX10_solve_i {F : Nat → Int} {A : Nat → Int → Int} {s : Int → Int} {P : Nat} (m : Nat) {rt : Option eV → eM → Prop} (hr : rn (A 0) s) (h0 : F 6 = P) (h1 : P ≤ 4) (h2 : w32 (F 9)) (h3 : w32 (F 11)) (h4 : ∀ k : Nat, k < 24 → w32 (A 7 k) ∧ w32 (A 4 k)) (h5 : ∀ k : Nat, k < 6 → w32 (A 8 k) ∧ (-5 ≤ A 5 k ∧ A 5 k ≤ 5)) (h6 : ∀ k, A 15 k = 0 ∨ A 15 k = 1) (h7 : eSm F A → rt (some (eI (F 10))) (cR (uF F 12 0) A)) (h8 : ¬ eSm F A → F 11 = 40 → rt (some (eI (-1))) (cR (uF F 12 0) A)) (h9 : ¬ eSm F A → F 11 ≠ 40 → svB A s P m ∧ ∀ (F' : Nat → Int) (A' : Nat → Int → Int) (s' : Int → Int), rn (A' 0) s' → svR F A s P m F' A' s' → rt (some (eI (vA A s P m))) (cR F' A')) : SX10_solve [eRR] (cR F A) rt := ⟨F, A, s, P, m, rfl, rfl, hr, h0, h1, h2, h3, h4, h5, h6, h7, h8, h9⟩
theorem SX10_solve_r : ∀ as M rt, SX10_solve as M rt → ∃ a r fs, as = eR a :: r ∧ M a = some (.inl (9, fs)) := by
  rintro as M rt ⟨F, A, s, P, m, rfl, rfl, -⟩
  exact ⟨_, _, _, rfl, rfl⟩
def kX10_solve : List (Nat × Jvm.ClassFile.Instr × Nat) := [(0, .aload_n 0, 1), (1, .iconst 0, 1), (2, .putfield 61, 3), (5, .aload_n 0, 1), (6, .invokevirtual 211, 3), (9, .ifCond .eq 8, 3), (12, .aload_n 0, 1), (13, .getfield 42, 3), (16, .ireturn, 1), (17, .aload_n 0, 1), (18, .getfield 214, 3), (21, .bipush 40, 2), (23, .if_icmp .ne 5, 3), (26, .iconst (-1), 1), (27, .ireturn, 1), (28, .aload_n 0, 1), (29, .dup, 1), (30, .getfield 214, 3), (33, .iconst 1, 1), (34, .iadd, 1), (35, .putfield 214, 3), (38, .aload_n 0, 1), (39, .aload_n 0, 1), (40, .getfield 199, 3), (43, .putfield 38, 3), (46, .iconst 0, 1), (47, .istore_n 1, 1), (48, .iload_n 1, 1), (49, .bipush 24, 2), (51, .if_icmp .ge 21, 3), (54, .aload_n 0, 1), (55, .getfield 32, 3), (58, .iload_n 1, 1), (59, .aload_n 0, 1), (60, .getfield 26, 3), (63, .iload_n 1, 1), (64, .iaload, 1), (65, .iastore, 1), (66, .iinc 1 1, 3), (69, .goto (-21), 3), (72, .iconst 0, 1), (73, .istore_n 1, 1), (74, .iload_n 1, 1), (75, .bipush 6, 2), (77, .if_icmp .ge 21, 3), (80, .aload_n 0, 1), (81, .getfield 35, 3), (84, .iload_n 1, 1), (85, .aload_n 0, 1), (86, .getfield 29, 3), (89, .iload_n 1, 1), (90, .iaload, 1), (91, .iastore, 1), (92, .iinc 1 1, 3), (95, .goto (-21), 3), (98, .aload_n 0, 1), (99, .invokevirtual 217, 3), (102, .aload_n 0, 1), (103, .invokevirtual 220, 3), (106, .iconst 0, 1), (107, .istore_n 1, 1), (108, .iconst 0, 1), (109, .istore_n 2, 1), (110, .iconst 0, 1), (111, .istore_n 3, 1), (112, .iload_n 3, 1), (113, .aload_n 0, 1), (114, .getfield 196, 3), (117, .if_icmp .ge 53, 3), (120, .iload_n 1, 1), (121, .ifCond .ne 15, 3), (124, .aload_n 0, 1), (125, .getfield 49, 3), (128, .iload_n 3, 1), (129, .iaload, 1), (130, .invokestatic 145, 3), (133, .ifCond .ne 7, 3), (136, .iconst 1, 1), (137, .goto 4, 3), (140, .iconst 0, 1), (141, .istore_n 1, 1), (142, .iload_n 2, 1), (143, .ifCond .ne 15, 3), (146, .aload_n 0, 1), (147, .getfield 49, 3), (150, .iload_n 3, 1), (151, .iaload, 1), (152, .invokestatic 142, 3), (155, .ifCond .ne 7, 3), (158, .iconst 1, 1), (159, .goto 4, 3), (162, .iconst 0, 1), (163, .istore_n 2, 1), (164, .iinc 3 1, 3), (167, .goto (-55), 3), (170, .aload_n 0, 1), (171, .aload_n 0, 1), (172, .getfield 45, 3), (175, .iconst 0, 1), (176, .baload, 1), (177, .ifCond .eq 7, 3), (180, .iconst 0, 1), (181, .goto 16, 3), (184, .iload_n 1, 1), (185, .ifCond .eq 11, 3), (188, .iload_n 2, 1), (189, .ifCond .eq 7, 3), (192, .iconst 1, 1), (193, .goto 4, 3), (196, .iconst 2, 1), (197, .putfield 42, 3), (200, .aload_n 0, 1), (201, .iconst 0, 1), (202, .putfield 223, 3), (205, .aload_n 0, 1), (206, .getfield 42, 3), (209, .iconst 2, 1), (210, .if_icmp .ge 15, 3), (213, .aload_n 0, 1), (214, .invokevirtual 226, 3), (217, .aload_n 0, 1), (218, .invokevirtual 229, 3), (221, .aload_n 0, 1), (222, .invokevirtual 232, 3), (225, .aload_n 0, 1), (226, .getfield 42, 3), (229, .ireturn, 1)]
theorem kX10_solve_0 : cdOf kX10_solve 0 = some (.aload_n 0, 1) := by decide +kernel
theorem kX10_solve_1 : cdOf kX10_solve 1 = some (.iconst 0, 1) := by decide +kernel
theorem kX10_solve_2 : cdOf kX10_solve 2 = some (.putfield 61, 3) := by decide +kernel
theorem kX10_solve_5 : cdOf kX10_solve 5 = some (.aload_n 0, 1) := by decide +kernel
theorem kX10_solve_6 : cdOf kX10_solve 6 = some (.invokevirtual 211, 3) := by decide +kernel
theorem kX10_solve_9 : cdOf kX10_solve 9 = some (.ifCond .eq 8, 3) := by decide +kernel
theorem kX10_solve_12 : cdOf kX10_solve 12 = some (.aload_n 0, 1) := by decide +kernel
theorem kX10_solve_13 : cdOf kX10_solve 13 = some (.getfield 42, 3) := by decide +kernel
theorem kX10_solve_16 : cdOf kX10_solve 16 = some (.ireturn, 1) := by decide +kernel
theorem kX10_solve_17 : cdOf kX10_solve 17 = some (.aload_n 0, 1) := by decide +kernel
theorem kX10_solve_18 : cdOf kX10_solve 18 = some (.getfield 214, 3) := by decide +kernel
theorem kX10_solve_21 : cdOf kX10_solve 21 = some (.bipush 40, 2) := by decide +kernel
theorem kX10_solve_23 : cdOf kX10_solve 23 = some (.if_icmp .ne 5, 3) := by decide +kernel
theorem kX10_solve_26 : cdOf kX10_solve 26 = some (.iconst (-1), 1) := by decide +kernel
theorem kX10_solve_27 : cdOf kX10_solve 27 = some (.ireturn, 1) := by decide +kernel
theorem kX10_solve_28 : cdOf kX10_solve 28 = some (.aload_n 0, 1) := by decide +kernel
theorem kX10_solve_29 : cdOf kX10_solve 29 = some (.dup, 1) := by decide +kernel
theorem kX10_solve_30 : cdOf kX10_solve 30 = some (.getfield 214, 3) := by decide +kernel
theorem kX10_solve_33 : cdOf kX10_solve 33 = some (.iconst 1, 1) := by decide +kernel
theorem kX10_solve_34 : cdOf kX10_solve 34 = some (.iadd, 1) := by decide +kernel
theorem kX10_solve_35 : cdOf kX10_solve 35 = some (.putfield 214, 3) := by decide +kernel
theorem kX10_solve_38 : cdOf kX10_solve 38 = some (.aload_n 0, 1) := by decide +kernel
theorem kX10_solve_39 : cdOf kX10_solve 39 = some (.aload_n 0, 1) := by decide +kernel
theorem kX10_solve_40 : cdOf kX10_solve 40 = some (.getfield 199, 3) := by decide +kernel
theorem kX10_solve_43 : cdOf kX10_solve 43 = some (.putfield 38, 3) := by decide +kernel
theorem kX10_solve_46 : cdOf kX10_solve 46 = some (.iconst 0, 1) := by decide +kernel
theorem kX10_solve_47 : cdOf kX10_solve 47 = some (.istore_n 1, 1) := by decide +kernel
theorem kX10_solve_48 : cdOf kX10_solve 48 = some (.iload_n 1, 1) := by decide +kernel
theorem kX10_solve_49 : cdOf kX10_solve 49 = some (.bipush 24, 2) := by decide +kernel
theorem kX10_solve_51 : cdOf kX10_solve 51 = some (.if_icmp .ge 21, 3) := by decide +kernel
theorem kX10_solve_54 : cdOf kX10_solve 54 = some (.aload_n 0, 1) := by decide +kernel
theorem kX10_solve_55 : cdOf kX10_solve 55 = some (.getfield 32, 3) := by decide +kernel
theorem kX10_solve_58 : cdOf kX10_solve 58 = some (.iload_n 1, 1) := by decide +kernel
theorem kX10_solve_59 : cdOf kX10_solve 59 = some (.aload_n 0, 1) := by decide +kernel
theorem kX10_solve_60 : cdOf kX10_solve 60 = some (.getfield 26, 3) := by decide +kernel
theorem kX10_solve_63 : cdOf kX10_solve 63 = some (.iload_n 1, 1) := by decide +kernel
theorem kX10_solve_64 : cdOf kX10_solve 64 = some (.iaload, 1) := by decide +kernel
theorem kX10_solve_65 : cdOf kX10_solve 65 = some (.iastore, 1) := by decide +kernel
theorem kX10_solve_66 : cdOf kX10_solve 66 = some (.iinc 1 1, 3) := by decide +kernel
theorem kX10_solve_69 : cdOf kX10_solve 69 = some (.goto (-21), 3) := by decide +kernel
theorem kX10_solve_72 : cdOf kX10_solve 72 = some (.iconst 0, 1) := by decide +kernel
theorem kX10_solve_73 : cdOf kX10_solve 73 = some (.istore_n 1, 1) := by decide +kernel
theorem kX10_solve_74 : cdOf kX10_solve 74 = some (.iload_n 1, 1) := by decide +kernel
theorem kX10_solve_75 : cdOf kX10_solve 75 = some (.bipush 6, 2) := by decide +kernel
theorem kX10_solve_77 : cdOf kX10_solve 77 = some (.if_icmp .ge 21, 3) := by decide +kernel
theorem kX10_solve_80 : cdOf kX10_solve 80 = some (.aload_n 0, 1) := by decide +kernel
theorem kX10_solve_81 : cdOf kX10_solve 81 = some (.getfield 35, 3) := by decide +kernel
theorem kX10_solve_84 : cdOf kX10_solve 84 = some (.iload_n 1, 1) := by decide +kernel
theorem kX10_solve_85 : cdOf kX10_solve 85 = some (.aload_n 0, 1) := by decide +kernel
theorem kX10_solve_86 : cdOf kX10_solve 86 = some (.getfield 29, 3) := by decide +kernel
theorem kX10_solve_89 : cdOf kX10_solve 89 = some (.iload_n 1, 1) := by decide +kernel
theorem kX10_solve_90 : cdOf kX10_solve 90 = some (.iaload, 1) := by decide +kernel
theorem kX10_solve_91 : cdOf kX10_solve 91 = some (.iastore, 1) := by decide +kernel
theorem kX10_solve_92 : cdOf kX10_solve 92 = some (.iinc 1 1, 3) := by decide +kernel
theorem kX10_solve_95 : cdOf kX10_solve 95 = some (.goto (-21), 3) := by decide +kernel
theorem kX10_solve_98 : cdOf kX10_solve 98 = some (.aload_n 0, 1) := by decide +kernel
theorem kX10_solve_99 : cdOf kX10_solve 99 = some (.invokevirtual 217, 3) := by decide +kernel
theorem kX10_solve_102 : cdOf kX10_solve 102 = some (.aload_n 0, 1) := by decide +kernel
theorem kX10_solve_103 : cdOf kX10_solve 103 = some (.invokevirtual 220, 3) := by decide +kernel
theorem kX10_solve_106 : cdOf kX10_solve 106 = some (.iconst 0, 1) := by decide +kernel
theorem kX10_solve_107 : cdOf kX10_solve 107 = some (.istore_n 1, 1) := by decide +kernel
theorem kX10_solve_108 : cdOf kX10_solve 108 = some (.iconst 0, 1) := by decide +kernel
theorem kX10_solve_109 : cdOf kX10_solve 109 = some (.istore_n 2, 1) := by decide +kernel
theorem kX10_solve_110 : cdOf kX10_solve 110 = some (.iconst 0, 1) := by decide +kernel
theorem kX10_solve_111 : cdOf kX10_solve 111 = some (.istore_n 3, 1) := by decide +kernel
theorem kX10_solve_112 : cdOf kX10_solve 112 = some (.iload_n 3, 1) := by decide +kernel
theorem kX10_solve_113 : cdOf kX10_solve 113 = some (.aload_n 0, 1) := by decide +kernel
theorem kX10_solve_114 : cdOf kX10_solve 114 = some (.getfield 196, 3) := by decide +kernel
theorem kX10_solve_117 : cdOf kX10_solve 117 = some (.if_icmp .ge 53, 3) := by decide +kernel
theorem kX10_solve_120 : cdOf kX10_solve 120 = some (.iload_n 1, 1) := by decide +kernel
theorem kX10_solve_121 : cdOf kX10_solve 121 = some (.ifCond .ne 15, 3) := by decide +kernel
theorem kX10_solve_124 : cdOf kX10_solve 124 = some (.aload_n 0, 1) := by decide +kernel
theorem kX10_solve_125 : cdOf kX10_solve 125 = some (.getfield 49, 3) := by decide +kernel
theorem kX10_solve_128 : cdOf kX10_solve 128 = some (.iload_n 3, 1) := by decide +kernel
theorem kX10_solve_129 : cdOf kX10_solve 129 = some (.iaload, 1) := by decide +kernel
theorem kX10_solve_130 : cdOf kX10_solve 130 = some (.invokestatic 145, 3) := by decide +kernel
theorem kX10_solve_133 : cdOf kX10_solve 133 = some (.ifCond .ne 7, 3) := by decide +kernel
theorem kX10_solve_136 : cdOf kX10_solve 136 = some (.iconst 1, 1) := by decide +kernel
theorem kX10_solve_137 : cdOf kX10_solve 137 = some (.goto 4, 3) := by decide +kernel
theorem kX10_solve_140 : cdOf kX10_solve 140 = some (.iconst 0, 1) := by decide +kernel
theorem kX10_solve_141 : cdOf kX10_solve 141 = some (.istore_n 1, 1) := by decide +kernel
theorem kX10_solve_142 : cdOf kX10_solve 142 = some (.iload_n 2, 1) := by decide +kernel
theorem kX10_solve_143 : cdOf kX10_solve 143 = some (.ifCond .ne 15, 3) := by decide +kernel
theorem kX10_solve_146 : cdOf kX10_solve 146 = some (.aload_n 0, 1) := by decide +kernel
theorem kX10_solve_147 : cdOf kX10_solve 147 = some (.getfield 49, 3) := by decide +kernel
theorem kX10_solve_150 : cdOf kX10_solve 150 = some (.iload_n 3, 1) := by decide +kernel
theorem kX10_solve_151 : cdOf kX10_solve 151 = some (.iaload, 1) := by decide +kernel
theorem kX10_solve_152 : cdOf kX10_solve 152 = some (.invokestatic 142, 3) := by decide +kernel
theorem kX10_solve_155 : cdOf kX10_solve 155 = some (.ifCond .ne 7, 3) := by decide +kernel
theorem kX10_solve_158 : cdOf kX10_solve 158 = some (.iconst 1, 1) := by decide +kernel
theorem kX10_solve_159 : cdOf kX10_solve 159 = some (.goto 4, 3) := by decide +kernel
theorem kX10_solve_162 : cdOf kX10_solve 162 = some (.iconst 0, 1) := by decide +kernel
theorem kX10_solve_163 : cdOf kX10_solve 163 = some (.istore_n 2, 1) := by decide +kernel
theorem kX10_solve_164 : cdOf kX10_solve 164 = some (.iinc 3 1, 3) := by decide +kernel
theorem kX10_solve_167 : cdOf kX10_solve 167 = some (.goto (-55), 3) := by decide +kernel
theorem kX10_solve_170 : cdOf kX10_solve 170 = some (.aload_n 0, 1) := by decide +kernel
theorem kX10_solve_171 : cdOf kX10_solve 171 = some (.aload_n 0, 1) := by decide +kernel
theorem kX10_solve_172 : cdOf kX10_solve 172 = some (.getfield 45, 3) := by decide +kernel
theorem kX10_solve_175 : cdOf kX10_solve 175 = some (.iconst 0, 1) := by decide +kernel
theorem kX10_solve_176 : cdOf kX10_solve 176 = some (.baload, 1) := by decide +kernel
theorem kX10_solve_177 : cdOf kX10_solve 177 = some (.ifCond .eq 7, 3) := by decide +kernel
theorem kX10_solve_180 : cdOf kX10_solve 180 = some (.iconst 0, 1) := by decide +kernel
theorem kX10_solve_181 : cdOf kX10_solve 181 = some (.goto 16, 3) := by decide +kernel
theorem kX10_solve_184 : cdOf kX10_solve 184 = some (.iload_n 1, 1) := by decide +kernel
theorem kX10_solve_185 : cdOf kX10_solve 185 = some (.ifCond .eq 11, 3) := by decide +kernel
theorem kX10_solve_188 : cdOf kX10_solve 188 = some (.iload_n 2, 1) := by decide +kernel
theorem kX10_solve_189 : cdOf kX10_solve 189 = some (.ifCond .eq 7, 3) := by decide +kernel
theorem kX10_solve_192 : cdOf kX10_solve 192 = some (.iconst 1, 1) := by decide +kernel
theorem kX10_solve_193 : cdOf kX10_solve 193 = some (.goto 4, 3) := by decide +kernel
theorem kX10_solve_196 : cdOf kX10_solve 196 = some (.iconst 2, 1) := by decide +kernel
theorem kX10_solve_197 : cdOf kX10_solve 197 = some (.putfield 42, 3) := by decide +kernel
theorem kX10_solve_200 : cdOf kX10_solve 200 = some (.aload_n 0, 1) := by decide +kernel
theorem kX10_solve_201 : cdOf kX10_solve 201 = some (.iconst 0, 1) := by decide +kernel
theorem kX10_solve_202 : cdOf kX10_solve 202 = some (.putfield 223, 3) := by decide +kernel
theorem kX10_solve_205 : cdOf kX10_solve 205 = some (.aload_n 0, 1) := by decide +kernel
theorem kX10_solve_206 : cdOf kX10_solve 206 = some (.getfield 42, 3) := by decide +kernel
theorem kX10_solve_209 : cdOf kX10_solve 209 = some (.iconst 2, 1) := by decide +kernel
theorem kX10_solve_210 : cdOf kX10_solve 210 = some (.if_icmp .ge 15, 3) := by decide +kernel
theorem kX10_solve_213 : cdOf kX10_solve 213 = some (.aload_n 0, 1) := by decide +kernel
theorem kX10_solve_214 : cdOf kX10_solve 214 = some (.invokevirtual 226, 3) := by decide +kernel
theorem kX10_solve_217 : cdOf kX10_solve 217 = some (.aload_n 0, 1) := by decide +kernel
theorem kX10_solve_218 : cdOf kX10_solve 218 = some (.invokevirtual 229, 3) := by decide +kernel
theorem kX10_solve_221 : cdOf kX10_solve 221 = some (.aload_n 0, 1) := by decide +kernel
theorem kX10_solve_222 : cdOf kX10_solve 222 = some (.invokevirtual 232, 3) := by decide +kernel
theorem kX10_solve_225 : cdOf kX10_solve 225 = some (.aload_n 0, 1) := by decide +kernel
theorem kX10_solve_226 : cdOf kX10_solve 226 = some (.getfield 42, 3) := by decide +kernel
theorem kX10_solve_229 : cdOf kX10_solve 229 = some (.ireturn, 1) := by decide +kernel
set_option maxRecDepth 20000 in
theorem kX10_solve_ok : ∀ pc i len, cdOf kX10_solve pc = some (i, len) → decode cX10_solve pc = .ok (i, len) ∧ stOK 4 i = true ∧ jOK pc i = true ∧ eLen i len = true := cdOf_ok cX10_solve 4 kX10_solve (by decide +kernel)
def vtX10_solve : Nat → Option (Nat × eSp) := fun k => match k with
  | 211 => some (1, SX10_isSame)
  | 217 => some (1, SX10_close)
  | 220 => some (1, SX10_askMember)
  | 226 => some (1, SX10_gather)
  | 229 => some (1, SX10_tables)
  | 232 => some (1, SX10_forms)
  | _ => none
theorem vtX10_solve_211 : vtX10_solve 211 = some (1, SX10_isSame) := rfl
theorem vtX10_solve_217 : vtX10_solve 217 = some (1, SX10_close) := rfl
theorem vtX10_solve_220 : vtX10_solve 220 = some (1, SX10_askMember) := rfl
theorem vtX10_solve_226 : vtX10_solve 226 = some (1, SX10_gather) := rfl
theorem vtX10_solve_229 : vtX10_solve 229 = some (1, SX10_tables) := rfl
theorem vtX10_solve_232 : vtX10_solve 232 = some (1, SX10_forms) := rfl
def stX10_solve : Nat → Option (Nat × eSp) := fun k => match k with
  | 145 => some (1, SX10_yOf)
  | 142 => some (1, SX10_xOf)
  | _ => none
theorem stX10_solve_145 : stX10_solve 145 = some (1, SX10_yOf) := rfl
theorem stX10_solve_142 : stX10_solve 142 = some (1, SX10_xOf) := rfl
abbrev TX10_solve : eT := (fl_RX10, cl_RX10, dl_RX10, vtX10_solve, stX10_solve)
set_option maxRecDepth 20000 in
theorem caX10_solve : eCalls RX10 { frames := 8, cells := 0, slots := 0, locals := 199 } TX10_solve := by
  refine ⟨fun k n sp h => ?_, fun k n sp h => ?_⟩
  · dsimp only [TX10_solve] at h
    unfold vtX10_solve at h
    split at h
    · cases h; exact eV_mk mX10_isSame wX10_isSame (by decide +kernel) (Or.inl (gW_at 1058 (by decide +kernel) rfl))
    · cases h; exact eV_mk mX10_close wX10_close (by decide +kernel) (Or.inl (gW_at 1062 (by decide +kernel) rfl))
    · cases h; exact eV_mk mX10_askMember wX10_askMember (by decide +kernel) (Or.inl (gW_at 1201 (by decide +kernel) rfl))
    · cases h; exact eV_mk mX10_gather wX10_gather (by decide +kernel) (Or.inl (gW_at 1205 (by decide +kernel) rfl))
    · cases h; exact eV_mk mX10_tables wX10_tables (by decide +kernel) (Or.inl (gW_at 1209 (by decide +kernel) rfl))
    · cases h; exact eV_mk mX10_forms wX10_forms (by decide +kernel) (Or.inl (gW_at 1237 (by decide +kernel) rfl))
    · cases h
  · dsimp only [TX10_solve] at h
    unfold stX10_solve at h
    split at h
    · cases h; exact eS_mk mX10_yOf wX10_yOf (by decide +kernel) (Or.inl (gW_at 1184 (by decide +kernel) rfl))
    · cases h; exact eS_mk mX10_xOf wX10_xOf (by decide +kernel) (Or.inl (gW_at 1181 (by decide +kernel) rfl))
    · cases h
set_option maxRecDepth 100000 in
set_option maxHeartbeats 4000000 in
theorem sX10_solve : eSafe TX10_solve (cdOf kX10_solve) 4 (some .int) SX10_solve := by
  intro K rt hK as M h
  obtain ⟨F, A, s, P, m, rfl, rfl, hr, hP, hP4, hw9, hw11, hw7, hw8, hh, hsame, hfull, hwork⟩ := h
  refine ⟨by simp [eE], ?_⟩
  have esm : ∀ z, eSm (uF F 12 z) A ↔ eSm F A := fun z => by
    unfold eSm
    rw [uF_n _ _ (by decide), uF_n _ _ (by decide)]
  have main : ¬ eSm F A → F 11 ≠ 40 → K 28 [some eRR, none, none, none] [] (cR (uF F 12 0) A) := by
    intro hns hn40
    obtain ⟨⟨hB, hW, hE, hD, hTT⟩, hfin⟩ := hwork hns hn40
    obtain ⟨Z, hZ⟩ : ∃ Z, vZ A s P m = Z := ⟨_, rfl⟩
    obtain ⟨E, hEE⟩ : ∃ E, vE A s P m = E := ⟨_, rfl⟩
    obtain ⟨s2, hs2⟩ : ∃ s2, vK A s P m = s2 := ⟨_, rfl⟩
    obtain ⟨G, hG⟩ : ∃ G, vG A s P m = G := ⟨_, rfl⟩
    have hE15 : E.2 ≤ 15 := by rw [← hEE]; exact fE_le _ _ _ _
    have hEb : ∀ i : Nat, i < E.2 → 0 ≤ E.1 i ∧ E.1 i < 15 := fun i hi => by
      rw [← hEE] at hi ⊢
      exact fE_b _ _ _ _ i hi
    have hZ01 : ∀ k, Z.1 k = 0 ∨ Z.1 k = 1 := by
      have hc01 : ∀ k, hC (A 15) 45 k = 0 ∨ hC (A 15) 45 k = 1 := by
        intro k
        unfold hC
        split
        · exact Or.inl rfl
        · exact hh k
      have gw : ∀ (m : Nat) (z : (Int → Int) × (Int → Int)), (∀ k, z.1 k = 0 ∨ z.1 k = 1) → ∀ k, (gWr 15 4 m z).1 k = 0 ∨ (gWr 15 4 m z).1 k = 1 := by
        intro m
        induction m with
        | zero => exact fun z h => h
        | succ m ih =>
          intro z h
          unfold gWr
          split
          · exact (gR0_ok h).2
          · exact ih _ (gR0_ok h).2
      rw [← hZ]
      exact gw m _ (sL_b hc01 P)
    have hs2o : ∀ p, p < 2025 → s2 p = Z.2 p := fun p hp => by
      rw [← hs2, ← hZ]
      unfold vK aK
      rw [dA_o hp, lW_o hp]
    have rtn : ∀ (F' : Nat → Int) (A' : Nat → Int → Int) (s' : Int → Int) (u1 u2 u3 : Option eV), F' 10 = vA A s P m → rn (A' 0) s' → svR F A s P m F' A' s' → K 225 [some eRR, u1, u2, u3] [] (cR F' A') := by
      intro F' A' s' u1 u2 u3 h10 hr' hv
      refine x_aload_n hK kX10_solve_225 (q := 226) rfl rfl ?_
      refine x_getfield hK kX10_solve_226 (q := 229) rfl (gX10_42 ?_)
      rw [h10]
      refine x_ireturn hK kX10_solve_229 (by first | trivial | exact Or.inl rfl | exact Or.inr rfl) ?_
      exact hfin F' A' s' hr' hv
    -- answering
    have fin : ∀ (F' : Nat → Int) (A' : Nat → Int → Int) (u1 u2 u3 : Option eV), F' 12 = 0 → F' 6 = F 6 → F' 9 = F 6 → F' 11 = F 11 + 1 → F' 13 = 4 → F' 14 = 15 → F' 17 = E.2 → F' 22 = (if tF s2 2025 15 < 0 then 1 else 0) → A' 4 = A 4 → A' 5 = A 5 → (∀ k : Nat, k < 24 → A' 7 k = A 4 k) → (∀ k : Nat, k < 6 → A' 8 k = A 5 k) → A' 15 = Z.1 → A' 16 = E.1 → A' 18 = A 18 → rn (A' 0) s2 → K 197 [some eRR, u1, u2, u3] [eI (vA A s P m), eRR] (cR F' A') := by
      intro F' A' u1 u2 u3 f12 f6 f9 f11 f13 f14 f17 f22 a4 a5 a7 a8 a15 a16 a18 hr'
      have hva := vA_b A s P m
      refine x_putfield hK kX10_solve_197 (q := 200) rfl (pX10_42 ?_)
      refine x_aload_n hK kX10_solve_200 (q := 201) rfl rfl ?_
      refine x_iconst hK kX10_solve_201 (q := 202) rfl ?_
      refine x_putfield hK kX10_solve_202 (q := 205) rfl (pX10_223 ?_)
      refine x_aload_n hK kX10_solve_205 (q := 206) rfl rfl ?_
      refine x_getfield hK kX10_solve_206 (q := 209) rfl (gX10_42 ?_)
      rw [uF_n _ _ (by decide), uF_g]
      refine x_iconst hK kX10_solve_209 (q := 210) rfl ?_
      refine x_icmp_ge hK kX10_solve_210 (q := 213) rfl (tg := 225) rfl (by refine ⟨?_, ?_⟩ <;> omega) (fun c210 => ?_) (fun c210 => ?_)
      · have res : svR F A s P m (uF (uF F' 10 (vA A s P m)) 19 0) A' s2 := by
          have ff : ∀ j, j ≠ 10 → j ≠ 19 → (uF (uF F' 10 (vA A s P m)) 19 0) j = F' j := fun j j0 j1 => by rw [uF_n _ _ j1, uF_n _ _ j0]
          refine ⟨⟨?_, ?_, ?_, ?_, ?_, ?_, ?_, ?_, ?_⟩, ⟨a4, a5, a7, a8, ?_, ?_, ?_⟩, fun q => ?_, ?_⟩
          · rw [ff 12 (by decide) (by decide)]; exact f12
          · rw [ff 6 (by decide) (by decide)]; exact f6
          · rw [ff 9 (by decide) (by decide)]; exact f9
          · rw [uF_n _ _ (by decide), uF_g]
          · rw [ff 11 (by decide) (by decide)]; exact f11
          · rw [ff 13 (by decide) (by decide)]; exact f13
          · rw [ff 14 (by decide) (by decide)]; exact f14
          · rw [ff 17 (by decide) (by decide), hEE]; exact f17
          · rw [ff 22 (by decide) (by decide), hs2]; exact f22
          · rw [hZ]; exact a15
          · rw [hEE]; exact a16
          · rw [hZ]; exact hs2o
          · omega
          · rw [uF_g]; decide
        exact rtn _ A' s2 _ _ _ (by rw [uF_n _ _ (by decide), uF_g]) hr' res
      · refine x_aload_n hK kX10_solve_213 (q := 214) rfl rfl ?_
        refine x_cv1 hK kX10_solve_214 (q := 217) rfl (vtX10_solve_226) (Nat.le_of_ble_eq_true rfl) ?_
        obtain ⟨t1, t2, ⟨Δ, U, t3⟩, H0, W0, M0, t4⟩ := hTT (by omega)
        have eG : fG E.1 E.2 (A' 18) 15 = G := by rw [a18, ← hG, ← hEE]; rfl
        rw [hG] at t1 t2 t3 t4
        rw [hZ, hs2] at t3
        refine SX10_gather_i (n := 15) (N := E.2) (by rw [uF_n _ _ (by decide), uF_n _ _ (by decide)]; exact f14) (by decide) (by rw [uF_n _ _ (by decide), uF_n _ _ (by decide)]; exact f17) (by omega) (by rw [uF_g]) (fun i hi => by rw [a16]; have := hEb i hi; omega) (by rw [a16, eG]; exact t1) (fun F2 A2 g1 g2 g3 g4 => ?_)
        rw [a16, eG] at g2 g4
        have b8 : tRm (A2 15) s2 (A2 18) (A2 8) G.2 Δ U := by
          rw [g3 15 (by decide), a15, g4, g3 8 (by decide)]
          obtain ⟨c1, c2, c3, c4, c5, c6, c7, c8⟩ := t3
          refine ⟨c1, c2, c3, c4, c5, c6, fun k hk => ?_, c8⟩
          rw [a8 k hk]
          exact c7 k hk
        refine x_aload_n hK kX10_solve_217 (q := 218) rfl rfl ?_
        refine x_cv1 hK kX10_solve_218 (q := 221) rfl (vtX10_solve_229) (Nat.le_of_ble_eq_true rfl) ?_
        refine SX10_tables_i Δ U (by rw [g3 0 (by decide)]; exact hr') g2 t1 (by rw [g3 15 (by decide), a15]; exact hZ01) (by rw [g4]; exact t2) b8 (fun A3 s3 k3 r3 o3 => ?_)
        have hTq : hT G.2 (xT Z.1 s2 G.1 (dnF Z.1 s2 G.1 G.2) 0) (xT Z.1 s2 G.1 (dnF Z.1 s2 G.1 G.2) 1) (dnF Z.1 s2 G.1 G.2) (A2 8) 6 = vH A s P m := by
          have cg : ∀ k : Nat, k ≤ 6 → hT G.2 (xT Z.1 s2 G.1 (dnF Z.1 s2 G.1 G.2) 0) (xT Z.1 s2 G.1 (dnF Z.1 s2 G.1 G.2) 1) (dnF Z.1 s2 G.1 G.2) (A2 8) k = hT G.2 (xT Z.1 s2 G.1 (dnF Z.1 s2 G.1 G.2) 0) (xT Z.1 s2 G.1 (dnF Z.1 s2 G.1 G.2) 1) (dnF Z.1 s2 G.1 G.2) (A 5) k := by
            intro k
            induction k with
            | zero => intro _; rfl
            | succ k ih =>
              intro hk
              funext i j
              show hT _ _ _ _ (A2 8) k i j + _ = hT _ _ _ _ (A 5) k i j + _
              rw [ih (by omega), g3 8 (by decide), a8 k (by omega)]
          rw [cg 6 (Nat.le_refl _)]
          unfold vH vX vD
          rw [hG, hZ, hs2]
        unfold tOk at o3
        rw [g3 15 (by decide), a15, g4, hTq] at o3
        obtain ⟨o31, o32, o33, o34, o35, o36⟩ := o3
        refine x_aload_n hK kX10_solve_221 (q := 222) rfl rfl ?_
        refine x_cv1 hK kX10_solve_222 (q := 225) rfl (vtX10_solve_232) (Nat.le_of_ble_eq_true rfl) ?_
        refine SX10_forms_i (vH A s P m) (vM A s P m) H0 W0 M0 r3 g2 t1 o36 (fun i hi => by have := o35 i hi; unfold vM vX vD; rw [hG, hZ, hs2]; exact this) t4 (fun A4 s4 k4 v4 r4 q4 o4 => ?_)
        have f10 : F2 10 = vA A s P m := by rw [g1 10 (by decide), uF_n _ _ (by decide), uF_g]
        have ff : ∀ j, j ≠ 10 → j ≠ 19 → F2 j = F' j := fun j j0 j1 => by rw [g1 j j1, uF_n _ _ j1, uF_n _ _ j0]
        have aa : ∀ k, 4 ≤ k → k ≠ 18 → k ≠ 20 → k ≠ 21 → A4 k = A' k := fun k k0 k1 k2 k5 => by rw [k4 k k0 k2 k5, k3 k k0, g3 k k1]
        have res : svR F A s P m F2 A4 s4 := by
          refine ⟨⟨?_, ?_, ?_, ?_, ?_, ?_, ?_, ?_, ?_⟩, ⟨?_, ?_, ?_, ?_, ?_, ?_, ?_⟩, fun _ => ⟨?_, ?_, ?_, ?_, ?_, ?_, ?_⟩, ?_⟩
          · rw [ff 12 (by decide) (by decide)]; exact f12
          · rw [ff 6 (by decide) (by decide)]; exact f6
          · rw [ff 9 (by decide) (by decide)]; exact f9
          · exact f10
          · rw [ff 11 (by decide) (by decide)]; exact f11
          · rw [ff 13 (by decide) (by decide)]; exact f13
          · rw [ff 14 (by decide) (by decide)]; exact f14
          · rw [ff 17 (by decide) (by decide), hEE]; exact f17
          · rw [ff 22 (by decide) (by decide), hs2]; exact f22
          · rw [aa 4 (by decide) (by decide) (by decide) (by decide)]; exact a4
          · rw [aa 5 (by decide) (by decide) (by decide) (by decide)]; exact a5
          · rw [aa 7 (by decide) (by decide) (by decide) (by decide)]; exact a7
          · rw [aa 8 (by decide) (by decide) (by decide) (by decide)]; exact a8
          · rw [aa 15 (by decide) (by decide) (by decide) (by decide), hZ]; exact a15
          · rw [aa 16 (by decide) (by decide) (by decide) (by decide), hEE]; exact a16
          · intro p hp
            rw [o4 p (Or.inl (by omega)), o31 p (by omega), hs2o p hp, hZ]
          · rw [hG]; exact g2
          · rw [k4 18 (by decide) (by decide) (by decide), k3 18 (by decide), g4, hG]
          · rw [o4 2076 (Or.inr (Or.inl rfl)), o32]
            unfold vD
            rw [hG, hZ, hs2]
          · unfold vX vD
            rw [hG, hZ, hs2]
            exact fun i j hi hj => (o4 _ (Or.inr (Or.inr (Or.inl (by omega))))).trans (o33 i j hi hj)
          · unfold vX vD
            rw [hG, hZ, hs2]
            exact fun i j hi hj => (o4 _ (Or.inr (Or.inr (Or.inl (by omega))))).trans (o34 i j hi hj)
          · rw [hG]
            exact fun i j hi hj => (o4 _ (Or.inr (Or.inr (Or.inl (by omega))))).trans (o36 i j hi hj)
          · intro e he
            unfold vF
            rw [hG]
            exact ⟨q4 e he, (v4 e he).1, (v4 e he).2⟩
          · have g219 : F2 19 = (G.2 : Int) := g2
            constructor <;> omega
        exact rtn F2 A4 s4 _ _ _ f10 r4 res
    -- the flags
    have flg : ∀ (d i : Nat) (F' : Nat → Int) (A' : Nat → Int → Int) (x y : Int), i + d = E.2 → (x = 0 ∨ x = 1) → (y = 0 ∨ y = 1) → (x = 1 ↔ ∃ j : Nat, j < i ∧ mY (E.1 j) = 0) → (y = 1 ↔ ∃ j : Nat, j < i ∧ mX (E.1 j) = 0) → F' 12 = 0 → F' 6 = F 6 → F' 9 = F 6 → F' 11 = F 11 + 1 → F' 13 = 4 → F' 14 = 15 → F' 17 = E.2 → F' 22 = (if tF s2 2025 15 < 0 then 1 else 0) → A' 4 = A 4 → A' 5 = A 5 → (∀ k : Nat, k < 24 → A' 7 k = A 4 k) → (∀ k : Nat, k < 6 → A' 8 k = A 5 k) → A' 15 = Z.1 → A' 16 = E.1 → A' 18 = A 18 → rn (A' 0) s2 → K 112 [some eRR, some (eI x), some (eI y), some (eI i)] [] (cR F' A') := by
      intro d
      induction d with
      | zero =>
        intro i F' A' x y hi x0 y0 x1 y1 f12 f6 f9 f11 f13 f14 f17 f22 a4 a5 a7 a8 a15 a16 a18 hr'
        have e : i = E.2 := by omega
        subst e
        have hB2 : vB E.1 E.2 = true ↔ x = 1 ∧ y = 1 := by
          unfold vB
          simp only [Bool.and_eq_true, List.any_eq_true, List.mem_range, decide_eq_true_eq]
          rw [x1, y1]
        have hva : ∀ c : Int, (Z.1 0 ≠ 0 → c = 0) → (Z.1 0 = 0 → x = 1 → y = 1 → c = 1) → (Z.1 0 = 0 → ¬ (x = 1 ∧ y = 1) → c = 2) → c = vA A s P m := by
          intro c c0 c1 c2
          unfold vA
          rw [hZ, hEE]
          rcases Decidable.em (Z.1 0 = 0) with g | g
          · rw [if_pos g]
            rcases Decidable.em (x = 1 ∧ y = 1) with g2 | g2
            · rw [if_pos (hB2.mpr g2)]
              exact c1 g g2.1 g2.2
            · rw [if_neg (fun q => g2 (hB2.mp q))]
              exact c2 g g2
          · rw [if_neg g]
            exact c0 g
        have wz : w32 (Z.1 0) := by rcases hZ01 0 with g | g <;> rw [g] <;> decide
        have go : ∀ c : Int, c = vA A s P m → K 197 [some eRR, some (eI x), some (eI y), some (eI (E.2 : Int))] [eI c, eRR] (cR F' A') := by
          intro c hc
          rw [hc]
          exact fin F' A' _ _ _ f12 f6 f9 f11 f13 f14 f17 f22 a4 a5 a7 a8 a15 a16 a18 hr'
        refine x_iload_n hK kX10_solve_112 (q := 113) rfl rfl ?_
        refine x_aload_n hK kX10_solve_113 (q := 114) rfl rfl ?_
        refine x_getfield hK kX10_solve_114 (q := 117) rfl (gX10_196 ?_)
        rw [f17]
        refine x_icmp_ge hK kX10_solve_117 (q := 120) rfl (tg := 170) rfl (by refine ⟨?_, ?_⟩ <;> omega) (fun c117 => ?_) (fun c117 => ?_)
        · refine x_aload_n hK kX10_solve_170 (q := 171) rfl rfl ?_
          refine x_aload_n hK kX10_solve_171 (q := 172) rfl rfl ?_
          refine x_getfield hK kX10_solve_172 (q := 175) rfl (gX10_45 ?_)
          refine x_iconst hK kX10_solve_175 (q := 176) rfl ?_
          refine x_baload hK kX10_solve_176 (q := 177) rfl (aX10_A15 (by refine ⟨?_, ?_⟩ <;> omega) ?_)
          rw [a15]
          refine x_if_eq hK kX10_solve_177 (q := 180) rfl (tg := 184) rfl (by exact wz) (fun c177 => ?_) (fun c177 => ?_)
          · have v1 : Z.1 0 = 0 := c177
            refine x_iload_n hK kX10_solve_184 (q := 185) rfl rfl ?_
            refine x_if_eq hK kX10_solve_185 (q := 188) rfl (tg := 196) rfl (by rcases x0 with e | e <;> rw [e] <;> decide) (fun c185 => ?_) (fun c185 => ?_)
            · have v3 : ¬ (x = 1 ∧ y = 1) := by rintro ⟨q, -⟩; rw [q] at c185; exact absurd c185 (by decide)
              refine x_iconst hK kX10_solve_196 (q := 197) rfl ?_
              first
              | exact go 0 (hva 0 (fun _ => rfl) (fun q _ _ => absurd q ‹¬ Z.1 0 = 0›) (fun q _ => absurd q ‹¬ Z.1 0 = 0›))
              | exact go 2 (hva 2 (fun q => absurd ‹Z.1 0 = 0› q) (fun _ q q2 => absurd ⟨q, q2⟩ ‹¬ (x = 1 ∧ y = 1)›) (fun _ _ => rfl))
              | exact go 1 (hva 1 (fun q => absurd ‹Z.1 0 = 0› q) (fun _ _ _ => rfl) (fun _ q => absurd ⟨‹x = 1›, ‹y = 1›⟩ q))
            · have v4 : x = 1 := x0.resolve_left c185
              refine x_iload_n hK kX10_solve_188 (q := 189) rfl rfl ?_
              refine x_if_eq hK kX10_solve_189 (q := 192) rfl (tg := 196) rfl (by rcases y0 with e | e <;> rw [e] <;> decide) (fun c189 => ?_) (fun c189 => ?_)
              · have v3 : ¬ (x = 1 ∧ y = 1) := by rintro ⟨-, q⟩; rw [q] at c189; exact absurd c189 (by decide)
                refine x_iconst hK kX10_solve_196 (q := 197) rfl ?_
                first
                | exact go 0 (hva 0 (fun _ => rfl) (fun q _ _ => absurd q ‹¬ Z.1 0 = 0›) (fun q _ => absurd q ‹¬ Z.1 0 = 0›))
                | exact go 2 (hva 2 (fun q => absurd ‹Z.1 0 = 0› q) (fun _ q q2 => absurd ⟨q, q2⟩ ‹¬ (x = 1 ∧ y = 1)›) (fun _ _ => rfl))
                | exact go 1 (hva 1 (fun q => absurd ‹Z.1 0 = 0› q) (fun _ _ _ => rfl) (fun _ q => absurd ⟨‹x = 1›, ‹y = 1›⟩ q))
              · have v5 : y = 1 := y0.resolve_left c189
                refine x_iconst hK kX10_solve_192 (q := 193) rfl ?_
                refine x_goto hK kX10_solve_193 (tg := 197) rfl ?_
                first
                | exact go 0 (hva 0 (fun _ => rfl) (fun q _ _ => absurd q ‹¬ Z.1 0 = 0›) (fun q _ => absurd q ‹¬ Z.1 0 = 0›))
                | exact go 2 (hva 2 (fun q => absurd ‹Z.1 0 = 0› q) (fun _ q q2 => absurd ⟨q, q2⟩ ‹¬ (x = 1 ∧ y = 1)›) (fun _ _ => rfl))
                | exact go 1 (hva 1 (fun q => absurd ‹Z.1 0 = 0› q) (fun _ _ _ => rfl) (fun _ q => absurd ⟨‹x = 1›, ‹y = 1›⟩ q))
          · have v2 : ¬ Z.1 0 = 0 := c177
            refine x_iconst hK kX10_solve_180 (q := 181) rfl ?_
            refine x_goto hK kX10_solve_181 (tg := 197) rfl ?_
            first
            | exact go 0 (hva 0 (fun _ => rfl) (fun q _ _ => absurd q ‹¬ Z.1 0 = 0›) (fun q _ => absurd q ‹¬ Z.1 0 = 0›))
            | exact go 2 (hva 2 (fun q => absurd ‹Z.1 0 = 0› q) (fun _ q q2 => absurd ⟨q, q2⟩ ‹¬ (x = 1 ∧ y = 1)›) (fun _ _ => rfl))
            | exact go 1 (hva 1 (fun q => absurd ‹Z.1 0 = 0› q) (fun _ _ _ => rfl) (fun _ q => absurd ⟨‹x = 1›, ‹y = 1›⟩ q))
        · exfalso; omega
      | succ d ih =>
        intro i F' A' x y hi x0 y0 x1 y1 f12 f6 f9 f11 f13 f14 f17 f22 a4 a5 a7 a8 a15 a16 a18 hr'
        have hb := hEb i (by omega)
        have q1 := mX_h (u := E.1 i) (by omega)
        have q2 := mY_h (u := E.1 i) (by omega)
        have q3 := mD_h (u := E.1 i) (by omega)
        have wx : w32 (mX (E.1 i)) := by constructor <;> omega
        have wy : w32 (mY (E.1 i)) := by constructor <;> omega
        have ex : ∀ (c : Int) (f : Int → Int) (z : Int), (z = 0 ∨ z = 1) → (z = 1 ↔ ∃ j : Nat, j < i ∧ f (E.1 j) = 0) → (c = 0 ∨ c = 1) → (c = 1 ↔ z = 1 ∨ f (E.1 i) = 0) → (c = 1 ↔ ∃ j : Nat, j < i + 1 ∧ f (E.1 j) = 0) := by
          intro c f z z0 z1 c0 c1
          rw [c1, z1]
          constructor
          · rintro (⟨j, j0, j1⟩ | g)
            · exact ⟨j, by omega, j1⟩
            · exact ⟨i, by omega, g⟩
          · rintro ⟨j, j0, j1⟩
            rcases Nat.lt_or_ge j i with g | g
            · exact Or.inl ⟨j, g, j1⟩
            · right
              rw [← show j = i by omega]
              exact j1
        have nx : ∀ (x' y' : Int), (x' = 0 ∨ x' = 1) → (y' = 0 ∨ y' = 1) → (x' = 1 ↔ x = 1 ∨ mY (E.1 i) = 0) → (y' = 1 ↔ y = 1 ∨ mX (E.1 i) = 0) → K 164 [some eRR, some (eI x'), some (eI y'), some (eI i)] [] (cR F' A') := by
          intro x' y' x'0 y'0 x'1 y'1
          refine x_iinc hK kX10_solve_164 (q := 167) rfl rfl ?_
          simp only [lS, lS2, clr_0, clr_I, clr_L, clr_R]
          refine x_goto hK kX10_solve_167 (tg := 112) rfl ?_
          rw [show (i : Int) + 1 = ((i + 1 : Nat) : Int) by omega]
          exact ih (i + 1) F' A' x' y' (by omega) x'0 y'0 (ex x' mY x x0 x1 x'0 x'1) (ex y' mX y y0 y1 y'0 y'1) f12 f6 f9 f11 f13 f14 f17 f22 a4 a5 a7 a8 a15 a16 a18 hr'
        have md : ∀ (x' : Int), (x' = 0 ∨ x' = 1) → (x' = 1 ↔ x = 1 ∨ mY (E.1 i) = 0) → K 142 [some eRR, some (eI x'), some (eI y), some (eI i)] [] (cR F' A') := by
          intro x' x'0 x'1
          refine x_iload_n hK kX10_solve_142 (q := 143) rfl rfl ?_
          refine x_if_ne hK kX10_solve_143 (q := 146) rfl (tg := 158) rfl (by rcases y0 with e | e <;> rw [e] <;> decide) (fun c143 => ?_) (fun c143 => ?_)
          · have v1 : y = 1 := y0.resolve_left c143
            refine x_iconst hK kX10_solve_158 (q := 159) rfl ?_
            refine x_goto hK kX10_solve_159 (tg := 163) rfl ?_
            refine x_istore_n hK kX10_solve_163 (q := 164) (jn := 2) rfl rfl ?_
            simp only [lS, lS2, clr_0, clr_I, clr_L, clr_R]
            first
            | exact nx x' 1 x'0 (Or.inr rfl) x'1 ⟨fun _ => Or.inl ‹y = 1›, fun _ => rfl⟩
            | exact nx x' 1 x'0 (Or.inr rfl) x'1 ⟨fun _ => Or.inr ‹mX (E.1 i) = 0›, fun _ => rfl⟩
            | exact nx x' 0 x'0 (Or.inl rfl) x'1 ⟨fun q => absurd q (by decide), fun q => absurd q ‹¬ (y = 1 ∨ mX (E.1 i) = 0)›⟩
          · refine x_aload_n hK kX10_solve_146 (q := 147) rfl rfl ?_
            refine x_getfield hK kX10_solve_147 (q := 150) rfl (gX10_49 ?_)
            refine x_iload_n hK kX10_solve_150 (q := 151) rfl rfl ?_
            refine x_iaload hK kX10_solve_151 (q := 152) rfl (aX10_A16 (by refine ⟨?_, ?_⟩ <;> omega) ?_)
            rw [a16]
            refine x_cs1 hK kX10_solve_152 (q := 155) rfl (stX10_solve_142) (Nat.le_of_ble_eq_true rfl) ?_
            refine SX10_xOf_i (by omega) ?_
            refine x_if_ne hK kX10_solve_155 (q := 158) rfl (tg := 162) rfl (by exact wx) (fun c155 => ?_) (fun c155 => ?_)
            · have v2 : ¬ (y = 1 ∨ mX (E.1 i) = 0) := by
                rintro (q | q)
                · exact c143 (by rw [q]; decide)
                · exact c155 q
              refine x_iconst hK kX10_solve_162 (q := 163) rfl ?_
              refine x_istore_n hK kX10_solve_163 (q := 164) (jn := 2) rfl rfl ?_
              simp only [lS, lS2, clr_0, clr_I, clr_L, clr_R]
              first
              | exact nx x' 1 x'0 (Or.inr rfl) x'1 ⟨fun _ => Or.inl ‹y = 1›, fun _ => rfl⟩
              | exact nx x' 1 x'0 (Or.inr rfl) x'1 ⟨fun _ => Or.inr ‹mX (E.1 i) = 0›, fun _ => rfl⟩
              | exact nx x' 0 x'0 (Or.inl rfl) x'1 ⟨fun q => absurd q (by decide), fun q => absurd q ‹¬ (y = 1 ∨ mX (E.1 i) = 0)›⟩
            · have v3 : mX (E.1 i) = 0 := Decidable.not_not.mp c155
              refine x_iconst hK kX10_solve_158 (q := 159) rfl ?_
              refine x_goto hK kX10_solve_159 (tg := 163) rfl ?_
              refine x_istore_n hK kX10_solve_163 (q := 164) (jn := 2) rfl rfl ?_
              simp only [lS, lS2, clr_0, clr_I, clr_L, clr_R]
              first
              | exact nx x' 1 x'0 (Or.inr rfl) x'1 ⟨fun _ => Or.inl ‹y = 1›, fun _ => rfl⟩
              | exact nx x' 1 x'0 (Or.inr rfl) x'1 ⟨fun _ => Or.inr ‹mX (E.1 i) = 0›, fun _ => rfl⟩
              | exact nx x' 0 x'0 (Or.inl rfl) x'1 ⟨fun q => absurd q (by decide), fun q => absurd q ‹¬ (y = 1 ∨ mX (E.1 i) = 0)›⟩
        refine x_iload_n hK kX10_solve_112 (q := 113) rfl rfl ?_
        refine x_aload_n hK kX10_solve_113 (q := 114) rfl rfl ?_
        refine x_getfield hK kX10_solve_114 (q := 117) rfl (gX10_196 ?_)
        rw [f17]
        refine x_icmp_ge hK kX10_solve_117 (q := 120) rfl (tg := 170) rfl (by refine ⟨?_, ?_⟩ <;> omega) (fun c117 => ?_) (fun c117 => ?_)
        · exfalso; omega
        · refine x_iload_n hK kX10_solve_120 (q := 121) rfl rfl ?_
          refine x_if_ne hK kX10_solve_121 (q := 124) rfl (tg := 136) rfl (by rcases x0 with e | e <;> rw [e] <;> decide) (fun c121 => ?_) (fun c121 => ?_)
          · have v1 : x = 1 := x0.resolve_left c121
            refine x_iconst hK kX10_solve_136 (q := 137) rfl ?_
            refine x_goto hK kX10_solve_137 (tg := 141) rfl ?_
            refine x_istore_n hK kX10_solve_141 (q := 142) (jn := 1) rfl rfl ?_
            simp only [lS, lS2, clr_0, clr_I, clr_L, clr_R]
            first
            | exact md 1 (Or.inr rfl) ⟨fun _ => Or.inl ‹x = 1›, fun _ => rfl⟩
            | exact md 1 (Or.inr rfl) ⟨fun _ => Or.inr ‹mY (E.1 i) = 0›, fun _ => rfl⟩
            | exact md 0 (Or.inl rfl) ⟨fun q => absurd q (by decide), fun q => absurd q ‹¬ (x = 1 ∨ mY (E.1 i) = 0)›⟩
          · refine x_aload_n hK kX10_solve_124 (q := 125) rfl rfl ?_
            refine x_getfield hK kX10_solve_125 (q := 128) rfl (gX10_49 ?_)
            refine x_iload_n hK kX10_solve_128 (q := 129) rfl rfl ?_
            refine x_iaload hK kX10_solve_129 (q := 130) rfl (aX10_A16 (by refine ⟨?_, ?_⟩ <;> omega) ?_)
            rw [a16]
            refine x_cs1 hK kX10_solve_130 (q := 133) rfl (stX10_solve_145) (Nat.le_of_ble_eq_true rfl) ?_
            refine SX10_yOf_i (by omega) ?_
            refine x_if_ne hK kX10_solve_133 (q := 136) rfl (tg := 140) rfl (by exact wy) (fun c133 => ?_) (fun c133 => ?_)
            · have v2 : ¬ (x = 1 ∨ mY (E.1 i) = 0) := by
                rintro (q | q)
                · exact c121 (by rw [q]; decide)
                · exact c133 q
              refine x_iconst hK kX10_solve_140 (q := 141) rfl ?_
              refine x_istore_n hK kX10_solve_141 (q := 142) (jn := 1) rfl rfl ?_
              simp only [lS, lS2, clr_0, clr_I, clr_L, clr_R]
              first
              | exact md 1 (Or.inr rfl) ⟨fun _ => Or.inl ‹x = 1›, fun _ => rfl⟩
              | exact md 1 (Or.inr rfl) ⟨fun _ => Or.inr ‹mY (E.1 i) = 0›, fun _ => rfl⟩
              | exact md 0 (Or.inl rfl) ⟨fun q => absurd q (by decide), fun q => absurd q ‹¬ (x = 1 ∨ mY (E.1 i) = 0)›⟩
            · have v3 : mY (E.1 i) = 0 := Decidable.not_not.mp c133
              refine x_iconst hK kX10_solve_136 (q := 137) rfl ?_
              refine x_goto hK kX10_solve_137 (tg := 141) rfl ?_
              refine x_istore_n hK kX10_solve_141 (q := 142) (jn := 1) rfl rfl ?_
              simp only [lS, lS2, clr_0, clr_I, clr_L, clr_R]
              first
              | exact md 1 (Or.inr rfl) ⟨fun _ => Or.inl ‹x = 1›, fun _ => rfl⟩
              | exact md 1 (Or.inr rfl) ⟨fun _ => Or.inr ‹mY (E.1 i) = 0›, fun _ => rfl⟩
              | exact md 0 (Or.inl rfl) ⟨fun q => absurd q (by decide), fun q => absurd q ‹¬ (x = 1 ∨ mY (E.1 i) = 0)›⟩
    -- copying what is solved and asked
    have sol : ∀ (F1 : Nat → Int) (A1 : Nat → Int → Int) (u1 u2 u3 : Option eV), F1 12 = 0 → F1 6 = F 6 → F1 9 = F 6 → F1 11 = F 11 + 1 → (∀ k, k ≠ 7 → k ≠ 8 → A1 k = A k) → (∀ k : Nat, k < 24 → A1 7 k = A 4 k) → (∀ k : Nat, k < 6 → A1 8 k = A 5 k) → K 98 [some eRR, u1, u2, u3] [] (cR F1 A1) := by
      intro F1 A1 u1 u2 u3 f12 f6 f9 f11 hA1 h7 h8
      have e4 : A1 4 = A 4 := hA1 4 (by decide) (by decide)
      have e15 : A1 15 = A 15 := hA1 15 (by decide) (by decide)
      have eZ : cZ1 F1 A1 s P m = Z := by
        rw [← hZ]
        unfold cZ1 cZ0 vZ
        rw [e4, e15]
      have eE : cE1 F1 A1 s P m = E := by
        unfold cE1
        rw [eZ, hA1 16 (by decide) (by decide), ← hEE]
        unfold vE
        rw [hZ]
      refine x_aload_n hK kX10_solve_98 (q := 99) rfl rfl ?_
      refine x_cv1 hK kX10_solve_99 (q := 102) rfl (vtX10_solve_217) (Nat.le_of_ble_eq_true rfl) ?_
      refine SX10_close_i m (by rw [hA1 0 (by decide) (by decide)]; exact hr) (by rw [f6]; exact hP) hP4 (by rw [e15]; exact hh) (fun k hk => by rw [e4]; exact (hw7 k hk).2) (by rw [e4, e15]; exact hB) (by unfold cZ0; rw [e4, e15]; exact hW) (by rw [eE, ← hEE]; exact hE) (fun F2 A2 g1 g2 g3 g4 g5 g6 g7 g8 => ?_)
      rw [eE] at g4 g7
      rw [eZ] at g6 g8
      have e5 : A2 5 = A 5 := by rw [g5 5 (by decide) (by decide) (by decide), hA1 5 (by decide) (by decide)]
      have eK : aK (A2 15) (A2 5) Z.2 15 = s2 := by
        rw [g6, e5, ← hs2]
        unfold vK
        rw [hZ]
      refine x_aload_n hK kX10_solve_102 (q := 103) rfl rfl ?_
      refine x_cv1 hK kX10_solve_103 (q := 106) rfl (vtX10_solve_220) (Nat.le_of_ble_eq_true rfl) ?_
      refine SX10_askMember_i (n := 15) g8 g3 (by decide) (by rw [g6]; exact hZ01) (fun k hk => by rw [e5]; have := (hw8 k hk).2; constructor <;> omega) (by rw [g6, e5, ← hZ]; exact hD) (fun A3 k3 r3 => ?_)
      rw [eK] at r3 ⊢
      refine x_iconst hK kX10_solve_106 (q := 107) rfl ?_
      refine x_istore_n hK kX10_solve_107 (q := 108) (jn := 1) rfl rfl ?_
      refine x_iconst hK kX10_solve_108 (q := 109) rfl ?_
      refine x_istore_n hK kX10_solve_109 (q := 110) (jn := 2) rfl rfl ?_
      refine x_iconst hK kX10_solve_110 (q := 111) rfl ?_
      refine x_istore_n hK kX10_solve_111 (q := 112) (jn := 3) rfl rfl ?_
      simp only [lS, lS2, clr_0, clr_I, clr_L, clr_R]
      exact flg E.2 0 _ A3 0 0 (by omega) (Or.inl rfl) (Or.inl rfl) ⟨fun q => absurd q (by decide), fun ⟨j, j0, _⟩ => by omega⟩ ⟨fun q => absurd q (by decide), fun ⟨j, j0, _⟩ => by omega⟩
        (by rw [uF_n _ _ (by decide), g1 12 (by decide) (by decide) (by decide)]; exact f12)
        (by rw [uF_n _ _ (by decide), g1 6 (by decide) (by decide) (by decide)]; exact f6)
        (by rw [uF_n _ _ (by decide), g1 9 (by decide) (by decide) (by decide)]; exact f9)
        (by rw [uF_n _ _ (by decide), g1 11 (by decide) (by decide) (by decide)]; exact f11)
        (by rw [uF_n _ _ (by decide)]; exact g2) (by rw [uF_n _ _ (by decide)]; exact g3) (by rw [uF_n _ _ (by decide)]; exact g4) (by rw [uF_g])
        (by rw [k3 4 (by decide), g5 4 (by decide) (by decide) (by decide)]; exact e4) (by rw [k3 5 (by decide)]; exact e5)
        (fun k hk => by rw [k3 7 (by decide), g5 7 (by decide) (by decide) (by decide)]; exact h7 k hk)
        (fun k hk => by rw [k3 8 (by decide), g5 8 (by decide) (by decide) (by decide)]; exact h8 k hk)
        (by rw [k3 15 (by decide)]; exact g6) (by rw [k3 16 (by decide)]; exact g7)
        (by rw [k3 18 (by decide), g5 18 (by decide) (by decide) (by decide), hA1 18 (by decide) (by decide)]) r3
    have cp2 : ∀ (d k : Nat) (F1 : Nat → Int) (A1 : Nat → Int → Int) (u2 u3 : Option eV), k + d = 6 → F1 12 = 0 → F1 6 = F 6 → F1 9 = F 6 → F1 11 = F 11 + 1 → (∀ k, k ≠ 7 → k ≠ 8 → A1 k = A k) → (∀ k : Nat, k < 24 → A1 7 k = A 4 k) → (∀ j : Nat, j < k → A1 8 j = A 5 j) → K 74 [some eRR, some (eI k), u2, u3] [] (cR F1 A1) := by
      intro d
      induction d with
      | zero =>
        intro k F1 A1 u2 u3 hk f12 f6 f9 f11 hA1 h7 h8
        have e : k = 6 := by omega
        subst e
        refine x_iload_n hK kX10_solve_74 (q := 75) rfl rfl ?_
        refine x_bipush hK kX10_solve_75 (q := 77) rfl (by decide) ?_
        refine x_icmp_ge hK kX10_solve_77 (q := 80) rfl (tg := 98) rfl (by refine ⟨?_, ?_⟩ <;> omega) (fun c77 => ?_) (fun c77 => ?_)
        · exact sol F1 A1 _ _ _ f12 f6 f9 f11 hA1 h7 h8
        · exfalso; omega
      | succ d ih =>
        intro k F1 A1 u2 u3 hk f12 f6 f9 f11 hA1 h7 h8
        refine x_iload_n hK kX10_solve_74 (q := 75) rfl rfl ?_
        refine x_bipush hK kX10_solve_75 (q := 77) rfl (by decide) ?_
        refine x_icmp_ge hK kX10_solve_77 (q := 80) rfl (tg := 98) rfl (by refine ⟨?_, ?_⟩ <;> omega) (fun c77 => ?_) (fun c77 => ?_)
        · exfalso; omega
        · refine x_aload_n hK kX10_solve_80 (q := 81) rfl rfl ?_
          refine x_getfield hK kX10_solve_81 (q := 84) rfl (gX10_35 ?_)
          refine x_iload_n hK kX10_solve_84 (q := 85) rfl rfl ?_
          refine x_aload_n hK kX10_solve_85 (q := 86) rfl rfl ?_
          refine x_getfield hK kX10_solve_86 (q := 89) rfl (gX10_29 ?_)
          refine x_iload_n hK kX10_solve_89 (q := 90) rfl rfl ?_
          refine x_iaload hK kX10_solve_90 (q := 91) rfl (aX10_A5 (by refine ⟨?_, ?_⟩ <;> omega) ?_)
          rw [hA1 5 (by decide) (by decide)]
          refine x_iastore hK kX10_solve_91 (q := 92) rfl (yX10_A8 (by refine ⟨?_, ?_⟩ <;> omega) ?_)
          refine x_iinc hK kX10_solve_92 (q := 95) rfl rfl ?_
          simp only [lS, lS2, clr_0, clr_I, clr_L, clr_R]
          refine x_goto hK kX10_solve_95 (tg := 74) rfl ?_
          rw [show (k : Int) + 1 = ((k + 1 : Nat) : Int) by omega]
          refine ih (k + 1) F1 _ _ _ (by omega) f12 f6 f9 f11 (fun j j0 j1 => by rw [uA_n _ _ j1]; exact hA1 j j0 j1) (fun j hj => by rw [uA_n _ _ (by decide)]; exact h7 j hj) (fun j hj => ?_)
          rw [uA_g]
          rcases Nat.lt_or_ge j k with g | g
          · rw [uI_n _ _ (by omega)]; exact h8 j g
          · rw [show j = k by omega, uI_s]
    have cp1 : ∀ (d k : Nat) (F1 : Nat → Int) (A1 : Nat → Int → Int) (u2 u3 : Option eV), k + d = 24 → F1 12 = 0 → F1 6 = F 6 → F1 9 = F 6 → F1 11 = F 11 + 1 → (∀ k, k ≠ 7 → k ≠ 8 → A1 k = A k) → (∀ j : Nat, j < k → A1 7 j = A 4 j) → K 48 [some eRR, some (eI k), u2, u3] [] (cR F1 A1) := by
      intro d
      induction d with
      | zero =>
        intro k F1 A1 u2 u3 hk f12 f6 f9 f11 hA1 h7
        have e : k = 24 := by omega
        subst e
        refine x_iload_n hK kX10_solve_48 (q := 49) rfl rfl ?_
        refine x_bipush hK kX10_solve_49 (q := 51) rfl (by decide) ?_
        refine x_icmp_ge hK kX10_solve_51 (q := 54) rfl (tg := 72) rfl (by refine ⟨?_, ?_⟩ <;> omega) (fun c51 => ?_) (fun c51 => ?_)
        · refine x_iconst hK kX10_solve_72 (q := 73) rfl ?_
          refine x_istore_n hK kX10_solve_73 (q := 74) (jn := 1) rfl rfl ?_
          simp only [lS, lS2, clr_0, clr_I, clr_L, clr_R]
          exact cp2 6 0 F1 A1 _ _ (by omega) f12 f6 f9 f11 hA1 h7 (fun j hj => by omega)
        · exfalso; omega
      | succ d ih =>
        intro k F1 A1 u2 u3 hk f12 f6 f9 f11 hA1 h7
        refine x_iload_n hK kX10_solve_48 (q := 49) rfl rfl ?_
        refine x_bipush hK kX10_solve_49 (q := 51) rfl (by decide) ?_
        refine x_icmp_ge hK kX10_solve_51 (q := 54) rfl (tg := 72) rfl (by refine ⟨?_, ?_⟩ <;> omega) (fun c51 => ?_) (fun c51 => ?_)
        · exfalso; omega
        · refine x_aload_n hK kX10_solve_54 (q := 55) rfl rfl ?_
          refine x_getfield hK kX10_solve_55 (q := 58) rfl (gX10_32 ?_)
          refine x_iload_n hK kX10_solve_58 (q := 59) rfl rfl ?_
          refine x_aload_n hK kX10_solve_59 (q := 60) rfl rfl ?_
          refine x_getfield hK kX10_solve_60 (q := 63) rfl (gX10_26 ?_)
          refine x_iload_n hK kX10_solve_63 (q := 64) rfl rfl ?_
          refine x_iaload hK kX10_solve_64 (q := 65) rfl (aX10_A4 (by refine ⟨?_, ?_⟩ <;> omega) ?_)
          rw [hA1 4 (by decide) (by decide)]
          refine x_iastore hK kX10_solve_65 (q := 66) rfl (yX10_A7 (by refine ⟨?_, ?_⟩ <;> omega) ?_)
          refine x_iinc hK kX10_solve_66 (q := 69) rfl rfl ?_
          simp only [lS, lS2, clr_0, clr_I, clr_L, clr_R]
          refine x_goto hK kX10_solve_69 (tg := 48) rfl ?_
          rw [show (k : Int) + 1 = ((k + 1 : Nat) : Int) by omega]
          refine ih (k + 1) F1 _ _ _ (by omega) f12 f6 f9 f11 (fun j j0 j1 => by rw [uA_n _ _ j0]; exact hA1 j j0 j1) (fun j hj => ?_)
          rw [uA_g]
          rcases Nat.lt_or_ge j k with g | g
          · rw [uI_n _ _ (by omega)]; exact h7 j g
          · rw [show j = k by omega, uI_s]
    refine x_aload_n hK kX10_solve_28 (q := 29) rfl rfl ?_
    refine x_dupR hK kX10_solve_29 (q := 30) rfl ?_
    refine x_getfield hK kX10_solve_30 (q := 33) rfl (gX10_214 ?_)
    rw [uF_n _ _ (by decide)]
    refine x_iconst hK kX10_solve_33 (q := 34) rfl ?_
    refine x_iadd hK kX10_solve_34 (q := 35) rfl ?_
    refine x_putfield hK kX10_solve_35 (q := 38) rfl (pX10_214 ?_)
    refine x_aload_n hK kX10_solve_38 (q := 39) rfl rfl ?_
    refine x_aload_n hK kX10_solve_39 (q := 40) rfl rfl ?_
    refine x_getfield hK kX10_solve_40 (q := 43) rfl (gX10_199 ?_)
    rw [uF_n _ _ (by decide), uF_n _ _ (by decide)]
    refine x_putfield hK kX10_solve_43 (q := 46) rfl (pX10_38 ?_)
    refine x_iconst hK kX10_solve_46 (q := 47) rfl ?_
    refine x_istore_n hK kX10_solve_47 (q := 48) (jn := 1) rfl rfl ?_
    simp only [lS, lS2, clr_0, clr_I, clr_L, clr_R]
    exact cp1 24 0 _ A _ _ (by omega) (by rw [uF_n _ _ (by decide), uF_n _ _ (by decide), uF_g]) (by rw [uF_n _ _ (by decide), uF_n _ _ (by decide), uF_n _ _ (by decide)]) (by rw [uF_g]) (by rw [uF_n _ _ (by decide), uF_g]) (fun _ _ _ => rfl) (fun j hj => by omega)
  simp only [eLoc, eE, List.length_cons, List.length_nil, List.replicate, List.cons_append, List.nil_append, Nat.reduceAdd, Nat.reduceSub]
  refine x_aload_n hK kX10_solve_0 (q := 1) rfl rfl ?_
  refine x_iconst hK kX10_solve_1 (q := 2) rfl ?_
  refine x_putfield hK kX10_solve_2 (q := 5) rfl (pX10_61 ?_)
  refine x_aload_n hK kX10_solve_5 (q := 6) rfl rfl ?_
  refine x_cv1 hK kX10_solve_6 (q := 9) rfl (vtX10_solve_211) (Nat.le_of_ble_eq_true rfl) ?_
  refine SX10_isSame_i (by rw [uF_n _ _ (by decide)]; omega) (by rw [uF_n _ _ (by decide)]; exact hw9) hw7 (fun k hk => ⟨(hw8 k hk).1, by have := (hw8 k hk).2; constructor <;> omega⟩) (fun b b0 b1 => ?_)
  rw [esm] at b1
  refine x_if_eq hK kX10_solve_9 (q := 12) rfl (tg := 17) rfl (by rcases b0 with e | e <;> rw [e] <;> decide) (fun c9 => ?_) (fun c9 => ?_)
  · refine x_aload_n hK kX10_solve_17 (q := 18) rfl rfl ?_
    refine x_getfield hK kX10_solve_18 (q := 21) rfl (gX10_214 ?_)
    rw [uF_n _ _ (by decide)]
    refine x_bipush hK kX10_solve_21 (q := 23) rfl (by decide) ?_
    refine x_icmp_ne hK kX10_solve_23 (q := 26) rfl (tg := 28) rfl (by exact ⟨hw11, by decide⟩) (fun c23 => ?_) (fun c23 => ?_)
    · exact main (fun q => by have := b1.mpr q; omega) (by omega)
    · refine x_iconst hK kX10_solve_26 (q := 27) rfl ?_
      refine x_ireturn hK kX10_solve_27 (by first | trivial | exact Or.inl rfl | exact Or.inr rfl) ?_
      exact hfull (fun q => by have := b1.mpr q; omega) (by omega)
  · refine x_aload_n hK kX10_solve_12 (q := 13) rfl rfl ?_
    refine x_getfield hK kX10_solve_13 (q := 16) rfl (gX10_42 ?_)
    rw [uF_n _ _ (by decide)]
    refine x_ireturn hK kX10_solve_16 (by first | trivial | exact Or.inl rfl | exact Or.inr rfl) ?_
    exact hsame (b1.mp (by omega))
set_option maxRecDepth 20000 in
theorem mX10_solve : eMet yX10_solve cX10_solve 4 (some .int) 8 199 SX10_solve := eMet_of (by decide +kernel) sX10_solve kX10_solve_ok caX10_solve tb_RX10
theorem wX10_solve : eWV yX10_solve cX10_solve 4 (some .int) 1 9 SX10_solve := ⟨(gW_at 1057 (by decide +kernel) rfl), (gW_at 89 (by decide +kernel) rfl), (gW_at 1055 (by decide +kernel) rfl), ⟨_, rfl, (gW_at 1056 (by decide +kernel) rfl)⟩, by decide +kernel, SX10_solve_r⟩
