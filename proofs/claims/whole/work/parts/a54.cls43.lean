/-! The face: solve, from where the answer is laid down. -/
/-- what is asked and what follows from the laying down of the answer on -/
def slT (F : Nat → Int) (A : Nat → Int → Int) (W : Nat → Int → Int) (V : Nat → Int) (rt : Option eV → eM → Prop) : Prop := (F 1 = 2 → rt (some (eI (F 1))) (cC F A W)) ∧ (F 1 ≠ 2 → ∃ (st : Int → Int) (n : Nat), chG (A 2) (A 4) 6 = (st, (n : Int)) ∧ n ≤ 4 ∧ (∀ j : Nat, j < n → 0 ≤ st j ∧ st j < 6) ∧ bdQ V (A 2) st (fun c => A 1 (24 + (c : Int))) n ∧ ∀ (br ba : Nat → Int) (V' : Nat → Int) (W' : Nat → Int → Int) (z6 z7 : Int) (O f5 f6 : Int → Int), (∀ e, e < 3 → mzT n (bv6 V (A 2) st (fun c => A 1 (24 + (c : Int))) n (e + 1)) (7 + e) (br e) (ba e) ∧ f5 e = br e ∧ f6 e = ba e) → aR W' V' → kpE (bv6 V (A 2) st (fun c => A 1 (24 + (c : Int))) n 3) V' → rt (some (eI (F 1))) (cC (uF (uF (uF F 5 n) 6 z6) 7 z7) (uA (uA (uA (uA A 4 st) 7 O) 5 f5) 6 f6) W'))
def kX9_solve : List (Nat × Jvm.ClassFile.Instr × Nat) := [(0, .aload_n 0, 1), (1, .getfield 48, 3), (4, .iconst (-1), 1), (5, .if_icmp .eq 22, 3), (8, .aload_n 0, 1), (9, .getfield 15, 3), (12, .aload_n 0, 1), (13, .getfield 21, 3), (16, .invokevirtual 90, 3), (19, .ifCond .eq 8, 3), (22, .aload_n 0, 1), (23, .getfield 48, 3), (26, .ireturn, 1), (27, .aload_n 0, 1), (28, .getfield 44, 3), (31, .bipush 40, 2), (33, .if_icmp .lt 5, 3), (36, .iconst (-1), 1), (37, .ireturn, 1), (38, .aload_n 0, 1), (39, .dup, 1), (40, .getfield 44, 3), (43, .iconst 1, 1), (44, .iadd, 1), (45, .putfield 44, 3), (48, .aload_n 0, 1), (49, .getfield 21, 3), (52, .aload_n 0, 1), (53, .getfield 15, 3), (56, .invokevirtual 94, 3), (59, .aload_n 0, 1), (60, .getfield 33, 3), (63, .aload_n 0, 1), (64, .getfield 21, 3), (67, .invokevirtual 98, 3), (70, .aload_n 0, 1), (71, .aload_n 0, 1), (72, .getfield 33, 3), (75, .invokevirtual 101, 3), (78, .ifCond .eq 7, 3), (81, .iconst 0, 1), (82, .goto 18, 3), (85, .aload_n 0, 1), (86, .getfield 33, 3), (89, .invokevirtual 105, 3), (92, .ifCond .eq 7, 3), (95, .iconst 1, 1), (96, .goto 4, 3), (99, .iconst 2, 1), (100, .putfield 48, 3), (103, .aload_n 0, 1), (104, .getfield 48, 3), (107, .iconst 2, 1), (108, .if_icmp .eq 18, 3), (111, .aload_n 0, 1), (112, .getfield 40, 3), (115, .aload_n 0, 1), (116, .getfield 33, 3), (119, .aload_n 0, 1), (120, .getfield 21, 3), (123, .invokevirtual 108, 3), (126, .aload_n 0, 1), (127, .getfield 48, 3), (130, .ireturn, 1)]
theorem kX9_solve_0 : cdOf kX9_solve 0 = some (.aload_n 0, 1) := by decide +kernel
theorem kX9_solve_1 : cdOf kX9_solve 1 = some (.getfield 48, 3) := by decide +kernel
theorem kX9_solve_4 : cdOf kX9_solve 4 = some (.iconst (-1), 1) := by decide +kernel
theorem kX9_solve_5 : cdOf kX9_solve 5 = some (.if_icmp .eq 22, 3) := by decide +kernel
theorem kX9_solve_8 : cdOf kX9_solve 8 = some (.aload_n 0, 1) := by decide +kernel
theorem kX9_solve_9 : cdOf kX9_solve 9 = some (.getfield 15, 3) := by decide +kernel
theorem kX9_solve_12 : cdOf kX9_solve 12 = some (.aload_n 0, 1) := by decide +kernel
theorem kX9_solve_13 : cdOf kX9_solve 13 = some (.getfield 21, 3) := by decide +kernel
theorem kX9_solve_16 : cdOf kX9_solve 16 = some (.invokevirtual 90, 3) := by decide +kernel
theorem kX9_solve_19 : cdOf kX9_solve 19 = some (.ifCond .eq 8, 3) := by decide +kernel
theorem kX9_solve_22 : cdOf kX9_solve 22 = some (.aload_n 0, 1) := by decide +kernel
theorem kX9_solve_23 : cdOf kX9_solve 23 = some (.getfield 48, 3) := by decide +kernel
theorem kX9_solve_26 : cdOf kX9_solve 26 = some (.ireturn, 1) := by decide +kernel
theorem kX9_solve_27 : cdOf kX9_solve 27 = some (.aload_n 0, 1) := by decide +kernel
theorem kX9_solve_28 : cdOf kX9_solve 28 = some (.getfield 44, 3) := by decide +kernel
theorem kX9_solve_31 : cdOf kX9_solve 31 = some (.bipush 40, 2) := by decide +kernel
theorem kX9_solve_33 : cdOf kX9_solve 33 = some (.if_icmp .lt 5, 3) := by decide +kernel
theorem kX9_solve_36 : cdOf kX9_solve 36 = some (.iconst (-1), 1) := by decide +kernel
theorem kX9_solve_37 : cdOf kX9_solve 37 = some (.ireturn, 1) := by decide +kernel
theorem kX9_solve_38 : cdOf kX9_solve 38 = some (.aload_n 0, 1) := by decide +kernel
theorem kX9_solve_39 : cdOf kX9_solve 39 = some (.dup, 1) := by decide +kernel
theorem kX9_solve_40 : cdOf kX9_solve 40 = some (.getfield 44, 3) := by decide +kernel
theorem kX9_solve_43 : cdOf kX9_solve 43 = some (.iconst 1, 1) := by decide +kernel
theorem kX9_solve_44 : cdOf kX9_solve 44 = some (.iadd, 1) := by decide +kernel
theorem kX9_solve_45 : cdOf kX9_solve 45 = some (.putfield 44, 3) := by decide +kernel
theorem kX9_solve_48 : cdOf kX9_solve 48 = some (.aload_n 0, 1) := by decide +kernel
theorem kX9_solve_49 : cdOf kX9_solve 49 = some (.getfield 21, 3) := by decide +kernel
theorem kX9_solve_52 : cdOf kX9_solve 52 = some (.aload_n 0, 1) := by decide +kernel
theorem kX9_solve_53 : cdOf kX9_solve 53 = some (.getfield 15, 3) := by decide +kernel
theorem kX9_solve_56 : cdOf kX9_solve 56 = some (.invokevirtual 94, 3) := by decide +kernel
theorem kX9_solve_59 : cdOf kX9_solve 59 = some (.aload_n 0, 1) := by decide +kernel
theorem kX9_solve_60 : cdOf kX9_solve 60 = some (.getfield 33, 3) := by decide +kernel
theorem kX9_solve_63 : cdOf kX9_solve 63 = some (.aload_n 0, 1) := by decide +kernel
theorem kX9_solve_64 : cdOf kX9_solve 64 = some (.getfield 21, 3) := by decide +kernel
theorem kX9_solve_67 : cdOf kX9_solve 67 = some (.invokevirtual 98, 3) := by decide +kernel
theorem kX9_solve_70 : cdOf kX9_solve 70 = some (.aload_n 0, 1) := by decide +kernel
theorem kX9_solve_71 : cdOf kX9_solve 71 = some (.aload_n 0, 1) := by decide +kernel
theorem kX9_solve_72 : cdOf kX9_solve 72 = some (.getfield 33, 3) := by decide +kernel
theorem kX9_solve_75 : cdOf kX9_solve 75 = some (.invokevirtual 101, 3) := by decide +kernel
theorem kX9_solve_78 : cdOf kX9_solve 78 = some (.ifCond .eq 7, 3) := by decide +kernel
theorem kX9_solve_81 : cdOf kX9_solve 81 = some (.iconst 0, 1) := by decide +kernel
theorem kX9_solve_82 : cdOf kX9_solve 82 = some (.goto 18, 3) := by decide +kernel
theorem kX9_solve_85 : cdOf kX9_solve 85 = some (.aload_n 0, 1) := by decide +kernel
theorem kX9_solve_86 : cdOf kX9_solve 86 = some (.getfield 33, 3) := by decide +kernel
theorem kX9_solve_89 : cdOf kX9_solve 89 = some (.invokevirtual 105, 3) := by decide +kernel
theorem kX9_solve_92 : cdOf kX9_solve 92 = some (.ifCond .eq 7, 3) := by decide +kernel
theorem kX9_solve_95 : cdOf kX9_solve 95 = some (.iconst 1, 1) := by decide +kernel
theorem kX9_solve_96 : cdOf kX9_solve 96 = some (.goto 4, 3) := by decide +kernel
theorem kX9_solve_99 : cdOf kX9_solve 99 = some (.iconst 2, 1) := by decide +kernel
theorem kX9_solve_100 : cdOf kX9_solve 100 = some (.putfield 48, 3) := by decide +kernel
theorem kX9_solve_103 : cdOf kX9_solve 103 = some (.aload_n 0, 1) := by decide +kernel
theorem kX9_solve_104 : cdOf kX9_solve 104 = some (.getfield 48, 3) := by decide +kernel
theorem kX9_solve_107 : cdOf kX9_solve 107 = some (.iconst 2, 1) := by decide +kernel
theorem kX9_solve_108 : cdOf kX9_solve 108 = some (.if_icmp .eq 18, 3) := by decide +kernel
theorem kX9_solve_111 : cdOf kX9_solve 111 = some (.aload_n 0, 1) := by decide +kernel
theorem kX9_solve_112 : cdOf kX9_solve 112 = some (.getfield 40, 3) := by decide +kernel
theorem kX9_solve_115 : cdOf kX9_solve 115 = some (.aload_n 0, 1) := by decide +kernel
theorem kX9_solve_116 : cdOf kX9_solve 116 = some (.getfield 33, 3) := by decide +kernel
theorem kX9_solve_119 : cdOf kX9_solve 119 = some (.aload_n 0, 1) := by decide +kernel
theorem kX9_solve_120 : cdOf kX9_solve 120 = some (.getfield 21, 3) := by decide +kernel
theorem kX9_solve_123 : cdOf kX9_solve 123 = some (.invokevirtual 108, 3) := by decide +kernel
theorem kX9_solve_126 : cdOf kX9_solve 126 = some (.aload_n 0, 1) := by decide +kernel
theorem kX9_solve_127 : cdOf kX9_solve 127 = some (.getfield 48, 3) := by decide +kernel
theorem kX9_solve_130 : cdOf kX9_solve 130 = some (.ireturn, 1) := by decide +kernel
set_option maxRecDepth 20000 in
theorem kX9_solve_ok : ∀ pc i len, cdOf kX9_solve pc = some (i, len) → decode cX9_solve pc = .ok (i, len) ∧ stOK 1 i = true ∧ jOK pc i = true ∧ eLen i len = true := cdOf_ok cX9_solve 1 kX9_solve (by decide +kernel)
def vtX9_solve : Nat → Option (Nat × eSp) := fun k => match k with
  | 90 => some (2, SX6_same)
  | 94 => some (2, SX6_copy)
  | 98 => some (2, SX3_build)
  | 101 => some (1, SX3_isWhole)
  | 105 => some (1, SX3_isFinite)
  | 108 => some (3, SX0_build)
  | _ => none
theorem vtX9_solve_90 : vtX9_solve 90 = some (2, SX6_same) := rfl
theorem vtX9_solve_94 : vtX9_solve 94 = some (2, SX6_copy) := rfl
theorem vtX9_solve_98 : vtX9_solve 98 = some (2, SX3_build) := rfl
theorem vtX9_solve_101 : vtX9_solve 101 = some (1, SX3_isWhole) := rfl
theorem vtX9_solve_105 : vtX9_solve 105 = some (1, SX3_isFinite) := rfl
theorem vtX9_solve_108 : vtX9_solve 108 = some (3, SX0_build) := rfl
def stX9_solve : Nat → Option (Nat × eSp) := fun _ => none
abbrev TX9_solve : eT := (fl_RX9, cl_RX9, dl_RX9, vtX9_solve, stX9_solve)
set_option maxRecDepth 20000 in
theorem caX9_solve : eCalls RX9 { frames := 7, cells := 0, slots := 0, locals := 181 } TX9_solve := by
  refine ⟨fun k n sp h => ?_, fun k n sp h => ?_⟩
  · dsimp only [TX9_solve] at h
    unfold vtX9_solve at h
    split at h
    · cases h; exact eV_mk mX6_same wX6_same (by decide +kernel) (Or.inl (gW_at 396 (by decide +kernel) rfl))
    · cases h; exact eV_mk mX6_copy wX6_copy (by decide +kernel) (Or.inl (gW_at 404 (by decide +kernel) rfl))
    · cases h; exact eV_mk mX3_build wX3_build (by decide +kernel) (Or.inl (gW_at 408 (by decide +kernel) rfl))
    · cases h; exact eV_mk mX3_isWhole wX3_isWhole (by decide +kernel) (Or.inl (gW_at 584 (by decide +kernel) rfl))
    · cases h; exact eV_mk mX3_isFinite wX3_isFinite (by decide +kernel) (Or.inl (gW_at 588 (by decide +kernel) rfl))
    · cases h; exact eV_mk mX0_build wX0_build (by decide +kernel) (Or.inl (gW_at 592 (by decide +kernel) rfl))
    · cases h
  · cases h
set_option maxRecDepth 100000 in
set_option maxHeartbeats 1000000 in
theorem solve_t {K : eK0} {rt : Option eV → eM → Prop} (hK : eCl TX9_solve (cdOf kX9_solve) (some .int) K rt) {F : Nat → Int} {A W : Nat → Int → Int} {V : Nat → Int} (hV : aR W V) (h1 : 0 ≤ F 1 ∧ F 1 ≤ 2) (hL : ∀ i : Int, 0 ≤ i → i < 10 → A 2 i = 0 ∨ A 2 i = 1) (hA : ∀ i : Int, 24 ≤ i → i < 30 → -5 ≤ A 1 i ∧ A 1 i ≤ 5) (h : slT F A W V rt) : K 103 [some (eR (0, 0))] [] (cC F A W) := by
  obtain ⟨g1, g2⟩ := h
  refine x_aload_n hK kX9_solve_103 (q := 104) rfl rfl ?_
  refine x_getfield hK kX9_solve_104 (q := 107) rfl (gX9_48 ?_)
  refine x_iconst hK kX9_solve_107 (q := 108) rfl ?_
  refine x_icmp_eq hK kX9_solve_108 (q := 111) rfl (tg := 126) rfl (by exact ⟨⟨by omega, by omega⟩, by decide⟩) (fun c108 => ?_) (fun c108 => ?_)
  · have hfin := g1 c108
    refine x_aload_n hK kX9_solve_126 (q := 127) rfl rfl ?_
    refine x_getfield hK kX9_solve_127 (q := 130) rfl (gX9_48 ?_)
    refine x_ireturn hK kX9_solve_130 (by first | trivial | exact Or.inl rfl | exact Or.inr rfl) ?_
    exact hfin
  · obtain ⟨st, n, hc, n4, hst, hbd, hg⟩ := g2 c108
    refine x_aload_n hK kX9_solve_111 (q := 112) rfl rfl ?_
    refine x_getfield hK kX9_solve_112 (q := 115) rfl (gX9_40 ?_)
    refine x_aload_n hK kX9_solve_115 (q := 116) rfl rfl ?_
    refine x_getfield hK kX9_solve_116 (q := 119) rfl (gX9_33 ?_)
    refine x_aload_n hK kX9_solve_119 (q := 120) rfl rfl ?_
    refine x_getfield hK kX9_solve_120 (q := 123) rfl (gX9_21 ?_)
    refine x_cv3 hK kX9_solve_123 (q := 126) rfl (vtX9_solve_108) (Nat.le_of_ble_eq_true rfl) ?_
    refine SX0_build_i (V := V) (st := st) (p := 1) (n := n) hV (by decide) hL hc n4 hst hA hbd (fun br ba V2 W2 z6 z7 O f5 f6 hz h2 hk => ?_)
    have hfin := hg br ba V2 W2 z6 z7 O f5 f6 hz h2 hk
    have e1 : uF (uF (uF F 5 n) 6 z6) 7 z7 1 = F 1 := by rw [uF_n _ _ (by decide), uF_n _ _ (by decide), uF_n _ _ (by decide)]
    rw [← e1] at hfin
    refine x_aload_n hK kX9_solve_126 (q := 127) rfl rfl ?_
    refine x_getfield hK kX9_solve_127 (q := 130) rfl (gX9_48 ?_)
    refine x_ireturn hK kX9_solve_130 (by first | trivial | exact Or.inl rfl | exact Or.inr rfl) ?_
    exact hfin
