/-! The ideal's rows: what reduce leaves; insert as a function. -/
/-- rows with their leads: positive there, 0 above -/
def rwS (R : Nat → Nat → Int) (L : Int → Int) : Prop := ∀ p : Nat, p < 10 → L p ≠ 0 → 0 < R p p ∧ ∀ i, p < i → i < 10 → R p i = 0
theorem sm_0 {v : Nat → Int} {i : Nat} (h : v i = 0) : sm v i = 0 := by
  unfold sm
  rw [h, Int.zero_ediv]
theorem sm_n {v : Nat → Int} {i : Nat} (hi : i < 10) (h : v i ≠ 0) : sm v i ≠ 0 ∧ (0 < v i → 0 < sm v i) ∧ (cG v 10 : Int) * sm v i = v i ∧ 0 < (cG v 10 : Int) := by
  have d := cG_d v 10 i hi
  have c0 : (cG v 10 : Int) ≠ 0 := fun q => h (by rw [q] at d; exact Int.zero_dvd.mp d)
  have e : (cG v 10 : Int) * sm v i = v i := Int.mul_ediv_cancel' d
  refine ⟨fun q => h (by rw [← e, q, Int.mul_zero]), fun q => ?_, e, by omega⟩
  rcases Int.lt_or_le 0 (sm v i) with g | g
  · exact g
  · have := Int.mul_nonneg (show 0 ≤ (cG v 10 : Int) by omega) (show 0 ≤ -sm v i by omega)
    rw [Int.mul_neg, e] at this
    omega
theorem el_p {v u : Nat → Int} {p : Nat} : el v u p p = 0 := by
  unfold el
  obtain ⟨a, ha⟩ : (Int.gcd (u p) (v p) : Int) ∣ u p := Int.gcd_dvd_left ..
  obtain ⟨b, hb⟩ : (Int.gcd (u p) (v p) : Int) ∣ v p := Int.gcd_dvd_right ..
  rcases Decidable.em ((Int.gcd (u p) (v p) : Int) = 0) with g | g
  · rw [g, Int.ediv_zero, Int.ediv_zero]
    omega
  · have e1 : u p / (Int.gcd (u p) (v p) : Int) = a := by
      have : u p / (Int.gcd (u p) (v p) : Int) = (Int.gcd (u p) (v p) : Int) * a / (Int.gcd (u p) (v p) : Int) := congrArg (fun z => z / (Int.gcd (u p) (v p) : Int)) ha
      rw [this]
      exact Int.mul_ediv_cancel_left a g
    have e2 : v p / (Int.gcd (u p) (v p) : Int) = b := by
      have : v p / (Int.gcd (u p) (v p) : Int) = (Int.gcd (u p) (v p) : Int) * b / (Int.gcd (u p) (v p) : Int) := congrArg (fun z => z / (Int.gcd (u p) (v p) : Int)) hb
      rw [this]
      exact Int.mul_ediv_cancel_left b g
    rw [e1, e2]
    generalize (Int.gcd (u p) (v p) : Int) = G at *
    rw [ha, hb]
    grind
theorem el_0 {v u : Nat → Int} {p i : Nat} (hv : v i = 0) (hu : u i = 0) : el v u p i = 0 := by
  unfold el
  rw [hv, hu, Int.zero_mul, Int.zero_mul]
  rfl
theorem el_n {v u : Nat → Int} {p i : Nat} (u0 : 0 < u p) (hu : u i = 0) : el v u p i = v i * (u p / (Int.gcd (u p) (v p) : Int)) ∧ 0 < u p / (Int.gcd (u p) (v p) : Int) := by
  have gp := gcd_p (y := v p) u0
  refine ⟨by unfold el; rw [hu, Int.zero_mul]; omega, ?_⟩
  obtain ⟨a, ha⟩ := gp.2.1
  have e : u p / (Int.gcd (u p) (v p) : Int) = a := by
    have : u p / (Int.gcd (u p) (v p) : Int) = (Int.gcd (u p) (v p) : Int) * a / (Int.gcd (u p) (v p) : Int) := congrArg (fun z => z / (Int.gcd (u p) (v p) : Int)) ha
    rw [this]
    exact Int.mul_ediv_cancel_left a (by omega)
  rw [e]
  rcases Int.lt_or_le 0 a with g | g
  · exact g
  · have := Int.mul_nonneg (show 0 ≤ (Int.gcd (u p) (v p) : Int) by omega) (show 0 ≤ -a by omega)
    rw [Int.mul_neg, ← ha] at this
    omega
/-- what reduce leaves: 0 at all leads below the limit; its top -/
theorem rdF_h {R : Nat → Nat → Int} {L : Int → Int} (hS : rwS R L) : ∀ (n : Nat) (v : Nat → Int) (t : Int), n ≤ 10 → (∀ i : Nat, n ≤ i → i < 10 → L i ≠ 0 → v i = 0) → ((t = -1 ∧ ∀ i, n ≤ i → i < 10 → v i = 0) ∨ ∃ k : Nat, t = k ∧ n ≤ k ∧ k < 10 ∧ L k = 0 ∧ v k ≠ 0 ∧ ∀ i, k < i → i < 10 → v i = 0) →
    (∀ i : Nat, i < 10 → L i ≠ 0 → (rdF R L n v t).1 i = 0) ∧ (((rdF R L n v t).2 = -1 ∧ ∀ i, i < 10 → (rdF R L n v t).1 i = 0) ∨ ∃ k : Nat, (rdF R L n v t).2 = k ∧ k < 10 ∧ L k = 0 ∧ (rdF R L n v t).1 k ≠ 0 ∧ ∀ i, k < i → i < 10 → (rdF R L n v t).1 i = 0)
  | 0, v, t, _, h1, h2 => by
    refine ⟨fun i hi hl => h1 i (Nat.zero_le _) hi hl, ?_⟩
    rcases h2 with ⟨a, b⟩ | ⟨k, a, b, c, d, e, f⟩
    · exact Or.inl ⟨a, fun i hi => b i (Nat.zero_le _) hi⟩
    · exact Or.inr ⟨k, a, c, d, e, f⟩
  | n + 1, v, t, hn, h1, h2 => by
    unfold rdF
    rcases Decidable.em (v n = 0) with g | g
    · rw [if_pos g]
      refine rdF_h hS n v t (by omega) (fun i hi hi2 hl => ?_) ?_
      · rcases Nat.lt_or_ge n i with q | q
        · exact h1 i q hi2 hl
        · rw [show i = n by omega]; exact g
      · rcases h2 with ⟨a, b⟩ | ⟨k, a, b, c⟩
        · refine Or.inl ⟨a, fun i hi hi2 => ?_⟩
          rcases Nat.lt_or_ge n i with q | q
          · exact b i q hi2
          · rw [show i = n by omega]; exact g
        · exact Or.inr ⟨k, a, by omega, c⟩
    · rw [if_neg g]
      rcases Decidable.em (L n = 0) with l | l
      · rw [if_pos l]
        refine rdF_h hS n v _ (by omega) (fun i hi hi2 hl => ?_) ?_
        · rcases Nat.lt_or_ge n i with q | q
          · exact h1 i q hi2 hl
          · exact absurd (show L i = 0 by rw [show i = n by omega]; exact l) hl
        · rcases h2 with ⟨a, b⟩ | ⟨k, a, b, c⟩
          · rw [if_pos a]
            exact Or.inr ⟨n, rfl, Nat.le_refl _, by omega, l, g, fun i hi hi2 => b i hi hi2⟩
          · rw [if_neg (by omega)]
            exact Or.inr ⟨k, a, by omega, c⟩
      · rw [if_neg l]
        obtain ⟨r0, rz⟩ := hS n (by omega) l
        have keep : ∀ i, n < i → i < 10 → v i = 0 → sm (el v (R n) n) i = 0 := fun i hi hi2 hv => sm_0 (el_0 hv (rz i hi hi2))
        refine rdF_h hS n _ t (by omega) (fun i hi hi2 hl => ?_) ?_
        · rcases Nat.lt_or_ge n i with q | q
          · exact keep i q hi2 (h1 i q hi2 hl)
          · rw [show i = n by omega]; exact sm_0 el_p
        · rcases h2 with ⟨a, b⟩ | ⟨k, a, b, c, d, e, f⟩
          · refine Or.inl ⟨a, fun i hi hi2 => ?_⟩
            rcases Nat.lt_or_ge n i with q | q
            · exact keep i q hi2 (b i q hi2)
            · rw [show i = n by omega]; exact sm_0 el_p
          · refine Or.inr ⟨k, a, by omega, c, d, ?_, fun i hi hi2 => keep i (by omega) hi2 (f i hi hi2)⟩
            have en := el_n (v := v) (p := n) (i := k) r0 (rz k (by omega) c)
            refine (sm_n c ?_).1
            rw [en.1]
            exact mul_n e (by omega)
def ngv (v : Nat → Int) : Nat → Int := fun i => -v i
/-- insert -/
def insF (R : Nat → Nat → Int) (L : Int → Int) : (Nat → Nat → Int) × (Int → Int) :=
  if (rdF R L 10 (R 10) (-1)).2 < 0 then (uR R 10 (rdF R L 10 (R 10) (-1)).1, L)
  else (uR (uR R 10 (sm (rdF R L 10 (R 10) (-1)).1)) (rdF R L 10 (R 10) (-1)).2.toNat (if sm (rdF R L 10 (R 10) (-1)).1 (rdF R L 10 (R 10) (-1)).2.toNat < 0 then ngv (sm (rdF R L 10 (R 10) (-1)).1) else sm (rdF R L 10 (R 10) (-1)).1), uI L (rdF R L 10 (R 10) (-1)).2 1)
def insB (R : Nat → Nat → Int) (L : Int → Int) : Prop := rdB R L 10 (R 10) ∧ ∀ i, i < 10 → zAbs ((rdF R L 10 (R 10) (-1)).1 i) < cB ^ 78
theorem insF_S {R : Nat → Nat → Int} {L : Int → Int} (hS : rwS R L) : rwS (insF R L).1 (insF R L).2 := by
  have hh := rdF_h hS 10 (R 10) (-1) (Nat.le_refl _) (fun i a b _ => by omega) (Or.inl ⟨rfl, fun i a b => by omega⟩)
  unfold insF
  obtain ⟨s, hs⟩ : ∃ s, rdF R L 10 (R 10) (-1) = s := ⟨_, rfl⟩
  rw [hs] at hh ⊢
  rcases hh.2 with ⟨a, b⟩ | ⟨k, a, b, c, d, e⟩
  · rw [if_pos (by omega)]
    intro p hp hl
    show 0 < uR R 10 s.1 p p ∧ ∀ i, p < i → i < 10 → uR R 10 s.1 p i = 0
    rw [uR_n R _ (by omega)]
    exact hS p hp hl
  · rw [if_neg (by omega), a]
    have ek : (k : Int).toNat = k := rfl
    rw [ek]
    have kk := sm_n b d
    intro p hp hl
    show 0 < uR (uR R 10 (sm s.1)) k (if sm s.1 k < 0 then ngv (sm s.1) else sm s.1) p p ∧ ∀ i, p < i → i < 10 → uR (uR R 10 (sm s.1)) k (if sm s.1 k < 0 then ngv (sm s.1) else sm s.1) p i = 0
    rcases Decidable.em (p = k) with q | q
    · subst q
      rw [uR_s]
      split
      · exact ⟨by show 0 < -sm s.1 p; omega, fun i h1 h2 => by show -sm s.1 i = 0; rw [sm_0 (e i h1 h2)]; rfl⟩
      · exact ⟨by omega, fun i h1 h2 => sm_0 (e i h1 h2)⟩
    · rw [uR_n _ _ q, uR_n _ _ (by omega)]
      refine hS p hp ?_
      have hl' : uI L k 1 p ≠ 0 := hl
      rw [uI_n _ _ (by omega)] at hl'
      exact hl'
theorem insF_01 {R : Nat → Nat → Int} {L : Int → Int} (hL : ∀ i : Int, 0 ≤ i → i < 10 → L i = 0 ∨ L i = 1) (i : Int) (h0 : 0 ≤ i) (h1 : i < 10) : (insF R L).2 i = 0 ∨ (insF R L).2 i = 1 := by
  unfold insF
  split
  · exact hL i h0 h1
  · show uI L _ 1 i = 0 ∨ uI L _ 1 i = 1
    rcases Decidable.em (i = (rdF R L 10 (R 10) (-1)).2) with q | q
    · rw [q, uI_s]; exact Or.inr rfl
    · rw [uI_n _ _ q]; exact hL i h0 h1
-- insert on the machine
def SX3_insert : eSp := fun as M rt => ∃ (F : Nat → Int) (A W : Nat → Int → Int) (R : Nat → Nat → Int), as = [eR (1, 3)] ∧ M = cC F A W ∧ (iR W R) ∧ (∀ i : Int, 0 ≤ i → i < 10 → A 2 i = 0 ∨ A 2 i = 1) ∧ (rwS R (A 2)) ∧ (insB R (A 2)) ∧ (∀ W', iO W W' → iR W' (insF R (A 2)).1 → rt none (cC F (uA A 2 (insF R (A 2)).2) W'))
theorem SX3_insert_i {F : Nat → Int} {A W : Nat → Int → Int} {R : Nat → Nat → Int} {rt : Option eV → eM → Prop} (hR : iR W R) (hL : ∀ i : Int, 0 ≤ i → i < 10 → A 2 i = 0 ∨ A 2 i = 1) (hS : rwS R (A 2)) (hB : insB R (A 2)) (h : ∀ W', iO W W' → iR W' (insF R (A 2)).1 → rt none (cC F (uA A 2 (insF R (A 2)).2) W')) : SX3_insert [eR (1, 3)] (cC F A W) rt := ⟨F, A, W, R, rfl, rfl, hR, hL, hS, hB, h⟩
theorem SX3_insert_r : ∀ as M rt, SX3_insert as M rt → ∃ a r fs, as = eR a :: r ∧ M a = some (.inl (3, fs)) := by
  rintro as M rt ⟨F, A, W, R, rfl, rfl, -⟩
  exact ⟨_, _, _, rfl, rfl⟩
def kX3_insert : List (Nat × Jvm.ClassFile.Instr × Nat) := [(0, .aload_n 0, 1), (1, .aload_n 0, 1), (2, .getfield 29, 3), (5, .bipush 10, 2), (7, .invokevirtual 71, 3), (10, .istore_n 1, 1), (11, .iload_n 1, 1), (12, .ifCond .lt 9, 3), (15, .iload_n 1, 1), (16, .bipush 10, 2), (18, .if_icmp .lt 4, 3), (21, .return_, 1), (22, .aload_n 0, 1), (23, .getfield 44, 3), (26, .aload_n 0, 1), (27, .getfield 29, 3), (30, .getfield 78, 3), (33, .invokevirtual 105, 3), (36, .aload_n 0, 1), (37, .getfield 15, 3), (40, .iload_n 1, 1), (41, .aaload, 1), (42, .aload_n 0, 1), (43, .getfield 29, 3), (46, .invokevirtual 111, 3), (49, .aload_n 0, 1), (50, .getfield 15, 3), (53, .iload_n 1, 1), (54, .aaload, 1), (55, .getfield 78, 3), (58, .iload_n 1, 1), (59, .aaload, 1), (60, .getfield 115, 3), (63, .ifCond .ge 12, 3), (66, .aload_n 0, 1), (67, .getfield 15, 3), (70, .iload_n 1, 1), (71, .aaload, 1), (72, .invokevirtual 119, 3), (75, .aload_n 0, 1), (76, .getfield 19, 3), (79, .iload_n 1, 1), (80, .iconst 1, 1), (81, .bastore, 1), (82, .return_, 1)]
theorem kX3_insert_0 : cdOf kX3_insert 0 = some (.aload_n 0, 1) := by decide +kernel
theorem kX3_insert_1 : cdOf kX3_insert 1 = some (.aload_n 0, 1) := by decide +kernel
theorem kX3_insert_2 : cdOf kX3_insert 2 = some (.getfield 29, 3) := by decide +kernel
theorem kX3_insert_5 : cdOf kX3_insert 5 = some (.bipush 10, 2) := by decide +kernel
theorem kX3_insert_7 : cdOf kX3_insert 7 = some (.invokevirtual 71, 3) := by decide +kernel
theorem kX3_insert_10 : cdOf kX3_insert 10 = some (.istore_n 1, 1) := by decide +kernel
theorem kX3_insert_11 : cdOf kX3_insert 11 = some (.iload_n 1, 1) := by decide +kernel
theorem kX3_insert_12 : cdOf kX3_insert 12 = some (.ifCond .lt 9, 3) := by decide +kernel
theorem kX3_insert_15 : cdOf kX3_insert 15 = some (.iload_n 1, 1) := by decide +kernel
theorem kX3_insert_16 : cdOf kX3_insert 16 = some (.bipush 10, 2) := by decide +kernel
theorem kX3_insert_18 : cdOf kX3_insert 18 = some (.if_icmp .lt 4, 3) := by decide +kernel
theorem kX3_insert_21 : cdOf kX3_insert 21 = some (.return_, 1) := by decide +kernel
theorem kX3_insert_22 : cdOf kX3_insert 22 = some (.aload_n 0, 1) := by decide +kernel
theorem kX3_insert_23 : cdOf kX3_insert 23 = some (.getfield 44, 3) := by decide +kernel
theorem kX3_insert_26 : cdOf kX3_insert 26 = some (.aload_n 0, 1) := by decide +kernel
theorem kX3_insert_27 : cdOf kX3_insert 27 = some (.getfield 29, 3) := by decide +kernel
theorem kX3_insert_30 : cdOf kX3_insert 30 = some (.getfield 78, 3) := by decide +kernel
theorem kX3_insert_33 : cdOf kX3_insert 33 = some (.invokevirtual 105, 3) := by decide +kernel
theorem kX3_insert_36 : cdOf kX3_insert 36 = some (.aload_n 0, 1) := by decide +kernel
theorem kX3_insert_37 : cdOf kX3_insert 37 = some (.getfield 15, 3) := by decide +kernel
theorem kX3_insert_40 : cdOf kX3_insert 40 = some (.iload_n 1, 1) := by decide +kernel
theorem kX3_insert_41 : cdOf kX3_insert 41 = some (.aaload, 1) := by decide +kernel
theorem kX3_insert_42 : cdOf kX3_insert 42 = some (.aload_n 0, 1) := by decide +kernel
theorem kX3_insert_43 : cdOf kX3_insert 43 = some (.getfield 29, 3) := by decide +kernel
theorem kX3_insert_46 : cdOf kX3_insert 46 = some (.invokevirtual 111, 3) := by decide +kernel
theorem kX3_insert_49 : cdOf kX3_insert 49 = some (.aload_n 0, 1) := by decide +kernel
theorem kX3_insert_50 : cdOf kX3_insert 50 = some (.getfield 15, 3) := by decide +kernel
theorem kX3_insert_53 : cdOf kX3_insert 53 = some (.iload_n 1, 1) := by decide +kernel
theorem kX3_insert_54 : cdOf kX3_insert 54 = some (.aaload, 1) := by decide +kernel
theorem kX3_insert_55 : cdOf kX3_insert 55 = some (.getfield 78, 3) := by decide +kernel
theorem kX3_insert_58 : cdOf kX3_insert 58 = some (.iload_n 1, 1) := by decide +kernel
theorem kX3_insert_59 : cdOf kX3_insert 59 = some (.aaload, 1) := by decide +kernel
theorem kX3_insert_60 : cdOf kX3_insert 60 = some (.getfield 115, 3) := by decide +kernel
theorem kX3_insert_63 : cdOf kX3_insert 63 = some (.ifCond .ge 12, 3) := by decide +kernel
theorem kX3_insert_66 : cdOf kX3_insert 66 = some (.aload_n 0, 1) := by decide +kernel
theorem kX3_insert_67 : cdOf kX3_insert 67 = some (.getfield 15, 3) := by decide +kernel
theorem kX3_insert_70 : cdOf kX3_insert 70 = some (.iload_n 1, 1) := by decide +kernel
theorem kX3_insert_71 : cdOf kX3_insert 71 = some (.aaload, 1) := by decide +kernel
theorem kX3_insert_72 : cdOf kX3_insert 72 = some (.invokevirtual 119, 3) := by decide +kernel
theorem kX3_insert_75 : cdOf kX3_insert 75 = some (.aload_n 0, 1) := by decide +kernel
theorem kX3_insert_76 : cdOf kX3_insert 76 = some (.getfield 19, 3) := by decide +kernel
theorem kX3_insert_79 : cdOf kX3_insert 79 = some (.iload_n 1, 1) := by decide +kernel
theorem kX3_insert_80 : cdOf kX3_insert 80 = some (.iconst 1, 1) := by decide +kernel
theorem kX3_insert_81 : cdOf kX3_insert 81 = some (.bastore, 1) := by decide +kernel
theorem kX3_insert_82 : cdOf kX3_insert 82 = some (.return_, 1) := by decide +kernel
set_option maxRecDepth 20000 in
theorem kX3_insert_ok : ∀ pc i len, cdOf kX3_insert pc = some (i, len) → decode cX3_insert pc = .ok (i, len) ∧ stOK 2 i = true ∧ jOK pc i = true ∧ eLen i len = true := cdOf_ok cX3_insert 2 kX3_insert (by decide +kernel)
def vtX3_insert : Nat → Option (Nat × eSp) := fun k => match k with
  | 71 => some (3, SX3_reduce)
  | 105 => some (2, SX1_simplify)
  | 111 => some (2, SX7_take)
  | 119 => some (1, SX7_turnAll)
  | _ => none
theorem vtX3_insert_71 : vtX3_insert 71 = some (3, SX3_reduce) := rfl
theorem vtX3_insert_105 : vtX3_insert 105 = some (2, SX1_simplify) := rfl
theorem vtX3_insert_111 : vtX3_insert 111 = some (2, SX7_take) := rfl
theorem vtX3_insert_119 : vtX3_insert 119 = some (1, SX7_turnAll) := rfl
def stX3_insert : Nat → Option (Nat × eSp) := fun _ => none
abbrev TX3_insert : eT := (fl_RX3, cl_RX3, dl_RX3, vtX3_insert, stX3_insert)
set_option maxRecDepth 20000 in
theorem caX3_insert : eCalls RX3 { frames := 5, cells := 0, slots := 0, locals := 138 } TX3_insert := by
  refine ⟨fun k n sp h => ?_, fun k n sp h => ?_⟩
  · dsimp only [TX3_insert] at h
    unfold vtX3_insert at h
    split at h
    · cases h; exact eV_mk mX3_reduce wX3_reduce (by decide +kernel) (Or.inl (gW_at 431 (by decide +kernel) rfl))
    · cases h; exact eV_mk mX1_simplify wX1_simplify (by decide +kernel) (Or.inl (gW_at 549 (by decide +kernel) rfl))
    · cases h; exact eV_mk mX7_take wX7_take (by decide +kernel) (Or.inl (gW_at 553 (by decide +kernel) rfl))
    · cases h; exact eV_mk mX7_turnAll wX7_turnAll (by decide +kernel) (Or.inl (gW_at 558 (by decide +kernel) rfl))
    · cases h
  · cases h
set_option maxRecDepth 100000 in
set_option maxHeartbeats 4000000 in
theorem sX3_insert : eSafe TX3_insert (cdOf kX3_insert) 2 none SX3_insert := by
  intro K rt hK as M h
  obtain ⟨F, A, W, R, rfl, rfl, hR, hL, hS, hB, h⟩ := h
  refine ⟨by simp [eE], ?_⟩
  have hh := rdF_h hS 10 (R 10) (-1) (Nat.le_refl _) (fun i a b _ => by omega) (Or.inl ⟨rfl, fun i a b => by omega⟩)
  obtain ⟨hB1, hB2⟩ := hB
  unfold insF at h
  obtain ⟨s, hs⟩ : ∃ s, rdF R (A 2) 10 (R 10) (-1) = s := ⟨_, rfl⟩
  have e10 := rb_11 (show 10 < 11 by decide)
  rw [hs] at hh h hB2
  have ht : s.2 = -1 ∨ ∃ k : Nat, s.2 = k ∧ k < 10 ∧ A 2 k = 0 ∧ s.1 k ≠ 0 ∧ ∀ i, k < i → i < 10 → s.1 i = 0 := by
    rcases hh.2 with ⟨a, b⟩ | g
    · exact Or.inl a
    · exact Or.inr g
  have tail : ∀ (k : Nat) (W1 : Nat → Int → Int), s.2 = k → k < 10 → A 2 k = 0 → s.1 k ≠ 0 → iO W W1 → iR W1 (uR R 10 s.1) → K 22 [some (eR (1, 3)), some (eI k)] [] (cC F A W1) := by
    intro k W1 hk k10 hk0 hkn ho hi
    have kk := sm_n k10 hkn
    rw [hk, if_neg (by omega), show (k : Int).toNat = k from rfl] at h
    have ek := rb_11 (show k < 11 by omega)
    have w1 : ∀ c, c < 10 → wq (W1 (rb 10 + c)) (s.1 c) := fun c hc => by
      have := hi.1 10 (by decide) c hc
      rw [uR_s] at this
      exact this
    refine x_aload_n hK kX3_insert_22 (q := 23) rfl rfl ?_
    refine x_getfield hK kX3_insert_23 (q := 26) rfl (gX3_44 ?_)
    refine x_aload_n hK kX3_insert_26 (q := 27) rfl rfl ?_
    refine x_getfield hK kX3_insert_27 (q := 30) rfl (gX3_29 ?_)
    refine x_getfield hK kX3_insert_30 (q := 33) rfl (gX3_78 ?_)
    refine x_cv2 hK kX3_insert_33 (q := 36) rfl (vtX3_insert_105) (Nat.le_of_ble_eq_true rfl) ?_
    refine SX1_simplify_i (base := rb 10) (n := 10) (V := s.1) (wa_6 (r := 10)) w1 hB2 hi.2 (fun W2 f2 g2 d2 => ?_)
    have i2 := iR_u (W' := W2) (v := sm s.1) hi (show 10 < 11 by decide) (fun t t0 _ t2 => f2 t t0 t2) g2 d2
    rw [uR_u] at i2
    refine x_aload_n hK kX3_insert_36 (q := 37) rfl rfl ?_
    refine x_getfield hK kX3_insert_37 (q := 40) rfl (gX3_15 ?_)
    refine x_iload_n hK kX3_insert_40 (q := 41) rfl rfl ?_
    refine x_aaload hK kX3_insert_41 (q := 42) rfl (aC3_1 (by omega) ?_)
    refine x_aload_n hK kX3_insert_42 (q := 43) rfl rfl ?_
    refine x_getfield hK kX3_insert_43 (q := 46) rfl (gX3_29 ?_)
    refine x_cv2 hK kX3_insert_46 (q := 49) rfl (vtX3_insert_111) (Nat.le_of_ble_eq_true rfl) ?_
    refine SX7_take_i (r := k) (q := 10) (V := sm s.1) (by omega) (by decide) (by omega) (by rw [ek.2, e10.2]) (fun c hc => g2 c (by omega)) (fun W3 f3 g3 => ?_)
    have i3 := iR_u (W' := W3) (r := k) (v := sm s.1) i2 (by omega) (fun t t0 _ t2 => f3 t (by omega)) (fun c hc => g3 c (by omega)) (fun t ht => dv_n (i2.2 t ht) (f3 t (by omega)))
    have o3 : iO W W3 := fun t ht => by rw [f3 t (by omega), f2 t (by omega) (by omega)]; exact ho t ht
    refine x_aload_n hK kX3_insert_49 (q := 50) rfl rfl ?_
    refine x_getfield hK kX3_insert_50 (q := 53) rfl (gX3_15 ?_)
    refine x_iload_n hK kX3_insert_53 (q := 54) rfl rfl ?_
    refine x_aaload hK kX3_insert_54 (q := 55) rfl (aC3_1 (by omega) ?_)
    refine x_getfield hK kX3_insert_55 (q := 58) rfl (gX3_78 ?_)
    refine x_iload_n hK kX3_insert_58 (q := 59) rfl rfl ?_
    refine x_aaload hK kX3_insert_59 (q := 60) rfl (wa_a wa_6 (by rw [ek.2]; omega) ?_)
    refine x_getfield hK kX3_insert_60 (q := 63) rfl (gX3_115 ?_)
    rw [wq_s (g3 k (by omega))]
    refine x_if_ge hK kX3_insert_63 (q := 66) rfl (tg := 75) rfl (by exact zSg_w _) (fun c63 => ?_) (fun c63 => ?_)
    · have sg : 0 < sm s.1 k := by rcases zSg_c (sm s.1 k) with g | g | g <;> omega
      rw [if_neg (by omega)] at h
      have hfin := h W3 o3 i3
      refine x_aload_n hK kX3_insert_75 (q := 76) rfl rfl ?_
      refine x_getfield hK kX3_insert_76 (q := 79) rfl (gX3_19 ?_)
      refine x_iload_n hK kX3_insert_79 (q := 80) rfl rfl ?_
      refine x_iconst hK kX3_insert_80 (q := 81) rfl ?_
      refine x_bastore hK kX3_insert_81 (q := 82) rfl (by exact Or.inr rfl) (yC3_2 (by refine ⟨?_, ?_⟩ <;> omega) ?_)
      refine x_return_ hK kX3_insert_82 (by first | trivial | exact Or.inl rfl | exact Or.inr rfl) ?_
      exact hfin
    · have sg : sm s.1 k < 0 := by rcases zSg_c (sm s.1 k) with g | g | g <;> omega
      rw [if_pos sg] at h
      refine x_aload_n hK kX3_insert_66 (q := 67) rfl rfl ?_
      refine x_getfield hK kX3_insert_67 (q := 70) rfl (gX3_15 ?_)
      refine x_iload_n hK kX3_insert_70 (q := 71) rfl rfl ?_
      refine x_aaload hK kX3_insert_71 (q := 72) rfl (aC3_1 (by omega) ?_)
      refine x_cv1 hK kX3_insert_72 (q := 75) rfl (vtX3_insert_119) (Nat.le_of_ble_eq_true rfl) ?_
      refine SX7_turnAll_i (r := k) (V := sm s.1) (by omega) (fun c hc => g3 c hc) (fun W4 f4 g4 => ?_)
      have i4 := iR_u (W' := W4) (r := k) (v := ngv (sm s.1)) i3 (by omega) (fun t t0 _ t2 => f4 t (by omega)) (fun c hc => g4 c (by omega)) (fun t ht => dv_n (i3.2 t ht) (f4 t (by omega)))
      rw [uR_u] at i4
      have hfin := h W4 (fun t ht => by rw [f4 t (by omega)]; exact o3 t ht) i4
      refine x_aload_n hK kX3_insert_75 (q := 76) rfl rfl ?_
      refine x_getfield hK kX3_insert_76 (q := 79) rfl (gX3_19 ?_)
      refine x_iload_n hK kX3_insert_79 (q := 80) rfl rfl ?_
      refine x_iconst hK kX3_insert_80 (q := 81) rfl ?_
      refine x_bastore hK kX3_insert_81 (q := 82) rfl (by exact Or.inr rfl) (yC3_2 (by refine ⟨?_, ?_⟩ <;> omega) ?_)
      refine x_return_ hK kX3_insert_82 (by first | trivial | exact Or.inl rfl | exact Or.inr rfl) ?_
      exact hfin
  simp only [eLoc, eE, List.length_cons, List.length_nil, List.replicate, List.cons_append, List.nil_append, Nat.reduceAdd, Nat.reduceSub]
  refine x_aload_n hK kX3_insert_0 (q := 1) rfl rfl ?_
  refine x_aload_n hK kX3_insert_1 (q := 2) rfl rfl ?_
  refine x_getfield hK kX3_insert_2 (q := 5) rfl (gX3_29 ?_)
  refine x_bipush hK kX3_insert_5 (q := 7) rfl (by decide) ?_
  refine x_cv3 hK kX3_insert_7 (q := 10) rfl (vtX3_insert_71) (Nat.le_of_ble_eq_true rfl) ?_
  refine SX3_reduce_i (r := 10) (lim := 10) (by decide) (by decide) (by decide) hR hL (fun k hk hk1 => (hS k hk (by omega)).1) hB1 (fun W1 o1 i1 => ?_)
  rw [hs]
  rw [hs] at i1
  refine x_istore_n hK kX3_insert_10 (q := 11) (jn := 1) rfl rfl ?_
  refine x_iload_n hK kX3_insert_11 (q := 12) rfl rfl ?_
  simp only [lS, lS2, clr_0, clr_I, clr_L, clr_R]
  refine x_if_lt hK kX3_insert_12 (q := 15) rfl (tg := 21) rfl (by rcases ht with g | ⟨k, g, g2, -⟩ <;> (rw [g]; exact ⟨by omega, by omega⟩)) (fun c12 => ?_) (fun c12 => ?_)
  · rw [if_pos c12] at h
    have hfin := h W1 o1 i1
    rw [uA_s] at hfin
    refine x_return_ hK kX3_insert_21 (by first | trivial | exact Or.inl rfl | exact Or.inr rfl) ?_
    exact hfin
  · refine x_iload_n hK kX3_insert_15 (q := 16) rfl rfl ?_
    refine x_bipush hK kX3_insert_16 (q := 18) rfl (by decide) ?_
    refine x_icmp_lt hK kX3_insert_18 (q := 21) rfl (tg := 22) rfl (by rcases ht with g | ⟨k, g, g2, -⟩ <;> (rw [g]; exact ⟨⟨by omega, by omega⟩, by decide⟩)) (fun c18 => ?_) (fun c18 => ?_)
    · rcases ht with g | ⟨k, g, g2, g3, g4, g5⟩
      · omega
      · rw [g]
        exact tail k W1 g g2 g3 g4 o1 i1
    · rcases ht with g | ⟨k, g, g2, -⟩ <;> omega
set_option maxRecDepth 20000 in
theorem mX3_insert : eMet yX3_insert cX3_insert 2 none 5 138 SX3_insert := eMet_of (by decide +kernel) sX3_insert kX3_insert_ok caX3_insert tb_RX3
theorem wX3_insert : eWV yX3_insert cX3_insert 2 none 1 3 SX3_insert := ⟨(gW_at 430 (by decide +kernel) rfl), (gW_at 84 (by decide +kernel) rfl), (gW_at 429 (by decide +kernel) rfl), ⟨_, rfl, (gW_at 3 (by decide +kernel) rfl)⟩, by decide +kernel, SX3_insert_r⟩
