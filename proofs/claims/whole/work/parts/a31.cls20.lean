/-! The ideal's rows: what reduce leaves; insert as a function. -/
/-- rows with their leads: positive there, 0 above -/
def rwS (R : Nat → Nat → Int) (L : Int → Int) : Prop := ∀ p : Nat, p < 10 → L p ≠ 0 → 0 < R p p ∧ ∀ i, p < i → i < 10 → R p i = 0
theorem sm_0 {v : Nat → Int} {i : Nat} (h : v i = 0) : sm v i = 0 := by
  unfold sm
  rw [h, Int.zero_ediv]
theorem sm_n {v : Nat → Int} {i : Nat} (hi : i < 10) (h : v i ≠ 0) : sm v i ≠ 0 ∧ (0 < v i → 0 < sm v i) ∧ (cG v 10 : Int) * sm v i = v i ∧ 0 < (cG v 10 : Int) := by
  have d := cG_d v 10 i hi
  have c0 : (cG v 10 : Int) ≠ 0 := fun q => h (by rw [q] at d; exact Int.zero_dvd.mp d)
  have e : (cG v 10 : Int) * sm v i = v i := Int.mul_ediv_cancel' d
  refine ⟨fun q => h (by rw [← e, q, Int.mul_zero]), fun q => ?_, e, by omega⟩
  rcases Int.lt_or_le 0 (sm v i) with g | g
  · exact g
  · have := Int.mul_nonneg (show 0 ≤ (cG v 10 : Int) by omega) (show 0 ≤ -sm v i by omega)
    rw [Int.mul_neg, e] at this
    omega
theorem el_p {v u : Nat → Int} {p : Nat} : el v u p p = 0 := by
  unfold el
  obtain ⟨a, ha⟩ : (Int.gcd (u p) (v p) : Int) ∣ u p := Int.gcd_dvd_left ..
  obtain ⟨b, hb⟩ : (Int.gcd (u p) (v p) : Int) ∣ v p := Int.gcd_dvd_right ..
  rcases Decidable.em ((Int.gcd (u p) (v p) : Int) = 0) with g | g
  · rw [g, Int.ediv_zero, Int.ediv_zero]
    omega
  · have e1 : u p / (Int.gcd (u p) (v p) : Int) = a := by
      have : u p / (Int.gcd (u p) (v p) : Int) = (Int.gcd (u p) (v p) : Int) * a / (Int.gcd (u p) (v p) : Int) := congrArg (fun z => z / (Int.gcd (u p) (v p) : Int)) ha
      rw [this]
      exact Int.mul_ediv_cancel_left a g
    have e2 : v p / (Int.gcd (u p) (v p) : Int) = b := by
      have : v p / (Int.gcd (u p) (v p) : Int) = (Int.gcd (u p) (v p) : Int) * b / (Int.gcd (u p) (v p) : Int) := congrArg (fun z => z / (Int.gcd (u p) (v p) : Int)) hb
      rw [this]
      exact Int.mul_ediv_cancel_left b g
    rw [e1, e2]
    generalize (Int.gcd (u p) (v p) : Int) = G at *
    rw [ha, hb]
    grind
theorem el_0 {v u : Nat → Int} {p i : Nat} (hv : v i = 0) (hu : u i = 0) : el v u p i = 0 := by
  unfold el
  rw [hv, hu, Int.zero_mul, Int.zero_mul]
  rfl
theorem el_n {v u : Nat → Int} {p i : Nat} (u0 : 0 < u p) (hu : u i = 0) : el v u p i = v i * (u p / (Int.gcd (u p) (v p) : Int)) ∧ 0 < u p / (Int.gcd (u p) (v p) : Int) := by
  have gp := gcd_p (y := v p) u0
  refine ⟨by unfold el; rw [hu, Int.zero_mul]; omega, ?_⟩
  obtain ⟨a, ha⟩ := gp.2.1
  have e : u p / (Int.gcd (u p) (v p) : Int) = a := by
    have : u p / (Int.gcd (u p) (v p) : Int) = (Int.gcd (u p) (v p) : Int) * a / (Int.gcd (u p) (v p) : Int) := congrArg (fun z => z / (Int.gcd (u p) (v p) : Int)) ha
    rw [this]
    exact Int.mul_ediv_cancel_left a (by omega)
  rw [e]
  rcases Int.lt_or_le 0 a with g | g
  · exact g
  · have := Int.mul_nonneg (show 0 ≤ (Int.gcd (u p) (v p) : Int) by omega) (show 0 ≤ -a by omega)
    rw [Int.mul_neg, ← ha] at this
    omega
/-- what reduce leaves: 0 at all leads below the limit; its top -/
theorem rdF_h {R : Nat → Nat → Int} {L : Int → Int} (hS : rwS R L) : ∀ (n : Nat) (v : Nat → Int) (t : Int), n ≤ 10 → (∀ i : Nat, n ≤ i → i < 10 → L i ≠ 0 → v i = 0) → ((t = -1 ∧ ∀ i, n ≤ i → i < 10 → v i = 0) ∨ ∃ k : Nat, t = k ∧ n ≤ k ∧ k < 10 ∧ L k = 0 ∧ v k ≠ 0 ∧ ∀ i, k < i → i < 10 → v i = 0) →
    (∀ i : Nat, i < 10 → L i ≠ 0 → (rdF R L n v t).1 i = 0) ∧ (((rdF R L n v t).2 = -1 ∧ ∀ i, i < 10 → (rdF R L n v t).1 i = 0) ∨ ∃ k : Nat, (rdF R L n v t).2 = k ∧ k < 10 ∧ L k = 0 ∧ (rdF R L n v t).1 k ≠ 0 ∧ ∀ i, k < i → i < 10 → (rdF R L n v t).1 i = 0)
  | 0, v, t, _, h1, h2 => by
    refine ⟨fun i hi hl => h1 i (Nat.zero_le _) hi hl, ?_⟩
    rcases h2 with ⟨a, b⟩ | ⟨k, a, b, c, d, e, f⟩
    · exact Or.inl ⟨a, fun i hi => b i (Nat.zero_le _) hi⟩
    · exact Or.inr ⟨k, a, c, d, e, f⟩
  | n + 1, v, t, hn, h1, h2 => by
    unfold rdF
    rcases Decidable.em (v n = 0) with g | g
    · rw [if_pos g]
      refine rdF_h hS n v t (by omega) (fun i hi hi2 hl => ?_) ?_
      · rcases Nat.lt_or_ge n i with q | q
        · exact h1 i q hi2 hl
        · rw [show i = n by omega]; exact g
      · rcases h2 with ⟨a, b⟩ | ⟨k, a, b, c⟩
        · refine Or.inl ⟨a, fun i hi hi2 => ?_⟩
          rcases Nat.lt_or_ge n i with q | q
          · exact b i q hi2
          · rw [show i = n by omega]; exact g
        · exact Or.inr ⟨k, a, by omega, c⟩
    · rw [if_neg g]
      rcases Decidable.em (L n = 0) with l | l
      · rw [if_pos l]
        refine rdF_h hS n v _ (by omega) (fun i hi hi2 hl => ?_) ?_
        · rcases Nat.lt_or_ge n i with q | q
          · exact h1 i q hi2 hl
          · exact absurd (show L i = 0 by rw [show i = n by omega]; exact l) hl
        · rcases h2 with ⟨a, b⟩ | ⟨k, a, b, c⟩
          · rw [if_pos a]
            exact Or.inr ⟨n, rfl, Nat.le_refl _, by omega, l, g, fun i hi hi2 => b i hi hi2⟩
          · rw [if_neg (by omega)]
            exact Or.inr ⟨k, a, by omega, c⟩
      · rw [if_neg l]
        obtain ⟨r0, rz⟩ := hS n (by omega) l
        have keep : ∀ i, n < i → i < 10 → v i = 0 → sm (el v (R n) n) i = 0 := fun i hi hi2 hv => sm_0 (el_0 hv (rz i hi hi2))
        refine rdF_h hS n _ t (by omega) (fun i hi hi2 hl => ?_) ?_
        · rcases Nat.lt_or_ge n i with q | q
          · exact keep i q hi2 (h1 i q hi2 hl)
          · rw [show i = n by omega]; exact sm_0 el_p
        · rcases h2 with ⟨a, b⟩ | ⟨k, a, b, c, d, e, f⟩
          · refine Or.inl ⟨a, fun i hi hi2 => ?_⟩
            rcases Nat.lt_or_ge n i with q | q
            · exact keep i q hi2 (b i q hi2)
            · rw [show i = n by omega]; exact sm_0 el_p
          · refine Or.inr ⟨k, a, by omega, c, d, ?_, fun i hi hi2 => keep i (by omega) hi2 (f i hi hi2)⟩
            have en := el_n (v := v) (p := n) (i := k) r0 (rz k (by omega) c)
            refine (sm_n c ?_).1
            rw [en.1]
            exact mul_n e (by omega)
def ngv (v : Nat → Int) : Nat → Int := fun i => -v i
/-- the rows above lose the new lead -/
def upF (R : Nat → Nat → Int) (L : Int → Int) (t n : Nat) : Nat → Nat → Int := fun k => if t < k ∧ k < n ∧ L k ≠ 0 ∧ R k t ≠ 0 then sm (el (R k) (R t) t) else R k
theorem upF_n {R : Nat → Nat → Int} {L : Int → Int} {t n k : Nat} (h : ¬ (t < k ∧ k < n ∧ L k ≠ 0 ∧ R k t ≠ 0)) : upF R L t n k = R k := if_neg h
theorem upF_y {R : Nat → Nat → Int} {L : Int → Int} {t n k : Nat} (h : t < k ∧ k < n ∧ L k ≠ 0 ∧ R k t ≠ 0) : upF R L t n k = sm (el (R k) (R t) t) := if_pos h
theorem upF_s {R : Nat → Nat → Int} {L : Int → Int} {t n : Nat} (h : t < n) (h1 : L n ≠ 0) (h2 : R n t ≠ 0) : uR (upF R L t n) n (sm (el (R n) (R t) t)) = upF R L t (n + 1) := by
  funext k
  rcases Decidable.em (k = n) with q | q
  · rw [q, uR_s, upF_y ⟨h, by omega, h1, h2⟩]
  · rw [uR_n _ _ q]
    by_cases g : t < k ∧ k < n ∧ L k ≠ 0 ∧ R k t ≠ 0
    · rw [upF_y g, upF_y ⟨g.1, by omega, g.2.2⟩]
    · rw [upF_n g, upF_n (fun g2 => g ⟨g2.1, by omega, g2.2.2⟩)]
theorem upF_k {R : Nat → Nat → Int} {L : Int → Int} {t n : Nat} (h : ¬ (L n ≠ 0 ∧ R n t ≠ 0)) : upF R L t (n + 1) = upF R L t n := by
  funext k
  by_cases g : t < k ∧ k < n ∧ L k ≠ 0 ∧ R k t ≠ 0
  · rw [upF_y g, upF_y ⟨g.1, by omega, g.2.2⟩]
  · rw [upF_n g]
    refine upF_n (fun g2 => ?_)
    rcases Decidable.em (k = n) with q | q
    · rw [q] at g2
      exact h g2.2.2
    · exact g ⟨g2.1, by omega, g2.2.2⟩
theorem upF_0 {R : Nat → Nat → Int} {L : Int → Int} {t : Nat} : upF R L t (t + 1) = R := funext (fun k => upF_n (fun g => by omega))
/-- a row with its sign -/
def sgv (v : Nat → Int) (t : Nat) : Nat → Int := if v t < 0 then ngv v else v
/-- the rows with the new one -/
def inR (R : Nat → Nat → Int) (v : Nat → Int) (t : Nat) : Nat → Nat → Int := uR (uR R 10 (sm v)) t (sgv (sm v) t)
/-- insert -/
def insF (R : Nat → Nat → Int) (L : Int → Int) : (Nat → Nat → Int) × (Int → Int) :=
  if (rdF R L 10 (R 10) (-1)).2 < 0 then (uR R 10 (rdF R L 10 (R 10) (-1)).1, L)
  else (upF (inR R (rdF R L 10 (R 10) (-1)).1 (rdF R L 10 (R 10) (-1)).2.toNat) L (rdF R L 10 (R 10) (-1)).2.toNat 10, uI L (rdF R L 10 (R 10) (-1)).2 1)
def insB (R : Nat → Nat → Int) (L : Int → Int) : Prop := rdB R L 10 (R 10) ∧ ∀ t : Nat, (rdF R L 10 (R 10) (-1)).2 = t → ∀ k : Nat, t < k → k < 10 → L k ≠ 0 → R k t ≠ 0 → elB (R k) (sgv (sm (rdF R L 10 (R 10) (-1)).1) t) t
theorem sgv_0 {v : Nat → Int} {t i : Nat} (h : v i = 0) : sgv v t i = 0 := by
  unfold sgv
  split
  · show -v i = 0
    omega
  · exact h
theorem sgv_p {v : Nat → Int} {t : Nat} (h : v t ≠ 0) : 0 < sgv v t t := by
  unfold sgv
  split
  · show 0 < -v t
    omega
  · omega
theorem inR_t (R : Nat → Nat → Int) (v : Nat → Int) (t : Nat) : inR R v t t = sgv (sm v) t := uR_s _ _ _
theorem inR_n (R : Nat → Nat → Int) (v : Nat → Int) {t k : Nat} (h : k ≠ t) (h2 : k ≠ 10) : inR R v t k = R k := by
  unfold inR
  rw [uR_n _ _ h, uR_n _ _ h2]
theorem insF_S {R : Nat → Nat → Int} {L : Int → Int} (hS : rwS R L) : rwS (insF R L).1 (insF R L).2 := by
  have hh := rdF_h hS 10 (R 10) (-1) (Nat.le_refl _) (fun i a b _ => by omega) (Or.inl ⟨rfl, fun i a b => by omega⟩)
  unfold insF
  obtain ⟨s, hs⟩ : ∃ s, rdF R L 10 (R 10) (-1) = s := ⟨_, rfl⟩
  rw [hs] at hh ⊢
  rcases hh.2 with ⟨a, b⟩ | ⟨k, a, b, c, d, e⟩
  · rw [if_pos (by omega)]
    intro p hp hl
    show 0 < uR R 10 s.1 p p ∧ ∀ i, p < i → i < 10 → uR R 10 s.1 p i = 0
    rw [uR_n R _ (by omega)]
    exact hS p hp hl
  · rw [if_neg (by omega), a]
    have ek : (k : Int).toNat = k := rfl
    rw [ek]
    have kk := sm_n b d
    have t0 := sgv_p kk.1
    have tz : ∀ i, k < i → i < 10 → sgv (sm s.1) k i = 0 := fun i h1 h2 => sgv_0 (sm_0 (e i h1 h2))
    intro p hp hl
    show 0 < upF (inR R s.1 k) L k 10 p p ∧ ∀ i, p < i → i < 10 → upF (inR R s.1 k) L k 10 p i = 0
    rcases Decidable.em (p = k) with q | q
    · subst q
      rw [upF_n (fun g => by omega), inR_t]
      exact ⟨t0, tz⟩
    · have hl' : uI L k 1 p ≠ 0 := hl
      rw [uI_n _ _ (by omega)] at hl'
      obtain ⟨h1, h2⟩ := hS p hp hl'
      by_cases g : k < p ∧ p < 10 ∧ L p ≠ 0 ∧ inR R s.1 k p k ≠ 0
      · rw [upF_y g, inR_t, inR_n _ _ q (by omega)]
        have en := el_n (v := R p) (p := k) (i := p) t0 (tz p g.1 hp)
        have pos : 0 < el (R p) (sgv (sm s.1) k) k p := by rw [en.1]; exact Int.mul_pos h1 en.2
        exact ⟨(sm_n hp (by omega)).2.1 pos, fun i i1 i2 => sm_0 (el_0 (h2 i i1 i2) (tz i (by omega) i2))⟩
      · rw [upF_n g, inR_n _ _ q (by omega)]
        exact ⟨h1, h2⟩
theorem insF_01 {R : Nat → Nat → Int} {L : Int → Int} (hL : ∀ i : Int, 0 ≤ i → i < 10 → L i = 0 ∨ L i = 1) (i : Int) (h0 : 0 ≤ i) (h1 : i < 10) : (insF R L).2 i = 0 ∨ (insF R L).2 i = 1 := by
  unfold insF
  split
  · exact hL i h0 h1
  · show uI L _ 1 i = 0 ∨ uI L _ 1 i = 1
    rcases Decidable.em (i = (rdF R L 10 (R 10) (-1)).2) with q | q
    · rw [q, uI_s]; exact Or.inr rfl
    · rw [uI_n _ _ q]; exact hL i h0 h1
-- insert on the machine
def SX3_insert : eSp := fun as M rt => ∃ (F : Nat → Int) (A W : Nat → Int → Int) (R : Nat → Nat → Int), as = [eR (1, 3)] ∧ M = cC F A W ∧ (iR W R) ∧ (∀ i : Int, 0 ≤ i → i < 10 → A 2 i = 0 ∨ A 2 i = 1) ∧ (rwS R (A 2)) ∧ (insB R (A 2)) ∧ (∀ W', iO W W' → iR W' (insF R (A 2)).1 → rt none (cC F (uA A 2 (insF R (A 2)).2) W'))
theorem SX3_insert_i {F : Nat → Int} {A W : Nat → Int → Int} {R : Nat → Nat → Int} {rt : Option eV → eM → Prop} (hR : iR W R) (hL : ∀ i : Int, 0 ≤ i → i < 10 → A 2 i = 0 ∨ A 2 i = 1) (hS : rwS R (A 2)) (hB : insB R (A 2)) (h : ∀ W', iO W W' → iR W' (insF R (A 2)).1 → rt none (cC F (uA A 2 (insF R (A 2)).2) W')) : SX3_insert [eR (1, 3)] (cC F A W) rt := ⟨F, A, W, R, rfl, rfl, hR, hL, hS, hB, h⟩
theorem SX3_insert_r : ∀ as M rt, SX3_insert as M rt → ∃ a r fs, as = eR a :: r ∧ M a = some (.inl (3, fs)) := by
  rintro as M rt ⟨F, A, W, R, rfl, rfl, -⟩
  exact ⟨_, _, _, rfl, rfl⟩
def kX3_insert : List (Nat × Jvm.ClassFile.Instr × Nat) := [(0, .aload_n 0, 1), (1, .invokevirtual 68, 3), (4, .istore_n 1, 1), (5, .iload_n 1, 1), (6, .ifCond .lt 9, 3), (9, .iload_n 1, 1), (10, .bipush 10, 2), (12, .if_icmp .lt 4, 3), (15, .return_, 1), (16, .aload_n 0, 1), (17, .getfield 44, 3), (20, .aload_n 0, 1), (21, .getfield 29, 3), (24, .getfield 74, 3), (27, .invokevirtual 101, 3), (30, .aload_n 0, 1), (31, .getfield 15, 3), (34, .iload_n 1, 1), (35, .aaload, 1), (36, .aload_n 0, 1), (37, .getfield 29, 3), (40, .invokevirtual 107, 3), (43, .aload_n 0, 1), (44, .getfield 15, 3), (47, .iload_n 1, 1), (48, .aaload, 1), (49, .getfield 74, 3), (52, .iload_n 1, 1), (53, .aaload, 1), (54, .getfield 111, 3), (57, .ifCond .ge 12, 3), (60, .aload_n 0, 1), (61, .getfield 15, 3), (64, .iload_n 1, 1), (65, .aaload, 1), (66, .invokevirtual 115, 3), (69, .aload_n 0, 1), (70, .getfield 19, 3), (73, .iload_n 1, 1), (74, .iconst 1, 1), (75, .bastore, 1), (76, .iload_n 1, 1), (77, .iconst 1, 1), (78, .iadd, 1), (79, .istore_n 2, 1), (80, .iload_n 2, 1), (81, .bipush 10, 2), (83, .if_icmp .ge 77, 3), (86, .aload_n 0, 1), (87, .getfield 19, 3), (90, .iload_n 2, 1), (91, .baload, 1), (92, .ifCond .eq 62, 3), (95, .aload_n 0, 1), (96, .getfield 15, 3), (99, .iload_n 2, 1), (100, .aaload, 1), (101, .getfield 74, 3), (104, .iload_n 1, 1), (105, .aaload, 1), (106, .invokevirtual 118, 3), (109, .ifCond .ne 45, 3), (112, .aload_n 0, 1), (113, .getfield 44, 3), (116, .aload_n 0, 1), (117, .getfield 15, 3), (120, .iload_n 2, 1), (121, .aaload, 1), (122, .getfield 74, 3), (125, .aload_n 0, 1), (126, .getfield 15, 3), (129, .iload_n 1, 1), (130, .aaload, 1), (131, .getfield 74, 3), (134, .iload_n 1, 1), (135, .invokevirtual 122, 3), (138, .aload_n 0, 1), (139, .getfield 44, 3), (142, .aload_n 0, 1), (143, .getfield 15, 3), (146, .iload_n 2, 1), (147, .aaload, 1), (148, .getfield 74, 3), (151, .invokevirtual 101, 3), (154, .iinc 2 1, 3), (157, .goto (-77), 3), (160, .return_, 1)]
theorem kX3_insert_0 : cdOf kX3_insert 0 = some (.aload_n 0, 1) := by decide +kernel
theorem kX3_insert_1 : cdOf kX3_insert 1 = some (.invokevirtual 68, 3) := by decide +kernel
theorem kX3_insert_4 : cdOf kX3_insert 4 = some (.istore_n 1, 1) := by decide +kernel
theorem kX3_insert_5 : cdOf kX3_insert 5 = some (.iload_n 1, 1) := by decide +kernel
theorem kX3_insert_6 : cdOf kX3_insert 6 = some (.ifCond .lt 9, 3) := by decide +kernel
theorem kX3_insert_9 : cdOf kX3_insert 9 = some (.iload_n 1, 1) := by decide +kernel
theorem kX3_insert_10 : cdOf kX3_insert 10 = some (.bipush 10, 2) := by decide +kernel
theorem kX3_insert_12 : cdOf kX3_insert 12 = some (.if_icmp .lt 4, 3) := by decide +kernel
theorem kX3_insert_15 : cdOf kX3_insert 15 = some (.return_, 1) := by decide +kernel
theorem kX3_insert_16 : cdOf kX3_insert 16 = some (.aload_n 0, 1) := by decide +kernel
theorem kX3_insert_17 : cdOf kX3_insert 17 = some (.getfield 44, 3) := by decide +kernel
theorem kX3_insert_20 : cdOf kX3_insert 20 = some (.aload_n 0, 1) := by decide +kernel
theorem kX3_insert_21 : cdOf kX3_insert 21 = some (.getfield 29, 3) := by decide +kernel
theorem kX3_insert_24 : cdOf kX3_insert 24 = some (.getfield 74, 3) := by decide +kernel
theorem kX3_insert_27 : cdOf kX3_insert 27 = some (.invokevirtual 101, 3) := by decide +kernel
theorem kX3_insert_30 : cdOf kX3_insert 30 = some (.aload_n 0, 1) := by decide +kernel
theorem kX3_insert_31 : cdOf kX3_insert 31 = some (.getfield 15, 3) := by decide +kernel
theorem kX3_insert_34 : cdOf kX3_insert 34 = some (.iload_n 1, 1) := by decide +kernel
theorem kX3_insert_35 : cdOf kX3_insert 35 = some (.aaload, 1) := by decide +kernel
theorem kX3_insert_36 : cdOf kX3_insert 36 = some (.aload_n 0, 1) := by decide +kernel
theorem kX3_insert_37 : cdOf kX3_insert 37 = some (.getfield 29, 3) := by decide +kernel
theorem kX3_insert_40 : cdOf kX3_insert 40 = some (.invokevirtual 107, 3) := by decide +kernel
theorem kX3_insert_43 : cdOf kX3_insert 43 = some (.aload_n 0, 1) := by decide +kernel
theorem kX3_insert_44 : cdOf kX3_insert 44 = some (.getfield 15, 3) := by decide +kernel
theorem kX3_insert_47 : cdOf kX3_insert 47 = some (.iload_n 1, 1) := by decide +kernel
theorem kX3_insert_48 : cdOf kX3_insert 48 = some (.aaload, 1) := by decide +kernel
theorem kX3_insert_49 : cdOf kX3_insert 49 = some (.getfield 74, 3) := by decide +kernel
theorem kX3_insert_52 : cdOf kX3_insert 52 = some (.iload_n 1, 1) := by decide +kernel
theorem kX3_insert_53 : cdOf kX3_insert 53 = some (.aaload, 1) := by decide +kernel
theorem kX3_insert_54 : cdOf kX3_insert 54 = some (.getfield 111, 3) := by decide +kernel
theorem kX3_insert_57 : cdOf kX3_insert 57 = some (.ifCond .ge 12, 3) := by decide +kernel
theorem kX3_insert_60 : cdOf kX3_insert 60 = some (.aload_n 0, 1) := by decide +kernel
theorem kX3_insert_61 : cdOf kX3_insert 61 = some (.getfield 15, 3) := by decide +kernel
theorem kX3_insert_64 : cdOf kX3_insert 64 = some (.iload_n 1, 1) := by decide +kernel
theorem kX3_insert_65 : cdOf kX3_insert 65 = some (.aaload, 1) := by decide +kernel
theorem kX3_insert_66 : cdOf kX3_insert 66 = some (.invokevirtual 115, 3) := by decide +kernel
theorem kX3_insert_69 : cdOf kX3_insert 69 = some (.aload_n 0, 1) := by decide +kernel
theorem kX3_insert_70 : cdOf kX3_insert 70 = some (.getfield 19, 3) := by decide +kernel
theorem kX3_insert_73 : cdOf kX3_insert 73 = some (.iload_n 1, 1) := by decide +kernel
theorem kX3_insert_74 : cdOf kX3_insert 74 = some (.iconst 1, 1) := by decide +kernel
theorem kX3_insert_75 : cdOf kX3_insert 75 = some (.bastore, 1) := by decide +kernel
theorem kX3_insert_76 : cdOf kX3_insert 76 = some (.iload_n 1, 1) := by decide +kernel
theorem kX3_insert_77 : cdOf kX3_insert 77 = some (.iconst 1, 1) := by decide +kernel
theorem kX3_insert_78 : cdOf kX3_insert 78 = some (.iadd, 1) := by decide +kernel
theorem kX3_insert_79 : cdOf kX3_insert 79 = some (.istore_n 2, 1) := by decide +kernel
theorem kX3_insert_80 : cdOf kX3_insert 80 = some (.iload_n 2, 1) := by decide +kernel
theorem kX3_insert_81 : cdOf kX3_insert 81 = some (.bipush 10, 2) := by decide +kernel
theorem kX3_insert_83 : cdOf kX3_insert 83 = some (.if_icmp .ge 77, 3) := by decide +kernel
theorem kX3_insert_86 : cdOf kX3_insert 86 = some (.aload_n 0, 1) := by decide +kernel
theorem kX3_insert_87 : cdOf kX3_insert 87 = some (.getfield 19, 3) := by decide +kernel
theorem kX3_insert_90 : cdOf kX3_insert 90 = some (.iload_n 2, 1) := by decide +kernel
theorem kX3_insert_91 : cdOf kX3_insert 91 = some (.baload, 1) := by decide +kernel
theorem kX3_insert_92 : cdOf kX3_insert 92 = some (.ifCond .eq 62, 3) := by decide +kernel
theorem kX3_insert_95 : cdOf kX3_insert 95 = some (.aload_n 0, 1) := by decide +kernel
theorem kX3_insert_96 : cdOf kX3_insert 96 = some (.getfield 15, 3) := by decide +kernel
theorem kX3_insert_99 : cdOf kX3_insert 99 = some (.iload_n 2, 1) := by decide +kernel
theorem kX3_insert_100 : cdOf kX3_insert 100 = some (.aaload, 1) := by decide +kernel
theorem kX3_insert_101 : cdOf kX3_insert 101 = some (.getfield 74, 3) := by decide +kernel
theorem kX3_insert_104 : cdOf kX3_insert 104 = some (.iload_n 1, 1) := by decide +kernel
theorem kX3_insert_105 : cdOf kX3_insert 105 = some (.aaload, 1) := by decide +kernel
theorem kX3_insert_106 : cdOf kX3_insert 106 = some (.invokevirtual 118, 3) := by decide +kernel
theorem kX3_insert_109 : cdOf kX3_insert 109 = some (.ifCond .ne 45, 3) := by decide +kernel
theorem kX3_insert_112 : cdOf kX3_insert 112 = some (.aload_n 0, 1) := by decide +kernel
theorem kX3_insert_113 : cdOf kX3_insert 113 = some (.getfield 44, 3) := by decide +kernel
theorem kX3_insert_116 : cdOf kX3_insert 116 = some (.aload_n 0, 1) := by decide +kernel
theorem kX3_insert_117 : cdOf kX3_insert 117 = some (.getfield 15, 3) := by decide +kernel
theorem kX3_insert_120 : cdOf kX3_insert 120 = some (.iload_n 2, 1) := by decide +kernel
theorem kX3_insert_121 : cdOf kX3_insert 121 = some (.aaload, 1) := by decide +kernel
theorem kX3_insert_122 : cdOf kX3_insert 122 = some (.getfield 74, 3) := by decide +kernel
theorem kX3_insert_125 : cdOf kX3_insert 125 = some (.aload_n 0, 1) := by decide +kernel
theorem kX3_insert_126 : cdOf kX3_insert 126 = some (.getfield 15, 3) := by decide +kernel
theorem kX3_insert_129 : cdOf kX3_insert 129 = some (.iload_n 1, 1) := by decide +kernel
theorem kX3_insert_130 : cdOf kX3_insert 130 = some (.aaload, 1) := by decide +kernel
theorem kX3_insert_131 : cdOf kX3_insert 131 = some (.getfield 74, 3) := by decide +kernel
theorem kX3_insert_134 : cdOf kX3_insert 134 = some (.iload_n 1, 1) := by decide +kernel
theorem kX3_insert_135 : cdOf kX3_insert 135 = some (.invokevirtual 122, 3) := by decide +kernel
theorem kX3_insert_138 : cdOf kX3_insert 138 = some (.aload_n 0, 1) := by decide +kernel
theorem kX3_insert_139 : cdOf kX3_insert 139 = some (.getfield 44, 3) := by decide +kernel
theorem kX3_insert_142 : cdOf kX3_insert 142 = some (.aload_n 0, 1) := by decide +kernel
theorem kX3_insert_143 : cdOf kX3_insert 143 = some (.getfield 15, 3) := by decide +kernel
theorem kX3_insert_146 : cdOf kX3_insert 146 = some (.iload_n 2, 1) := by decide +kernel
theorem kX3_insert_147 : cdOf kX3_insert 147 = some (.aaload, 1) := by decide +kernel
theorem kX3_insert_148 : cdOf kX3_insert 148 = some (.getfield 74, 3) := by decide +kernel
theorem kX3_insert_151 : cdOf kX3_insert 151 = some (.invokevirtual 101, 3) := by decide +kernel
theorem kX3_insert_154 : cdOf kX3_insert 154 = some (.iinc 2 1, 3) := by decide +kernel
theorem kX3_insert_157 : cdOf kX3_insert 157 = some (.goto (-77), 3) := by decide +kernel
theorem kX3_insert_160 : cdOf kX3_insert 160 = some (.return_, 1) := by decide +kernel
set_option maxRecDepth 20000 in
theorem kX3_insert_ok : ∀ pc i len, cdOf kX3_insert pc = some (i, len) → decode cX3_insert pc = .ok (i, len) ∧ stOK 3 i = true ∧ jOK pc i = true ∧ eLen i len = true := cdOf_ok cX3_insert 3 kX3_insert (by decide +kernel)
def vtX3_insert : Nat → Option (Nat × eSp) := fun k => match k with
  | 68 => some (1, SX3_reduce)
  | 101 => some (2, SX1_simplify)
  | 107 => some (2, SX7_take)
  | 115 => some (1, SX7_turnAll)
  | 118 => some (1, SX8_isZero)
  | 122 => some (4, SX1_eliminate)
  | _ => none
theorem vtX3_insert_68 : vtX3_insert 68 = some (1, SX3_reduce) := rfl
theorem vtX3_insert_101 : vtX3_insert 101 = some (2, SX1_simplify) := rfl
theorem vtX3_insert_107 : vtX3_insert 107 = some (2, SX7_take) := rfl
theorem vtX3_insert_115 : vtX3_insert 115 = some (1, SX7_turnAll) := rfl
theorem vtX3_insert_118 : vtX3_insert 118 = some (1, SX8_isZero) := rfl
theorem vtX3_insert_122 : vtX3_insert 122 = some (4, SX1_eliminate) := rfl
def stX3_insert : Nat → Option (Nat × eSp) := fun _ => none
abbrev TX3_insert : eT := (fl_RX3, cl_RX3, dl_RX3, vtX3_insert, stX3_insert)
set_option maxRecDepth 20000 in
theorem caX3_insert : eCalls RX3 { frames := 5, cells := 0, slots := 0, locals := 136 } TX3_insert := by
  refine ⟨fun k n sp h => ?_, fun k n sp h => ?_⟩
  · dsimp only [TX3_insert] at h
    unfold vtX3_insert at h
    split at h
    · cases h; exact eV_mk mX3_reduce wX3_reduce (by decide +kernel) (Or.inl (gW_at 431 (by decide +kernel) rfl))
    · cases h; exact eV_mk mX1_simplify wX1_simplify (by decide +kernel) (Or.inl (gW_at 548 (by decide +kernel) rfl))
    · cases h; exact eV_mk mX7_take wX7_take (by decide +kernel) (Or.inl (gW_at 552 (by decide +kernel) rfl))
    · cases h; exact eV_mk mX7_turnAll wX7_turnAll (by decide +kernel) (Or.inl (gW_at 557 (by decide +kernel) rfl))
    · cases h; exact eV_mk mX8_isZero wX8_isZero (by decide +kernel) (Or.inl (gW_at 435 (by decide +kernel) rfl))
    · cases h; exact eV_mk mX1_eliminate wX1_eliminate (by decide +kernel) (Or.inl (gW_at 439 (by decide +kernel) rfl))
    · cases h
  · cases h
set_option maxRecDepth 100000 in
set_option maxHeartbeats 4000000 in
theorem sX3_insert : eSafe TX3_insert (cdOf kX3_insert) 3 none SX3_insert := by
  intro K rt hK as M h
  obtain ⟨F, A, W, R, rfl, rfl, hR, hL, hS, hB, h⟩ := h
  refine ⟨by simp [eE], ?_⟩
  have hh := rdF_h hS 10 (R 10) (-1) (Nat.le_refl _) (fun i a b _ => by omega) (Or.inl ⟨rfl, fun i a b => by omega⟩)
  obtain ⟨hB1, hB2⟩ := hB
  unfold insF at h
  obtain ⟨s, hs⟩ : ∃ s, rdF R (A 2) 10 (R 10) (-1) = s := ⟨_, rfl⟩
  have e10 := rb_11 (show 10 < 11 by decide)
  rw [hs] at hh h hB2
  have ht : s.2 = -1 ∨ ∃ k : Nat, s.2 = k ∧ k < 10 ∧ A 2 k = 0 ∧ s.1 k ≠ 0 ∧ ∀ i, k < i → i < 10 → s.1 i = 0 := by
    rcases hh.2 with ⟨a, b⟩ | g
    · exact Or.inl a
    · exact Or.inr g
  have loop : ∀ (t : Nat), s.2 = t → t < 10 → 0 < sgv (sm s.1) t t → ∀ (d n : Nat) (W1 : Nat → Int → Int), n + d = 10 → t < n → iO W W1 → iR W1 (upF (inR R s.1 t) (A 2) t n) → K 80 [some (eR (1, 3)), some (eI t), some (eI n)] [] (cC F (uA A 2 (uI (A 2) t 1)) W1) := by
    intro t hst t10 t0 d
    rw [hst, if_neg (by omega), show (t : Int).toNat = t from rfl] at h
    have et := rb_11 (show t < 11 by omega)
    induction d with
    | zero =>
      intro n W1 hn htn ho hi
      have : n = 10 := by omega
      subst this
      refine x_iload_n hK kX3_insert_80 (q := 81) rfl rfl ?_
      refine x_bipush hK kX3_insert_81 (q := 83) rfl (by decide) ?_
      refine x_icmp_ge hK kX3_insert_83 (q := 86) rfl (tg := 160) rfl (by refine ⟨?_, ?_⟩ <;> omega) (fun c83 => ?_) (fun c83 => ?_)
      · refine x_return_ hK kX3_insert_160 (by first | trivial | exact Or.inl rfl | exact Or.inr rfl) ?_
        exact h W1 ho hi
      · exfalso; omega
    | succ d ih =>
      intro n W1 hn htn ho hi
      have en := rb_11 (show n < 11 by omega)
      have hLn := hL n (by omega) (by omega)
      have rn : upF (inR R s.1 t) (A 2) t n n = R n := by rw [upF_n (fun g => by omega), inR_n _ _ (by omega) (by omega)]
      have rt_ : upF (inR R s.1 t) (A 2) t n t = sgv (sm s.1) t := by rw [upF_n (fun g => by omega), inR_t]
      have ern : inR R s.1 t n = R n := inR_n _ _ (by omega) (by omega)
      have ert : inR R s.1 t t = sgv (sm s.1) t := inR_t _ _ _
      have wn : ∀ c, c < 10 → wq (lw (rb n + c)) (W1 (rb n + c)) (R n c) := fun c hc => by
        have := hi.1 n (by omega) c hc
        rw [rn] at this
        exact this
      have wt_ : ∀ c, c < 10 → wq (lw (rb t + c)) (W1 (rb t + c)) (sgv (sm s.1) t c) := fun c hc => by
        have := hi.1 t (by omega) c hc
        rw [rt_] at this
        exact this
      have nx := fun W2 => ih (n + 1) W2 (by omega) (by omega)
      refine x_iload_n hK kX3_insert_80 (q := 81) rfl rfl ?_
      refine x_bipush hK kX3_insert_81 (q := 83) rfl (by decide) ?_
      refine x_icmp_ge hK kX3_insert_83 (q := 86) rfl (tg := 160) rfl (by refine ⟨?_, ?_⟩ <;> omega) (fun c83 => ?_) (fun c83 => ?_)
      · exfalso; omega
      · refine x_aload_n hK kX3_insert_86 (q := 87) rfl rfl ?_
        refine x_getfield hK kX3_insert_87 (q := 90) rfl (gX3_19 ?_)
        refine x_iload_n hK kX3_insert_90 (q := 91) rfl rfl ?_
        refine x_baload hK kX3_insert_91 (q := 92) rfl (aC3_2 (by refine ⟨?_, ?_⟩ <;> omega) ?_)
        rw [uA_g, uI_n _ _ (by omega)]
        refine x_if_eq hK kX3_insert_92 (q := 95) rfl (tg := 154) rfl (by rcases hLn with e | e <;> (rw [e]; decide)) (fun c92 => ?_) (fun c92 => ?_)
        · have hfin := nx W1 ho (by rw [upF_k (fun g => g.1 c92)]; exact hi)
          refine x_iinc hK kX3_insert_154 (q := 157) rfl rfl ?_
          simp only [lS, lS2, clr_0, clr_I, clr_L, clr_R]
          refine x_goto hK kX3_insert_157 (tg := 80) rfl ?_
          rw [show (n : Int) + 1 = ((n + 1 : Nat) : Int) by omega]
          exact hfin
        · have l1 : A 2 n ≠ 0 := c92
          refine x_aload_n hK kX3_insert_95 (q := 96) rfl rfl ?_
          refine x_getfield hK kX3_insert_96 (q := 99) rfl (gX3_15 ?_)
          refine x_iload_n hK kX3_insert_99 (q := 100) rfl rfl ?_
          refine x_aaload hK kX3_insert_100 (q := 101) rfl (aC3_1 (by omega) ?_)
          refine x_getfield hK kX3_insert_101 (q := 104) rfl (gX3_74 ?_)
          refine x_iload_n hK kX3_insert_104 (q := 105) rfl rfl ?_
          refine x_aaload hK kX3_insert_105 (q := 106) rfl (wa_a wa_6 (by rw [en.2]; omega) ?_)
          refine x_cv1 hK kX3_insert_106 (q := 109) rfl (vtX3_insert_118) (Nat.le_of_ble_eq_true rfl) ?_
          refine SX8_isZero_i (k := rb n + t) (z := R n t) (by omega) (wn t t10) ?_
          refine x_if_ne hK kX3_insert_109 (q := 112) rfl (tg := 154) rfl (by exact zZ_w _) (fun c109 => ?_) (fun c109 => ?_)
          · have v0 : R n t = 0 := Decidable.not_not.mp (fun g => c109 (zZ_0.mpr g))
            have hfin := nx W1 ho (by rw [upF_k (fun g => g.2 (by rw [ern]; exact v0))]; exact hi)
            refine x_iinc hK kX3_insert_154 (q := 157) rfl rfl ?_
            simp only [lS, lS2, clr_0, clr_I, clr_L, clr_R]
            refine x_goto hK kX3_insert_157 (tg := 80) rfl ?_
            rw [show (n : Int) + 1 = ((n + 1 : Nat) : Int) by omega]
            exact hfin
          · have v0 : R n t ≠ 0 := zZ_0.mp (Decidable.not_not.mp c109)
            obtain ⟨⟨a, b, hab, hbd⟩, elb⟩ := hB2 t hst n htn (by omega) l1 v0
            refine x_aload_n hK kX3_insert_112 (q := 113) rfl rfl ?_
            refine x_getfield hK kX3_insert_113 (q := 116) rfl (gX3_44 ?_)
            refine x_aload_n hK kX3_insert_116 (q := 117) rfl rfl ?_
            refine x_getfield hK kX3_insert_117 (q := 120) rfl (gX3_15 ?_)
            refine x_iload_n hK kX3_insert_120 (q := 121) rfl rfl ?_
            refine x_aaload hK kX3_insert_121 (q := 122) rfl (aC3_1 (by omega) ?_)
            refine x_getfield hK kX3_insert_122 (q := 125) rfl (gX3_74 ?_)
            refine x_aload_n hK kX3_insert_125 (q := 126) rfl rfl ?_
            refine x_getfield hK kX3_insert_126 (q := 129) rfl (gX3_15 ?_)
            refine x_iload_n hK kX3_insert_129 (q := 130) rfl rfl ?_
            refine x_aaload hK kX3_insert_130 (q := 131) rfl (aC3_1 (by omega) ?_)
            refine x_getfield hK kX3_insert_131 (q := 134) rfl (gX3_74 ?_)
            refine x_iload_n hK kX3_insert_134 (q := 135) rfl rfl ?_
            refine x_cv4 hK kX3_insert_135 (q := 138) rfl (vtX3_insert_122) (Nat.le_of_ble_eq_true rfl) ?_
            refine SX1_eliminate_i (ba := rb n) (bb := rb t) (n := 10) (p := t) (V := R n) (U := sgv (sm s.1) t) (a := a) (b := b) (by have := wa_6 (r := n); rw [en.2] at this; exact this) (by have := wa_6 (r := t); rw [et.2] at this; exact this) (by omega) (by omega) wn wt_ t0 (fun i hi => (hbd i hi).1) (fun i hi => (hbd i hi).2) hab (fun i hi => Int.lt_of_lt_of_le (elb i hi) (lw_32 _)) hi.2 (fun W2 f2 g2 d2 => ?_)
            refine x_aload_n hK kX3_insert_138 (q := 139) rfl rfl ?_
            refine x_getfield hK kX3_insert_139 (q := 142) rfl (gX3_44 ?_)
            refine x_aload_n hK kX3_insert_142 (q := 143) rfl rfl ?_
            refine x_getfield hK kX3_insert_143 (q := 146) rfl (gX3_15 ?_)
            refine x_iload_n hK kX3_insert_146 (q := 147) rfl rfl ?_
            refine x_aaload hK kX3_insert_147 (q := 148) rfl (aC3_1 (by omega) ?_)
            refine x_getfield hK kX3_insert_148 (q := 151) rfl (gX3_74 ?_)
            refine x_cv2 hK kX3_insert_151 (q := 154) rfl (vtX3_insert_101) (Nat.le_of_ble_eq_true rfl) ?_
            refine SX1_simplify_i (base := rb n) (n := 10) (V := el (R n) (sgv (sm s.1) t) t) (by have := wa_6 (r := n); rw [en.2] at this; exact this) g2 (fun i hi => c32_62 (elb i hi)) d2 (fun W3 f3 g3 d3 => ?_)
            have q := iR_u (W' := W3) (r := n) (v := sm (el (R n) (sgv (sm s.1) t) t)) hi (by omega) (fun s s0 _ s2 => by rw [f3 s s0 s2, f2 s s0 s2]) g3 d3
            rw [← ern, ← ert, upF_s htn l1 (by rw [ern]; exact v0)] at q
            have hfin := nx W3 (fun s hs => by rw [f3 s (by omega) (by omega), f2 s (by omega) (by omega)]; exact ho s hs) q
            refine x_iinc hK kX3_insert_154 (q := 157) rfl rfl ?_
            simp only [lS, lS2, clr_0, clr_I, clr_L, clr_R]
            refine x_goto hK kX3_insert_157 (tg := 80) rfl ?_
            rw [show (n : Int) + 1 = ((n + 1 : Nat) : Int) by omega]
            exact hfin
  have tail : ∀ (k : Nat) (W1 : Nat → Int → Int) (u2 : Option eV), s.2 = k → k < 10 → A 2 k = 0 → s.1 k ≠ 0 → iO W W1 → iR W1 (uR R 10 s.1) → K 16 [some (eR (1, 3)), some (eI k), u2] [] (cC F A W1) := by
    intro k W1 u2 hk k10 hk0 hkn ho hi
    have kk := sm_n k10 hkn
    have ek := rb_11 (show k < 11 by omega)
    have go := loop k hk k10 (sgv_p kk.1) (10 - (k + 1)) (k + 1)
    have w1 : ∀ c, c < 10 → wq (lw (rb 10 + c)) (W1 (rb 10 + c)) (s.1 c) := fun c hc => by
      have := hi.1 10 (by decide) c hc
      rw [uR_s] at this
      exact this
    refine x_aload_n hK kX3_insert_16 (q := 17) rfl rfl ?_
    refine x_getfield hK kX3_insert_17 (q := 20) rfl (gX3_44 ?_)
    refine x_aload_n hK kX3_insert_20 (q := 21) rfl rfl ?_
    refine x_getfield hK kX3_insert_21 (q := 24) rfl (gX3_29 ?_)
    refine x_getfield hK kX3_insert_24 (q := 27) rfl (gX3_74 ?_)
    refine x_cv2 hK kX3_insert_27 (q := 30) rfl (vtX3_insert_101) (Nat.le_of_ble_eq_true rfl) ?_
    refine SX1_simplify_i (base := rb 10) (n := 10) (V := s.1) (wa_6 (r := 10)) w1 (fun i hc => c32_62 (by have := wq_lt (w1 i hc); rw [lw_11 (by decide) hc] at this; exact this)) hi.2 (fun W2 f2 g2 d2 => ?_)
    have i2 := iR_u (W' := W2) (v := sm s.1) hi (show 10 < 11 by decide) (fun t t0 _ t2 => f2 t t0 t2) g2 d2
    rw [uR_u] at i2
    refine x_aload_n hK kX3_insert_30 (q := 31) rfl rfl ?_
    refine x_getfield hK kX3_insert_31 (q := 34) rfl (gX3_15 ?_)
    refine x_iload_n hK kX3_insert_34 (q := 35) rfl rfl ?_
    refine x_aaload hK kX3_insert_35 (q := 36) rfl (aC3_1 (by omega) ?_)
    refine x_aload_n hK kX3_insert_36 (q := 37) rfl rfl ?_
    refine x_getfield hK kX3_insert_37 (q := 40) rfl (gX3_29 ?_)
    refine x_cv2 hK kX3_insert_40 (q := 43) rfl (vtX3_insert_107) (Nat.le_of_ble_eq_true rfl) ?_
    refine SX7_take_i (r := k) (q := 10) (V := sm s.1) (by omega) (by decide) (by omega) (by rw [ek.2, e10.2]) (fun c hc => g2 c (by omega)) (fun W3 f3 g3 => ?_)
    have i3 := iR_u (W' := W3) (r := k) (v := sm s.1) i2 (by omega) (fun t t0 _ t2 => f3 t (by omega)) (fun c hc => g3 c (by omega)) (fun t ht => dv_n (i2.2 t ht) (f3 t (by omega)))
    have o3 : iO W W3 := fun t ht => by rw [f3 t (by omega), f2 t (by omega) (by omega)]; exact ho t ht
    refine x_aload_n hK kX3_insert_43 (q := 44) rfl rfl ?_
    refine x_getfield hK kX3_insert_44 (q := 47) rfl (gX3_15 ?_)
    refine x_iload_n hK kX3_insert_47 (q := 48) rfl rfl ?_
    refine x_aaload hK kX3_insert_48 (q := 49) rfl (aC3_1 (by omega) ?_)
    refine x_getfield hK kX3_insert_49 (q := 52) rfl (gX3_74 ?_)
    refine x_iload_n hK kX3_insert_52 (q := 53) rfl rfl ?_
    refine x_aaload hK kX3_insert_53 (q := 54) rfl (wa_a wa_6 (by rw [ek.2]; omega) ?_)
    refine x_getfield hK kX3_insert_54 (q := 57) rfl (gX3_111 ?_)
    rw [wq_s (g3 k (by omega))]
    refine x_if_ge hK kX3_insert_57 (q := 60) rfl (tg := 69) rfl (by exact zSg_w _) (fun c57 => ?_) (fun c57 => ?_)
    · have sg : 0 < sm s.1 k := by rcases zSg_c (sm s.1 k) with g | g | g <;> omega
      have hfin := fun q => go W3 q (by omega) o3 (by
        have e : sgv (sm s.1) k = sm s.1 := if_neg (by omega)
        rw [upF_0]
        unfold inR
        rw [e]
        exact i3)
      refine x_aload_n hK kX3_insert_69 (q := 70) rfl rfl ?_
      refine x_getfield hK kX3_insert_70 (q := 73) rfl (gX3_19 ?_)
      refine x_iload_n hK kX3_insert_73 (q := 74) rfl rfl ?_
      refine x_iconst hK kX3_insert_74 (q := 75) rfl ?_
      refine x_bastore hK kX3_insert_75 (q := 76) rfl (by exact Or.inr rfl) (yC3_2 (by refine ⟨?_, ?_⟩ <;> omega) ?_)
      refine x_iload_n hK kX3_insert_76 (q := 77) rfl rfl ?_
      refine x_iconst hK kX3_insert_77 (q := 78) rfl ?_
      refine x_iadd hK kX3_insert_78 (q := 79) rfl ?_
      refine x_istore_n hK kX3_insert_79 (q := 80) (jn := 2) rfl rfl ?_
      simp only [lS, lS2, clr_0, clr_I, clr_L, clr_R]
      rw [show (k : Int) + 1 = ((k + 1 : Nat) : Int) by omega]
      exact hfin (by omega)
    · have sg : sm s.1 k < 0 := by rcases zSg_c (sm s.1 k) with g | g | g <;> omega
      refine x_aload_n hK kX3_insert_60 (q := 61) rfl rfl ?_
      refine x_getfield hK kX3_insert_61 (q := 64) rfl (gX3_15 ?_)
      refine x_iload_n hK kX3_insert_64 (q := 65) rfl rfl ?_
      refine x_aaload hK kX3_insert_65 (q := 66) rfl (aC3_1 (by omega) ?_)
      refine x_cv1 hK kX3_insert_66 (q := 69) rfl (vtX3_insert_115) (Nat.le_of_ble_eq_true rfl) ?_
      refine SX7_turnAll_i (r := k) (V := sm s.1) (by omega) (fun c hc => g3 c hc) (fun W4 f4 g4 => ?_)
      have i4 := iR_u (W' := W4) (r := k) (v := ngv (sm s.1)) i3 (by omega) (fun t t0 _ t2 => f4 t (by omega)) (fun c hc => g4 c (by omega)) (fun t ht => dv_n (i3.2 t ht) (f4 t (by omega)))
      rw [uR_u] at i4
      have hfin := fun q => go W4 q (by omega) (fun t ht => by rw [f4 t (by omega)]; exact o3 t ht) (by
        have e : sgv (sm s.1) k = ngv (sm s.1) := if_pos sg
        rw [upF_0]
        unfold inR
        rw [e]
        exact i4)
      refine x_aload_n hK kX3_insert_69 (q := 70) rfl rfl ?_
      refine x_getfield hK kX3_insert_70 (q := 73) rfl (gX3_19 ?_)
      refine x_iload_n hK kX3_insert_73 (q := 74) rfl rfl ?_
      refine x_iconst hK kX3_insert_74 (q := 75) rfl ?_
      refine x_bastore hK kX3_insert_75 (q := 76) rfl (by exact Or.inr rfl) (yC3_2 (by refine ⟨?_, ?_⟩ <;> omega) ?_)
      refine x_iload_n hK kX3_insert_76 (q := 77) rfl rfl ?_
      refine x_iconst hK kX3_insert_77 (q := 78) rfl ?_
      refine x_iadd hK kX3_insert_78 (q := 79) rfl ?_
      refine x_istore_n hK kX3_insert_79 (q := 80) (jn := 2) rfl rfl ?_
      simp only [lS, lS2, clr_0, clr_I, clr_L, clr_R]
      rw [show (k : Int) + 1 = ((k + 1 : Nat) : Int) by omega]
      exact hfin (by omega)
  simp only [eLoc, eE, List.length_cons, List.length_nil, List.replicate, List.cons_append, List.nil_append, Nat.reduceAdd, Nat.reduceSub]
  refine x_aload_n hK kX3_insert_0 (q := 1) rfl rfl ?_
  refine x_cv1 hK kX3_insert_1 (q := 4) rfl (vtX3_insert_68) (Nat.le_of_ble_eq_true rfl) ?_
  refine SX3_reduce_i hR hL (fun k hk hk1 => (hS k hk (by omega)).1) hB1 (fun W1 o1 i1 => ?_)
  rw [hs]
  rw [hs] at i1
  refine x_istore_n hK kX3_insert_4 (q := 5) (jn := 1) rfl rfl ?_
  refine x_iload_n hK kX3_insert_5 (q := 6) rfl rfl ?_
  simp only [lS, lS2, clr_0, clr_I, clr_L, clr_R]
  refine x_if_lt hK kX3_insert_6 (q := 9) rfl (tg := 15) rfl (by rcases ht with g | ⟨k, g, g2, -⟩ <;> (rw [g]; exact ⟨by omega, by omega⟩)) (fun c6 => ?_) (fun c6 => ?_)
  · rw [if_pos c6] at h
    have hfin := h W1 o1 i1
    rw [uA_s] at hfin
    refine x_return_ hK kX3_insert_15 (by first | trivial | exact Or.inl rfl | exact Or.inr rfl) ?_
    exact hfin
  · refine x_iload_n hK kX3_insert_9 (q := 10) rfl rfl ?_
    refine x_bipush hK kX3_insert_10 (q := 12) rfl (by decide) ?_
    refine x_icmp_lt hK kX3_insert_12 (q := 15) rfl (tg := 16) rfl (by rcases ht with g | ⟨k, g, g2, -⟩ <;> (rw [g]; exact ⟨⟨by omega, by omega⟩, by decide⟩)) (fun c12 => ?_) (fun c12 => ?_)
    · rcases ht with g | ⟨k, g, g2, g3, g4, g5⟩
      · omega
      · rw [g]
        exact tail k W1 _ g g2 g3 g4 o1 i1
    · rcases ht with g | ⟨k, g, g2, -⟩ <;> omega
set_option maxRecDepth 20000 in
theorem mX3_insert : eMet yX3_insert cX3_insert 3 none 5 136 SX3_insert := eMet_of (by decide +kernel) sX3_insert kX3_insert_ok caX3_insert tb_RX3
theorem wX3_insert : eWV yX3_insert cX3_insert 3 none 1 3 SX3_insert := ⟨(gW_at 430 (by decide +kernel) rfl), (gW_at 84 (by decide +kernel) rfl), (gW_at 429 (by decide +kernel) rfl), ⟨_, rfl, (gW_at 3 (by decide +kernel) rfl)⟩, by decide +kernel, SX3_insert_r⟩
