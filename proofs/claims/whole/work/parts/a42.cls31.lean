/-! Inertia: isOpen, join, splitOff. -/
theorem gb_10 : gb 10 = 311 := rfl
/-- the grid at work, the pivot and the cell -/
def inV (B : Nat → Int) (S : Nat → Nat → Int) (p c : Int) : Nat → Int := fun t => if 311 ≤ t ∧ t < 327 then S ((t - 311) / 4) ((t - 311) % 4) else if t = 330 then p else if t = 331 then c else B t
theorem inV_s (B : Nat → Int) (S : Nat → Nat → Int) (p c : Int) {i j : Nat} (hi : i < 4) (hj : j < 4) : inV B S p c (gb 10 + (4 * i + j)) = S i j := by
  unfold inV
  rw [gb_10, if_pos (by omega), show (311 + (4 * i + j) - 311) / 4 = i by omega, show (311 + (4 * i + j) - 311) % 4 = j by omega]
theorem inV_p (B : Nat → Int) (S : Nat → Nat → Int) (p c : Int) : inV B S p c 330 = p := by
  unfold inV
  rw [if_neg (by decide), if_pos rfl]
theorem inV_c (B : Nat → Int) (S : Nat → Nat → Int) (p c : Int) : inV B S p c 331 = c := by
  unfold inV
  rw [if_neg (by decide), if_neg (by decide), if_pos rfl]
def uMt (S : Nat → Nat → Int) (i j : Nat) (x : Int) : Nat → Nat → Int := fun a b => if a = i ∧ b = j then x else S a b
theorem uMt_s (S : Nat → Nat → Int) (i j : Nat) (x : Int) : uMt S i j x i j = x := if_pos ⟨rfl, rfl⟩
theorem uMt_n (S : Nat → Nat → Int) {i j a b : Nat} (x : Int) (h : ¬ (a = i ∧ b = j)) : uMt S i j x a b = S a b := if_neg h
theorem in_s {W : Nat → Int → Int} {B : Nat → Int} {S : Nat → Nat → Int} {p c x : Int} {i j : Nat} (hi : i < 4) (hj : j < 4) (h : aR W (vU (inV B S p c) (gb 10 + (4 * i + j)) x)) : aR W (inV B (uMt S i j x) p c) := aR_c h (fun t _ _ => by
  unfold vU inV uMt
  rw [gb_10]
  by_cases a : t = 311 + (4 * i + j)
  · rw [if_pos a, if_pos (by omega), if_pos ⟨by omega, by omega⟩]
  · rw [if_neg a]
    split
    · rw [if_neg (by omega)]
    · rfl)
theorem in_p {W : Nat → Int → Int} {B : Nat → Int} {S : Nat → Nat → Int} {p c x : Int} (h : aR W (vU (inV B S p c) 330 x)) : aR W (inV B S x c) := aR_c h (fun t _ _ => by
  unfold vU inV
  by_cases a : t = 330
  · rw [if_pos a, if_neg (by omega), if_pos a]
  · rw [if_neg a, if_neg a, if_neg a])
theorem in_c {W : Nat → Int → Int} {B : Nat → Int} {S : Nat → Nat → Int} {p c x : Int} (h : aR W (vU (inV B S p c) 331 x)) : aR W (inV B S p x) := aR_c h (fun t _ _ => by
  unfold vU inV
  by_cases a : t = 331
  · rw [if_pos a, if_neg (by omega), if_neg (by omega), if_pos a]
  · rw [if_neg a, if_neg a, if_neg a])
theorem in_S {W : Nat → Int → Int} {B : Nat → Int} {S S' : Nat → Nat → Int} {p c : Int} (h : aR W (inV B S p c)) (e : ∀ i j, i < 4 → j < 4 → S' i j = S i j) : aR W (inV B S' p c) := aR_c h (fun t _ _ => by
  unfold inV
  split
  · exact e _ _ (by omega) (by omega)
  · rfl)
def opI (O : Int → Int) (k : Int) : Int := if 0 ≤ k ∧ k < 4 ∧ O k = 1 then 1 else 0
def SX4_isOpen : eSp := fun as M rt => ∃ (F : Nat → Int) (A W : Nat → Int → Int) (k : Int), as = [eR (1, 5), eI k] ∧ M = cC F A W ∧ (w32 k) ∧ (∀ i : Int, 0 ≤ i → i < 4 → A 7 i = 0 ∨ A 7 i = 1) ∧ (rt (some (eI (opI (A 7) k))) (cC F A W))
theorem SX4_isOpen_i {F : Nat → Int} {A W : Nat → Int → Int} {k : Int} {rt : Option eV → eM → Prop} (hk : w32 k) (hO : ∀ i : Int, 0 ≤ i → i < 4 → A 7 i = 0 ∨ A 7 i = 1) (h : rt (some (eI (opI (A 7) k))) (cC F A W)) : SX4_isOpen [eR (1, 5), eI k] (cC F A W) rt := ⟨F, A, W, k, rfl, rfl, hk, hO, h⟩
theorem SX4_isOpen_r : ∀ as M rt, SX4_isOpen as M rt → ∃ a r fs, as = eR a :: r ∧ M a = some (.inl (4, fs)) := by
  rintro as M rt ⟨F, A, W, k, rfl, rfl, -⟩
  exact ⟨_, _, _, rfl, rfl⟩
def kX4_isOpen : List (Nat × Jvm.ClassFile.Instr × Nat) := [(0, .iload_n 1, 1), (1, .ifCond .lt 21, 3), (4, .iload_n 1, 1), (5, .iconst 4, 1), (6, .if_icmp .ge 16, 3), (9, .aload_n 0, 1), (10, .getfield 22, 3), (13, .iload_n 1, 1), (14, .baload, 1), (15, .ifCond .eq 7, 3), (18, .iconst 1, 1), (19, .goto 4, 3), (22, .iconst 0, 1), (23, .ireturn, 1)]
theorem kX4_isOpen_0 : cdOf kX4_isOpen 0 = some (.iload_n 1, 1) := by decide +kernel
theorem kX4_isOpen_1 : cdOf kX4_isOpen 1 = some (.ifCond .lt 21, 3) := by decide +kernel
theorem kX4_isOpen_4 : cdOf kX4_isOpen 4 = some (.iload_n 1, 1) := by decide +kernel
theorem kX4_isOpen_5 : cdOf kX4_isOpen 5 = some (.iconst 4, 1) := by decide +kernel
theorem kX4_isOpen_6 : cdOf kX4_isOpen 6 = some (.if_icmp .ge 16, 3) := by decide +kernel
theorem kX4_isOpen_9 : cdOf kX4_isOpen 9 = some (.aload_n 0, 1) := by decide +kernel
theorem kX4_isOpen_10 : cdOf kX4_isOpen 10 = some (.getfield 22, 3) := by decide +kernel
theorem kX4_isOpen_13 : cdOf kX4_isOpen 13 = some (.iload_n 1, 1) := by decide +kernel
theorem kX4_isOpen_14 : cdOf kX4_isOpen 14 = some (.baload, 1) := by decide +kernel
theorem kX4_isOpen_15 : cdOf kX4_isOpen 15 = some (.ifCond .eq 7, 3) := by decide +kernel
theorem kX4_isOpen_18 : cdOf kX4_isOpen 18 = some (.iconst 1, 1) := by decide +kernel
theorem kX4_isOpen_19 : cdOf kX4_isOpen 19 = some (.goto 4, 3) := by decide +kernel
theorem kX4_isOpen_22 : cdOf kX4_isOpen 22 = some (.iconst 0, 1) := by decide +kernel
theorem kX4_isOpen_23 : cdOf kX4_isOpen 23 = some (.ireturn, 1) := by decide +kernel
set_option maxRecDepth 20000 in
theorem kX4_isOpen_ok : ∀ pc i len, cdOf kX4_isOpen pc = some (i, len) → decode cX4_isOpen pc = .ok (i, len) ∧ stOK 2 i = true ∧ jOK pc i = true ∧ eLen i len = true := cdOf_ok cX4_isOpen 2 kX4_isOpen (by decide +kernel)
def vtX4_isOpen : Nat → Option (Nat × eSp) := fun _ => none
def stX4_isOpen : Nat → Option (Nat × eSp) := fun _ => none
abbrev TX4_isOpen : eT := (fl_RX4, cl_RX4, dl_RX4, vtX4_isOpen, stX4_isOpen)
set_option maxRecDepth 20000 in
theorem caX4_isOpen : eCalls RX4 { frames := 0, cells := 0, slots := 0, locals := 0 } TX4_isOpen := by
  refine ⟨fun k n sp h => ?_, fun k n sp h => ?_⟩
  · cases h
  · cases h
set_option maxRecDepth 100000 in
set_option maxHeartbeats 4000000 in
theorem sX4_isOpen : eSafe TX4_isOpen (cdOf kX4_isOpen) 2 (some .boolean) SX4_isOpen := by
  intro K rt hK as M h
  obtain ⟨F, A, W, k, rfl, rfl, hk, hO, h⟩ := h
  refine ⟨by simp [eE], ?_⟩
  unfold opI at h
  simp only [eLoc, eE, List.length_cons, List.length_nil, List.replicate, List.cons_append, List.nil_append, Nat.reduceAdd, Nat.reduceSub]
  refine x_iload_n hK kX4_isOpen_0 (q := 1) rfl rfl ?_
  refine x_if_lt hK kX4_isOpen_1 (q := 4) rfl (tg := 22) rfl (by exact hk) (fun c1 => ?_) (fun c1 => ?_)
  · refine x_iconst hK kX4_isOpen_22 (q := 23) rfl ?_
    refine x_ireturn hK kX4_isOpen_23 (by first | exact Or.inl rfl | exact Or.inr rfl) ?_
    first | (rw [if_pos ⟨by omega, by omega, by have := hO k (by omega) (by omega); omega⟩] at h; exact h) | (rw [if_neg (by omega)] at h; exact h)
  · refine x_iload_n hK kX4_isOpen_4 (q := 5) rfl rfl ?_
    refine x_iconst hK kX4_isOpen_5 (q := 6) rfl ?_
    refine x_icmp_ge hK kX4_isOpen_6 (q := 9) rfl (tg := 22) rfl (by refine ⟨hk, by decide⟩) (fun c6 => ?_) (fun c6 => ?_)
    · refine x_iconst hK kX4_isOpen_22 (q := 23) rfl ?_
      refine x_ireturn hK kX4_isOpen_23 (by first | exact Or.inl rfl | exact Or.inr rfl) ?_
      first | (rw [if_pos ⟨by omega, by omega, by have := hO k (by omega) (by omega); omega⟩] at h; exact h) | (rw [if_neg (by omega)] at h; exact h)
    · refine x_aload_n hK kX4_isOpen_9 (q := 10) rfl rfl ?_
      refine x_getfield hK kX4_isOpen_10 (q := 13) rfl (gX4_22 ?_)
      refine x_iload_n hK kX4_isOpen_13 (q := 14) rfl rfl ?_
      refine x_baload hK kX4_isOpen_14 (q := 15) rfl (aC4_2 (by refine ⟨?_, ?_⟩ <;> omega) ?_)
      refine x_if_eq hK kX4_isOpen_15 (q := 18) rfl (tg := 22) rfl (by rcases hO k (by omega) (by omega) with e | e <;> (rw [e]; decide)) (fun c15 => ?_) (fun c15 => ?_)
      · refine x_iconst hK kX4_isOpen_22 (q := 23) rfl ?_
        refine x_ireturn hK kX4_isOpen_23 (by first | exact Or.inl rfl | exact Or.inr rfl) ?_
        first | (rw [if_pos ⟨by omega, by omega, by have := hO k (by omega) (by omega); omega⟩] at h; exact h) | (rw [if_neg (by omega)] at h; exact h)
      · refine x_iconst hK kX4_isOpen_18 (q := 19) rfl ?_
        refine x_goto hK kX4_isOpen_19 (tg := 23) rfl ?_
        refine x_ireturn hK kX4_isOpen_23 (by first | exact Or.inl rfl | exact Or.inr rfl) ?_
        first | (rw [if_pos ⟨by omega, by omega, by have := hO k (by omega) (by omega); omega⟩] at h; exact h) | (rw [if_neg (by omega)] at h; exact h)
set_option maxRecDepth 20000 in
theorem mX4_isOpen : eMet yX4_isOpen cX4_isOpen 2 (some .boolean) 0 0 SX4_isOpen := eMet_of (by decide +kernel) sX4_isOpen kX4_isOpen_ok caX4_isOpen tb_RX4
theorem wX4_isOpen : eWV yX4_isOpen cX4_isOpen 2 (some .boolean) 2 4 SX4_isOpen := ⟨(gW_at 701 (by decide +kernel) rfl), (gW_at 87 (by decide +kernel) rfl), (gW_at 700 (by decide +kernel) rfl), ⟨_, rfl, (gW_at 28 (by decide +kernel) rfl)⟩, by decide +kernel, SX4_isOpen_r⟩
/-- row and column j onto row and column i -/
def jo1 (S : Nat → Nat → Int) (i j n : Nat) : Nat → Nat → Int := fun a b => if a = i ∧ b < n then S i b + S j b else S a b
def jo2 (S : Nat → Nat → Int) (i j n : Nat) : Nat → Nat → Int := fun a b => if b = i ∧ a < n then S a i + S a j else S a b
def joF (S : Nat → Nat → Int) (i j : Nat) : Nat → Nat → Int := jo2 (jo1 S i j 4) i j 4
def SX4_join : eSp := fun as M rt => ∃ (F : Nat → Int) (A W : Nat → Int → Int) (B : Nat → Int) (S : Nat → Nat → Int) (p c : Int) (i j : Nat), as = [eR (1, 5), eI i, eI j] ∧ M = cC F A W ∧ (aR W (inV B S p c)) ∧ (i < 4) ∧ (j < 4) ∧ (i ≠ j) ∧ (∀ a b, a < 4 → b < 4 → zAbs (S a b) ≤ 2 ^ 1900) ∧ (∀ W', aR W' (inV B (joF S i j) p c) → rt none (cC F A W'))
theorem SX4_join_i {F : Nat → Int} {A W : Nat → Int → Int} {B : Nat → Int} {S : Nat → Nat → Int} {p c : Int} {i j : Nat} {rt : Option eV → eM → Prop} (hV : aR W (inV B S p c)) (hi : i < 4) (hj : j < 4) (ij : i ≠ j) (hb : ∀ a b, a < 4 → b < 4 → zAbs (S a b) ≤ 2 ^ 1900) (h : ∀ W', aR W' (inV B (joF S i j) p c) → rt none (cC F A W')) : SX4_join [eR (1, 5), eI i, eI j] (cC F A W) rt := ⟨F, A, W, B, S, p, c, i, j, rfl, rfl, hV, hi, hj, ij, hb, h⟩
theorem SX4_join_r : ∀ as M rt, SX4_join as M rt → ∃ a r fs, as = eR a :: r ∧ M a = some (.inl (4, fs)) := by
  rintro as M rt ⟨F, A, W, B, S, p, c, i, j, rfl, rfl, -⟩
  exact ⟨_, _, _, rfl, rfl⟩
def kX4_join : List (Nat × Jvm.ClassFile.Instr × Nat) := [(0, .iconst 0, 1), (1, .istore_n 3, 1), (2, .iload_n 3, 1), (3, .iconst 4, 1), (4, .if_icmp .ge 31, 3), (7, .aload_n 0, 1), (8, .getfield 16, 3), (11, .iload_n 1, 1), (12, .iload_n 3, 1), (13, .invokevirtual 63, 3), (16, .aload_n 0, 1), (17, .getfield 16, 3), (20, .iload_n 2, 1), (21, .iload_n 3, 1), (22, .invokevirtual 63, 3), (25, .iconst 1, 1), (26, .invokevirtual 85, 3), (29, .iinc 3 1, 3), (32, .goto (-30), 3), (35, .iconst 0, 1), (36, .istore_n 3, 1), (37, .iload_n 3, 1), (38, .iconst 4, 1), (39, .if_icmp .ge 31, 3), (42, .aload_n 0, 1), (43, .getfield 16, 3), (46, .iload_n 3, 1), (47, .iload_n 1, 1), (48, .invokevirtual 63, 3), (51, .aload_n 0, 1), (52, .getfield 16, 3), (55, .iload_n 3, 1), (56, .iload_n 2, 1), (57, .invokevirtual 63, 3), (60, .iconst 1, 1), (61, .invokevirtual 85, 3), (64, .iinc 3 1, 3), (67, .goto (-30), 3), (70, .return_, 1)]
theorem kX4_join_0 : cdOf kX4_join 0 = some (.iconst 0, 1) := by decide +kernel
theorem kX4_join_1 : cdOf kX4_join 1 = some (.istore_n 3, 1) := by decide +kernel
theorem kX4_join_2 : cdOf kX4_join 2 = some (.iload_n 3, 1) := by decide +kernel
theorem kX4_join_3 : cdOf kX4_join 3 = some (.iconst 4, 1) := by decide +kernel
theorem kX4_join_4 : cdOf kX4_join 4 = some (.if_icmp .ge 31, 3) := by decide +kernel
theorem kX4_join_7 : cdOf kX4_join 7 = some (.aload_n 0, 1) := by decide +kernel
theorem kX4_join_8 : cdOf kX4_join 8 = some (.getfield 16, 3) := by decide +kernel
theorem kX4_join_11 : cdOf kX4_join 11 = some (.iload_n 1, 1) := by decide +kernel
theorem kX4_join_12 : cdOf kX4_join 12 = some (.iload_n 3, 1) := by decide +kernel
theorem kX4_join_13 : cdOf kX4_join 13 = some (.invokevirtual 63, 3) := by decide +kernel
theorem kX4_join_16 : cdOf kX4_join 16 = some (.aload_n 0, 1) := by decide +kernel
theorem kX4_join_17 : cdOf kX4_join 17 = some (.getfield 16, 3) := by decide +kernel
theorem kX4_join_20 : cdOf kX4_join 20 = some (.iload_n 2, 1) := by decide +kernel
theorem kX4_join_21 : cdOf kX4_join 21 = some (.iload_n 3, 1) := by decide +kernel
theorem kX4_join_22 : cdOf kX4_join 22 = some (.invokevirtual 63, 3) := by decide +kernel
theorem kX4_join_25 : cdOf kX4_join 25 = some (.iconst 1, 1) := by decide +kernel
theorem kX4_join_26 : cdOf kX4_join 26 = some (.invokevirtual 85, 3) := by decide +kernel
theorem kX4_join_29 : cdOf kX4_join 29 = some (.iinc 3 1, 3) := by decide +kernel
theorem kX4_join_32 : cdOf kX4_join 32 = some (.goto (-30), 3) := by decide +kernel
theorem kX4_join_35 : cdOf kX4_join 35 = some (.iconst 0, 1) := by decide +kernel
theorem kX4_join_36 : cdOf kX4_join 36 = some (.istore_n 3, 1) := by decide +kernel
theorem kX4_join_37 : cdOf kX4_join 37 = some (.iload_n 3, 1) := by decide +kernel
theorem kX4_join_38 : cdOf kX4_join 38 = some (.iconst 4, 1) := by decide +kernel
theorem kX4_join_39 : cdOf kX4_join 39 = some (.if_icmp .ge 31, 3) := by decide +kernel
theorem kX4_join_42 : cdOf kX4_join 42 = some (.aload_n 0, 1) := by decide +kernel
theorem kX4_join_43 : cdOf kX4_join 43 = some (.getfield 16, 3) := by decide +kernel
theorem kX4_join_46 : cdOf kX4_join 46 = some (.iload_n 3, 1) := by decide +kernel
theorem kX4_join_47 : cdOf kX4_join 47 = some (.iload_n 1, 1) := by decide +kernel
theorem kX4_join_48 : cdOf kX4_join 48 = some (.invokevirtual 63, 3) := by decide +kernel
theorem kX4_join_51 : cdOf kX4_join 51 = some (.aload_n 0, 1) := by decide +kernel
theorem kX4_join_52 : cdOf kX4_join 52 = some (.getfield 16, 3) := by decide +kernel
theorem kX4_join_55 : cdOf kX4_join 55 = some (.iload_n 3, 1) := by decide +kernel
theorem kX4_join_56 : cdOf kX4_join 56 = some (.iload_n 2, 1) := by decide +kernel
theorem kX4_join_57 : cdOf kX4_join 57 = some (.invokevirtual 63, 3) := by decide +kernel
theorem kX4_join_60 : cdOf kX4_join 60 = some (.iconst 1, 1) := by decide +kernel
theorem kX4_join_61 : cdOf kX4_join 61 = some (.invokevirtual 85, 3) := by decide +kernel
theorem kX4_join_64 : cdOf kX4_join 64 = some (.iinc 3 1, 3) := by decide +kernel
theorem kX4_join_67 : cdOf kX4_join 67 = some (.goto (-30), 3) := by decide +kernel
theorem kX4_join_70 : cdOf kX4_join 70 = some (.return_, 1) := by decide +kernel
set_option maxRecDepth 20000 in
theorem kX4_join_ok : ∀ pc i len, cdOf kX4_join pc = some (i, len) → decode cX4_join pc = .ok (i, len) ∧ stOK 4 i = true ∧ jOK pc i = true ∧ eLen i len = true := cdOf_ok cX4_join 4 kX4_join (by decide +kernel)
def vtX4_join : Nat → Option (Nat × eSp) := fun k => match k with
  | 63 => some (3, SX2_read)
  | 85 => some (3, SX8_add)
  | _ => none
theorem vtX4_join_63 : vtX4_join 63 = some (3, SX2_read) := rfl
theorem vtX4_join_85 : vtX4_join 85 = some (3, SX8_add) := rfl
def stX4_join : Nat → Option (Nat × eSp) := fun _ => none
abbrev TX4_join : eT := (fl_RX4, cl_RX4, dl_RX4, vtX4_join, stX4_join)
set_option maxRecDepth 20000 in
theorem caX4_join : eCalls RX4 { frames := 2, cells := 0, slots := 0, locals := 55 } TX4_join := by
  refine ⟨fun k n sp h => ?_, fun k n sp h => ?_⟩
  · dsimp only [TX4_join] at h
    unfold vtX4_join at h
    split at h
    · cases h; exact eV_mk mX2_read wX2_read (by decide +kernel) (Or.inl (gW_at 702 (by decide +kernel) rfl))
    · cases h; exact eV_mk mX8_add wX8_add (by decide +kernel) (Or.inl (gW_at 708 (by decide +kernel) rfl))
    · cases h
  · cases h
set_option maxRecDepth 100000 in
set_option maxHeartbeats 4000000 in
theorem sX4_join : eSafe TX4_join (cdOf kX4_join) 4 none SX4_join := by
  intro K rt hK as M h
  obtain ⟨F, A, W, B, S, p, c, i, j, rfl, rfl, hV, hi, hj, ij, hb, h⟩ := h
  refine ⟨by simp [eE], ?_⟩
  have p0 := p2_pos 1900
  have p1 := p2_m (show 1900 + 1 ≤ 1922 by decide)
  have p2 : (2 : Int) ^ (1900 + 1) = 2 ^ 1900 * 2 := Int.pow_succ 2 1900
  have b1 : ∀ n a b, a < 4 → b < 4 → zAbs (jo1 S i j n a b) ≤ 2 ^ (1900 + 1) := fun n a b ha hb' => by
    unfold jo1
    split
    · have := zAbs_tri (S i b) (S j b)
      have := hb i b hi hb'
      have := hb j b hj hb'
      omega
    · have := hb a b ha hb'
      omega
  have two : ∀ (d n : Nat) (W1 : Nat → Int → Int), n + d = 4 → aR W1 (inV B (jo2 (jo1 S i j 4) i j n) p c) → K 37 [some (eR (1, 5)), some (eI i), some (eI j), some (eI n)] [] (cC F A W1) := by
    intro d
    induction d with
    | zero =>
      intro n W1 hn h1
      have : n = 4 := by omega
      subst this
      refine x_iload_n hK kX4_join_37 (q := 38) rfl rfl ?_
      refine x_iconst hK kX4_join_38 (q := 39) rfl ?_
      refine x_icmp_ge hK kX4_join_39 (q := 42) rfl (tg := 70) rfl (by refine ⟨?_, ?_⟩ <;> omega) (fun c39 => ?_) (fun c39 => ?_)
      · refine x_return_ hK kX4_join_70 (by first | trivial | exact Or.inl rfl | exact Or.inr rfl) ?_
        exact h W1 h1
      · exfalso; omega
    | succ d ih =>
      intro n W1 hn h1
      have e1 : jo2 (jo1 S i j 4) i j n n i = jo1 S i j 4 n i := by unfold jo2; rw [if_neg (by omega)]
      have e2 : jo2 (jo1 S i j 4) i j n n j = jo1 S i j 4 n j := by unfold jo2; rw [if_neg (by omega)]
      have c1 := b1 4 n i (by omega) hi
      have c2 := b1 4 n j (by omega) hj
      refine x_iload_n hK kX4_join_37 (q := 38) rfl rfl ?_
      refine x_iconst hK kX4_join_38 (q := 39) rfl ?_
      refine x_icmp_ge hK kX4_join_39 (q := 42) rfl (tg := 70) rfl (by refine ⟨?_, ?_⟩ <;> omega) (fun c39 => ?_) (fun c39 => ?_)
      · exfalso; omega
      · refine x_aload_n hK kX4_join_42 (q := 43) rfl rfl ?_
        refine x_getfield hK kX4_join_43 (q := 46) rfl (gX4_16 ?_)
        refine x_iload_n hK kX4_join_46 (q := 47) rfl rfl ?_
        refine x_iload_n hK kX4_join_47 (q := 48) rfl rfl ?_
        refine x_cv3 hK kX4_join_48 (q := 51) rfl (vtX4_join_63) (Nat.le_of_ble_eq_true rfl) ?_
        refine SX2_read_i (g := 10) (i := n) (j := i) (by decide) (by omega) hi ?_
        refine x_aload_n hK kX4_join_51 (q := 52) rfl rfl ?_
        refine x_getfield hK kX4_join_52 (q := 55) rfl (gX4_16 ?_)
        refine x_iload_n hK kX4_join_55 (q := 56) rfl rfl ?_
        refine x_iload_n hK kX4_join_56 (q := 57) rfl rfl ?_
        refine x_cv3 hK kX4_join_57 (q := 60) rfl (vtX4_join_63) (Nat.le_of_ble_eq_true rfl) ?_
        refine SX2_read_i (g := 10) (i := n) (j := j) (by decide) (by omega) hj ?_
        refine x_iconst hK kX4_join_60 (q := 61) rfl ?_
        refine x_cv3 hK kX4_join_61 (q := 64) rfl (vtX4_join_85) (Nat.le_of_ble_eq_true rfl) ?_
        refine add_w (k := gb 10 + (4 * n + i)) (j := gb 10 + (4 * n + j)) h1 (by rw [gb_10]; omega) (by rw [gb_10]; omega) (by rw [gb_10]; omega) (by rw [gb_10]; omega) (by omega) (Or.inl rfl) (by rw [inV_s _ _ _ _ (by omega) hi, e1]; omega) (by rw [inV_s _ _ _ _ (by omega) hj, e2]; omega) (fun W2 h2 => ?_)
        rw [inV_s _ _ _ _ (by omega) hi, inV_s _ _ _ _ (by omega) hj, e1, e2, Int.one_mul] at h2
        refine x_iinc hK kX4_join_64 (q := 67) rfl rfl ?_
        simp only [lS, lS2, clr_0, clr_I, clr_L, clr_R]
        refine x_goto hK kX4_join_67 (tg := 37) rfl ?_
        rw [show (n : Int) + 1 = ((n + 1 : Nat) : Int) by omega]
        refine ih (n + 1) W2 (by omega) (in_S (in_s (by omega) hi h2) (fun a b ha hb' => ?_))
        unfold uMt jo2
        by_cases g : a = n ∧ b = i
        · rw [if_pos g, if_pos ⟨g.2, by omega⟩, g.1]
        · rw [if_neg g]
          by_cases g2 : b = i ∧ a < n
          · rw [if_pos g2, if_pos ⟨g2.1, by omega⟩]
          · rw [if_neg g2, if_neg (by omega)]
  have one : ∀ (d n : Nat) (W1 : Nat → Int → Int), n + d = 4 → aR W1 (inV B (jo1 S i j n) p c) → K 2 [some (eR (1, 5)), some (eI i), some (eI j), some (eI n)] [] (cC F A W1) := by
    intro d
    induction d with
    | zero =>
      intro n W1 hn h1
      have : n = 4 := by omega
      subst this
      refine x_iload_n hK kX4_join_2 (q := 3) rfl rfl ?_
      refine x_iconst hK kX4_join_3 (q := 4) rfl ?_
      refine x_icmp_ge hK kX4_join_4 (q := 7) rfl (tg := 35) rfl (by refine ⟨?_, ?_⟩ <;> omega) (fun c4 => ?_) (fun c4 => ?_)
      · refine x_iconst hK kX4_join_35 (q := 36) rfl ?_
        refine x_istore_n hK kX4_join_36 (q := 37) (jn := 3) rfl rfl ?_
        simp only [lS, lS2, clr_0, clr_I, clr_L, clr_R]
        exact two 4 0 W1 rfl (in_S h1 (fun a b _ _ => by unfold jo2; rw [if_neg (by omega)]))
      · exfalso; omega
    | succ d ih =>
      intro n W1 hn h1
      have e1 : jo1 S i j n i n = S i n := by unfold jo1; rw [if_neg (by omega)]
      have e2 : jo1 S i j n j n = S j n := by unfold jo1; rw [if_neg (by omega)]
      have c1 := hb i n hi (by omega)
      have c2 := hb j n hj (by omega)
      refine x_iload_n hK kX4_join_2 (q := 3) rfl rfl ?_
      refine x_iconst hK kX4_join_3 (q := 4) rfl ?_
      refine x_icmp_ge hK kX4_join_4 (q := 7) rfl (tg := 35) rfl (by refine ⟨?_, ?_⟩ <;> omega) (fun c4 => ?_) (fun c4 => ?_)
      · exfalso; omega
      · refine x_aload_n hK kX4_join_7 (q := 8) rfl rfl ?_
        refine x_getfield hK kX4_join_8 (q := 11) rfl (gX4_16 ?_)
        refine x_iload_n hK kX4_join_11 (q := 12) rfl rfl ?_
        refine x_iload_n hK kX4_join_12 (q := 13) rfl rfl ?_
        refine x_cv3 hK kX4_join_13 (q := 16) rfl (vtX4_join_63) (Nat.le_of_ble_eq_true rfl) ?_
        refine SX2_read_i (g := 10) (i := i) (j := n) (by decide) hi (by omega) ?_
        refine x_aload_n hK kX4_join_16 (q := 17) rfl rfl ?_
        refine x_getfield hK kX4_join_17 (q := 20) rfl (gX4_16 ?_)
        refine x_iload_n hK kX4_join_20 (q := 21) rfl rfl ?_
        refine x_iload_n hK kX4_join_21 (q := 22) rfl rfl ?_
        refine x_cv3 hK kX4_join_22 (q := 25) rfl (vtX4_join_63) (Nat.le_of_ble_eq_true rfl) ?_
        refine SX2_read_i (g := 10) (i := j) (j := n) (by decide) hj (by omega) ?_
        refine x_iconst hK kX4_join_25 (q := 26) rfl ?_
        refine x_cv3 hK kX4_join_26 (q := 29) rfl (vtX4_join_85) (Nat.le_of_ble_eq_true rfl) ?_
        refine add_w (k := gb 10 + (4 * i + n)) (j := gb 10 + (4 * j + n)) h1 (by rw [gb_10]; omega) (by rw [gb_10]; omega) (by rw [gb_10]; omega) (by rw [gb_10]; omega) (by omega) (Or.inl rfl) (by rw [inV_s _ _ _ _ hi (by omega), e1]; omega) (by rw [inV_s _ _ _ _ hj (by omega), e2]; omega) (fun W2 h2 => ?_)
        rw [inV_s _ _ _ _ hi (by omega), inV_s _ _ _ _ hj (by omega), e1, e2, Int.one_mul] at h2
        refine x_iinc hK kX4_join_29 (q := 32) rfl rfl ?_
        simp only [lS, lS2, clr_0, clr_I, clr_L, clr_R]
        refine x_goto hK kX4_join_32 (tg := 2) rfl ?_
        rw [show (n : Int) + 1 = ((n + 1 : Nat) : Int) by omega]
        refine ih (n + 1) W2 (by omega) (in_S (in_s hi (by omega) h2) (fun a b ha hb' => ?_))
        unfold uMt jo1
        by_cases g : a = i ∧ b = n
        · rw [if_pos g, if_pos ⟨g.1, by omega⟩, g.2]
        · rw [if_neg g]
          by_cases g2 : a = i ∧ b < n
          · rw [if_pos g2, if_pos ⟨g2.1, by omega⟩]
          · rw [if_neg g2, if_neg (by omega)]
  simp only [eLoc, eE, List.length_cons, List.length_nil, List.replicate, List.cons_append, List.nil_append, Nat.reduceAdd, Nat.reduceSub]
  refine x_iconst hK kX4_join_0 (q := 1) rfl ?_
  refine x_istore_n hK kX4_join_1 (q := 2) (jn := 3) rfl rfl ?_
  simp only [lS, lS2, clr_0, clr_I, clr_L, clr_R]
  exact one 4 0 W rfl (in_S hV (fun a b _ _ => by unfold jo1; rw [if_neg (by omega)]))
set_option maxRecDepth 20000 in
theorem mX4_join : eMet yX4_join cX4_join 4 none 2 55 SX4_join := eMet_of (by decide +kernel) sX4_join kX4_join_ok caX4_join tb_RX4
theorem wX4_join : eWV yX4_join cX4_join 4 none 3 4 SX4_join := ⟨(gW_at 707 (by decide +kernel) rfl), (gW_at 87 (by decide +kernel) rfl), (gW_at 706 (by decide +kernel) rfl), ⟨_, rfl, (gW_at 29 (by decide +kernel) rfl)⟩, by decide +kernel, SX4_join_r⟩
