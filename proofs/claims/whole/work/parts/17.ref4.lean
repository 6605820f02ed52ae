/-! max, min; copying, comparing, lifting. -/
/-- a header is a small number -/
theorem nm_w {f : Int → Int} {p z : Int} (h : nm f p z) : w32 (f (p * 601)) := by
  obtain ⟨n, hn, -, -, hz⟩ := h
  rcases hz with ⟨h1, -⟩ | ⟨h1, -⟩ <;> constructor <;> omega
def cpF (g : Int → Int) (o s : Int) (k : Nat) : Int → Int := fun j => if o ≤ j ∧ j < o + k then g (s + (j - o)) else g j
-- copy(p, q)
def SX10_copy : eSp := fun as M rt => ∃ (F : Nat → Int) (A : Nat → Int → Int) (p q z : Int), as = [eRR, eI p, eI q] ∧ M = cR F A ∧ (0 ≤ p ∧ p < 2666) ∧ (0 ≤ q ∧ q < 2666) ∧ nm (A 0) q z ∧ ∀ f, oB (A 0) f p → nm f p z → rt none (cR F (uA A 0 f))
theorem SX10_copy_i {F : Nat → Int} {A : Nat → Int → Int} {p q : Int} {rt : Option eV → eM → Prop} (z : Int) (h0 : 0 ≤ p ∧ p < 2666) (h1 : 0 ≤ q ∧ q < 2666) (h2 : nm (A 0) q z) (h : ∀ f, oB (A 0) f p → nm f p z → rt none (cR F (uA A 0 f))) : SX10_copy [eRR, eI p, eI q] (cR F A) rt := ⟨F, A, p, q, z, rfl, rfl, h0, h1, h2, h⟩
theorem SX10_copy_r : ∀ as M rt, SX10_copy as M rt → ∃ a r fs, as = eR a :: r ∧ M a = some (.inl (9, fs)) := by
  rintro as M rt ⟨F, A, p, q, z, rfl, rfl, -⟩
  exact ⟨_, _, _, rfl, rfl⟩
def kX10_copy : List (Nat × Jvm.ClassFile.Instr × Nat) := [(0, .iload_n 1, 1), (1, .invokestatic 64, 3), (4, .istore_n 3, 1), (5, .iload_n 2, 1), (6, .invokestatic 64, 3), (9, .istore 4, 2), (11, .aload_n 0, 1), (12, .iload_n 2, 1), (13, .invokevirtual 75, 3), (16, .istore 5, 2), (18, .iconst 0, 1), (19, .istore 6, 2), (21, .iload 6, 2), (23, .iload 5, 2), (25, .if_icmp .gt 28, 3), (28, .aload_n 0, 1), (29, .getfield 12, 3), (32, .iload_n 3, 1), (33, .iload 6, 2), (35, .iadd, 1), (36, .aload_n 0, 1), (37, .getfield 12, 3), (40, .iload 4, 2), (42, .iload 6, 2), (44, .iadd, 1), (45, .iaload, 1), (46, .iastore, 1), (47, .iinc 6 1, 3), (50, .goto (-29), 3), (53, .return_, 1)]
theorem kX10_copy_0 : cdOf kX10_copy 0 = some (.iload_n 1, 1) := by decide +kernel
theorem kX10_copy_1 : cdOf kX10_copy 1 = some (.invokestatic 64, 3) := by decide +kernel
theorem kX10_copy_4 : cdOf kX10_copy 4 = some (.istore_n 3, 1) := by decide +kernel
theorem kX10_copy_5 : cdOf kX10_copy 5 = some (.iload_n 2, 1) := by decide +kernel
theorem kX10_copy_6 : cdOf kX10_copy 6 = some (.invokestatic 64, 3) := by decide +kernel
theorem kX10_copy_9 : cdOf kX10_copy 9 = some (.istore 4, 2) := by decide +kernel
theorem kX10_copy_11 : cdOf kX10_copy 11 = some (.aload_n 0, 1) := by decide +kernel
theorem kX10_copy_12 : cdOf kX10_copy 12 = some (.iload_n 2, 1) := by decide +kernel
theorem kX10_copy_13 : cdOf kX10_copy 13 = some (.invokevirtual 75, 3) := by decide +kernel
theorem kX10_copy_16 : cdOf kX10_copy 16 = some (.istore 5, 2) := by decide +kernel
theorem kX10_copy_18 : cdOf kX10_copy 18 = some (.iconst 0, 1) := by decide +kernel
theorem kX10_copy_19 : cdOf kX10_copy 19 = some (.istore 6, 2) := by decide +kernel
theorem kX10_copy_21 : cdOf kX10_copy 21 = some (.iload 6, 2) := by decide +kernel
theorem kX10_copy_23 : cdOf kX10_copy 23 = some (.iload 5, 2) := by decide +kernel
theorem kX10_copy_25 : cdOf kX10_copy 25 = some (.if_icmp .gt 28, 3) := by decide +kernel
theorem kX10_copy_28 : cdOf kX10_copy 28 = some (.aload_n 0, 1) := by decide +kernel
theorem kX10_copy_29 : cdOf kX10_copy 29 = some (.getfield 12, 3) := by decide +kernel
theorem kX10_copy_32 : cdOf kX10_copy 32 = some (.iload_n 3, 1) := by decide +kernel
theorem kX10_copy_33 : cdOf kX10_copy 33 = some (.iload 6, 2) := by decide +kernel
theorem kX10_copy_35 : cdOf kX10_copy 35 = some (.iadd, 1) := by decide +kernel
theorem kX10_copy_36 : cdOf kX10_copy 36 = some (.aload_n 0, 1) := by decide +kernel
theorem kX10_copy_37 : cdOf kX10_copy 37 = some (.getfield 12, 3) := by decide +kernel
theorem kX10_copy_40 : cdOf kX10_copy 40 = some (.iload 4, 2) := by decide +kernel
theorem kX10_copy_42 : cdOf kX10_copy 42 = some (.iload 6, 2) := by decide +kernel
theorem kX10_copy_44 : cdOf kX10_copy 44 = some (.iadd, 1) := by decide +kernel
theorem kX10_copy_45 : cdOf kX10_copy 45 = some (.iaload, 1) := by decide +kernel
theorem kX10_copy_46 : cdOf kX10_copy 46 = some (.iastore, 1) := by decide +kernel
theorem kX10_copy_47 : cdOf kX10_copy 47 = some (.iinc 6 1, 3) := by decide +kernel
theorem kX10_copy_50 : cdOf kX10_copy 50 = some (.goto (-29), 3) := by decide +kernel
theorem kX10_copy_53 : cdOf kX10_copy 53 = some (.return_, 1) := by decide +kernel
set_option maxRecDepth 20000 in
theorem kX10_copy_ok : ∀ pc i len, cdOf kX10_copy pc = some (i, len) → decode cX10_copy pc = .ok (i, len) ∧ stOK 7 i = true ∧ jOK pc i = true ∧ eLen i len = true := cdOf_ok cX10_copy 7 kX10_copy (by decide +kernel)
def vtX10_copy : Nat → Option (Nat × eSp) := fun k => match k with
  | 75 => some (2, SX10_length)
  | _ => none
theorem vtX10_copy_75 : vtX10_copy 75 = some (2, SX10_length) := rfl
def stX10_copy : Nat → Option (Nat × eSp) := fun k => match k with
  | 64 => some (1, SX10_at)
  | _ => none
theorem stX10_copy_64 : stX10_copy 64 = some (1, SX10_at) := rfl
abbrev TX10_copy : eT := (fl_RX10, cl_RX10, dl_RX10, vtX10_copy, stX10_copy)
set_option maxRecDepth 20000 in
theorem caX10_copy : eCalls RX10 { frames := 2, cells := 0, slots := 0, locals := 42 } TX10_copy := by
  refine ⟨fun k n sp h => ?_, fun k n sp h => ?_⟩
  · dsimp only [TX10_copy] at h
    unfold vtX10_copy at h
    split at h
    · cases h; exact eV_mk mX10_length wX10_length (by decide +kernel) (Or.inl (gW_at 1101 (by decide +kernel) rfl))
    · cases h
  · dsimp only [TX10_copy] at h
    unfold stX10_copy at h
    split at h
    · cases h; exact eS_mk mX10_at wX10_at (by decide +kernel) (Or.inl (gW_at 1070 (by decide +kernel) rfl))
    · cases h
set_option maxRecDepth 100000 in
set_option maxHeartbeats 4000000 in
theorem sX10_copy : eSafe TX10_copy (cdOf kX10_copy) 7 none SX10_copy := by
  intro K rt hK as M h
  obtain ⟨F, A, p, q, z, rfl, rfl, h0, h1, h2, h⟩ := h
  have hw := nm_w h2
  obtain ⟨n, hn, hr, ht, hln, -⟩ := nm_h h2
  refine ⟨by simp [eE], ?_⟩
  have loop : ∀ d k : Nat, k + d = n + 1 → K 21 [some eRR, some (eI p), some (eI q), some (eI (p * 601)), some (eI (q * 601)), some (eI n), some (eI k)] [] (cR F (uA A 0 (cpF (A 0) (p * 601) (q * 601) k))) := by
    intro d
    induction d with
    | zero =>
      intro k hk
      refine x_iload hK kX10_copy_21 (q := 23) rfl rfl ?_
      refine x_iload hK kX10_copy_23 (q := 25) rfl rfl ?_
      refine x_icmp_gt hK kX10_copy_25 (q := 28) rfl (tg := 53) rfl (by refine ⟨?_, ?_⟩ <;> omega) (fun c25 => ?_) (fun c25 => ?_)
      · refine x_return_ hK kX10_copy_53 (by first | trivial | exact Or.inl rfl | exact Or.inr rfl) ?_
        refine h _ (fun j hj => by unfold cpF; rw [if_neg (by omega)]) ?_
        obtain ⟨n2, hn2, hr2, ht2, hz2⟩ := h2
        have hnn : n2 = n := by
          unfold zAbs at hln
          split at hln <;> rcases hz2 with ⟨q2, -⟩ | ⟨q2, -⟩ <;> omega
        subst hnn
        have e : ∀ j : Nat, j ≤ n2 → cpF (A 0) (p * 601) (q * 601) k (p * 601 + j) = A 0 (q * 601 + j) := fun j hj => by
          unfold cpF
          rw [if_pos (by omega)]
          congr 1
          omega
        have e1 : ∀ j : Nat, j < n2 → cpF (A 0) (p * 601) (q * 601) k (p * 601 + 1 + j) = A 0 (q * 601 + 1 + j) := fun j hj => by
          have := e (j + 1) (by omega)
          have a1 : p * 601 + ((j + 1 : Nat) : Int) = p * 601 + 1 + j := by omega
          have a2 : q * 601 + ((j + 1 : Nat) : Int) = q * 601 + 1 + j := by omega
          rw [a1, a2] at this
          exact this
        have e0 : cpF (A 0) (p * 601) (q * 601) k (p * 601) = A 0 (q * 601) := by
          have := e 0 (by omega)
          simpa using this
        refine ⟨n2, hn2, lr_cong hr2 e1, fun q0 => by rw [e n2 (Nat.le_refl _)]; exact ht2 q0, ?_⟩
        rw [e0, vl_cong e1]
        exact hz2
      · exact absurd c25 (by omega)
    | succ d ih =>
      intro k hk
      refine x_iload hK kX10_copy_21 (q := 23) rfl rfl ?_
      refine x_iload hK kX10_copy_23 (q := 25) rfl rfl ?_
      refine x_icmp_gt hK kX10_copy_25 (q := 28) rfl (tg := 53) rfl (by refine ⟨?_, ?_⟩ <;> omega) (fun c25 => ?_) (fun c25 => ?_)
      · exact absurd c25 (by omega)
      · refine x_aload_n hK kX10_copy_28 (q := 29) rfl rfl ?_
        refine x_getfield hK kX10_copy_29 (q := 32) rfl (gX10_12 ?_)
        refine x_iload_n hK kX10_copy_32 (q := 33) rfl rfl ?_
        refine x_iload hK kX10_copy_33 (q := 35) rfl rfl ?_
        refine x_iadd hK kX10_copy_35 (q := 36) rfl ?_
        refine x_aload_n hK kX10_copy_36 (q := 37) rfl rfl ?_
        refine x_getfield hK kX10_copy_37 (q := 40) rfl (gX10_12 ?_)
        refine x_iload hK kX10_copy_40 (q := 42) rfl rfl ?_
        refine x_iload hK kX10_copy_42 (q := 44) rfl rfl ?_
        refine x_iadd hK kX10_copy_44 (q := 45) rfl ?_
        refine x_iaload hK kX10_copy_45 (q := 46) rfl (aX10_A0 (by refine ⟨?_, ?_⟩ <;> omega) ?_)
        refine x_iastore hK kX10_copy_46 (q := 47) rfl (yX10_A0 (by refine ⟨?_, ?_⟩ <;> omega) ?_)
        refine x_iinc hK kX10_copy_47 (q := 50) rfl rfl ?_
        simp only [lS, lS2, clr_0, clr_I, clr_L, clr_R]
        refine x_goto hK kX10_copy_50 (tg := 21) rfl ?_
        refine x_to (ih (k + 1) (by omega)) rfl rfl ?_
        rw [uA_g, uA_u]
        congr 2
        funext j
        unfold uI cpF
        by_cases e1 : j = p * 601 + k
        · subst e1
          rw [if_pos rfl, if_neg (by omega), if_pos (by omega)]
          congr 1
          omega
        · rw [if_neg e1]
          by_cases e2 : p * 601 ≤ j ∧ j < p * 601 + k
          · rw [if_pos e2, if_pos (by omega)]
          · rw [if_neg e2, if_neg (by omega)]
  simp only [eLoc, eE, List.length_cons, List.length_nil, List.replicate, List.cons_append, List.nil_append, Nat.reduceAdd, Nat.reduceSub]
  refine x_iload_n hK kX10_copy_0 (q := 1) rfl rfl ?_
  refine x_cs1 hK kX10_copy_1 (q := 4) rfl (stX10_copy_64) (Nat.le_of_ble_eq_true rfl) ?_
  refine SX10_at_i ?_
  refine x_istore_n hK kX10_copy_4 (q := 5) (jn := 3) rfl rfl ?_
  refine x_iload_n hK kX10_copy_5 (q := 6) rfl rfl ?_
  simp only [lS, lS2, clr_0, clr_I, clr_L, clr_R]
  refine x_cs1 hK kX10_copy_6 (q := 9) rfl (stX10_copy_64) (Nat.le_of_ble_eq_true rfl) ?_
  refine SX10_at_i ?_
  refine x_istore hK kX10_copy_9 (q := 11) rfl ?_
  refine x_aload_n hK kX10_copy_11 (q := 12) rfl rfl ?_
  refine x_iload_n hK kX10_copy_12 (q := 13) rfl rfl ?_
  simp only [lS, lS2, clr_0, clr_I, clr_L, clr_R]
  refine x_cv2 hK kX10_copy_13 (q := 16) rfl (vtX10_copy_75) (Nat.le_of_ble_eq_true rfl) ?_
  refine SX10_length_i (by omega) hw ?_
  rw [hln]
  refine x_istore hK kX10_copy_16 (q := 18) rfl ?_
  refine x_iconst hK kX10_copy_18 (q := 19) rfl ?_
  refine x_istore hK kX10_copy_19 (q := 21) rfl ?_
  simp only [lS, lS2, clr_0, clr_I, clr_L, clr_R]
  refine x_to (loop (n + 1) 0 (by omega)) rfl rfl ?_
  have e : cpF (A 0) (p * 601) (q * 601) 0 = A 0 := by
    funext j; unfold cpF; rw [if_neg (by omega)]
  rw [e, uA_s]
set_option maxRecDepth 20000 in
theorem mX10_copy : eMet yX10_copy cX10_copy 7 none 2 42 SX10_copy := eMet_of (by decide +kernel) sX10_copy kX10_copy_ok caX10_copy tb_RX10
theorem wX10_copy : eWV yX10_copy cX10_copy 7 none 3 9 SX10_copy := ⟨(gW_at 1137 (by decide +kernel) rfl), (gW_at 89 (by decide +kernel) rfl), (gW_at 1136 (by decide +kernel) rfl), ⟨_, rfl, (gW_at 48 (by decide +kernel) rfl)⟩, by decide +kernel, SX10_copy_r⟩
