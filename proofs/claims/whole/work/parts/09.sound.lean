/-! Every abstract instruction holds on the machine. -/
/-- jumps go to places -/
def jOK (pc : Nat) : Jvm.ClassFile.Instr → Bool
  | .if_icmp _ off | .ifCond _ off | .ifnull off | .ifnonnull off | .goto off => decide (0 ≤ (pc : Int) + off)
  | .tableswitch d _ _ offs => decide (0 ≤ (pc : Int) + d) && offs.toList.all (fun off => decide (0 ≤ (pc : Int) + off))
  | _ => true
section ES2
variable {G : eG} {A : Nat → Prop} {p : Program} {l : Launch} {e : Env} {R : Room} {s : State} {m : MethodId} {args : Array Value} {below : List Frame} {meth : Method} {c : Code} {nL : Nat} {Q : State → Prop} {own : String} {cc : ByteArray} {T : eT} {ls : List (Option eV)} {st : List eV} {M : eM} {pc : Nat}
theorem eLs.at {k : Nat} {lm : Array Slot} {v : eV} (h : eLs G nL ls lm) (hk : lG ls k = some v) : lm[k]? = some (.val (cv G v)) := h.2.2.2 k v hk
theorem z_nat (n : Nat) : n.toInt32 = Int32.ofInt (n : Int) := (Int32.ofInt_eq_ofNat).symm
theorem e_clamp {i : Int} {n : Nat} (h : 0 ≤ i ∧ i < (n : Int) ∧ n ≤ 2147483647) : (Int32.ofInt i).toNatClampNeg = i.toNat ∧ ¬ (Int32.ofInt i < 0 ∨ n ≤ (Int32.ofInt i).toNatClampNeg) ∧ i.toNat < n := by
  have h1 := z_clamp (a := i) h.1 (by omega)
  refine ⟨h1, ?_, by omega⟩
  rw [h1, z_0, z_lt (by omega) (by omega)]
  omega
theorem nV_map (G : eG) : ∀ (fs : List eV) (k : Nat) (v : eV), nV fs k = some v → (fs.map (cv G))[k]? = some (cv G v)
  | [], _, _, h => by simp [nV] at h
  | a :: l, 0, v, h => by simp [nV] at h; simp [h]
  | a :: l, k + 1, v, h => by simpa using nV_map G l k v h
theorem uV_map (G : eG) : ∀ (fs : List eV) (k : Nat) (v : eV), (uV fs k v).map (cv G) = (fs.map (cv G)).set k (cv G v)
  | [], _, _ => by simp [uV]
  | a :: l, 0, v => by simp [uV]
  | a :: l, k + 1, v => by simp [uV, uV_map G l k v]
theorem uV_len : ∀ (fs : List eV) (k : Nat) (v : eV), (uV fs k v).length = fs.length
  | [], _, _ => by simp [uV]
  | a :: l, 0, v => by simp [uV]
  | a :: l, k + 1, v => by simp [uV, uV_len l k v]

theorem sd_iconst (B : eB G own cc nL T p s m args c) {z : Int} (hd : decode cc pc = .ok (.iconst z, 1))  (h : eW G A p l e R s m args below meth c nL Q (pc + 1) ls (eI z :: st) M) : eW G A p l e R s m args below meth c nL Q pc ls st M := by
  obtain ⟨hx, hb, hml, hown, hts, hK, hfld, hldc, hldc2⟩ := B
  intro H locs lm hP hS hz hl
  refine lv_iconst hx hb hd rfl ?_
  exact h H locs lm hP hS hz hl

theorem sd_bipush (B : eB G own cc nL T p s m args c) {z : Int} (hd : decode cc pc = .ok (.bipush z, 2)) (h0 : -128 ≤ z ∧ z < 128) (h : eW G A p l e R s m args below meth c nL Q (pc + 2) ls (eI z :: st) M) : eW G A p l e R s m args below meth c nL Q pc ls st M := by
  obtain ⟨hx, hb, hml, hown, hts, hK, hfld, hldc, hldc2⟩ := B
  intro H locs lm hP hS hz hl
  refine lv_bipush hx hb hd (z_byte z h0) ?_
  exact h H locs lm hP hS hz hl

theorem sd_sipush (B : eB G own cc nL T p s m args c) {z : Int} (hd : decode cc pc = .ok (.sipush z, 3)) (h0 : -32768 ≤ z ∧ z < 32768) (h : eW G A p l e R s m args below meth c nL Q (pc + 3) ls (eI z :: st) M) : eW G A p l e R s m args below meth c nL Q pc ls st M := by
  obtain ⟨hx, hb, hml, hown, hts, hK, hfld, hldc, hldc2⟩ := B
  intro H locs lm hP hS hz hl
  refine lv_sipush hx hb hd (z_short z h0) ?_
  exact h H locs lm hP hS hz hl

theorem sd_lconst (B : eB G own cc nL T p s m args c) {z : Fin 2} (hd : decode cc pc = .ok (.lconst z, 1))  (h : eW G A p l e R s m args below meth c nL Q (pc + 1) ls (eL (z.val : Int) :: st) M) : eW G A p l e R s m args below meth c nL Q pc ls st M := by
  obtain ⟨hx, hb, hml, hown, hts, hK, hfld, hldc, hldc2⟩ := B
  intro H locs lm hP hS hz hl
  refine lv_lconst hx hb hd rfl ?_
  exact h H locs lm hP hS hz hl

theorem sd_ldc (B : eB G own cc nL T p s m args c) {k : Nat} {z : Int} (hd : decode cc pc = .ok (.ldc k, 2)) (h0 : T.2.1 k = some z) (h : eW G A p l e R s m args below meth c nL Q (pc + 2) ls (eI z :: st) M) : eW G A p l e R s m args below meth c nL Q pc ls st M := by
  obtain ⟨hx, hb, hml, hown, hts, hK, hfld, hldc, hldc2⟩ := B
  intro H locs lm hP hS hz hl
  refine W.ldc hx hb hown (hts _ (hldc k z h0)) rfl hd ?_
  exact h H locs lm hP hS hz hl

theorem sd_ldcw (B : eB G own cc nL T p s m args c) {k : Nat} {z : Int} (hd : decode cc pc = .ok (.ldc_w k, 3)) (h0 : T.2.1 k = some z) (h : eW G A p l e R s m args below meth c nL Q (pc + 3) ls (eI z :: st) M) : eW G A p l e R s m args below meth c nL Q pc ls st M := by
  obtain ⟨hx, hb, hml, hown, hts, hK, hfld, hldc, hldc2⟩ := B
  intro H locs lm hP hS hz hl
  refine lv_ldcw hx hb hown (hts _ (hldc k z h0)) hd ?_
  exact h H locs lm hP hS hz hl

theorem sd_ldc2 (B : eB G own cc nL T p s m args c) {k : Nat} {z : Int} (hd : decode cc pc = .ok (.ldc2_w k, 3)) (h0 : T.2.2.1 k = some z) (h : eW G A p l e R s m args below meth c nL Q (pc + 3) ls (eL z :: st) M) : eW G A p l e R s m args below meth c nL Q pc ls st M := by
  obtain ⟨hx, hb, hml, hown, hts, hK, hfld, hldc, hldc2⟩ := B
  intro H locs lm hP hS hz hl
  refine lv_ldc2 hx hb hown (hts _ (hldc2 k z h0)) hd ?_
  exact h H locs lm hP hS hz hl

theorem sd_null (B : eB G own cc nL T p s m args c)  (hd : decode cc pc = .ok (.aconst_null, 1))  (h : eW G A p l e R s m args below meth c nL Q (pc + 1) ls (eN :: st) M) : eW G A p l e R s m args below meth c nL Q pc ls st M := by
  obtain ⟨hx, hb, hml, hown, hts, hK, hfld, hldc, hldc2⟩ := B
  intro H locs lm hP hS hz hl
  refine lv_null hx hb hd ?_
  exact h H locs lm hP hS hz hl

theorem sd_iload (B : eB G own cc nL T p s m args c) {k : Nat} {z : Int} (hd : decode cc pc = .ok (.iload k, 2)) (h0 : lG ls k = some (eI z)) (h : eW G A p l e R s m args below meth c nL Q (pc + 2) ls (eI z :: st) M) : eW G A p l e R s m args below meth c nL Q pc ls st M := by
  obtain ⟨hx, hb, hml, hown, hts, hK, hfld, hldc, hldc2⟩ := B
  intro H locs lm hP hS hz hl
  refine lv_iload hx hb hd (hl.at h0) ?_
  exact h H locs lm hP hS hz hl

theorem sd_iload_n (B : eB G own cc nL T p s m args c) {k : Fin 4} {z : Int} (hd : decode cc pc = .ok (.iload_n k, 1)) (h0 : lG ls k.val = some (eI z)) (h : eW G A p l e R s m args below meth c nL Q (pc + 1) ls (eI z :: st) M) : eW G A p l e R s m args below meth c nL Q pc ls st M := by
  obtain ⟨hx, hb, hml, hown, hts, hK, hfld, hldc, hldc2⟩ := B
  intro H locs lm hP hS hz hl
  refine lv_iload_n hx hb hd rfl (hl.at h0) ?_
  exact h H locs lm hP hS hz hl

theorem sd_lload (B : eB G own cc nL T p s m args c) {k : Nat} {z : Int} (hd : decode cc pc = .ok (.lload k, 2)) (h0 : lG ls k = some (eL z)) (h : eW G A p l e R s m args below meth c nL Q (pc + 2) ls (eL z :: st) M) : eW G A p l e R s m args below meth c nL Q pc ls st M := by
  obtain ⟨hx, hb, hml, hown, hts, hK, hfld, hldc, hldc2⟩ := B
  intro H locs lm hP hS hz hl
  refine lv_lload hx hb hd (hl.at h0) ?_
  exact h H locs lm hP hS hz hl

theorem sd_lload_n (B : eB G own cc nL T p s m args c) {k : Fin 4} {z : Int} (hd : decode cc pc = .ok (.lload_n k, 1)) (h0 : lG ls k.val = some (eL z)) (h : eW G A p l e R s m args below meth c nL Q (pc + 1) ls (eL z :: st) M) : eW G A p l e R s m args below meth c nL Q pc ls st M := by
  obtain ⟨hx, hb, hml, hown, hts, hK, hfld, hldc, hldc2⟩ := B
  intro H locs lm hP hS hz hl
  refine lv_lload_n hx hb hd rfl (hl.at h0) ?_
  exact h H locs lm hP hS hz hl

theorem sd_aload (B : eB G own cc nL T p s m args c) {k : Nat} {z : eA ⊕ Unit} (hd : decode cc pc = .ok (.aload k, 2)) (h0 : lG ls k = some (.inr z)) (h : eW G A p l e R s m args below meth c nL Q (pc + 2) ls (.inr z :: st) M) : eW G A p l e R s m args below meth c nL Q pc ls st M := by
  obtain ⟨hx, hb, hml, hown, hts, hK, hfld, hldc, hldc2⟩ := B
  intro H locs lm hP hS hz hl
  rcases z with a | u
  · refine lv_aload hx hb hd (hl.at h0) ?_
    exact h H locs lm hP hS hz hl
  · refine lv_aloadN hx hb hd (hl.at h0) ?_
    exact h H locs lm hP hS hz hl

theorem sd_aload_n (B : eB G own cc nL T p s m args c) {k : Fin 4} {z : eA ⊕ Unit} (hd : decode cc pc = .ok (.aload_n k, 1)) (h0 : lG ls k.val = some (.inr z)) (h : eW G A p l e R s m args below meth c nL Q (pc + 1) ls (.inr z :: st) M) : eW G A p l e R s m args below meth c nL Q pc ls st M := by
  obtain ⟨hx, hb, hml, hown, hts, hK, hfld, hldc, hldc2⟩ := B
  intro H locs lm hP hS hz hl
  rcases z with a | u
  · refine lv_aload_n hx hb hd rfl (hl.at h0) ?_
    exact h H locs lm hP hS hz hl
  · refine lv_aload_nN hx hb hd rfl (hl.at h0) ?_
    exact h H locs lm hP hS hz hl

theorem sd_istore (B : eB G own cc nL T p s m args c) {k : Nat} {z : Int} (hd : decode cc pc = .ok (.istore k, 2)) (h1 : k < nL) (h : eW G A p l e R s m args below meth c nL Q (pc + 2) (lS ls k (eI z)) st M) : eW G A p l e R s m args below meth c nL Q pc ls (eI z :: st) M := by
  obtain ⟨hx, hb, hml, hown, hts, hK, hfld, hldc, hldc2⟩ := B
  intro H locs lm hP hS hz hl
  refine lv_istore hx hb hd hl.has h1 rfl fun lm' hl' => ?_
  exact h H locs lm' hP hS hz (hl.set1 h1 hl')

theorem sd_istore_n (B : eB G own cc nL T p s m args c) {k : Fin 4} {z : Int} (hd : decode cc pc = .ok (.istore_n k, 1)) (h1 : k.val < nL) (h : eW G A p l e R s m args below meth c nL Q (pc + 1) (lS ls k.val (eI z)) st M) : eW G A p l e R s m args below meth c nL Q pc ls (eI z :: st) M := by
  obtain ⟨hx, hb, hml, hown, hts, hK, hfld, hldc, hldc2⟩ := B
  intro H locs lm hP hS hz hl
  refine lv_istore_n hx hb hd rfl hl.has h1 rfl fun lm' hl' => ?_
  exact h H locs lm' hP hS hz (hl.set1 h1 hl')

theorem sd_lstore (B : eB G own cc nL T p s m args c) {k : Nat} {z : Int} (hd : decode cc pc = .ok (.lstore k, 2)) (h1 : k + 1 < nL) (h : eW G A p l e R s m args below meth c nL Q (pc + 2) (lS2 ls k (eL z)) st M) : eW G A p l e R s m args below meth c nL Q pc ls (eL z :: st) M := by
  obtain ⟨hx, hb, hml, hown, hts, hK, hfld, hldc, hldc2⟩ := B
  intro H locs lm hP hS hz hl
  refine lv_lstore hx hb hd hl.has h1 rfl fun lm' hl' => ?_
  exact h H locs lm' hP hS hz (hl.set2 h1 hl')

theorem sd_lstore_n (B : eB G own cc nL T p s m args c) {k : Fin 4} {z : Int} (hd : decode cc pc = .ok (.lstore_n k, 1)) (h1 : k.val + 1 < nL) (h : eW G A p l e R s m args below meth c nL Q (pc + 1) (lS2 ls k.val (eL z)) st M) : eW G A p l e R s m args below meth c nL Q pc ls (eL z :: st) M := by
  obtain ⟨hx, hb, hml, hown, hts, hK, hfld, hldc, hldc2⟩ := B
  intro H locs lm hP hS hz hl
  refine lv_lstore_n hx hb hd rfl hl.has h1 rfl fun lm' hl' => ?_
  exact h H locs lm' hP hS hz (hl.set2 h1 hl')

theorem sd_astore (B : eB G own cc nL T p s m args c) {k : Nat} {z : eA ⊕ Unit} (hd : decode cc pc = .ok (.astore k, 2)) (h1 : k < nL) (h : eW G A p l e R s m args below meth c nL Q (pc + 2) (lS ls k (.inr z)) st M) : eW G A p l e R s m args below meth c nL Q pc ls (.inr z :: st) M := by
  obtain ⟨hx, hb, hml, hown, hts, hK, hfld, hldc, hldc2⟩ := B
  intro H locs lm hP hS hz hl
  rcases z with a | u
  · refine lv_astore hx hb hd hl.has h1 rfl fun lm' hl' => ?_
    exact h H locs lm' hP hS hz (hl.set1 (v := .inr (.inl a)) h1 hl')
  · refine lv_astoreN hx hb hd hl.has h1 rfl fun lm' hl' => ?_
    exact h H locs lm' hP hS hz (hl.set1 (v := .inr (.inr u)) h1 hl')

theorem sd_astore_n (B : eB G own cc nL T p s m args c) {k : Fin 4} {z : eA ⊕ Unit} (hd : decode cc pc = .ok (.astore_n k, 1)) (h1 : k.val < nL) (h : eW G A p l e R s m args below meth c nL Q (pc + 1) (lS ls k.val (.inr z)) st M) : eW G A p l e R s m args below meth c nL Q pc ls (.inr z :: st) M := by
  obtain ⟨hx, hb, hml, hown, hts, hK, hfld, hldc, hldc2⟩ := B
  intro H locs lm hP hS hz hl
  rcases z with a | u
  · refine lv_astore_n hx hb hd rfl hl.has h1 rfl fun lm' hl' => ?_
    exact h H locs lm' hP hS hz (hl.set1 (v := .inr (.inl a)) h1 hl')
  · refine lv_astore_nN hx hb hd rfl hl.has h1 rfl fun lm' hl' => ?_
    exact h H locs lm' hP hS hz (hl.set1 (v := .inr (.inr u)) h1 hl')

theorem sd_iinc (B : eB G own cc nL T p s m args c) {k : Nat} {d z : Int} (hd : decode cc pc = .ok (.iinc k d, 3)) (h0 : lG ls k = some (eI z)) (h1 : k < nL) (h : eW G A p l e R s m args below meth c nL Q (pc + 3) (lS ls k (eI (z + d))) st M) : eW G A p l e R s m args below meth c nL Q pc ls st M := by
  obtain ⟨hx, hb, hml, hown, hts, hK, hfld, hldc, hldc2⟩ := B
  intro H locs lm hP hS hz hl
  obtain ⟨i, hi⟩ := List.getElem?_of_mem ((eAs_mem G ls 0 _).mpr ⟨k, eI z, rfl, h0⟩)
  rw [Nat.zero_add] at hi
  refine lv_iinc hx hb hd hl.has hi (v := Int32.ofInt (z + d)) (z_add z d) h1 rfl fun lm' hl' => ?_
  exact h H locs lm' hP hS hz (hl.set1 (v := eI (z + d)) h1 hl')

theorem sd_iadd (B : eB G own cc nL T p s m args c) {a b : Int} (hd : decode cc pc = .ok (.iadd, 1))  (h : eW G A p l e R s m args below meth c nL Q (pc + 1) ls (eI (a + b) :: st) M) : eW G A p l e R s m args below meth c nL Q pc ls (eI b :: eI a :: st) M := by
  obtain ⟨hx, hb, hml, hown, hts, hK, hfld, hldc, hldc2⟩ := B
  intro H locs lm hP hS hz hl
  refine lv_iadd hx hb hd ?_
  rw [z_add]
  exact h H locs lm hP hS hz hl

theorem sd_isub (B : eB G own cc nL T p s m args c) {a b : Int} (hd : decode cc pc = .ok (.isub, 1))  (h : eW G A p l e R s m args below meth c nL Q (pc + 1) ls (eI (a - b) :: st) M) : eW G A p l e R s m args below meth c nL Q pc ls (eI b :: eI a :: st) M := by
  obtain ⟨hx, hb, hml, hown, hts, hK, hfld, hldc, hldc2⟩ := B
  intro H locs lm hP hS hz hl
  refine lv_isub hx hb hd ?_
  rw [z_sub]
  exact h H locs lm hP hS hz hl

theorem sd_imul (B : eB G own cc nL T p s m args c) {a b : Int} (hd : decode cc pc = .ok (.imul, 1))  (h : eW G A p l e R s m args below meth c nL Q (pc + 1) ls (eI (a * b) :: st) M) : eW G A p l e R s m args below meth c nL Q pc ls (eI b :: eI a :: st) M := by
  obtain ⟨hx, hb, hml, hown, hts, hK, hfld, hldc, hldc2⟩ := B
  intro H locs lm hP hS hz hl
  refine lv_imul hx hb hd ?_
  rw [z_mul]
  exact h H locs lm hP hS hz hl

theorem sd_ladd (B : eB G own cc nL T p s m args c) {a b : Int} (hd : decode cc pc = .ok (.ladd, 1))  (h : eW G A p l e R s m args below meth c nL Q (pc + 1) ls (eL (a + b) :: st) M) : eW G A p l e R s m args below meth c nL Q pc ls (eL b :: eL a :: st) M := by
  obtain ⟨hx, hb, hml, hown, hts, hK, hfld, hldc, hldc2⟩ := B
  intro H locs lm hP hS hz hl
  refine lv_ladd hx hb hd ?_
  rw [z_addL]
  exact h H locs lm hP hS hz hl

theorem sd_lsub (B : eB G own cc nL T p s m args c) {a b : Int} (hd : decode cc pc = .ok (.lsub, 1))  (h : eW G A p l e R s m args below meth c nL Q (pc + 1) ls (eL (a - b) :: st) M) : eW G A p l e R s m args below meth c nL Q pc ls (eL b :: eL a :: st) M := by
  obtain ⟨hx, hb, hml, hown, hts, hK, hfld, hldc, hldc2⟩ := B
  intro H locs lm hP hS hz hl
  refine lv_lsub hx hb hd ?_
  rw [z_subL]
  exact h H locs lm hP hS hz hl

theorem sd_lmul (B : eB G own cc nL T p s m args c) {a b : Int} (hd : decode cc pc = .ok (.lmul, 1))  (h : eW G A p l e R s m args below meth c nL Q (pc + 1) ls (eL (a * b) :: st) M) : eW G A p l e R s m args below meth c nL Q pc ls (eL b :: eL a :: st) M := by
  obtain ⟨hx, hb, hml, hown, hts, hK, hfld, hldc, hldc2⟩ := B
  intro H locs lm hP hS hz hl
  refine lv_lmul hx hb hd ?_
  rw [z_mulL]
  exact h H locs lm hP hS hz hl

theorem sd_iand (B : eB G own cc nL T p s m args c) {a b : Int} (hd : decode cc pc = .ok (.iand, 1))  (h : eW G A p l e R s m args below meth c nL Q (pc + 1) ls (eI (zAnd a b) :: st) M) : eW G A p l e R s m args below meth c nL Q pc ls (eI b :: eI a :: st) M := by
  obtain ⟨hx, hb, hml, hown, hts, hK, hfld, hldc, hldc2⟩ := B
  intro H locs lm hP hS hz hl
  refine lv_iand hx hb hd ?_
  have h := h H locs lm hP hS hz hl; simp only [List.map_cons, cv, zAnd, z_to] at h; exact h

theorem sd_ior (B : eB G own cc nL T p s m args c) {a b : Int} (hd : decode cc pc = .ok (.ior, 1))  (h : eW G A p l e R s m args below meth c nL Q (pc + 1) ls (eI (zOr a b) :: st) M) : eW G A p l e R s m args below meth c nL Q pc ls (eI b :: eI a :: st) M := by
  obtain ⟨hx, hb, hml, hown, hts, hK, hfld, hldc, hldc2⟩ := B
  intro H locs lm hP hS hz hl
  refine lv_ior hx hb hd ?_
  have h := h H locs lm hP hS hz hl; simp only [List.map_cons, cv, zOr, z_to] at h; exact h

theorem sd_ixor (B : eB G own cc nL T p s m args c) {a b : Int} (hd : decode cc pc = .ok (.ixor, 1))  (h : eW G A p l e R s m args below meth c nL Q (pc + 1) ls (eI (zXor a b) :: st) M) : eW G A p l e R s m args below meth c nL Q pc ls (eI b :: eI a :: st) M := by
  obtain ⟨hx, hb, hml, hown, hts, hK, hfld, hldc, hldc2⟩ := B
  intro H locs lm hP hS hz hl
  refine lv_ixor hx hb hd ?_
  have h := h H locs lm hP hS hz hl; simp only [List.map_cons, cv, zXor, z_to] at h; exact h

theorem sd_ishl (B : eB G own cc nL T p s m args c) {a b : Int} (hd : decode cc pc = .ok (.ishl, 1))  (h : eW G A p l e R s m args below meth c nL Q (pc + 1) ls (eI (zShl a b) :: st) M) : eW G A p l e R s m args below meth c nL Q pc ls (eI b :: eI a :: st) M := by
  obtain ⟨hx, hb, hml, hown, hts, hK, hfld, hldc, hldc2⟩ := B
  intro H locs lm hP hS hz hl
  refine lv_ishl hx hb hd ?_
  have h := h H locs lm hP hS hz hl; simp only [List.map_cons, cv, zShl, z_to] at h; exact h

theorem sd_ishr (B : eB G own cc nL T p s m args c) {a b : Int} (hd : decode cc pc = .ok (.ishr, 1))  (h : eW G A p l e R s m args below meth c nL Q (pc + 1) ls (eI (zShr a b) :: st) M) : eW G A p l e R s m args below meth c nL Q pc ls (eI b :: eI a :: st) M := by
  obtain ⟨hx, hb, hml, hown, hts, hK, hfld, hldc, hldc2⟩ := B
  intro H locs lm hP hS hz hl
  refine lv_ishr hx hb hd ?_
  have h := h H locs lm hP hS hz hl; simp only [List.map_cons, cv, zShr, z_to] at h; exact h

theorem sd_land (B : eB G own cc nL T p s m args c) {a b : Int} (hd : decode cc pc = .ok (.land, 1))  (h : eW G A p l e R s m args below meth c nL Q (pc + 1) ls (eL (zAndL a b) :: st) M) : eW G A p l e R s m args below meth c nL Q pc ls (eL b :: eL a :: st) M := by
  obtain ⟨hx, hb, hml, hown, hts, hK, hfld, hldc, hldc2⟩ := B
  intro H locs lm hP hS hz hl
  refine lv_land hx hb hd ?_
  have h := h H locs lm hP hS hz hl; simp only [List.map_cons, cv, zAndL, z_toL] at h; exact h

theorem sd_lor (B : eB G own cc nL T p s m args c) {a b : Int} (hd : decode cc pc = .ok (.lor, 1))  (h : eW G A p l e R s m args below meth c nL Q (pc + 1) ls (eL (zOrL a b) :: st) M) : eW G A p l e R s m args below meth c nL Q pc ls (eL b :: eL a :: st) M := by
  obtain ⟨hx, hb, hml, hown, hts, hK, hfld, hldc, hldc2⟩ := B
  intro H locs lm hP hS hz hl
  refine lv_lor hx hb hd ?_
  have h := h H locs lm hP hS hz hl; simp only [List.map_cons, cv, zOrL, z_toL] at h; exact h

theorem sd_iushr (B : eB G own cc nL T p s m args c) {a b : Int} (hd : decode cc pc = .ok (.iushr, 1))  (h : eW G A p l e R s m args below meth c nL Q (pc + 1) ls (eI (zUshr a b) :: st) M) : eW G A p l e R s m args below meth c nL Q pc ls (eI b :: eI a :: st) M := by
  obtain ⟨hx, hb, hml, hown, hts, hK, hfld, hldc, hldc2⟩ := B
  intro H locs lm hP hS hz hl
  refine lv_iushr hx hb hd (v := Int32.ofInt (zUshr a b)) (by rw [zUshr, z_to]) ?_
  exact h H locs lm hP hS hz hl

theorem sd_lshl (B : eB G own cc nL T p s m args c) {a b : Int} (hd : decode cc pc = .ok (.lshl, 1))  (h : eW G A p l e R s m args below meth c nL Q (pc + 1) ls (eL (zShlL a b) :: st) M) : eW G A p l e R s m args below meth c nL Q pc ls (eI b :: eL a :: st) M := by
  obtain ⟨hx, hb, hml, hown, hts, hK, hfld, hldc, hldc2⟩ := B
  intro H locs lm hP hS hz hl
  refine lv_lshl hx hb hd (v := Int64.ofInt (zShlL a b)) (by rw [zShlL, z_toL]) ?_
  exact h H locs lm hP hS hz hl

theorem sd_lshr (B : eB G own cc nL T p s m args c) {a b : Int} (hd : decode cc pc = .ok (.lshr, 1))  (h : eW G A p l e R s m args below meth c nL Q (pc + 1) ls (eL (zShrL a b) :: st) M) : eW G A p l e R s m args below meth c nL Q pc ls (eI b :: eL a :: st) M := by
  obtain ⟨hx, hb, hml, hown, hts, hK, hfld, hldc, hldc2⟩ := B
  intro H locs lm hP hS hz hl
  refine lv_lshr hx hb hd (v := Int64.ofInt (zShrL a b)) (by rw [zShrL, z_toL]) ?_
  exact h H locs lm hP hS hz hl

theorem sd_idiv (B : eB G own cc nL T p s m args c) {a b : Int} (hd : decode cc pc = .ok (.idiv, 1)) (h0 : w32 a ∧ w32 b ∧ b ≠ 0) (h : eW G A p l e R s m args below meth c nL Q (pc + 1) ls (eI (a.tdiv b) :: st) M) : eW G A p l e R s m args below meth c nL Q pc ls (eI b :: eI a :: st) M := by
  obtain ⟨hx, hb, hml, hown, hts, hK, hfld, hldc, hldc2⟩ := B
  intro H locs lm hP hS hz hl
  refine lv_idiv hx hb hd (by rw [z_0, z_eq h0.2.1 (by omega)]; exact h0.2.2) ?_
  rw [z_div h0.1 h0.2.1 h0.2.2]
  exact h H locs lm hP hS hz hl

theorem sd_irem (B : eB G own cc nL T p s m args c) {a b : Int} (hd : decode cc pc = .ok (.irem, 1)) (h0 : w32 a ∧ w32 b ∧ b ≠ 0) (h : eW G A p l e R s m args below meth c nL Q (pc + 1) ls (eI (a.tmod b) :: st) M) : eW G A p l e R s m args below meth c nL Q pc ls (eI b :: eI a :: st) M := by
  obtain ⟨hx, hb, hml, hown, hts, hK, hfld, hldc, hldc2⟩ := B
  intro H locs lm hP hS hz hl
  refine lv_irem hx hb hd (by rw [z_0, z_eq h0.2.1 (by omega)]; exact h0.2.2) ?_
  rw [z_rem h0.1 h0.2.1 h0.2.2]
  exact h H locs lm hP hS hz hl

theorem sd_ldiv (B : eB G own cc nL T p s m args c) {a b : Int} (hd : decode cc pc = .ok (.ldiv, 1)) (h0 : w64 a ∧ w64 b ∧ b ≠ 0) (h : eW G A p l e R s m args below meth c nL Q (pc + 1) ls (eL (a.tdiv b) :: st) M) : eW G A p l e R s m args below meth c nL Q pc ls (eL b :: eL a :: st) M := by
  obtain ⟨hx, hb, hml, hown, hts, hK, hfld, hldc, hldc2⟩ := B
  intro H locs lm hP hS hz hl
  refine lv_ldiv hx hb hd (by rw [z_0L, z_eqL h0.2.1 (by omega)]; exact h0.2.2) ?_
  rw [z_divL h0.1 h0.2.1 h0.2.2]
  exact h H locs lm hP hS hz hl

theorem sd_lrem (B : eB G own cc nL T p s m args c) {a b : Int} (hd : decode cc pc = .ok (.lrem, 1)) (h0 : w64 a ∧ w64 b ∧ b ≠ 0) (h : eW G A p l e R s m args below meth c nL Q (pc + 1) ls (eL (a.tmod b) :: st) M) : eW G A p l e R s m args below meth c nL Q pc ls (eL b :: eL a :: st) M := by
  obtain ⟨hx, hb, hml, hown, hts, hK, hfld, hldc, hldc2⟩ := B
  intro H locs lm hP hS hz hl
  refine lv_lrem hx hb hd (by rw [z_0L, z_eqL h0.2.1 (by omega)]; exact h0.2.2) ?_
  rw [z_remL h0.1 h0.2.1 h0.2.2]
  exact h H locs lm hP hS hz hl

theorem sd_ineg (B : eB G own cc nL T p s m args c) {a : Int} (hd : decode cc pc = .ok (.ineg, 1))  (h : eW G A p l e R s m args below meth c nL Q (pc + 1) ls (eI (-a) :: st) M) : eW G A p l e R s m args below meth c nL Q pc ls (eI a :: st) M := by
  obtain ⟨hx, hb, hml, hown, hts, hK, hfld, hldc, hldc2⟩ := B
  intro H locs lm hP hS hz hl
  refine lv_ineg hx hb hd ?_
  rw [z_neg]
  exact h H locs lm hP hS hz hl

theorem sd_lneg (B : eB G own cc nL T p s m args c) {a : Int} (hd : decode cc pc = .ok (.lneg, 1))  (h : eW G A p l e R s m args below meth c nL Q (pc + 1) ls (eL (-a) :: st) M) : eW G A p l e R s m args below meth c nL Q pc ls (eL a :: st) M := by
  obtain ⟨hx, hb, hml, hown, hts, hK, hfld, hldc, hldc2⟩ := B
  intro H locs lm hP hS hz hl
  refine lv_lneg hx hb hd ?_
  rw [z_negL]
  exact h H locs lm hP hS hz hl

theorem sd_i2l (B : eB G own cc nL T p s m args c) {a : Int} (hd : decode cc pc = .ok (.i2l, 1)) (h0 : w32 a) (h : eW G A p l e R s m args below meth c nL Q (pc + 1) ls (eL a :: st) M) : eW G A p l e R s m args below meth c nL Q pc ls (eI a :: st) M := by
  obtain ⟨hx, hb, hml, hown, hts, hK, hfld, hldc, hldc2⟩ := B
  intro H locs lm hP hS hz hl
  refine lv_i2l hx hb hd (z_wl a h0) ?_
  exact h H locs lm hP hS hz hl

theorem sd_l2i (B : eB G own cc nL T p s m args c) {a : Int} (hd : decode cc pc = .ok (.l2i, 1))  (h : eW G A p l e R s m args below meth c nL Q (pc + 1) ls (eI a :: st) M) : eW G A p l e R s m args below meth c nL Q pc ls (eL a :: st) M := by
  obtain ⟨hx, hb, hml, hown, hts, hK, hfld, hldc, hldc2⟩ := B
  intro H locs lm hP hS hz hl
  refine lv_l2i hx hb hd (z_li a) ?_
  exact h H locs lm hP hS hz hl

theorem sd_lcmp (B : eB G own cc nL T p s m args c) {a b : Int} (hd : decode cc pc = .ok (.lcmp, 1)) (h0 : w64 a ∧ w64 b) (h : eW G A p l e R s m args below meth c nL Q (pc + 1) ls (eI (zCmp a b) :: st) M) : eW G A p l e R s m args below meth c nL Q pc ls (eL b :: eL a :: st) M := by
  obtain ⟨hx, hb, hml, hown, hts, hK, hfld, hldc, hldc2⟩ := B
  intro H locs lm hP hS hz hl
  refine W.lcmp hx hb hd ?_
  rw [z_cmp h0.1 h0.2]
  exact h H locs lm hP hS hz hl

theorem sd_dup (B : eB G own cc nL T p s m args c) {v : eV} (hd : decode cc pc = .ok (.dup, 1)) (h0 : ∀ w, v ≠ .inl (.inr w)) (h : eW G A p l e R s m args below meth c nL Q (pc + 1) ls (v :: v :: st) M) : eW G A p l e R s m args below meth c nL Q pc ls (v :: st) M := by
  obtain ⟨hx, hb, hml, hown, hts, hK, hfld, hldc, hldc2⟩ := B
  intro H locs lm hP hS hz hl
  refine lv_dup hx hb hd (cv_cat1 G v h0) ?_
  exact h H locs lm hP hS hz hl

theorem sd_pop (B : eB G own cc nL T p s m args c) {v : eV} (hd : decode cc pc = .ok (.pop, 1)) (h0 : ∀ w, v ≠ .inl (.inr w)) (h : eW G A p l e R s m args below meth c nL Q (pc + 1) ls st M) : eW G A p l e R s m args below meth c nL Q pc ls (v :: st) M := by
  obtain ⟨hx, hb, hml, hown, hts, hK, hfld, hldc, hldc2⟩ := B
  intro H locs lm hP hS hz hl
  refine lv_pop hx hb hd (cv_cat1 G v h0) ?_
  exact h H locs lm hP hS hz hl

theorem sd_dup2 (B : eB G own cc nL T p s m args c) {v u : eV} (hd : decode cc pc = .ok (.dup2, 1)) (h0 : ∀ w, v ≠ .inl (.inr w)) (h1 : ∀ w, u ≠ .inl (.inr w)) (h : eW G A p l e R s m args below meth c nL Q (pc + 1) ls (v :: u :: v :: u :: st) M) : eW G A p l e R s m args below meth c nL Q pc ls (v :: u :: st) M := by
  obtain ⟨hx, hb, hml, hown, hts, hK, hfld, hldc, hldc2⟩ := B
  intro H locs lm hP hS hz hl
  refine lv_dup2_11 hx hb hd (cv_cat1 G v h0) (cv_cat1 G u h1) ?_
  exact h H locs lm hP hS hz hl

theorem sd_icmp_eq (B : eB G own cc nL T p s m args c) {a b off : Int} (hd : decode cc pc = .ok (.if_icmp .eq off, 3)) (h0 : w32 a ∧ w32 b) (hj : 0 ≤ (pc : Int) + off) (ht : (a = b) → eW G A p l e R s m args below meth c nL Q ((pc : Int) + off).toNat ls st M) (hf : ¬ (a = b) → eW G A p l e R s m args below meth c nL Q (pc + 3) ls st M) : eW G A p l e R s m args below meth c nL Q pc ls (eI b :: eI a :: st) M := by
  obtain ⟨hx, hb, hml, hown, hts, hK, hfld, hldc, hldc2⟩ := B
  intro H locs lm hP hS hz hl
  refine lv_icmp_eq hx hb hd (ek_tgt hj) (fun hc => ?_) (fun hc => ?_)
  · exact ht ((z_eq h0.1 h0.2).mp hc) H locs lm hP hS hz hl
  · exact hf (by intro q; exact hc ((z_eq h0.1 h0.2).mpr q)) H locs lm hP hS hz hl

theorem sd_icmp_ne (B : eB G own cc nL T p s m args c) {a b off : Int} (hd : decode cc pc = .ok (.if_icmp .ne off, 3)) (h0 : w32 a ∧ w32 b) (hj : 0 ≤ (pc : Int) + off) (ht : (a ≠ b) → eW G A p l e R s m args below meth c nL Q ((pc : Int) + off).toNat ls st M) (hf : ¬ (a ≠ b) → eW G A p l e R s m args below meth c nL Q (pc + 3) ls st M) : eW G A p l e R s m args below meth c nL Q pc ls (eI b :: eI a :: st) M := by
  obtain ⟨hx, hb, hml, hown, hts, hK, hfld, hldc, hldc2⟩ := B
  intro H locs lm hP hS hz hl
  refine lv_icmp_ne hx hb hd (ek_tgt hj) (fun hc => ?_) (fun hc => ?_)
  · exact ht (by intro q; exact hc (by rw [q])) H locs lm hP hS hz hl
  · exact hf (by intro q; exact q ((z_eq h0.1 h0.2).mp hc)) H locs lm hP hS hz hl

theorem sd_icmp_lt (B : eB G own cc nL T p s m args c) {a b off : Int} (hd : decode cc pc = .ok (.if_icmp .lt off, 3)) (h0 : w32 a ∧ w32 b) (hj : 0 ≤ (pc : Int) + off) (ht : (a < b) → eW G A p l e R s m args below meth c nL Q ((pc : Int) + off).toNat ls st M) (hf : ¬ (a < b) → eW G A p l e R s m args below meth c nL Q (pc + 3) ls st M) : eW G A p l e R s m args below meth c nL Q pc ls (eI b :: eI a :: st) M := by
  obtain ⟨hx, hb, hml, hown, hts, hK, hfld, hldc, hldc2⟩ := B
  intro H locs lm hP hS hz hl
  refine lv_icmp_lt hx hb hd (ek_tgt hj) (fun hc => ?_) (fun hc => ?_)
  · exact ht ((z_lt h0.1 h0.2).mp hc) H locs lm hP hS hz hl
  · exact hf (by intro q; exact hc ((z_lt h0.1 h0.2).mpr q)) H locs lm hP hS hz hl

theorem sd_icmp_ge (B : eB G own cc nL T p s m args c) {a b off : Int} (hd : decode cc pc = .ok (.if_icmp .ge off, 3)) (h0 : w32 a ∧ w32 b) (hj : 0 ≤ (pc : Int) + off) (ht : (b ≤ a) → eW G A p l e R s m args below meth c nL Q ((pc : Int) + off).toNat ls st M) (hf : ¬ (b ≤ a) → eW G A p l e R s m args below meth c nL Q (pc + 3) ls st M) : eW G A p l e R s m args below meth c nL Q pc ls (eI b :: eI a :: st) M := by
  obtain ⟨hx, hb, hml, hown, hts, hK, hfld, hldc, hldc2⟩ := B
  intro H locs lm hP hS hz hl
  refine lv_icmp_ge hx hb hd (ek_tgt hj) (fun hc => ?_) (fun hc => ?_)
  · exact ht ((z_le h0.2 h0.1).mp hc) H locs lm hP hS hz hl
  · exact hf (by intro q; exact hc ((z_le h0.2 h0.1).mpr q)) H locs lm hP hS hz hl

theorem sd_icmp_gt (B : eB G own cc nL T p s m args c) {a b off : Int} (hd : decode cc pc = .ok (.if_icmp .gt off, 3)) (h0 : w32 a ∧ w32 b) (hj : 0 ≤ (pc : Int) + off) (ht : (b < a) → eW G A p l e R s m args below meth c nL Q ((pc : Int) + off).toNat ls st M) (hf : ¬ (b < a) → eW G A p l e R s m args below meth c nL Q (pc + 3) ls st M) : eW G A p l e R s m args below meth c nL Q pc ls (eI b :: eI a :: st) M := by
  obtain ⟨hx, hb, hml, hown, hts, hK, hfld, hldc, hldc2⟩ := B
  intro H locs lm hP hS hz hl
  refine lv_icmp_gt hx hb hd (ek_tgt hj) (fun hc => ?_) (fun hc => ?_)
  · exact ht ((z_lt h0.2 h0.1).mp hc) H locs lm hP hS hz hl
  · exact hf (by intro q; exact hc ((z_lt h0.2 h0.1).mpr q)) H locs lm hP hS hz hl

theorem sd_icmp_le (B : eB G own cc nL T p s m args c) {a b off : Int} (hd : decode cc pc = .ok (.if_icmp .le off, 3)) (h0 : w32 a ∧ w32 b) (hj : 0 ≤ (pc : Int) + off) (ht : (a ≤ b) → eW G A p l e R s m args below meth c nL Q ((pc : Int) + off).toNat ls st M) (hf : ¬ (a ≤ b) → eW G A p l e R s m args below meth c nL Q (pc + 3) ls st M) : eW G A p l e R s m args below meth c nL Q pc ls (eI b :: eI a :: st) M := by
  obtain ⟨hx, hb, hml, hown, hts, hK, hfld, hldc, hldc2⟩ := B
  intro H locs lm hP hS hz hl
  refine lv_icmp_le hx hb hd (ek_tgt hj) (fun hc => ?_) (fun hc => ?_)
  · exact ht ((z_le h0.1 h0.2).mp hc) H locs lm hP hS hz hl
  · exact hf (by intro q; exact hc ((z_le h0.1 h0.2).mpr q)) H locs lm hP hS hz hl

theorem sd_if_eq (B : eB G own cc nL T p s m args c) {a off : Int} (hd : decode cc pc = .ok (.ifCond .eq off, 3)) (h0 : w32 a) (hj : 0 ≤ (pc : Int) + off) (ht : (a = 0) → eW G A p l e R s m args below meth c nL Q ((pc : Int) + off).toNat ls st M) (hf : ¬ (a = 0) → eW G A p l e R s m args below meth c nL Q (pc + 3) ls st M) : eW G A p l e R s m args below meth c nL Q pc ls (eI a :: st) M := by
  obtain ⟨hx, hb, hml, hown, hts, hK, hfld, hldc, hldc2⟩ := B
  intro H locs lm hP hS hz hl
  have h9 : w32 0 := by omega
  refine lv_if_eq hx hb hd (ek_tgt hj) (fun hc => ?_) (fun hc => ?_)
  · exact ht ((z_eq h0 h9).mp hc) H locs lm hP hS hz hl
  · exact hf (by intro q; exact hc ((z_eq h0 h9).mpr q)) H locs lm hP hS hz hl

theorem sd_if_ne (B : eB G own cc nL T p s m args c) {a off : Int} (hd : decode cc pc = .ok (.ifCond .ne off, 3)) (h0 : w32 a) (hj : 0 ≤ (pc : Int) + off) (ht : (a ≠ 0) → eW G A p l e R s m args below meth c nL Q ((pc : Int) + off).toNat ls st M) (hf : ¬ (a ≠ 0) → eW G A p l e R s m args below meth c nL Q (pc + 3) ls st M) : eW G A p l e R s m args below meth c nL Q pc ls (eI a :: st) M := by
  obtain ⟨hx, hb, hml, hown, hts, hK, hfld, hldc, hldc2⟩ := B
  intro H locs lm hP hS hz hl
  have h9 : w32 0 := by omega
  refine lv_if_ne hx hb hd (ek_tgt hj) (fun hc => ?_) (fun hc => ?_)
  · exact ht (by intro q; exact hc (by rw [q]; rfl)) H locs lm hP hS hz hl
  · exact hf (by intro q; exact q ((z_eq h0 h9).mp hc)) H locs lm hP hS hz hl

theorem sd_if_lt (B : eB G own cc nL T p s m args c) {a off : Int} (hd : decode cc pc = .ok (.ifCond .lt off, 3)) (h0 : w32 a) (hj : 0 ≤ (pc : Int) + off) (ht : (a < 0) → eW G A p l e R s m args below meth c nL Q ((pc : Int) + off).toNat ls st M) (hf : ¬ (a < 0) → eW G A p l e R s m args below meth c nL Q (pc + 3) ls st M) : eW G A p l e R s m args below meth c nL Q pc ls (eI a :: st) M := by
  obtain ⟨hx, hb, hml, hown, hts, hK, hfld, hldc, hldc2⟩ := B
  intro H locs lm hP hS hz hl
  have h9 : w32 0 := by omega
  refine lv_if_lt hx hb hd (ek_tgt hj) (fun hc => ?_) (fun hc => ?_)
  · exact ht ((z_lt h0 h9).mp hc) H locs lm hP hS hz hl
  · exact hf (by intro q; exact hc ((z_lt h0 h9).mpr q)) H locs lm hP hS hz hl

theorem sd_if_ge (B : eB G own cc nL T p s m args c) {a off : Int} (hd : decode cc pc = .ok (.ifCond .ge off, 3)) (h0 : w32 a) (hj : 0 ≤ (pc : Int) + off) (ht : (0 ≤ a) → eW G A p l e R s m args below meth c nL Q ((pc : Int) + off).toNat ls st M) (hf : ¬ (0 ≤ a) → eW G A p l e R s m args below meth c nL Q (pc + 3) ls st M) : eW G A p l e R s m args below meth c nL Q pc ls (eI a :: st) M := by
  obtain ⟨hx, hb, hml, hown, hts, hK, hfld, hldc, hldc2⟩ := B
  intro H locs lm hP hS hz hl
  have h9 : w32 0 := by omega
  refine lv_if_ge hx hb hd (ek_tgt hj) (fun hc => ?_) (fun hc => ?_)
  · exact ht ((z_le h9 h0).mp hc) H locs lm hP hS hz hl
  · exact hf (by intro q; exact hc ((z_le h9 h0).mpr q)) H locs lm hP hS hz hl

theorem sd_if_gt (B : eB G own cc nL T p s m args c) {a off : Int} (hd : decode cc pc = .ok (.ifCond .gt off, 3)) (h0 : w32 a) (hj : 0 ≤ (pc : Int) + off) (ht : (0 < a) → eW G A p l e R s m args below meth c nL Q ((pc : Int) + off).toNat ls st M) (hf : ¬ (0 < a) → eW G A p l e R s m args below meth c nL Q (pc + 3) ls st M) : eW G A p l e R s m args below meth c nL Q pc ls (eI a :: st) M := by
  obtain ⟨hx, hb, hml, hown, hts, hK, hfld, hldc, hldc2⟩ := B
  intro H locs lm hP hS hz hl
  have h9 : w32 0 := by omega
  refine lv_if_gt hx hb hd (ek_tgt hj) (fun hc => ?_) (fun hc => ?_)
  · exact ht ((z_lt h9 h0).mp hc) H locs lm hP hS hz hl
  · exact hf (by intro q; exact hc ((z_lt h9 h0).mpr q)) H locs lm hP hS hz hl

theorem sd_if_le (B : eB G own cc nL T p s m args c) {a off : Int} (hd : decode cc pc = .ok (.ifCond .le off, 3)) (h0 : w32 a) (hj : 0 ≤ (pc : Int) + off) (ht : (a ≤ 0) → eW G A p l e R s m args below meth c nL Q ((pc : Int) + off).toNat ls st M) (hf : ¬ (a ≤ 0) → eW G A p l e R s m args below meth c nL Q (pc + 3) ls st M) : eW G A p l e R s m args below meth c nL Q pc ls (eI a :: st) M := by
  obtain ⟨hx, hb, hml, hown, hts, hK, hfld, hldc, hldc2⟩ := B
  intro H locs lm hP hS hz hl
  have h9 : w32 0 := by omega
  refine lv_if_le hx hb hd (ek_tgt hj) (fun hc => ?_) (fun hc => ?_)
  · exact ht ((z_le h0 h9).mp hc) H locs lm hP hS hz hl
  · exact hf (by intro q; exact hc ((z_le h0 h9).mpr q)) H locs lm hP hS hz hl

theorem sd_goto (B : eB G own cc nL T p s m args c) {off : Int} (hd : decode cc pc = .ok (.goto off, 3)) (hj : 0 ≤ (pc : Int) + off) (h : eW G A p l e R s m args below meth c nL Q ((pc : Int) + off).toNat ls st M) : eW G A p l e R s m args below meth c nL Q pc ls st M := by
  obtain ⟨hx, hb, hml, hown, hts, hK, hfld, hldc, hldc2⟩ := B
  intro H locs lm hP hS hz hl
  refine lv_goto hx hb hd (ek_tgt hj) ?_
  exact h H locs lm hP hS hz hl

theorem sd_ifnull (B : eB G own cc nL T p s m args c) {off : Int} {v : eA ⊕ Unit} (hd : decode cc pc = .ok (.ifnull off, 3)) (hj : 0 ≤ (pc : Int) + off) (ht : (.inr v : eV) = eN → eW G A p l e R s m args below meth c nL Q ((pc : Int) + off).toNat ls st M) (hf : ¬ (.inr v : eV) = eN → eW G A p l e R s m args below meth c nL Q (pc + 3) ls st M) : eW G A p l e R s m args below meth c nL Q pc ls (.inr v :: st) M := by
  obtain ⟨hx, hb, hml, hown, hts, hK, hfld, hldc, hldc2⟩ := B
  intro H locs lm hP hS hz hl
  rcases v with a | u
  · refine lv_ifnull hx hb hd ?_
    exact hf (by intro q; cases q) H locs lm hP hS hz hl
  · refine lv_ifnullN hx hb hd (ek_tgt hj) ?_
    exact ht rfl H locs lm hP hS hz hl

theorem sd_ifnonnull (B : eB G own cc nL T p s m args c) {off : Int} {v : eA ⊕ Unit} (hd : decode cc pc = .ok (.ifnonnull off, 3)) (hj : 0 ≤ (pc : Int) + off) (ht : ¬ (.inr v : eV) = eN → eW G A p l e R s m args below meth c nL Q ((pc : Int) + off).toNat ls st M) (hf : (.inr v : eV) = eN → eW G A p l e R s m args below meth c nL Q (pc + 3) ls st M) : eW G A p l e R s m args below meth c nL Q pc ls (.inr v :: st) M := by
  obtain ⟨hx, hb, hml, hown, hts, hK, hfld, hldc, hldc2⟩ := B
  intro H locs lm hP hS hz hl
  rcases v with a | u
  · refine lv_ifnonnull hx hb hd (ek_tgt hj) ?_
    exact ht (by intro q; cases q) H locs lm hP hS hz hl
  · refine lv_ifnonnullN hx hb hd ?_
    exact hf rfl H locs lm hP hS hz hl

theorem sW_at {a : Int} {f : Int → Prop} : ∀ (offs : List Int) (lo : Int) (i : Nat) (off : Int), sW a lo offs f → offs[i]? = some off → a = lo + i → f off
  | [], _, i, off, _, h, _ => by simp at h
  | o :: offs, lo, 0, off, hs, h, e => by
    simp at h
    subst h
    exact hs.1 (by omega)
  | o :: offs, lo, i + 1, off, hs, h, e => sW_at offs (lo + 1) i off hs.2 (by simpa using h) (by omega)

theorem sd_table (B : eB G own cc nL T p s m args c) {a d lo hi : Int} {offs : Array Int} {len : Nat} (hd : decode cc pc = .ok (.tableswitch d lo hi offs, len)) (h0 : w32 a) (hj : jOK pc (.tableswitch d lo hi offs) = true) (hn : hi < lo + offs.size) (ht : (a < lo ∨ hi < a) → eW G A p l e R s m args below meth c nL Q ((pc : Int) + d).toNat ls st M) (hs : ¬ a < lo → ¬ hi < a → sW a lo offs.toList fun off => eW G A p l e R s m args below meth c nL Q ((pc : Int) + off).toNat ls st M) : eW G A p l e R s m args below meth c nL Q pc ls (eI a :: st) M := by
  obtain ⟨hx, hb, hml, hown, hts, hK, hfld, hldc, hldc2⟩ := B
  intro H locs lm hP hS hz hl
  simp only [jOK, Bool.and_eq_true, decide_eq_true_eq, List.all_eq_true] at hj
  by_cases h1 : a < lo ∨ hi < a
  · refine lv_tableOut hx hb hd (by rw [z_i a h0]; exact h1) (ek_tgt hj.1) ?_
    exact ht h1 H locs lm hP hS hz hl
  · have h2 : ¬ a < lo := fun q => h1 (Or.inl q)
    have h3 : ¬ hi < a := fun q => h1 (Or.inr q)
    have hlt : (a - lo).toNat < offs.size := by omega
    have ho : offs[(a - lo).toNat]? = some offs[(a - lo).toNat] := Array.getElem?_eq_getElem hlt
    refine lv_tableIn hx hb hd (by rw [z_i a h0]; exact h2) (by rw [z_i a h0]; exact h3) (by rw [z_i a h0]; exact ho) (ek_tgt (hj.2 _ (by simp))) ?_
    exact sW_at _ lo (a - lo).toNat _ (hs h2 h3) (by simpa using ho) (by omega) H locs lm hP hS hz hl

theorem sd_getfield (B : eB G own cc nL T p s m args c) {a : eA} {k : Nat} (hd : decode cc pc = .ok (.getfield k, 3)) (h0 : gF M a (T.1 k) fun v => eW G A p l e R s m args below meth c nL Q (pc + 3) ls (v :: st) M) : eW G A p l e R s m args below meth c nL Q pc ls (eR a :: st) M := by
  obtain ⟨hx, hb, hml, hown, hts, hK, hfld, hldc, hldc2⟩ := B
  intro H locs lm hP hS hz hl
  unfold gF at h0
  split at h0
  case h_2 => exact h0.elim
  rename_i ci fs cj f hM hT
  obtain ⟨rfl, h0⟩ := h0
  split at h0
  case h_2 => exact h0.elim
  rename_i v hv
  obtain ⟨⟨q, hq, hlen, cell, q1, q2, q3, q4⟩, -⟩ := hP.1 a _ hM
  obtain ⟨q', hq', hf, hlink⟩ := hfld k ci f hT
  have hqq : q' = q := Option.some.inj (hq'.symm.trans hq)
  subst hqq
  obtain ⟨hSl, hfc, kC, hkC, hkind⟩ := hK.1 ci _ hq
  obtain ⟨cf, kf, fi, fd, hi, hsl⟩ := hSl f hf
  refine W.getf hx hb hown (hts _ hlink) hi (u_facts hfc hkC (u_lays hts (gW_lay ci _ hq) hf) hi).1 q1 (by rw [q3]; exact fun h => by cases h) (v := cv G v) ?_ rfl rfl hd ?_
  · rw [hsl, q4 f hf]
    simp [vp_V, nV_map G fs f v hv]
  · exact h0 H locs lm hP hS hz hl

theorem sd_putfield (B : eB G own cc nL T p s m args c) {a : eA} {k : Nat} {z : Int} (hd : decode cc pc = .ok (.putfield k, 3)) (h0 : pF M a (T.1 k) z fun M' => eW G A p l e R s m args below meth c nL Q (pc + 3) ls st M') : eW G A p l e R s m args below meth c nL Q pc ls (eI z :: eR a :: st) M := by
  obtain ⟨hx, hb, hml, hown, hts, hK, hfld, hldc, hldc2⟩ := B
  intro H locs lm hP hS hz hl
  unfold pF at h0
  split at h0
  case h_2 => exact h0.elim
  rename_i ci fs cj f hM hT
  obtain ⟨rfl, hkind0, h0⟩ := h0
  obtain ⟨⟨q, hq, hlen, cell, q1, q2, q3, q4⟩, hA⟩ := hP.1 a _ hM
  obtain ⟨q', hq', hf, hlink⟩ := hfld k ci f hT
  have hqq : q' = q := Option.some.inj (hq'.symm.trans hq)
  subst hqq
  obtain ⟨hSl, hfc, kC, hkC, hkind⟩ := hK.1 ci _ hq
  obtain ⟨cf, kf, fi, fd, hi, hsl⟩ := hSl f hf
  have hkk : (q'.2.1 f).2.2.2 = false ∧ ∃ ty, gW_ty ci f = ty ∧ narrow ty (Value.int (Int32.ofInt z)) = Value.int (Int32.ofInt z) ∧ fits ty (Value.int (Int32.ofInt z)) = true := by
    unfold fK at hkind0
    rw [hq] at hkind0
    simp only [hf, if_true] at hkind0
    by_cases hfin : (q'.2.1 f).2.2.2 = false
    · refine ⟨hfin, gW_ty ci f, rfl, ?_⟩
      rw [if_pos hfin] at hkind0
      cases hty : gW_ty ci f <;> rw [hty] at hkind0 <;> simp only [] at hkind0 <;> first | exact hkind0.elim | exact ⟨rfl, rfl⟩ | (rcases hkind0 with rfl | rfl <;> exact ⟨by decide, by decide⟩)
    · rw [if_neg hfin] at hkind0
      exact hkind0.elim
  obtain ⟨hfin, ty, hty, hn, hfit⟩ := hkk
  have hap := (gW_tyok ci q' hq)
  have hlay := hts _ (gW_lay ci _ hq _ (u_in_lay hf))
  unfold u_lay at hlay
  rw [if_neg (by rw [hfin]; decide)] at hlay
  have hst := (u_facts hfc hkC (u_lays hts (gW_lay ci _ hq) hf) hi).1
  have h6 := u_store hfc hkC hkind hlay hi ((hap.1 f hf).trans (by rw [hty])) hn hfit
  refine W.putK hx hb (f := fd) ⟨hown, hts _ hlink, ⟨_, _, _, hi⟩, hst⟩ (by rw [q2]; exact h6) q1 q3 (by rw [hsl]; exact k2_hasslot (q4 f hf)) rfl rfl hd fun H' e1 e2 e3 => ?_
  rw [hsl] at e1 ⊢
  have hapart : ∀ x y, x < q'.2.2 → y < q'.2.2 → x ≠ y → G.1.2 ci x ≠ G.1.2 ci y := by
    intro x y hx' hy' hne
    obtain ⟨_, _, _, fa, hia, ea⟩ := hSl x hx'
    obtain ⟨_, _, _, fb, hib, eb⟩ := hSl y hy'
    rw [← ea, ← eb]
    refine u_apart (u_lays hts (gW_lay ci _ hq) hx') (u_lays hts (gW_lay ci _ hq) hy') hia hib ?_
    rw [(State.fieldFound?_type hia (hap.1 x hx')).1, (State.fieldFound?_type hib (hap.1 y hy')).1]
    exact hap.2 x hx' y hy' hne
  refine h0 H' _ lm (hP.up hM ?_ e3) (hS.put e2 e3 hA) (e2.trans hz) hl
  refine ⟨q', hq, by rw [uV_len]; exact hlen, t_OB.to (V := updV (vp_V (fs.map (cv G))) f (.int (Int32.ofInt z))) ⟨_, e1, q2, q3, t_set q4 hapart hf _⟩ (fun j _ => ?_)⟩
  rw [uV_map]
  exact vp_updV_set (by rw [List.length_map, hlen]; exact hf) _ j

theorem sd_iaload (B : eB G own cc nL T p s m args c) {a : eA} {i : Int} (hd : decode cc pc = .ok (.iaload, 1)) (h0 : gA M a 0 i fun v => eW G A p l e R s m args below meth c nL Q (pc + 1) ls (v :: st) M) : eW G A p l e R s m args below meth c nL Q pc ls (eI i :: eR a :: st) M := by
  obtain ⟨hx, hb, hml, hown, hts, hK, hfld, hldc, hldc2⟩ := B
  intro H locs lm hP hS hz hl
  unfold gA at h0
  split at h0
  case h_2 => exact h0.elim
  rename_i t n f hM
  obtain ⟨rfl, hi, h0⟩ := h0
  obtain ⟨hc, -⟩ := hP.1 a _ hM
  obtain ⟨c1, c2, c3⟩ := e_clamp hi
  refine W.iald (v := cv G (f i)) hx hb hc (hK.2 0 .int rfl n _) (fun q => by cases q) (by rw [arrV_size]; exact c2) ?_ rfl rfl hd ?_
  · rw [c1, arrV_read _ _ c3, Int.toNat_of_nonneg hi.1]
  · exact h0 H locs lm hP hS hz hl

theorem sd_laload (B : eB G own cc nL T p s m args c) {a : eA} {i : Int} (hd : decode cc pc = .ok (.laload, 1)) (h0 : gA M a 1 i fun v => eW G A p l e R s m args below meth c nL Q (pc + 1) ls (v :: st) M) : eW G A p l e R s m args below meth c nL Q pc ls (eI i :: eR a :: st) M := by
  obtain ⟨hx, hb, hml, hown, hts, hK, hfld, hldc, hldc2⟩ := B
  intro H locs lm hP hS hz hl
  unfold gA at h0
  split at h0
  case h_2 => exact h0.elim
  rename_i t n f hM
  obtain ⟨rfl, hi, h0⟩ := h0
  obtain ⟨hc, -⟩ := hP.1 a _ hM
  obtain ⟨c1, c2, c3⟩ := e_clamp hi
  refine W.lald (v := cv G (f i)) hx hb hc (hK.2 1 .long rfl n _) (fun q => by cases q) (by rw [arrV_size]; exact c2) ?_ rfl rfl hd ?_
  · rw [c1, arrV_read _ _ c3, Int.toNat_of_nonneg hi.1]
  · exact h0 H locs lm hP hS hz hl

theorem sd_baload (B : eB G own cc nL T p s m args c) {a : eA} {i : Int} (hd : decode cc pc = .ok (.baload, 1)) (h0 : gA M a 2 i fun v => eW G A p l e R s m args below meth c nL Q (pc + 1) ls (v :: st) M) : eW G A p l e R s m args below meth c nL Q pc ls (eI i :: eR a :: st) M := by
  obtain ⟨hx, hb, hml, hown, hts, hK, hfld, hldc, hldc2⟩ := B
  intro H locs lm hP hS hz hl
  unfold gA at h0
  split at h0
  case h_2 => exact h0.elim
  rename_i t n f hM
  obtain ⟨rfl, hi, h0⟩ := h0
  obtain ⟨hc, -⟩ := hP.1 a _ hM
  obtain ⟨c1, c2, c3⟩ := e_clamp hi
  refine W.zald (v := cv G (f i)) hx hb hc (hK.2 2 .boolean rfl n _) (fun q => by cases q) (by rw [arrV_size]; exact c2) ?_ rfl rfl hd ?_
  · rw [c1, arrV_read _ _ c3, Int.toNat_of_nonneg hi.1]
  · exact h0 H locs lm hP hS hz hl

theorem sd_aaload (B : eB G own cc nL T p s m args c) {a : eA} {i : Int} (hd : decode cc pc = .ok (.aaload, 1)) (h0 : gR M a i fun v => eW G A p l e R s m args below meth c nL Q (pc + 1) ls (v :: st) M) : eW G A p l e R s m args below meth c nL Q pc ls (eI i :: eR a :: st) M := by
  obtain ⟨hx, hb, hml, hown, hts, hK, hfld, hldc, hldc2⟩ := B
  intro H locs lm hP hS hz hl
  unfold gR at h0
  split at h0
  case h_2 => exact h0.elim
  rename_i t n f hM
  obtain ⟨ht3, ht6, hi, h0⟩ := h0
  obtain ⟨hc, -⟩ := hP.1 a _ hM
  obtain ⟨c1, c2, c3⟩ := e_clamp hi
  obtain ⟨ty, hty, href⟩ : ∃ ty, eTy[t]? = some ty ∧ ty.isReference = true := by
    rcases (show t = 3 ∨ t = 4 ∨ t = 5 ∨ t = 6 by omega) with rfl | rfl | rfl | rfl <;> exact ⟨_, rfl, rfl⟩
  refine W.aald (v := cv G (f i)) hx hb hc (hK.2 t ty hty n _) href (fun q => by cases q) (by rw [arrV_size]; exact c2) ?_ rfl rfl hd ?_
  · rw [c1, arrV_read _ _ c3, Int.toNat_of_nonneg hi.1]
  · exact h0 H locs lm hP hS hz hl

theorem sd_iastore (B : eB G own cc nL T p s m args c) {a : eA} {i z : Int} (hd : decode cc pc = .ok (.iastore, 1))  (h0 : pY M a 0 i (eI z) fun M' => eW G A p l e R s m args below meth c nL Q (pc + 1) ls st M') : eW G A p l e R s m args below meth c nL Q pc ls (eI z :: eI i :: eR a :: st) M := by
  obtain ⟨hx, hb, hml, hown, hts, hK, hfld, hldc, hldc2⟩ := B
  intro H locs lm hP hS hz hl
  unfold pY at h0
  split at h0
  case h_2 => exact h0.elim
  rename_i t n f hM
  obtain ⟨rfl, hi, h0⟩ := h0
  obtain ⟨hc, hA⟩ := hP.1 a _ hM
  obtain ⟨c1, c2, c3⟩ := e_clamp hi
  refine W.iast hx hb hc (hK.2 0 .int rfl n _) (fun q => by cases q) (by rw [arrV_size]; exact c2) rfl rfl hd fun H' e1 e2 e3 => ?_
  refine h0 H' _ lm (hP.up hM ?_ e3) (hS.put e2 e3 hA) (e2.trans hz) hl
  show H'[G.2.2 a]? = some (arrV _ n _)
  rw [e1, arrV_store, c1]
  congr 2
  funext j
  unfold updV fUp
  by_cases hj : j = i.toNat
  · subst hj
    rw [if_pos rfl, if_pos (Int.toNat_of_nonneg hi.1)]
    rfl
  · rw [if_neg hj, if_neg (by omega)]

theorem sd_lastore (B : eB G own cc nL T p s m args c) {a : eA} {i z : Int} (hd : decode cc pc = .ok (.lastore, 1))  (h0 : pY M a 1 i (eL z) fun M' => eW G A p l e R s m args below meth c nL Q (pc + 1) ls st M') : eW G A p l e R s m args below meth c nL Q pc ls (eL z :: eI i :: eR a :: st) M := by
  obtain ⟨hx, hb, hml, hown, hts, hK, hfld, hldc, hldc2⟩ := B
  intro H locs lm hP hS hz hl
  unfold pY at h0
  split at h0
  case h_2 => exact h0.elim
  rename_i t n f hM
  obtain ⟨rfl, hi, h0⟩ := h0
  obtain ⟨hc, hA⟩ := hP.1 a _ hM
  obtain ⟨c1, c2, c3⟩ := e_clamp hi
  refine W.last hx hb hc (hK.2 1 .long rfl n _) (fun q => by cases q) (by rw [arrV_size]; exact c2) rfl rfl hd fun H' e1 e2 e3 => ?_
  refine h0 H' _ lm (hP.up hM ?_ e3) (hS.put e2 e3 hA) (e2.trans hz) hl
  show H'[G.2.2 a]? = some (arrV _ n _)
  rw [e1, arrV_store, c1]
  congr 2
  funext j
  unfold updV fUp
  by_cases hj : j = i.toNat
  · subst hj
    rw [if_pos rfl, if_pos (Int.toNat_of_nonneg hi.1)]
    rfl
  · rw [if_neg hj, if_neg (by omega)]

theorem sd_bastore (B : eB G own cc nL T p s m args c) {a : eA} {i z : Int} (hd : decode cc pc = .ok (.bastore, 1)) (h1 : z = 0 ∨ z = 1) (h0 : pY M a 2 i (eI z) fun M' => eW G A p l e R s m args below meth c nL Q (pc + 1) ls st M') : eW G A p l e R s m args below meth c nL Q pc ls (eI z :: eI i :: eR a :: st) M := by
  obtain ⟨hx, hb, hml, hown, hts, hK, hfld, hldc, hldc2⟩ := B
  intro H locs lm hP hS hz hl
  unfold pY at h0
  split at h0
  case h_2 => exact h0.elim
  rename_i t n f hM
  obtain ⟨rfl, hi, h0⟩ := h0
  obtain ⟨hc, hA⟩ := hP.1 a _ hM
  obtain ⟨c1, c2, c3⟩ := e_clamp hi
  have hnar : narrow .boolean (Value.int (Int32.ofInt z)) = Value.int (Int32.ofInt z) := by rcases h1 with rfl | rfl <;> decide
  refine W.zast hx hb hc (hK.2 2 .boolean rfl n _) (fun q => by cases q) (by rw [arrV_size]; exact c2) rfl rfl hd fun H' e1 e2 e3 => ?_
  rw [hnar] at e1
  refine h0 H' _ lm (hP.up hM ?_ e3) (hS.put e2 e3 hA) (e2.trans hz) hl
  show H'[G.2.2 a]? = some (arrV _ n _)
  rw [e1, arrV_store, c1]
  congr 2
  funext j
  unfold updV fUp
  by_cases hj : j = i.toNat
  · subst hj
    rw [if_pos rfl, if_pos (Int.toNat_of_nonneg hi.1)]
    rfl
  · rw [if_neg hj, if_neg (by omega)]

theorem sd_arraylength (B : eB G own cc nL T p s m args c) {a : eA} (hd : decode cc pc = .ok (.arraylength, 1)) (h0 : gN M a fun n => eW G A p l e R s m args below meth c nL Q (pc + 1) ls (eI n :: st) M) : eW G A p l e R s m args below meth c nL Q pc ls (eR a :: st) M := by
  obtain ⟨hx, hb, hml, hown, hts, hK, hfld, hldc, hldc2⟩ := B
  intro H locs lm hP hS hz hl
  unfold gN at h0
  split at h0
  case h_2 => exact h0.elim
  rename_i t n f hM
  obtain ⟨ht6, hn, h0⟩ := h0
  obtain ⟨hc, -⟩ := hP.1 a _ hM
  obtain ⟨ty, hty⟩ : ∃ ty, eTy[t]? = some ty := by
    rcases (show t = 0 ∨ t = 1 ∨ t = 2 ∨ t = 3 ∨ t = 4 ∨ t = 5 ∨ t = 6 by omega) with rfl | rfl | rfl | rfl | rfl | rfl | rfl <;> exact ⟨_, rfl⟩
  refine W.alen (n := Int32.ofInt (n : Int)) hx hb hc (hK.2 t ty hty n _) ?_ rfl rfl hd ?_
  · rw [arrV_size]
    exact z_nat n
  · exact h0 H locs lm hP hS hz hl

end ES2
