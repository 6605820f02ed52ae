/-! Making: the engine's rows with the cells counted that were made since the entry. A method that makes cells is walked at fixed places: the map from names to addresses is known before. -/
/-- what the tables say of the arrays' classes -/
def eRC : List String := ["ConicMeet$Whole", "ConicMeet$Row", "ConicMeet$Grid"]
def eNst : List (String × Nat × MethodName × String) := [(RX9, 11, yX1_init, RX9), (RX9, 14, yX6_init, RX9)]
def eFC (G : eG) (U : State) : Prop := (∀ (t : Nat) (ty : FieldType), eTy[t]? = some ty → va_RA U (G.2.1 t) ty) ∧ (∀ C ∈ eRC, va_AO C U) ∧ va_AOA .int U ∧ ∀ q ∈ eNst, va_Nw (.methodLinkNest q.1 q.2.1 q.2.2.1 q.2.2.2) U
theorem va_AOA.moved {t : FieldType} {u U : State} (hvm : u.vm.Alike U.vm) (h : va_AOA t u) : va_AOA t U := by
  unfold va_AOA Cond.before Cond.holds at h
  simp only [Cond.value, beq_iff_eq, Option.bind_eq_some_iff, Option.map_eq_some_iff] at h
  obtain ⟨comp, h1, c, h2, k, h3, h4⟩ := h
  obtain ⟨k', hk', he⟩ := hvm.2.2 _ _ h3
  have hi : (U.vm.classes.findIdx? fun (x : Class) => match x.kind with | .array component _ => component == comp | _ => false) = some c := by
    have e1 := va_idx_bare U.vm comp
    have e2 := va_idx_bare u.vm comp
    first | rw [hvm.bare_eq] at e1 | rw [← hvm.bare_eq] at e1
    exact e1.symm.trans (e2.trans h2)
  have hkind : k'.kind = k.kind := by rw [he]
  unfold va_AOA Cond.before Cond.holds
  simp only [Cond.value, beq_iff_eq, Option.bind_eq_some_iff, Option.map_eq_some_iff]
  refine ⟨comp, by rw [hvm.findClass]; exact h1, c, hi, k', hk', ?_⟩
  rw [hkind, hvm.findClass]
  exact h4
theorem eFC.warm {G : eG} {s U : State} (hW : s.WarmedH U.vm) (h : eFC G s) : eFC G U := ⟨fun t ty ht => va_RA.moved hW.alike (h.1 t ty ht), fun C hC => (h.2.1 C hC).moved hW.alike, h.2.2.1.moved hW.alike, fun q hq => (h.2.2.2 q hq).warmM hW⟩
theorem eFC.same {G : eG} {u U : State} (hv : u.vm = U.vm) (h : eFC G u) : eFC G U := by
  have hvm : u.vm.Alike U.vm := by rw [hv]; exact Vm.Alike.refl _
  exact ⟨fun t ty ht => va_RA.moved hvm (h.1 t ty ht), fun C hC => (h.2.1 C hC).moved hvm, h.2.2.1.moved hvm, fun q hq => (h.2.2.2 q hq).same rfl hv⟩
section NW
variable (G : eG) (A : Nat → Prop) (p : Program) (l : Launch) (e : Env) (R : Room) (s : State) (m : MethodId) (args : Array Value) (below : List Frame) (meth : Method) (c : Code) (nL : Nat) (Q : State → Prop)
def nW (n k0 : Nat) (pc : Nat) (ls : List (Option eV)) (st : List eV) (M : eM) : Prop :=
  ∀ (H : Heap) (locs : List Loc) (lm : Array Slot), eP G A M H → va_S A s.heap H locs → H.size = s.heap.size + n → eLs G nL ls lm → W p l e R s m args below meth c H locs n k0 Q (F0 m pc lm (st.map (cv G)))
end NW
theorem eAt.lt {G : eG} {a : eA} {H : Heap} {c : eC} (h : eAt G a H c) : G.2.2 a < H.size := by
  rcases c with ⟨c, fs⟩ | ⟨t, n, f⟩
  · obtain ⟨q, -, -, cell, h3, -⟩ := h
    exact (Array.getElem?_eq_some_iff.mp h3).1
  · exact (Array.getElem?_eq_some_iff.mp (show H[G.2.2 a]? = some _ from h)).1
/-- a cell more -/
theorem eP.more {G : eG} {A : Nat → Prop} {M : eM} {H H1 : Heap} {a : eA} {c : eC} (h : eP G A M H) (ha : G.2.2 a = H.size) (hA : A H.size) (hc : eAt G a H1 c) (o1 : ∀ q : Nat, q < H.size → H1[q]? = H[q]?) : eP G A (eUp M a c) H1 := by
  refine ⟨fun b d hb => ?_, fun x y d1 d2 hx hy hxy => ?_⟩
  · by_cases e : b = a
    · subst e
      unfold eUp at hb
      rw [if_pos rfl] at hb
      cases hb
      exact ⟨hc, by rw [ha]; exact hA⟩
    · unfold eUp at hb
      rw [if_neg e] at hb
      obtain ⟨g1, g2⟩ := h.1 b d hb
      exact ⟨g1.kept (o1 _ g1.lt), g2⟩
  · unfold eUp at hx hy
    by_cases e1 : x = a <;> by_cases e2 : y = a
    · rw [e1, e2]
    · rw [if_neg e2] at hy
      have := (h.1 y d2 hy).1.lt
      rw [e1] at hxy
      omega
    · rw [if_neg e1] at hx
      have := (h.1 x d1 hx).1.lt
      rw [e2] at hxy
      omega
    · rw [if_neg e1] at hx
      rw [if_neg e2] at hy
      exact h.2 x y d1 d2 hx hy hxy
section ND
variable {G : eG} {A : Nat → Prop} {p : Program} {l : Launch} {e : Env} {R : Room} {s : State} {m : MethodId} {args : Array Value} {below : List Frame} {meth : Method} {c : Code} {nL : Nat} {Q : State → Prop} {own : String} {cc : ByteArray} {T : eT} {ls : List (Option eV)} {st : List eV} {M : eM} {pc : Nat} {n k0 : Nat}
theorem nd_iconst (B : eB G own cc nL T p s m args c) {z : Int} (hd : decode cc pc = .ok (.iconst z, 1))  (h : nW G A p l e R s m args below meth c nL Q n k0 (pc + 1) ls (eI z :: st) M) : nW G A p l e R s m args below meth c nL Q n k0 pc ls st M := by
  obtain ⟨hx, hb, hml, hown, hts, hK, hfld, hldc, hldc2⟩ := B
  intro H locs lm hP hS hz hl
  refine lv_iconst hx hb hd rfl ?_
  exact h H locs lm hP hS hz hl
theorem nd_bipush (B : eB G own cc nL T p s m args c) {z : Int} (hd : decode cc pc = .ok (.bipush z, 2)) (h0 : -128 ≤ z ∧ z < 128) (h : nW G A p l e R s m args below meth c nL Q n k0 (pc + 2) ls (eI z :: st) M) : nW G A p l e R s m args below meth c nL Q n k0 pc ls st M := by
  obtain ⟨hx, hb, hml, hown, hts, hK, hfld, hldc, hldc2⟩ := B
  intro H locs lm hP hS hz hl
  refine lv_bipush hx hb hd (z_byte z h0) ?_
  exact h H locs lm hP hS hz hl
theorem nd_sipush (B : eB G own cc nL T p s m args c) {z : Int} (hd : decode cc pc = .ok (.sipush z, 3)) (h0 : -32768 ≤ z ∧ z < 32768) (h : nW G A p l e R s m args below meth c nL Q n k0 (pc + 3) ls (eI z :: st) M) : nW G A p l e R s m args below meth c nL Q n k0 pc ls st M := by
  obtain ⟨hx, hb, hml, hown, hts, hK, hfld, hldc, hldc2⟩ := B
  intro H locs lm hP hS hz hl
  refine lv_sipush hx hb hd (z_short z h0) ?_
  exact h H locs lm hP hS hz hl
theorem nd_lconst (B : eB G own cc nL T p s m args c) {z : Fin 2} (hd : decode cc pc = .ok (.lconst z, 1))  (h : nW G A p l e R s m args below meth c nL Q n k0 (pc + 1) ls (eL (z.val : Int) :: st) M) : nW G A p l e R s m args below meth c nL Q n k0 pc ls st M := by
  obtain ⟨hx, hb, hml, hown, hts, hK, hfld, hldc, hldc2⟩ := B
  intro H locs lm hP hS hz hl
  refine lv_lconst hx hb hd rfl ?_
  exact h H locs lm hP hS hz hl
theorem nd_ldc (B : eB G own cc nL T p s m args c) {k : Nat} {z : Int} (hd : decode cc pc = .ok (.ldc k, 2)) (h0 : T.2.1 k = some z) (h : nW G A p l e R s m args below meth c nL Q n k0 (pc + 2) ls (eI z :: st) M) : nW G A p l e R s m args below meth c nL Q n k0 pc ls st M := by
  obtain ⟨hx, hb, hml, hown, hts, hK, hfld, hldc, hldc2⟩ := B
  intro H locs lm hP hS hz hl
  refine W.ldc hx hb hown (hts _ (hldc k z h0)) rfl hd ?_
  exact h H locs lm hP hS hz hl
theorem nd_iload (B : eB G own cc nL T p s m args c) {k : Nat} {z : Int} (hd : decode cc pc = .ok (.iload k, 2)) (h0 : lG ls k = some (eI z)) (h : nW G A p l e R s m args below meth c nL Q n k0 (pc + 2) ls (eI z :: st) M) : nW G A p l e R s m args below meth c nL Q n k0 pc ls st M := by
  obtain ⟨hx, hb, hml, hown, hts, hK, hfld, hldc, hldc2⟩ := B
  intro H locs lm hP hS hz hl
  refine lv_iload hx hb hd (hl.at h0) ?_
  exact h H locs lm hP hS hz hl
theorem nd_iload_n (B : eB G own cc nL T p s m args c) {k : Fin 4} {z : Int} (hd : decode cc pc = .ok (.iload_n k, 1)) (h0 : lG ls k.val = some (eI z)) (h : nW G A p l e R s m args below meth c nL Q n k0 (pc + 1) ls (eI z :: st) M) : nW G A p l e R s m args below meth c nL Q n k0 pc ls st M := by
  obtain ⟨hx, hb, hml, hown, hts, hK, hfld, hldc, hldc2⟩ := B
  intro H locs lm hP hS hz hl
  refine lv_iload_n hx hb hd rfl (hl.at h0) ?_
  exact h H locs lm hP hS hz hl
theorem nd_aload (B : eB G own cc nL T p s m args c) {k : Nat} {z : eA ⊕ Unit} (hd : decode cc pc = .ok (.aload k, 2)) (h0 : lG ls k = some (.inr z)) (h : nW G A p l e R s m args below meth c nL Q n k0 (pc + 2) ls (.inr z :: st) M) : nW G A p l e R s m args below meth c nL Q n k0 pc ls st M := by
  obtain ⟨hx, hb, hml, hown, hts, hK, hfld, hldc, hldc2⟩ := B
  intro H locs lm hP hS hz hl
  rcases z with a | u
  · refine lv_aload hx hb hd (hl.at h0) ?_
    exact h H locs lm hP hS hz hl
  · refine lv_aloadN hx hb hd (hl.at h0) ?_
    exact h H locs lm hP hS hz hl
theorem nd_aload_n (B : eB G own cc nL T p s m args c) {k : Fin 4} {z : eA ⊕ Unit} (hd : decode cc pc = .ok (.aload_n k, 1)) (h0 : lG ls k.val = some (.inr z)) (h : nW G A p l e R s m args below meth c nL Q n k0 (pc + 1) ls (.inr z :: st) M) : nW G A p l e R s m args below meth c nL Q n k0 pc ls st M := by
  obtain ⟨hx, hb, hml, hown, hts, hK, hfld, hldc, hldc2⟩ := B
  intro H locs lm hP hS hz hl
  rcases z with a | u
  · refine lv_aload_n hx hb hd rfl (hl.at h0) ?_
    exact h H locs lm hP hS hz hl
  · refine lv_aload_nN hx hb hd rfl (hl.at h0) ?_
    exact h H locs lm hP hS hz hl
theorem nd_istore_n (B : eB G own cc nL T p s m args c) {k : Fin 4} {z : Int} (hd : decode cc pc = .ok (.istore_n k, 1)) (h1 : k.val < nL) (h : nW G A p l e R s m args below meth c nL Q n k0 (pc + 1) (lS ls k.val (eI z)) st M) : nW G A p l e R s m args below meth c nL Q n k0 pc ls (eI z :: st) M := by
  obtain ⟨hx, hb, hml, hown, hts, hK, hfld, hldc, hldc2⟩ := B
  intro H locs lm hP hS hz hl
  refine lv_istore_n hx hb hd rfl hl.has h1 rfl fun lm' hl' => ?_
  exact h H locs lm' hP hS hz (hl.set1 h1 hl')
theorem nd_astore_n (B : eB G own cc nL T p s m args c) {k : Fin 4} {z : eA ⊕ Unit} (hd : decode cc pc = .ok (.astore_n k, 1)) (h1 : k.val < nL) (h : nW G A p l e R s m args below meth c nL Q n k0 (pc + 1) (lS ls k.val (.inr z)) st M) : nW G A p l e R s m args below meth c nL Q n k0 pc ls (.inr z :: st) M := by
  obtain ⟨hx, hb, hml, hown, hts, hK, hfld, hldc, hldc2⟩ := B
  intro H locs lm hP hS hz hl
  rcases z with a | u
  · refine lv_astore_n hx hb hd rfl hl.has h1 rfl fun lm' hl' => ?_
    exact h H locs lm' hP hS hz (hl.set1 (v := .inr (.inl a)) h1 hl')
  · refine lv_astore_nN hx hb hd rfl hl.has h1 rfl fun lm' hl' => ?_
    exact h H locs lm' hP hS hz (hl.set1 (v := .inr (.inr u)) h1 hl')
theorem nd_iinc (B : eB G own cc nL T p s m args c) {k : Nat} {d z : Int} (hd : decode cc pc = .ok (.iinc k d, 3)) (h0 : lG ls k = some (eI z)) (h1 : k < nL) (h : nW G A p l e R s m args below meth c nL Q n k0 (pc + 3) (lS ls k (eI (z + d))) st M) : nW G A p l e R s m args below meth c nL Q n k0 pc ls st M := by
  obtain ⟨hx, hb, hml, hown, hts, hK, hfld, hldc, hldc2⟩ := B
  intro H locs lm hP hS hz hl
  obtain ⟨i, hi⟩ := List.getElem?_of_mem ((eAs_mem G ls 0 _).mpr ⟨k, eI z, rfl, h0⟩)
  rw [Nat.zero_add] at hi
  refine lv_iinc hx hb hd hl.has hi (v := Int32.ofInt (z + d)) (z_add z d) h1 rfl fun lm' hl' => ?_
  exact h H locs lm' hP hS hz (hl.set1 (v := eI (z + d)) h1 hl')
theorem nd_dup (B : eB G own cc nL T p s m args c) {v : eV} (hd : decode cc pc = .ok (.dup, 1)) (h0 : ∀ w, v ≠ .inl (.inr w)) (h : nW G A p l e R s m args below meth c nL Q n k0 (pc + 1) ls (v :: v :: st) M) : nW G A p l e R s m args below meth c nL Q n k0 pc ls (v :: st) M := by
  obtain ⟨hx, hb, hml, hown, hts, hK, hfld, hldc, hldc2⟩ := B
  intro H locs lm hP hS hz hl
  refine lv_dup hx hb hd (cv_cat1 G v h0) ?_
  exact h H locs lm hP hS hz hl
theorem nd_icmp_ge (B : eB G own cc nL T p s m args c) {a b off : Int} (hd : decode cc pc = .ok (.if_icmp .ge off, 3)) (h0 : w32 a ∧ w32 b) (hj : 0 ≤ (pc : Int) + off) (ht : (b ≤ a) → nW G A p l e R s m args below meth c nL Q n k0 ((pc : Int) + off).toNat ls st M) (hf : ¬ (b ≤ a) → nW G A p l e R s m args below meth c nL Q n k0 (pc + 3) ls st M) : nW G A p l e R s m args below meth c nL Q n k0 pc ls (eI b :: eI a :: st) M := by
  obtain ⟨hx, hb, hml, hown, hts, hK, hfld, hldc, hldc2⟩ := B
  intro H locs lm hP hS hz hl
  refine lv_icmp_ge hx hb hd (ek_tgt hj) (fun hc => ?_) (fun hc => ?_)
  · exact ht ((z_le h0.2 h0.1).mp hc) H locs lm hP hS hz hl
  · exact hf (by intro q; exact hc ((z_le h0.2 h0.1).mpr q)) H locs lm hP hS hz hl
theorem nd_goto (B : eB G own cc nL T p s m args c) {off : Int} (hd : decode cc pc = .ok (.goto off, 3)) (hj : 0 ≤ (pc : Int) + off) (h : nW G A p l e R s m args below meth c nL Q n k0 ((pc : Int) + off).toNat ls st M) : nW G A p l e R s m args below meth c nL Q n k0 pc ls st M := by
  obtain ⟨hx, hb, hml, hown, hts, hK, hfld, hldc, hldc2⟩ := B
  intro H locs lm hP hS hz hl
  refine lv_goto hx hb hd (ek_tgt hj) ?_
  exact h H locs lm hP hS hz hl
theorem nd_getfield (B : eB G own cc nL T p s m args c) {a : eA} {k : Nat} (hd : decode cc pc = .ok (.getfield k, 3)) (h0 : gF M a (T.1 k) fun v => nW G A p l e R s m args below meth c nL Q n k0 (pc + 3) ls (v :: st) M) : nW G A p l e R s m args below meth c nL Q n k0 pc ls (eR a :: st) M := by
  obtain ⟨hx, hb, hml, hown, hts, hK, hfld, hldc, hldc2⟩ := B
  intro H locs lm hP hS hz hl
  unfold gF at h0
  split at h0
  case h_2 => exact h0.elim
  rename_i ci fs cj f hM hT
  obtain ⟨rfl, h0⟩ := h0
  split at h0
  case h_2 => exact h0.elim
  rename_i v hv
  obtain ⟨⟨q, hq, hlen, cell, q1, q2, q3, q4⟩, -⟩ := hP.1 a _ hM
  obtain ⟨q', hq', hf, hlink⟩ := hfld k ci f hT
  have hqq : q' = q := Option.some.inj (hq'.symm.trans hq)
  subst hqq
  obtain ⟨hSl, hfc, kC, hkC, hkind⟩ := hK.1 ci _ hq
  obtain ⟨cf, kf, fi, fd, hi, hsl⟩ := hSl f hf
  refine W.getf hx hb hown (hts _ hlink) hi (u_facts hfc hkC (u_lays hts (gW_lay ci _ hq) hf) hi).1 q1 (by rw [q3]; exact fun h => by cases h) (v := cv G v) ?_ rfl rfl hd ?_
  · rw [hsl, q4 f hf]
    simp [vp_V, nV_map G fs f v hv]
  · exact h0 H locs lm hP hS hz hl
theorem nd_putfield (B : eB G own cc nL T p s m args c) {a : eA} {k : Nat} {z : Int} (hd : decode cc pc = .ok (.putfield k, 3)) (h0 : pF M a (T.1 k) z fun M' => nW G A p l e R s m args below meth c nL Q n k0 (pc + 3) ls st M') : nW G A p l e R s m args below meth c nL Q n k0 pc ls (eI z :: eR a :: st) M := by
  obtain ⟨hx, hb, hml, hown, hts, hK, hfld, hldc, hldc2⟩ := B
  intro H locs lm hP hS hz hl
  unfold pF at h0
  split at h0
  case h_2 => exact h0.elim
  rename_i ci fs cj f hM hT
  obtain ⟨rfl, hkind0, h0⟩ := h0
  obtain ⟨⟨q, hq, hlen, cell, q1, q2, q3, q4⟩, hA⟩ := hP.1 a _ hM
  obtain ⟨q', hq', hf, hlink⟩ := hfld k ci f hT
  have hqq : q' = q := Option.some.inj (hq'.symm.trans hq)
  subst hqq
  obtain ⟨hSl, hfc, kC, hkC, hkind⟩ := hK.1 ci _ hq
  obtain ⟨cf, kf, fi, fd, hi, hsl⟩ := hSl f hf
  have hkk : (q'.2.1 f).2.2.2 = false ∧ ∃ ty, gW_ty ci f = ty ∧ narrow ty (Value.int (Int32.ofInt z)) = Value.int (Int32.ofInt z) ∧ fits ty (Value.int (Int32.ofInt z)) = true := by
    unfold fK at hkind0
    rw [hq] at hkind0
    simp only [hf, if_true] at hkind0
    by_cases hfin : (q'.2.1 f).2.2.2 = false
    · refine ⟨hfin, gW_ty ci f, rfl, ?_⟩
      rw [if_pos hfin] at hkind0
      cases hty : gW_ty ci f <;> rw [hty] at hkind0 <;> simp only [] at hkind0 <;> first | exact hkind0.elim | exact ⟨rfl, rfl⟩ | (rcases hkind0 with rfl | rfl <;> exact ⟨by decide, by decide⟩)
    · rw [if_neg hfin] at hkind0
      exact hkind0.elim
  obtain ⟨hfin, ty, hty, hn, hfit⟩ := hkk
  have hap := (gW_tyok ci q' hq)
  have hlay := hts _ (gW_lay ci _ hq _ (u_in_lay hf))
  unfold u_lay at hlay
  rw [if_neg (by rw [hfin]; decide)] at hlay
  have hst := (u_facts hfc hkC (u_lays hts (gW_lay ci _ hq) hf) hi).1
  have h6 := u_store hfc hkC hkind hlay hi ((hap.1 f hf).trans (by rw [hty])) hn hfit
  refine W.putK hx hb (f := fd) ⟨hown, hts _ hlink, ⟨_, _, _, hi⟩, hst⟩ (by rw [q2]; exact h6) q1 q3 (by rw [hsl]; exact k2_hasslot (q4 f hf)) rfl rfl hd fun H' e1 e2 e3 => ?_
  rw [hsl] at e1 ⊢
  have hapart : ∀ x y, x < q'.2.2 → y < q'.2.2 → x ≠ y → G.1.2 ci x ≠ G.1.2 ci y := by
    intro x y hx' hy' hne
    obtain ⟨_, _, _, fa, hia, ea⟩ := hSl x hx'
    obtain ⟨_, _, _, fb, hib, eb⟩ := hSl y hy'
    rw [← ea, ← eb]
    refine u_apart (u_lays hts (gW_lay ci _ hq) hx') (u_lays hts (gW_lay ci _ hq) hy') hia hib ?_
    rw [(State.fieldFound?_type hia (hap.1 x hx')).1, (State.fieldFound?_type hib (hap.1 y hy')).1]
    exact hap.2 x hx' y hy' hne
  refine h0 H' _ lm (hP.up hM ?_ e3) (hS.put e2 e3 hA) (e2.trans hz) hl
  refine ⟨q', hq, by rw [uV_len]; exact hlen, t_OB.to (V := updV (vp_V (fs.map (cv G))) f (.int (Int32.ofInt z))) ⟨_, e1, q2, q3, t_set q4 hapart hf _⟩ (fun j _ => ?_)⟩
  rw [uV_map]
  exact vp_updV_set (by rw [List.length_map, hlen]; exact hf) _ j
theorem nd_arraylength (B : eB G own cc nL T p s m args c) {a : eA} (hd : decode cc pc = .ok (.arraylength, 1)) (h0 : gN M a fun nn => nW G A p l e R s m args below meth c nL Q n k0 (pc + 1) ls (eI nn :: st) M) : nW G A p l e R s m args below meth c nL Q n k0 pc ls (eR a :: st) M := by
  obtain ⟨hx, hb, hml, hown, hts, hK, hfld, hldc, hldc2⟩ := B
  intro H locs lm hP hS hz hl
  unfold gN at h0
  split at h0
  case h_2 => exact h0.elim
  rename_i t n f hM
  obtain ⟨ht6, hn, h0⟩ := h0
  obtain ⟨hc, -⟩ := hP.1 a _ hM
  obtain ⟨ty, hty⟩ : ∃ ty, eTy[t]? = some ty := by
    rcases (show t = 0 ∨ t = 1 ∨ t = 2 ∨ t = 3 ∨ t = 4 ∨ t = 5 ∨ t = 6 by omega) with rfl | rfl | rfl | rfl | rfl | rfl | rfl <;> exact ⟨_, rfl⟩
  refine W.alen (n := Int32.ofInt (n : Int)) hx hb hc (hK.2 t ty hty n _) ?_ rfl rfl hd ?_
  · rw [arrV_size]
    exact z_nat n
  · exact h0 H locs lm hP hS hz hl

/-- new -/
theorem nd_new (B : eB G own cc nL T p s m args c) (hA0 : ∀ q, s.heap.size ≤ q → A q) {idx ci : Nat} {q : vw_C} {a : eA} {fs : List eV} (hd : decode cc pc = .ok (.new idx, 3)) (hq : vwCl[ci]? = some q)
    (h1 : Cond.classLink own idx q.1 ∈ gW) (h2 : Cond.instantiable q.1 q.2.2 ∈ gW) (h3 : Cond.initialized q.1 ∈ gW) (hfs : fs.length = q.2.2) (hdf : ∀ j, j < q.2.2 → defaultValue (gW_ty ci j) = vp_V (fs.map (cv G)) j) (ha : G.2.2 a = s.heap.size + n) (hc : n + 1 ≤ R.cells) (hs : k0 + q.2.2 ≤ R.slots)
    (kk : nW G A p l e R s m args below meth c nL Q (n + 1) (k0 + q.2.2) (pc + 3) ls (eR a :: st) (eUp M a (eO ci fs))) : nW G A p l e R s m args below meth c nL Q n k0 pc ls st M := by
  obtain ⟨hx, hb, hml, hown, hts, hK, hfld, hldc, hldc2⟩ := B
  intro H locs lm hP hS hz hl
  have hKn := hK.1 ci q hq
  refine W.newcK hx hb hown (hts _ h1) (hts _ h2) (hts _ h3) rfl hd hc hs hKn.2.1 rfl fun H1 kC hkC e1 z1 o1 => ?_
  have ha' : G.2.2 a = H.size := ha.trans hz.symm
  rw [← ha']
  refine kk H1 locs lm (hP.more ha' (hA0 _ (by omega)) ⟨q, hq, hfs, ?_⟩ o1) ⟨Nat.le_trans hS.1 (by omega), fun x h1 h2 => (o1 x (Nat.lt_of_lt_of_le h1 hS.1)).trans (hS.2.1 x h1 h2), hS.2.2⟩ (by omega) hl
  rw [ha']
  exact (u_born (gW_ty ci) hts (gW_lay ci q hq) hKn hkC e1 (gW_tyok ci q hq).1).to hdf
/-- a row of numbers -/
theorem nd_newa (B : eB G own cc nL T p s m args c) (hF : eFC G s) (hA0 : ∀ q, s.heap.size ≤ q → A q) {atype : ArrayType} {t N : Nat} {ty : FieldType} {z : Int} {v : eV} {a : eA} (hd : decode cc pc = .ok (.newarray atype, 2)) (hty : newarray.typeOf atype = ty) (ht : eTy[t]? = some ty) (htR : ∀ C, ty ≠ .object C)
    (h1 : Cond.arrayClass ty ∈ gW) (hN : Int32.toNatClampNeg (Int32.ofInt z) = N) (hn : ¬ Int32.ofInt z < 0) (hby : N * componentBytes ty ≤ 536870912) (hv : defaultValue ty = cv G v) (ha : G.2.2 a = s.heap.size + n) (hc : n + 1 ≤ R.cells) (hs : k0 + N ≤ R.slots)
    (kk : nW G A p l e R s m args below meth c nL Q (n + 1) (k0 + N) (pc + 2) ls (eR a :: st) (eUp M a (eY t N (fun _ => v)))) : nW G A p l e R s m args below meth c nL Q n k0 pc ls (eI z :: st) M := by
  obtain ⟨hx, hb, hml, hown, hts, hK, hfld, hldc, hldc2⟩ := B
  intro H locs lm hP hS hz hl
  subst hty
  have ha' : G.2.2 a = H.size := ha.trans hz.symm
  refine va_newaK hx hb (hts _ h1) rfl hd rfl hn hN hby hc hs rfl fun H1 cA e1 z1 o1 hAr hNm => ?_
  have hcA : cA = G.2.1 t := by
    have h := hF.1 t _ ht
    cases hty2 : newarray.typeOf atype <;> rw [hty2] at h hNm htR <;> first | (exact absurd rfl (htR _)) | exact Option.some.inj (hNm.symm.trans h)
  rw [← ha']
  refine kk H1 locs lm (hP.more ha' (hA0 _ (by omega)) ?_ o1) ⟨Nat.le_trans hS.1 (by omega), fun x h1 h2 => (o1 x (Nat.lt_of_lt_of_le h1 hS.1)).trans (hS.2.1 x h1 h2), hS.2.2⟩ (by omega) hl
  show H1[G.2.2 a]? = some (arrV (G.2.1 t) N fun _ => cv G v)
  rw [ha', e1, hcA, hv]
/-- a row of references -/
theorem nd_anew (B : eB G own cc nL T p s m args c) (hF : eFC G s) (hA0 : ∀ q, s.heap.size ≤ q → A q) {idx t N : Nat} {C : String} {z : Int} {a : eA} (hd : decode cc pc = .ok (.anewarray idx, 3)) (ht : eTy[t]? = some (.object C))
    (h0 : Cond.classLink own idx C ∈ gW) (h1 : C ∈ eRC) (hN : Int32.toNatClampNeg (Int32.ofInt z) = N) (hn : ¬ Int32.ofInt z < 0) (hby : N * 4 ≤ 536870912) (ha : G.2.2 a = s.heap.size + n) (hc : n + 1 ≤ R.cells) (hs : k0 + N ≤ R.slots)
    (kk : nW G A p l e R s m args below meth c nL Q (n + 1) (k0 + N) (pc + 3) ls (eR a :: st) (eUp M a (eY t N (fun _ => eN)))) : nW G A p l e R s m args below meth c nL Q n k0 pc ls (eI z :: st) M := by
  obtain ⟨hx, hb, hml, hown, hts, hK, hfld, hldc, hldc2⟩ := B
  intro H locs lm hP hS hz hl
  have ha' : G.2.2 a = H.size := ha.trans hz.symm
  subst hN
  refine W.anew hx hb hown (hts _ h0) (va_AO.use (hF.2.1 C h1)) rfl hd rfl hn hby hc hs fun cA kA comp f1 f2 f3 f4 => ?_
  generalize hH1 : H.push ({ cls := cA, slots := Array.replicate (Int32.ofInt z).toNatClampNeg .null, vm := .none } : Cell) = H1
  have z1 : H1.size = H.size + 1 := by rw [← hH1, Array.size_push]
  have e1 : H1[H.size]? = some (arrV cA (Int32.ofInt z).toNatClampNeg (fun _ => .null)) := by rw [← hH1, Array.getElem?_push_size, ← arrV_new]
  have o1 : ∀ q : Nat, q < H.size → H1[q]? = H[q]? := fun q hq => by rw [← hH1, Array.getElem?_push, if_neg (Nat.ne_of_lt hq)]
  have hcA : cA = G.2.1 t := by
    obtain ⟨_, _, -, -, -, h⟩ := hF.1 t _ ht
    exact Option.some.inj (f1.symm.trans h)
  have kk' := kk H1 locs lm (hP.more ha' (hA0 _ (by omega)) ?_ o1) ⟨Nat.le_trans hS.1 (by omega), fun x h1 h2 => (o1 x (Nat.lt_of_lt_of_le h1 hS.1)).trans (hS.2.1 x h1 h2), hS.2.2⟩ (by omega) hl
  · rw [show (eR a :: st).map (cv G) = .ref H.size :: st.map (cv G) by rw [← ha']; rfl] at kk'
    exact kk'
  show H1[G.2.2 a]? = some (arrV (G.2.1 t) _ fun _ => cv G eN)
  rw [ha', e1, hcA]
  rfl
/-- a final field, in its constructor -/
theorem nd_putF (B : eB G own cc nL T p s m args c) (hin : meth.name = "<init>") {idx ci f : Nat} {q : vw_C} {a : eA} {fs : List eV} {w : eA ⊕ Unit} (hd : decode cc pc = .ok (.putfield idx, 3)) (hq : vwCl[ci]? = some q) (hM : M a = some (.inl (ci, fs))) (hf : f < q.2.2)
    (hlink : Cond.fieldLink own idx (q.2.1 f).1 (q.2.1 f).2.1 (q.2.1 f).2.2.1 ∈ gW) (hfin : (q.2.1 f).2.2.2 = true) (hdecl : (q.2.1 f).1 = own) (hty : (gW_ty ci f).isReference = true) (hn : ∀ v : Value, v.isRef = true ∨ v = .null → narrow (gW_ty ci f) v = v ∧ fits (gW_ty ci f) v = true)
    (kk : nW G A p l e R s m args below meth c nL Q n k0 (pc + 3) ls st (eUp M a (.inl (ci, uV fs f (.inr w))))) : nW G A p l e R s m args below meth c nL Q n k0 pc ls (.inr w :: eR a :: st) M := by
  obtain ⟨hx, hb, hml, hown, hts, hK, hfld, hldc, hldc2⟩ := B
  intro H locs lm hP hS hz hl
  obtain ⟨⟨q', hq', hlen, cell, q1, q2, q3, q4⟩, hA⟩ := hP.1 a _ hM
  have hqq : q' = q := Option.some.inj (hq'.symm.trans hq)
  subst hqq
  obtain ⟨hSl, hfc, kC, hkC, hkind⟩ := hK.1 ci _ hq
  obtain ⟨cf, kf, fi, fd, hi, hsl⟩ := hSl f hf
  have hap := (gW_tyok ci q' hq)
  have hlay := hts _ (gW_lay ci _ hq _ (u_in_lay hf))
  unfold u_lay at hlay
  rw [if_pos hfin] at hlay
  have hst := (u_facts hfc hkC (u_lays hts (gW_lay ci _ hq) hf) hi).1
  have hcf : m.cls = cf := by
    obtain ⟨_, _, c', _, _, _, -, -, hf', -, -, -, hown2, -⟩ := Cond.laysFinal_spec hlay
    have e1 : c' = cf := by have := hi.symm.trans hf'; simp at this; exact this.1.symm
    rw [hdecl] at hown2
    rw [← e1]; exact Option.some.inj (hown.symm.trans hown2)
  have hv := hn (cv G (.inr w)) (by rcases w with b | u <;> simp [cv, Value.isRef])
  have h6 := u_fits hfc hkC hkind (Or.inr hlay) hi (hap.1 f hf) hv.1 hv.2
  refine W.putFinK hx hb hown (hts _ hlink) hi hst hcf hin (by rw [q2]; exact h6) q1 q3 (by rw [hsl]; exact k2_hasslot (q4 f hf)) rfl rfl hd fun H' e1 e2 e3 => ?_
  rw [hsl] at e1 ⊢
  have hapart : ∀ x y, x < q'.2.2 → y < q'.2.2 → x ≠ y → G.1.2 ci x ≠ G.1.2 ci y := by
    intro x y hx' hy' hne
    obtain ⟨_, _, _, fa, hia, ea⟩ := hSl x hx'
    obtain ⟨_, _, _, fb, hib, eb⟩ := hSl y hy'
    rw [← ea, ← eb]
    refine u_apart (u_lays hts (gW_lay ci _ hq) hx') (u_lays hts (gW_lay ci _ hq) hy') hia hib ?_
    rw [(State.fieldFound?_type hia (hap.1 x hx')).1, (State.fieldFound?_type hib (hap.1 y hy')).1]
    exact hap.2 x hx' y hy' hne
  refine kk H' _ lm (hP.up hM ?_ e3) (hS.put e2 e3 hA) (e2.trans hz) hl
  refine ⟨q', hq, by rw [uV_len]; exact hlen, t_OB.to (V := updV (vp_V (fs.map (cv G))) f (cv G (.inr w))) ⟨_, e1, q2, q3, t_set q4 hapart hf _⟩ (fun j _ => ?_)⟩
  rw [uV_map]
  exact vp_updV_set (by rw [List.length_map, hlen]; exact hf) _ j
/-- an object laid into a row -/
theorem nd_aast (B : eB G own cc nL T p s m args c) (hF : eFC G s) {t N ci : Nat} {q : vw_C} {a b : eA} {fs : List eV} {g : Int → eV} {i : Int} (hd : decode cc pc = .ok (.aastore, 1)) (hq : vwCl[ci]? = some q) (ht : eTy[t]? = some (.object q.1)) (hM : M a = some (.inr (t, N, g))) (hMb : M b = some (.inl (ci, fs))) (hi : 0 ≤ i ∧ i < (N : Int) ∧ N ≤ 2147483647)
    (kk : nW G A p l e R s m args below meth c nL Q n k0 (pc + 1) ls st (eUp M a (.inr (t, N, fUp g i (eR b))))) : nW G A p l e R s m args below meth c nL Q n k0 pc ls (eR b :: eI i :: eR a :: st) M := by
  obtain ⟨hx, hb, hml, hown, hts, hK, hfld, hldc, hldc2⟩ := B
  intro H locs lm hP hS hz hl
  obtain ⟨hca, hA⟩ := hP.1 a _ hM
  obtain ⟨⟨q', hq', hlen, cell, q1, q2, q3, q4⟩, hA2⟩ := hP.1 b _ hMb
  have hqq : q' = q := Option.some.inj (hq'.symm.trans hq)
  subst hqq
  obtain ⟨c1, c2, c3⟩ := e_clamp hi
  have hcls := (hK.1 ci _ hq).2
  obtain ⟨kA, comp, k1, k2, k3, -⟩ := hF.1 t _ ht
  have hcomp : comp = G.1.1 ci := Option.some.inj (k3.symm.trans hcls.1)
  subst hcomp
  obtain ⟨kC, hkC, -⟩ := id hcls.2
  refine W.aast hx hb hca (fun q h => by cases h) (fun h => by cases h) k1 k2 rfl hkC ⟨fun h => c2 (Or.inl h), by rw [arrV_size, c1]; exact c3⟩ q1 (fun q h => by rw [q3] at h; cases h) (by rw [q2]; exact hkC) (by rw [q2]; exact va_assign hcls) rfl rfl hd fun H1 e1 z oq => ?_
  refine kk H1 _ lm (hP.up hM ?_ oq) (hS.put z oq hA) (z.trans hz) hl
  show H1[G.2.2 a]? = some (arrV _ N _)
  rw [e1, arrV_store, c1]
  congr 2
  funext j
  unfold updV fUp
  by_cases hj : j = i.toNat
  · subst hj
    rw [if_pos rfl, if_pos (Int.toNat_of_nonneg hi.1)]
    rfl
  · rw [if_neg hj, if_neg (by omega)]
end ND
