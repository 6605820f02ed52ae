/-! What the tables say at the law's entry. -/
section
variable {s : State} {args : Array Value}
theorem kn_cls (hts : ∀ w ∈ lw_tbl, w.before args s = true) (c : Nat) : ∃ x : ClassId × (Nat → Nat), ∀ q : vw_C, vwCl[c]? = some q → u_Kn s q.1 q.2.1 q.2.2 x.1 x.2 := by
  have k : ∀ (C : String) (T : u_T) (N n : Nat), (∀ w ∈ u_ws C T N, w ∈ lw_tbl) → Cond.instantiable C n ∈ lw_tbl → vwCl[c]? = some (C, T, N) → ∃ x : ClassId × (Nat → Nat), ∀ q : vw_C, vwCl[c]? = some q → u_Kn s q.1 q.2.1 q.2.2 x.1 x.2 := by
    intro C T N n hin hi hc
    obtain ⟨cC, iS, h⟩ := u_known (C := C) (T := T) (N := N) (n := n) hts hin (hts _ hi)
    exact ⟨(cC, iS), fun q hq => by rw [← Option.some.inj (hc.symm.trans hq)]; exact h⟩
  match c with
  | 0 => exact k _ _ _ 14 inX0 (List.mem_of_getElem? (i := 232) (by decide +kernel)) rfl
  | 1 => exact k _ _ _ 10 inX1 (List.mem_of_getElem? (i := 107) (by decide +kernel)) rfl
  | 2 => exact k _ _ _ 2 inX2 (List.mem_of_getElem? (i := 250) (by decide +kernel)) rfl
  | 3 => exact k _ _ _ 7 inX3 (List.mem_of_getElem? (i := 184) (by decide +kernel)) rfl
  | 4 => exact k _ _ _ 7 inX4 (List.mem_of_getElem? (i := 244) (by decide +kernel)) rfl
  | 5 => exact k _ _ _ 2 inX6 (List.mem_of_getElem? (i := 169) (by decide +kernel)) rfl
  | 6 => exact k _ _ _ 1 inX7 (List.mem_of_getElem? (i := 191) (by decide +kernel)) rfl
  | 7 => exact k _ _ _ 3 inX8 (List.mem_of_getElem? (i := 113) (by decide +kernel)) rfl
  | 8 => exact k _ _ _ 7 inX9 (List.mem_of_getElem? (i := 99) (by decide +kernel)) rfl
  | 9 => exact k _ _ _ 23 inX10 (List.mem_of_getElem? (i := 973) (by decide +kernel)) rfl
  | c + 10 => exact ⟨(default, fun _ => 0), fun q hq => by simp [vwCl] at hq⟩
theorem kn_arr (hts : ∀ w ∈ lw_tbl, w.before args s = true) (t : Nat) : ∃ cA : ClassId, ∀ ty : FieldType, eTy[t]? = some ty → ArrOfT s cA ty ∧ va_RA s cA ty := by
  have prim : ∀ ty : FieldType, Cond.arrayClass ty ∈ lw_tbl → (∀ C, ty ≠ .object C) → eTy[t]? = some ty → ∃ cA : ClassId, ∀ ty : FieldType, eTy[t]? = some ty → ArrOfT s cA ty ∧ va_RA s cA ty := by
    intro ty hi hno ht
    obtain ⟨c, k, comp, h1, h2, h3⟩ := Cond.arrayClass_spec (hts _ hi)
    refine ⟨c, fun ty' h => ?_⟩
    rw [← Option.some.inj (ht.symm.trans h)]
    refine ⟨fun N z => ⟨fun k h => (by cases h), k, h2, comp, h3⟩, ?_⟩
    cases ty <;> first | exact h1 | exact absurd rfl (hno _)
  have obj : ∀ C : String, Cond.arrayOver (.object C) ∈ lw_tbl → eTy[t]? = some (.object C) → ∃ cA : ClassId, ∀ ty : FieldType, eTy[t]? = some ty → ArrOfT s cA ty ∧ va_RA s cA ty := by
    intro C hi ht
    obtain ⟨comp, c, k, h1, -, h3, h4, h5⟩ := Cond.arrayOver_spec (hts _ hi)
    refine ⟨c, fun ty' h => ?_⟩
    rw [← Option.some.inj (ht.symm.trans h)]
    exact ⟨fun N z => ⟨fun k h => (by cases h), k, h3, comp, h4⟩, k, comp, h3, h4, h1, h5⟩
  match t with
  | 0 => exact prim .int (List.mem_of_getElem? (i := 136) (by decide +kernel)) (fun C h => by cases h) rfl
  | 1 => exact prim .long (List.mem_of_getElem? (i := 1049) (by decide +kernel)) (fun C h => by cases h) rfl
  | 2 => exact prim .boolean (List.mem_of_getElem? (i := 206) (by decide +kernel)) (fun C h => by cases h) rfl
  | 3 => exact obj _ (List.mem_of_getElem? (i := 198) (by decide +kernel)) rfl
  | 4 => exact obj _ (List.mem_of_getElem? (i := 190) (by decide +kernel)) rfl
  | 5 => exact obj _ (List.mem_of_getElem? (i := 238) (by decide +kernel)) rfl
  | 6 =>
    obtain ⟨comp, c, k, h1, h3, h4, h5⟩ := Cond.arrayOver_specA (t := .int) (hts (.arrayOver (.array .int)) (List.mem_of_getElem? (i := 175) (by decide +kernel)))
    refine ⟨c, fun ty' h => ?_⟩
    cases h
    exact ⟨fun N z => ⟨fun k h => (by cases h), k, h3, comp, h4⟩, h5⟩
  | t + 7 => exact ⟨default, fun ty h => by simp [eTy] at h⟩
theorem law_kn (hts : ∀ w ∈ lw_tbl, w.before args s = true) : ∃ (gC : va_G) (tC : Nat → ClassId), ∀ g : eA → Nat, eKn (gC, tC, g) s ∧ eFC (gC, tC, g) s := by
  obtain ⟨f, hf⟩ := Classical.axiomOfChoice (kn_cls hts)
  obtain ⟨tC, ht⟩ := Classical.axiomOfChoice (kn_arr hts)
  refine ⟨(fun c => (f c).1, fun c => (f c).2), tC, fun g => ⟨⟨fun c q hq => hf c q hq, fun t ty h => (ht t ty h).1⟩, fun t ty h => (ht t ty h).2, fun C hC => ?_, va_AOA.of (hts _ (List.mem_of_getElem? (i := 175) (by decide +kernel))), fun q hq => ?_⟩⟩
  · simp only [eRC, List.mem_cons, List.not_mem_nil, or_false] at hC
    rcases hC with rfl | rfl | rfl
    · exact va_AO.of (hts _ (List.mem_of_getElem? (i := 198) (by decide +kernel)))
    · exact va_AO.of (hts _ (List.mem_of_getElem? (i := 190) (by decide +kernel)))
    · exact va_AO.of (hts _ (List.mem_of_getElem? (i := 238) (by decide +kernel)))
  · simp only [eNst, List.mem_cons, List.not_mem_nil, or_false] at hq
    rcases hq with rfl | rfl
    · exact va_Nw.of rfl (hts _ (List.mem_of_getElem? (i := 108) (by decide +kernel)))
    · exact va_Nw.of rfl (hts _ (List.mem_of_getElem? (i := 170) (by decide +kernel)))
theorem law_xf (hts : ∀ w ∈ lw_tbl, w.before args s = true) : eXF s := by
  refine ⟨fun C hC => ?_, fun x hx => ?_⟩
  · simp only [eXC, List.mem_cons, List.not_mem_nil, or_false] at hC
    rcases hC with rfl | rfl | rfl
    · exact va_Nw.of rfl (hts _ (List.mem_of_getElem? (i := 859) (by decide +kernel)))
    · exact va_Nw.of rfl (hts _ (List.mem_of_getElem? (i := 926) (by decide +kernel)))
    · exact va_Nw.of rfl (hts _ (List.mem_of_getElem? (i := 959) (by decide +kernel)))
  · simp only [eXI, List.mem_cons, List.not_mem_nil, or_false] at hx
    rcases hx with rfl | rfl | rfl
    · exact va_Nw.of rfl (hts _ (List.mem_of_getElem? (i := 860) (by decide +kernel)))
    · exact va_Nw.of rfl (hts _ (List.mem_of_getElem? (i := 862) (by decide +kernel)))
    · exact va_Nw.of rfl (hts _ (List.mem_of_getElem? (i := 864) (by decide +kernel)))
theorem law_nc (hgv : (Jvm.Cond.and given_1 narrow_1).before args s = true) : va_Nc xIA xIO s ∧ va_Nc xIS xIA s := by
  have hs := flat_of_before _ hgv
  exact ⟨va_Nc.of (hs (.not (.castable xIA xIO)) (by decide +kernel)), va_Nc.of (hs (.not (.castable xIS xIA)) (by decide +kernel))⟩
theorem law_xz (hts : ∀ w ∈ lw_tbl, w.before args s = true) (hgv : (Jvm.Cond.and given_1 narrow_1).before args s = true) {A : Nat → Prop} (hA : ∀ a, a < s.heap.size → ¬ A a) : eXZ A s s.heap := by
  have hs := flat_of_before _ hgv
  exact ⟨vx_Zqof (hts _ (List.mem_of_getElem? (i := 884) (by decide +kernel))) (hts _ (List.mem_of_getElem? (i := 90) (by decide +kernel))) (hs (.isRef (.static Bundle.tN "UNASSIGNED_STACK" Bundle.steD)) (by decide +kernel)) hA, vx_Zqof (hts _ (List.mem_of_getElem? (i := 886) (by decide +kernel))) (hts _ (List.mem_of_getElem? (i := 90) (by decide +kernel))) (hs (.isRef (.static Bundle.tN "SUPPRESSED_SENTINEL" Bundle.listD)) (by decide +kernel)) hA⟩
end
