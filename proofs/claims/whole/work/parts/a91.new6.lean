/-! A table of two kinds. -/
theorem arrV_ext {c : ClassId} {N : Nat} {f g : Nat → Value} (h : ∀ j, j < N → f j = g j) : arrV c N f = arrV c N g := by
  unfold arrV
  congr 1
  apply Array.ext
  · simp
  · intro i h1 h2
    simp at h1 ⊢
    exact h i h1
section NM2
variable {G : eG} {A : Nat → Prop} {p : Program} {l : Launch} {e : Env} {R : Room} {s : State} {m : MethodId} {args : Array Value} {below : List Frame} {meth : Method} {c : Code} {nL : Nat} {Q : State → Prop} {own : String} {cc : ByteArray} {T : eT} {ls : List (Option eV)} {st : List eV} {M : eM} {pc : Nat} {n k0 : Nat}
theorem nd_mna (B : eB G own cc nL T p s m args c) (hF : eFC G s) (hA0 : ∀ q, s.heap.size ≤ q → A q) {idx N K : Nat} {a : eA} {r : Nat → eA} {zn zk : Int} {M' : eM} (hd : decode cc pc = .ok (.multianewarray idx 2, 4)) (h0 : Cond.classLink own idx ("[" ++ (FieldType.array .int).toString) ∈ gW) (h1 : Cond.arrayClass .int ∈ gW)
    (hN : (Int32.ofInt zn).toNatClampNeg = N) (hn : ¬ Int32.ofInt zn < 0) (hK : (Int32.ofInt zk).toNatClampNeg = K) (hk : ¬ Int32.ofInt zk < 0) (hb1 : N * 4 ≤ 536870912) (hb2 : K * componentBytes .int ≤ 536870912) (hb3 : K ≤ 536870912)
    (ha : G.2.2 a = s.heap.size + n) (hr : ∀ i, i < N → G.2.2 (r i) = s.heap.size + n + 1 + i)
    (hM : ∀ id c, M' id = some c → (id = a ∧ c = eY 6 N (fun i => eR (r i.toNat))) ∨ (∃ i, i < N ∧ id = r i ∧ c = eY 0 K (fun _ => eI 0)) ∨ (M id = some c)) (hc : n + (1 + N) ≤ R.cells) (hs : k0 + (N + N * K) ≤ R.slots)
    (kk : nW G A p l e R s m args below meth c nL Q (n + (1 + N)) (k0 + (N + N * K)) (pc + 4) ls (eR a :: st) M') : nW G A p l e R s m args below meth c nL Q n k0 pc ls (eI zk :: eI zn :: st) M := by
  obtain ⟨hx, hb, hml, hown, hts, hKn, hfld, hldc, hldc2⟩ := B
  intro H locs lm hP hS hz hl
  subst hN
  subst hK
  intro T9 hT Xs
  have ha' : G.2.2 a = H.size := ha.trans hz.symm
  obtain ⟨vm₁, cA, comp, -, fA, fC, hO, -, X', step⟩ := Xs.multianewarray2F hx hown (hts _ h0) (va_AOA.use hF.2.2.1) (hts _ h1) (g := F0 m pc lm (.int (Int32.ofInt zk) :: .int (Int32.ofInt zn) :: st.map (cv G))) rfl (by rw [hb]; exact hd) rfl hn hk hb1 hb2 hb3 rfl rfl hc hs
  have hcomp : comp = G.2.1 0 := Option.some.inj (fC.symm.trans (hF.1 0 .int rfl))
  have hcA : cA = G.2.1 6 := Option.some.inj (fA.symm.trans (hF.1 6 (.array .int) rfl))
  subst hcomp
  subst hcA
  generalize hFl : Jvm.Free.Multi.fill (T9.setVm vm₁) (G.2.1 6) (G.2.1 0) (Int32.ofInt zn).toNatClampNeg (Int32.ofInt zk).toNatClampNeg (defaultValue .int) (Int32.ofInt zn).toNatClampNeg = F at X' step
  have hTh : (T9.setVm vm₁).heap = H := hT
  obtain ⟨f1, f2, -, -⟩ := Jvm.Free.Multi.fill_facts (T9.setVm vm₁) (G.2.1 6) (G.2.1 0) (Int32.ofInt zn).toNatClampNeg (Int32.ofInt zk).toNatClampNeg (defaultValue .int) (Int32.ofInt zn).toNatClampNeg
  rw [hFl, hTh] at f1 f2
  have hold : ∀ x : Nat, x < H.size → F.heap[x]? = H[x]? := fun x hx => by
    have := Jvm.Free.Multi.fill_old (T9.setVm vm₁) (G.2.1 6) (G.2.1 0) (Int32.ofInt zn).toNatClampNeg (Int32.ofInt zk).toNatClampNeg (defaultValue .int) (a := x) (by rw [hTh]; exact hx) (Int32.ofInt zn).toNatClampNeg
    rw [hFl, hTh] at this
    exact this
  have hrow : ∀ j : Nat, j < (Int32.ofInt zn).toNatClampNeg → F.heap[H.size + 1 + j]? = some (arrV (G.2.1 0) (Int32.ofInt zk).toNatClampNeg (fun _ => .int 0)) := fun j hj => by
    have := Jvm.Free.Multi.fill_inner (T9.setVm vm₁) (G.2.1 6) (G.2.1 0) (Int32.ofInt zn).toNatClampNeg (Int32.ofInt zk).toNatClampNeg (defaultValue .int) (Int32.ofInt zn).toNatClampNeg j hj
    rw [hFl, hTh] at this
    rw [this]
    show some ({ cls := G.2.1 0, slots := Array.replicate _ (.int 0), vm := .none } : Cell) = _
    rw [arrV_new]
  rw [vr_outer] at f2
  have hP' : eP G A M' F.heap := by
    have at1 : ∀ id c, M' id = some c → eAt G id F.heap c ∧ A (G.2.2 id) := by
      intro id c hc
      rcases hM id c hc with ⟨rfl, rfl⟩ | ⟨i, hi, rfl, rfl⟩ | h
      · refine ⟨?_, hA0 _ (by rw [ha']; exact hS.1)⟩
        show F.heap[G.2.2 id]? = some (arrV (G.2.1 6) _ _)
        rw [ha', f2]
        refine congrArg some (arrV_ext fun j hj => ?_)
        rw [if_pos hj]
        show Value.ref _ = Value.ref (G.2.2 (r _))
        rw [show ((j : Int).toNat) = j from rfl, hr j hj, hz]
      · refine ⟨?_, hA0 _ (by rw [hr i hi]; omega)⟩
        show F.heap[G.2.2 (r i)]? = some (arrV (G.2.1 0) _ _)
        rw [hr i hi, ← hz]
        exact hrow i hi
      · obtain ⟨g1, g2⟩ := hP.1 id c h
        exact ⟨g1.kept (hold _ g1.lt), g2⟩
    refine ⟨at1, fun x y d1 d2 hx hy hxy => ?_⟩
    have lt : ∀ id c, M id = some c → G.2.2 id < s.heap.size + n := fun id c h => by rw [← hz]; exact (hP.1 id c h).1.lt
    rcases hM x d1 hx with ⟨rfl, rfl⟩ | ⟨i, hi, rfl, rfl⟩ | h <;> rcases hM y d2 hy with ⟨rfl, rfl⟩ | ⟨j, hj, rfl, rfl⟩ | h'
    · rfl
    · have := hr j hj; omega
    · have := lt _ _ h'; omega
    · have := hr i hi; omega
    · have h1 := hr i hi
      have h2 := hr j hj
      rw [show i = j by omega]
    · have := hr i hi; have := lt _ _ h'; omega
    · have := lt _ _ h; omega
    · have := hr j hj; have := lt _ _ h; omega
    · exact hP.2 x y _ _ h h' hxy
  obtain ⟨t, a1, b1⟩ := kk F.heap locs lm hP' ⟨by rw [f1]; have := hS.1; omega, fun x h1 h2 => (hold x (Nat.lt_of_lt_of_le h1 hS.1)).trans (hS.2.1 x h1 h2), hS.2.2⟩ (by rw [f1]; omega) hl F rfl (by simpa only [Nat.add_assoc] using X')
  refine ⟨t, step t ?_, b1⟩
  have e9 : T9.heap.size = G.2.2 a := by rw [hT, ha']
  rw [e9]
  exact a1
end NM2
