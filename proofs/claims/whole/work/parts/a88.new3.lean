/-! Objects being made: the one that is made stands on top of the memory. -/
theorem eUp_s {M : eM} {a : eA} {c : eC} : eUp M a c a = some c := if_pos rfl
theorem eUp_n {M : eM} {a b : eA} {c : eC} (h : b ≠ a) : eUp M a c b = M b := if_neg h
theorem eUp_u {M : eM} {a : eA} {c d : eC} : eUp (eUp M a c) a d = eUp M a d := by
  funext b
  unfold eUp
  split <;> rfl
theorem eUp_c {M : eM} {a b : eA} {c d : eC} (h : a ≠ b) : eUp (eUp M a c) b d = eUp (eUp M b d) a c := by
  funext x
  unfold eUp
  by_cases h1 : x = a <;> by_cases h2 : x = b
  · exact absurd (h1.symm.trans h2) h
  · rw [if_neg h2, if_pos h1, if_pos h1]
  · rw [if_pos h2, if_neg h1, if_pos h2]
  · rw [if_neg h2, if_neg h1, if_neg h1, if_neg h2]
theorem eP.sub {G : eG} {A : Nat → Prop} {M M' : eM} {H : Heap} (h : eP G A M H) (hs : ∀ a c, M' a = some c → M a = some c) : eP G A M' H := ⟨fun a c hc => h.1 a c (hs a c hc), fun a b c d hc hd e => h.2 a b c d (hs a c hc) (hs b d hd) e⟩
theorem n_ref {ty : FieldType} {v : Value} (h : ty.isReference = true) (hv : v.isRef = true ∨ v = .null) : narrow ty v = v ∧ fits ty v = true := by
  cases ty <;> first | (exact absurd h (by decide)) | (cases v <;> first | (exact ⟨rfl, rfl⟩) | (exact absurd hv (by simp [Value.isRef])))
def dfv (ty : FieldType) : eV := match ty with
  | .long => eL 0
  | .object _ | .array _ => eN
  | _ => eI 0
def dfvk (ty : FieldType) : Bool := match ty with
  | .float | .double => false
  | _ => true
theorem dfv_e {G : eG} {ty : FieldType} (h : dfvk ty = true) : defaultValue ty = cv G (dfv ty) := by
  cases ty <;> first | rfl | exact absurd h (by decide)
def dfvs (ci N : Nat) : List eV := (List.range N).map fun j => dfv (gW_ty ci j)
theorem dfvs_e {G : eG} {ci N j : Nat} (h : j < N) (hk : dfvk (gW_ty ci j) = true) : defaultValue (gW_ty ci j) = vp_V ((dfvs ci N).map (cv G)) j := by
  rw [dfv_e (G := G) hk]
  simp [vp_V, dfvs, h]
section NT
variable {G : eG} {A : Nat → Prop} {p : Program} {l : Launch} {e : Env} {R : Room} {s : State} {m : MethodId} {args : Array Value} {below : List Frame} {meth : Method} {c : Code} {nL : Nat} {Q : State → Prop} {own : String} {cc : ByteArray} {T : eT} {ls : List (Option eV)} {st : List eV} {M : eM} {pc : Nat} {n k0 : Nat}
/-- less is remembered -/
theorem nW.sub {M' : eM} (h : nW G A p l e R s m args below meth c nL Q n k0 pc ls st M') (hs : ∀ a c, M' a = some c → M a = some c) : nW G A p l e R s m args below meth c nL Q n k0 pc ls st M := fun H locs lm hP hS hz hl => h H locs lm (hP.sub hs) hS hz hl
theorem nW.cast {n' k' : Nat} {M' : eM} {ls' : List (Option eV)} (h : nW G A p l e R s m args below meth c nL Q n' k' pc ls' st M') (hn : n = n') (hk : k0 = k') (hM : M = M') (hls : ls = ls') : nW G A p l e R s m args below meth c nL Q n k0 pc ls st M := by
  subst hn hk hM hls
  exact h
theorem nt_new (B : eB G own cc nL T p s m args c) (hA0 : ∀ q, s.heap.size ≤ q → A q) {idx ci N : Nat} {q : vw_C} {a : eA} (hd : decode cc pc = .ok (.new idx, 3)) (hq : vwCl[ci]? = some q) (hN : q.2.2 = N)
    (h1 : Cond.classLink own idx q.1 ∈ gW) (h2 : Cond.instantiable q.1 N ∈ gW) (h3 : Cond.initialized q.1 ∈ gW) (hdf : ∀ j, j < N → dfvk (gW_ty ci j) = true) (ha : G.2.2 a = s.heap.size + n) (hc : n + 1 ≤ R.cells) (hs : k0 + N ≤ R.slots)
    (kk : nW G A p l e R s m args below meth c nL Q (n + 1) (k0 + N) (pc + 3) ls (eR a :: st) (eUp M a (eO ci (dfvs ci N)))) : nW G A p l e R s m args below meth c nL Q n k0 pc ls st M := by
  subst hN
  exact nd_new B hA0 hd hq h1 h2 h3 (by simp [dfvs]) (fun j hj => dfvs_e hj (hdf j hj)) ha hc hs kk
theorem nt_putF (B : eB G own cc nL T p s m args c) (hin : meth.name = "<init>") {idx ci f : Nat} {a : eA} {fs : List eV} {w : eA ⊕ Unit} (hd : decode cc pc = .ok (.putfield idx, 3)) (hT : T.1 idx = some (ci, f)) (hfin : ∀ q : vw_C, vwCl[ci]? = some q → (q.2.1 f).2.2.2 = true ∧ (q.2.1 f).1 = own) (hty : (gW_ty ci f).isReference = true)
    (kk : nW G A p l e R s m args below meth c nL Q n k0 (pc + 3) ls st (eUp M a (.inl (ci, uV fs f (.inr w))))) : nW G A p l e R s m args below meth c nL Q n k0 pc ls (.inr w :: eR a :: st) (eUp M a (.inl (ci, fs))) := by
  obtain ⟨q, hq, hf, hlink⟩ := B.2.2.2.2.2.2.1 idx ci f hT
  refine nd_putF B hin hd hq eUp_s hf hlink (hfin q hq).1 (hfin q hq).2 hty (fun v hv => n_ref hty hv) ?_
  rw [eUp_u]
  exact kk
theorem nt_putI (B : eB G own cc nL T p s m args c) {idx ci f : Nat} {a : eA} {fs : List eV} {z : Int} (hd : decode cc pc = .ok (.putfield idx, 3)) (hT : T.1 idx = some (ci, f)) (hk : fK ci f = some 0 ∨ (fK ci f = some 1 ∧ (z = 0 ∨ z = 1)))
    (kk : nW G A p l e R s m args below meth c nL Q n k0 (pc + 3) ls st (eUp M a (.inl (ci, uV fs f (eI z))))) : nW G A p l e R s m args below meth c nL Q n k0 pc ls (eI z :: eR a :: st) (eUp M a (.inl (ci, fs))) := by
  refine nd_putfield B hd ?_
  unfold pF
  rw [eUp_s, hT]
  refine ⟨rfl, ?_, ?_⟩
  · rcases hk with h | ⟨h, h2⟩
    · rw [h]; trivial
    · rw [h]; exact h2
  rw [eUp_u]
  exact kk
theorem nt_get (B : eB G own cc nL T p s m args c) {idx ci f : Nat} {a : eA} {fs : List eV} {v : eV} (hd : decode cc pc = .ok (.getfield idx, 3)) (hT : T.1 idx = some (ci, f)) (hv : nV fs f = some v)
    (kk : nW G A p l e R s m args below meth c nL Q n k0 (pc + 3) ls (v :: st) (eUp M a (.inl (ci, fs)))) : nW G A p l e R s m args below meth c nL Q n k0 pc ls (eR a :: st) (eUp M a (.inl (ci, fs))) := by
  refine nd_getfield B hd ?_
  unfold gF
  rw [eUp_s, hT]
  refine ⟨rfl, ?_⟩
  dsimp only
  rw [hv]
  exact kk
theorem nt_len (B : eB G own cc nL T p s m args c) {a : eA} {t N : Nat} {f : Int → eV} (hd : decode cc pc = .ok (.arraylength, 1)) (hM : M a = some (.inr (t, N, f))) (ht : t ≤ 6) (hN : N ≤ 2147483647)
    (kk : nW G A p l e R s m args below meth c nL Q n k0 (pc + 1) ls (eI (N : Int) :: st) M) : nW G A p l e R s m args below meth c nL Q n k0 pc ls (eR a :: st) M := by
  refine nd_arraylength B hd ?_
  unfold gN
  rw [hM]
  exact ⟨ht, hN, kk⟩
end NT
/-- a Whole that is 0 -/
def wh (M : eM) (k : Nat) : eM := eUp (eUp M (3, k) (eY 0 (lw k) fun _ => eI 0)) (2, k) (eO 7 [eR (3, k), eI 0, eI 0])
def sp8 (L : Nat) : nSp := fun G sz as M M' => ∃ k : Nat, lw k = L ∧ as = [eR (2, k), eI (L : Int)] ∧ M (2, k) = some (eO 7 [eN, eI 0, eI 0]) ∧ G.2.2 (3, k) = sz ∧ M' = wh M k
theorem ne_23 (k j : Nat) : ((2, k) : eA) ≠ (3, j) := fun h => by cases h
theorem nn_c {N : Nat} (h : N ≤ 80) : (Int32.ofInt (N : Int)).toNatClampNeg = N ∧ ¬ Int32.ofInt (N : Int) < 0 := by
  have h1 := z_clamp (a := (N : Int)) (by omega) (by omega)
  refine ⟨by rw [h1]; rfl, ?_⟩
  rw [z_0, z_lt (by omega) (by omega)]
  omega
theorem eUp_id {M : eM} {a : eA} {c : eC} (h : M a = some c) : M = eUp M a c := by
  funext b
  unfold eUp
  by_cases e : b = a
  · rw [if_pos e, e, h]
  · rw [if_neg e]
set_option maxRecDepth 100000 in
theorem c8_init {L : Nat} (hL : L ≤ 80) : nMet yX8_init cX8_init 2 1 21 1 L (sp8 L) := by
  refine nMet_of (T := (fl_RX8, cl_RX8, dl_RX8, fun _ => none, fun _ => none)) (by decide) rfl tb_RX8 ?_
  rintro p l e s m below meth c G A as M M' B hF hA hin hr hlk ⟨k, rfl, rfl, h1, h2, rfl⟩
  refine ⟨show 2 ≤ 2 by decide, ?_⟩
  refine nd_aload_n B (show decode cX8_init 0 = .ok (.aload_n 0, 1) by decide +kernel) rfl ?_
  refine nd_obj B (show decode cX8_init 1 = .ok (.invokespecial 3, 3) by decide +kernel) (gW_at 117 (by decide +kernel) rfl) (gW_at 104 (by decide +kernel) rfl) (gW_at 105 (by decide +kernel) rfl) (Nat.le_of_ble_eq_true rfl) (Nat.le_of_ble_eq_true rfl) ?_
  refine (nW.cast (M' := eUp M (2, k) (eO 7 [eN, eI 0, eI 0])) ?_ rfl rfl (eUp_id h1) rfl)
  refine nd_aload_n B (show decode cX8_init 4 = .ok (.aload_n 0, 1) by decide +kernel) rfl ?_
  refine nd_iconst B (show decode cX8_init 5 = .ok (.iconst 0, 1) by decide +kernel) ?_
  refine nt_putI B (ci := 7) (f := 1) (show decode cX8_init 6 = .ok (.putfield 9, 3) by decide +kernel) (by decide +kernel) (by decide +kernel) ?_
  refine nd_aload_n B (show decode cX8_init 9 = .ok (.aload_n 0, 1) by decide +kernel) rfl ?_
  refine nd_iconst B (show decode cX8_init 10 = .ok (.iconst 0, 1) by decide +kernel) ?_
  refine nt_putI B (ci := 7) (f := 2) (show decode cX8_init 11 = .ok (.putfield 13, 3) by decide +kernel) (by decide +kernel) (by decide +kernel) ?_
  refine nd_aload_n B (show decode cX8_init 14 = .ok (.aload_n 0, 1) by decide +kernel) rfl ?_
  refine nd_iload_n B (show decode cX8_init 15 = .ok (.iload_n 1, 1) by decide +kernel) rfl ?_
  refine nd_iconst B (show decode cX8_init 16 = .ok (.iconst 0, 1) by decide +kernel) ?_
  refine nd_max B ⟨by dsimp only; omega, by dsimp only; omega⟩ (gW_at 118 (by decide +kernel) rfl) (gW_at 119 (by decide +kernel) rfl) (gW_at 82 (by decide +kernel) rfl) (gW_at 120 (by decide +kernel) rfl) (Nat.le_of_ble_eq_true rfl) (by dsimp only; omega) (by dsimp only; omega) (by unfold w32; omega) (by decide) (show decode cX8_init 17 = .ok (.invokestatic 16, 3) by decide +kernel) ?_
  rw [show max (lw k : Int) 0 = (lw k : Int) by omega]
  refine nd_newa B hF hA (t := 0) (v := eI 0) (a := (3, k)) (show decode cX8_init 20 = .ok (.newarray .int, 2) by decide +kernel) rfl rfl (fun C h => by cases h) (gW_at 136 (by decide +kernel) rfl) (N := lw k) (nn_c hL).1 (nn_c hL).2 (by show lw k * 4 ≤ 536870912; omega) (by rfl) h2 (by dsimp only; omega) (by dsimp only; omega) ?_
  refine (nW.cast (k' := lw k) (M' := eUp (eUp M (3, k) (eY 0 (lw k) fun _ => eI 0)) (2, k) (eO 7 [eN, eI 0, eI 0])) ?_ rfl (by omega) (eUp_c (ne_23 k k)) rfl)
  refine nt_putF B hin (ci := 7) (f := 0) (show decode cX8_init 22 = .ok (.putfield 22, 3) by decide +kernel) (by decide +kernel) (fun q h => by cases h; exact ⟨rfl, rfl⟩) rfl ?_
  exact nd_ret B hr hlk (show decode cX8_init 25 = .ok (.return_, 1) by decide +kernel)
