/-! The engine's rows hold on the machine. -/
abbrev eG : Type := va_G × (Nat → ClassId) × (eA → Nat)
def eTy : List FieldType := [.int, .long, .boolean, .object "ConicMeet$Whole", .object "ConicMeet$Row", .object "ConicMeet$Grid", .array .int]
def cv (G : eG) : eV → Value
  | .inl (.inl z) => .int (Int32.ofInt z)
  | .inl (.inr z) => .long (Int64.ofInt z)
  | .inr (.inl a) => .ref (G.2.2 a)
  | .inr (.inr _) => .null
def eAt (G : eG) (a : eA) (H : Heap) : eC → Prop
  | .inl (c, fs) => ∃ q : vw_C, vwCl[c]? = some q ∧ fs.length = q.2.2 ∧ t_OB (G.2.2 a) (G.1.1 c) q.2.2 (G.1.2 c) H (vp_V (fs.map (cv G)))
  | .inr (t, n, f) => H[G.2.2 a]? = some (arrV (G.2.1 t) n (fun j => cv G (f (j : Int))))
def eP (G : eG) (A : Nat → Prop) (M : eM) (H : Heap) : Prop := (∀ a c, M a = some c → eAt G a H c ∧ A (G.2.2 a)) ∧ ∀ a b c d, M a = some c → M b = some d → G.2.2 a = G.2.2 b → a = b
def eKn (G : eG) (U : State) : Prop := (∀ (c : Nat) (q : vw_C), vwCl[c]? = some q → u_Kn U q.1 q.2.1 q.2.2 (G.1.1 c) (G.1.2 c)) ∧ ∀ (t : Nat) (ty : FieldType), eTy[t]? = some ty → ArrOfT U (G.2.1 t) ty
theorem eKn.moved {G : eG} {u U : State} (hvm : u.vm.Alike U.vm) (h : eKn G u) : eKn G U := ⟨fun c q hq => u_Kn_moved hvm (h.1 c q hq), fun t ty ht => arrOfT_moved hvm (h.2 t ty ht)⟩
theorem eAt.kept {G : eG} {a : eA} {H H1 : Heap} {c : eC} (h : eAt G a H c) (hq : H1[G.2.2 a]? = H[G.2.2 a]?) : eAt G a H1 c := by
  rcases c with ⟨c, fs⟩ | ⟨t, n, f⟩
  · obtain ⟨q, h1, h2, h3⟩ := h
    exact ⟨q, h1, h2, h3.kept hq⟩
  · exact hq.trans h
theorem eP.up {G : eG} {A : Nat → Prop} {M : eM} {H H1 : Heap} {a : eA} {c0 c : eC} (h : eP G A M H) (h0 : M a = some c0) (hc : eAt G a H1 c) (oq : ∀ q : Nat, q ≠ G.2.2 a → H1[q]? = H[q]?) : eP G A (eUp M a c) H1 := by
  have dom : ∀ b d, eUp M a c b = some d → ∃ d', M b = some d' := by
    intro b d hb
    unfold eUp at hb
    split at hb
    · subst b; exact ⟨_, h0⟩
    · exact ⟨_, hb⟩
  refine ⟨fun b d hb => ?_, fun x y d1 d2 hx hy hxy => ?_⟩
  · by_cases e : b = a
    · subst e
      unfold eUp at hb
      rw [if_pos rfl] at hb
      cases hb
      exact ⟨hc, (h.1 _ _ h0).2⟩
    · unfold eUp at hb
      rw [if_neg e] at hb
      obtain ⟨g1, g2⟩ := h.1 b d hb
      exact ⟨g1.kept (oq _ (fun z => e (h.2 b a d c0 hb h0 z))), g2⟩
  · obtain ⟨x', hx⟩ := dom x d1 hx
    obtain ⟨y', hy⟩ := dom y d2 hy
    exact h.2 x y _ _ hx hy hxy
/-- locals: a list of what is known -/
def eLs (G : eG) (nL : Nat) (ls : List (Option eV)) (lm : Array Slot) : Prop := ls.length = nL ∧ lm.size = nL ∧ lv_wf lm ∧ ∀ (i : Nat) (v : eV), lG ls i = some v → lm[i]? = some (.val (cv G v))
def eAs (G : eG) : Nat → List (Option eV) → List (Nat × Value)
  | _, [] => []
  | i, some v :: l => (i, cv G v) :: eAs G (i + 1) l
  | i, none :: l => eAs G (i + 1) l
theorem eAs_mem (G : eG) : ∀ (ls : List (Option eV)) (i : Nat) (q : Nat × Value), q ∈ eAs G i ls ↔ ∃ (k : Nat) (v : eV), q = (i + k, cv G v) ∧ lG ls k = some v
  | [], i, q => by simp [eAs, lG]
  | some v :: l, i, q => by
    rw [eAs, List.mem_cons, eAs_mem G l (i + 1) q]
    constructor
    · rintro (rfl | ⟨k, w, rfl, h⟩)
      · exact ⟨0, v, rfl, rfl⟩
      · exact ⟨k + 1, w, by rw [Nat.add_assoc, Nat.add_comm 1 k], h⟩
    · rintro ⟨k, w, rfl, h⟩
      cases k with
      | zero => left; cases h; rfl
      | succ k => right; exact ⟨k, w, by rw [Nat.add_assoc, Nat.add_comm 1 k], h⟩
  | none :: l, i, q => by
    rw [eAs, eAs_mem G l (i + 1) q]
    constructor
    · rintro ⟨k, w, rfl, h⟩
      exact ⟨k + 1, w, by rw [Nat.add_assoc, Nat.add_comm 1 k], h⟩
    · rintro ⟨k, w, rfl, h⟩
      cases k with
      | zero => cases h
      | succ k => exact ⟨k, w, by rw [Nat.add_assoc, Nat.add_comm 1 k], h⟩
theorem eLs.has {G : eG} {nL : Nat} {ls : List (Option eV)} {lm : Array Slot} (h : eLs G nL ls lm) : lv_has lm nL (eAs G 0 ls) := by
  refine ⟨h.2.1, h.2.2.1, fun q hq => ?_⟩
  obtain ⟨k, v, rfl, hv⟩ := (eAs_mem G ls 0 q).mp hq
  rw [Nat.zero_add]
  exact h.2.2.2 k v hv
theorem lS_len : ∀ (ls : List (Option eV)) (k : Nat) (v : eV), (lS ls k v).length = ls.length := by
  intro ls k v
  fun_induction lS ls k v <;> simp_all
theorem lS2_len : ∀ (ls : List (Option eV)) (k : Nat) (v : eV), (lS2 ls k v).length = ls.length := by
  intro ls k v
  fun_induction lS2 ls k v <;> simp_all
theorem lG_lt : ∀ (ls : List (Option eV)) (k : Nat) (v : eV), lG ls k = some v → k < ls.length
  | [], _, _, h => by simp [lG] at h
  | a :: l, 0, v, h => by simp
  | a :: l, k + 1, v, h => by
    have := lG_lt l k v h
    simp; omega
theorem lS_get : ∀ (ls : List (Option eV)) (k : Nat) (v : eV) (j : Nat) (w : eV), k < ls.length → lG (lS ls k v) j = some w → (j = k ∧ w = v) ∨ (j ≠ k ∧ lG ls j = some w ∧ (j + 1 = k → ∀ z, w ≠ .inl (.inr z)))
  | [], k, v, j, w, hk, h => by simp at hk
  | a :: l, 0, v, j, w, hk, h => by
    cases j with
    | zero => simp [lS, lG] at h; exact Or.inl ⟨rfl, h.symm⟩
    | succ j => exact Or.inr ⟨by omega, h, fun e => by omega⟩
  | a :: l, 1, v, j, w, hk, h => by
    cases j with
    | zero =>
      obtain ⟨h1, h2⟩ := clr_s (show clr a = some w from h)
      exact Or.inr ⟨by omega, h1, fun _ => h2⟩
    | succ j =>
      rcases lS_get l 0 v j w (by simpa using hk) h with ⟨rfl, r⟩ | ⟨h1, h2, h3⟩
      · exact Or.inl ⟨rfl, r⟩
      · exact Or.inr ⟨by omega, h2, fun e => h3 (by omega)⟩
  | a :: l, k + 2, v, j, w, hk, h => by
    cases j with
    | zero => exact Or.inr ⟨by omega, h, fun e => by omega⟩
    | succ j =>
      rcases lS_get l (k + 1) v j w (by simp at hk; omega) h with ⟨rfl, r⟩ | ⟨h1, h2, h3⟩
      · exact Or.inl ⟨rfl, r⟩
      · exact Or.inr ⟨by omega, h2, fun e => h3 (by omega)⟩
theorem lS2_get : ∀ (ls : List (Option eV)) (k : Nat) (v : eV) (j : Nat) (w : eV), k < ls.length → lG (lS2 ls k v) j = some w → (j = k ∧ w = v) ∨ (j ≠ k ∧ j ≠ k + 1 ∧ lG ls j = some w ∧ (j + 1 = k → ∀ z, w ≠ .inl (.inr z)))
  | [], k, v, j, w, hk, h => by simp at hk
  | [a], 0, v, j, w, hk, h => by
    cases j with
    | zero => simp [lS2, lG] at h
    | succ j => simp [lS2, lG] at h
  | a :: b :: l, 0, v, j, w, hk, h => by
    match j, h with
    | 0, h => simp [lS2, lG] at h; exact Or.inl ⟨rfl, h.symm⟩
    | 1, h => simp [lS2, lG] at h
    | j + 2, h => exact Or.inr ⟨by omega, by omega, h, fun e => by omega⟩
  | a :: l, 1, v, j, w, hk, h => by
    have e : lS2 (a :: l) 1 v = clr a :: lS2 l 0 v := by cases l <;> rfl
    rw [e] at h
    cases j with
    | zero =>
      obtain ⟨h1, h2⟩ := clr_s (show clr a = some w from h)
      exact Or.inr ⟨by omega, by omega, h1, fun _ => h2⟩
    | succ j =>
      rcases lS2_get l 0 v j w (by simpa using hk) h with ⟨rfl, r⟩ | ⟨h1, h1', h2, h3⟩
      · exact Or.inl ⟨rfl, r⟩
      · exact Or.inr ⟨by omega, by omega, h2, fun e => h3 (by omega)⟩
  | a :: l, k + 2, v, j, w, hk, h => by
    have e : lS2 (a :: l) (k + 2) v = a :: lS2 l (k + 1) v := by cases l <;> rfl
    rw [e] at h
    cases j with
    | zero => exact Or.inr ⟨by omega, by omega, h, fun e => by omega⟩
    | succ j =>
      rcases lS2_get l (k + 1) v j w (by simp at hk; omega) h with ⟨rfl, r⟩ | ⟨h1, h1', h2, h3⟩
      · exact Or.inl ⟨rfl, r⟩
      · exact Or.inr ⟨by omega, by omega, h2, fun e => h3 (by omega)⟩
theorem cv_cat2 (G : eG) (v : eV) : (cv G v).category = 2 ↔ ∃ z, v = .inl (.inr z) := by
  rcases v with (z | z) | (a | u) <;> simp [cv, Value.category]
theorem cv_cat1 (G : eG) (v : eV) (h : ∀ z, v ≠ .inl (.inr z)) : (cv G v).category = 1 := by
  rcases v with (z | z) | (a | u) <;> first | rfl | exact absurd rfl (h z)
/-- what storing leaves -/
theorem eLs.set1 {G : eG} {nL k : Nat} {ls : List (Option eV)} {lm lm' : Array Slot} {v : eV} (h : eLs G nL ls lm) (hk : k < nL) (h' : lv_has lm' nL ((k, cv G v) :: (eAs G 0 ls).filter (fun q => !(q.1 == k) && !(q.1 + 1 == k && q.2.category == 2)))) : eLs G nL (lS ls k v) lm' := by
  refine ⟨by rw [lS_len]; exact h.1, h'.1, h'.2.1, fun j w hw => ?_⟩
  rcases lS_get ls k v j w (by rw [h.1]; exact hk) hw with ⟨rfl, rfl⟩ | ⟨h1, h2, h3⟩
  · exact h'.2.2 _ List.mem_cons_self
  · refine h'.2.2 (j, cv G w) (List.mem_cons_of_mem _ (List.mem_filter.mpr ⟨(eAs_mem G ls 0 _).mpr ⟨j, w, by rw [Nat.zero_add], h2⟩, ?_⟩))
    have e1 : (j == k) = false := by simpa using h1
    simp only [e1, Bool.not_false, Bool.true_and]
    by_cases e : j + 1 = k
    · have : (cv G w).category = 1 := cv_cat1 G w (h3 e)
      simp [this]
    · have : (j + 1 == k) = false := by simpa using e
      simp [this]
theorem eLs.set2 {G : eG} {nL k : Nat} {ls : List (Option eV)} {lm lm' : Array Slot} {v : eV} (h : eLs G nL ls lm) (hk : k + 1 < nL) (h' : lv_has lm' nL ((k, cv G v) :: (eAs G 0 ls).filter (fun q => !(q.1 == k) && (!(q.1 == k + 1) && !(q.1 + 1 == k && q.2.category == 2))))) : eLs G nL (lS2 ls k v) lm' := by
  refine ⟨by rw [lS2_len]; exact h.1, h'.1, h'.2.1, fun j w hw => ?_⟩
  rcases lS2_get ls k v j w (by rw [h.1]; omega) hw with ⟨rfl, rfl⟩ | ⟨h1, h1', h2, h3⟩
  · exact h'.2.2 _ List.mem_cons_self
  · refine h'.2.2 (j, cv G w) (List.mem_cons_of_mem _ (List.mem_filter.mpr ⟨(eAs_mem G ls 0 _).mpr ⟨j, w, by rw [Nat.zero_add], h2⟩, ?_⟩))
    have e1 : (j == k) = false := by simpa using h1
    have e2 : (j == k + 1) = false := by simpa using h1'
    simp only [e1, e2, Bool.not_false, Bool.true_and]
    by_cases e : j + 1 = k
    · have : (cv G w).category = 1 := cv_cat1 G w (h3 e)
      simp [this]
    · have : (j + 1 == k) = false := by simpa using e
      simp [this]
