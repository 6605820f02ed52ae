/-! What is made is the memory that the methods speak of. -/
def eqv : eC → eC → Prop
  | .inl x, .inl y => x = y
  | .inr x, .inr y => x.1 = y.1 ∧ x.2.1 = y.2.1 ∧ ∀ i : Nat, i < x.2.1 → x.2.2 (i : Int) = y.2.2 (i : Int)
  | _, _ => False
def eqvb : eC → eC → Bool
  | .inl x, .inl y => decide (x.1 = y.1) && decide (x.2 = y.2)
  | .inr x, .inr y => decide (x.1 = y.1) && (decide (x.2.1 = y.2.1) && (List.range x.2.1).all fun i => decide (x.2.2 (i : Int) = y.2.2 (i : Int)))
  | _, _ => false
theorem eqvb_s {c d : eC} (h : eqvb c d = true) : eqv c d := by
  rcases c with x | x <;> rcases d with y | y
  · simp only [eqvb, Bool.and_eq_true, decide_eq_true_eq] at h
    exact Prod.ext h.1 h.2
  · simp [eqvb] at h
  · simp [eqvb] at h
  · simp only [eqvb, Bool.and_eq_true, decide_eq_true_eq, List.all_eq_true, List.mem_range] at h
    exact ⟨h.1, h.2.1, fun i hi => h.2.2 i hi⟩
theorem eAt.eqv {G : eG} {a : eA} {H : Heap} {c d : eC} (h : eAt G a H d) (e : eqv c d) : eAt G a H c := by
  rcases c with ⟨x1, x2⟩ | ⟨t, n, f⟩ <;> rcases d with ⟨y1, y2⟩ | ⟨t', n', g⟩
  · cases e; exact h
  · exact e.elim
  · exact e.elim
  · obtain ⟨h1, h2, h3⟩ := e
    dsimp only at h1 h2 h3
    subst h1 h2
    show H[G.2.2 a]? = some _
    rw [show H[G.2.2 a]? = some _ from h]
    exact congrArg some (arrV_ext fun j hj => by rw [h3 j hj])
theorem eP.subE {G : eG} {A : Nat → Prop} {M M' : eM} {H : Heap} (h : eP G A M H) (hs : ∀ a c, M' a = some c → ∃ d, M a = some d ∧ eqv c d) : eP G A M' H := by
  refine ⟨fun a c hc => ?_, fun a b c d hc hd e => ?_⟩
  · obtain ⟨d, h1, h2⟩ := hs a c hc
    exact ⟨(h.1 a d h1).1.eqv h2, (h.1 a d h1).2⟩
  · obtain ⟨c', h1, -⟩ := hs a c hc
    obtain ⟨d', h2, -⟩ := hs b d hd
    exact h.2 a b c' d' h1 h2 e
def W00 (k : Nat) (i : Int) : Int := if (141 ≤ k ∧ k < 328 ∧ (k - 141) % 17 = 16) ∧ (i = 0 ∨ i = 80 ∨ i = 81) then 1 else 0
def F00 (k : Nat) : Int := if k = 1 then -1 else 0
def A00 : Nat → Int → Int := fun _ _ => 0
def dmL : List eA := (List.range 332).map (fun k => (2, k)) ++ ((List.range 332).map (fun k => (3, k)) ++ ((List.range 16).map (fun k => (7, k)) ++ ((List.range 16).map (fun k => (8, k)) ++ ((List.range 11).map (fun k => (9, k)) ++ ((List.range 11).map (fun k => (10, k)) ++ ((List.range 5).map (fun k => (5, k)) ++ ((List.range 5).map (fun k => (6, k)) ++ ((List.range 23).map (fun k => (1, k)) ++ [(0, 0)]))))))))
theorem orM_s {a b : Option eC} {c : eC} (h : orM a b = some c) : a = some c ∨ b = some c := by
  cases a with
  | none => exact Or.inr h
  | some x => exact Or.inl h
theorem dm_i {t k n : Nat} (hk : k < n) (h : (t, n) ∈ [(2, 332), (3, 332), (7, 16), (8, 16), (9, 11), (10, 11), (5, 5), (6, 5), (1, 23), (0, 1)]) : ((t, k) : eA) ∈ dmL := by
  unfold dmL
  simp only [List.mem_append, List.mem_map, List.mem_range, List.mem_singleton, Prod.mk.injEq]
  simp only [List.mem_cons, Prod.mk.injEq, List.not_mem_nil, or_false] at h
  rcases h with ⟨rfl, rfl⟩ | ⟨rfl, rfl⟩ | ⟨rfl, rfl⟩ | ⟨rfl, rfl⟩ | ⟨rfl, rfl⟩ | ⟨rfl, rfl⟩ | ⟨rfl, rfl⟩ | ⟨rfl, rfl⟩ | ⟨rfl, rfl⟩ | ⟨rfl, rfl⟩
  · exact Or.inl ⟨k, hk, rfl, rfl⟩
  · exact Or.inr (Or.inl ⟨k, hk, rfl, rfl⟩)
  · exact Or.inr (Or.inr (Or.inl ⟨k, hk, rfl, rfl⟩))
  · exact Or.inr (Or.inr (Or.inr (Or.inl ⟨k, hk, rfl, rfl⟩)))
  · exact Or.inr (Or.inr (Or.inr (Or.inr (Or.inl ⟨k, hk, rfl, rfl⟩))))
  · exact Or.inr (Or.inr (Or.inr (Or.inr (Or.inr (Or.inl ⟨k, hk, rfl, rfl⟩)))))
  · exact Or.inr (Or.inr (Or.inr (Or.inr (Or.inr (Or.inr (Or.inl ⟨k, hk, rfl, rfl⟩))))))
  · exact Or.inr (Or.inr (Or.inr (Or.inr (Or.inr (Or.inr (Or.inr (Or.inl ⟨k, hk, rfl, rfl⟩)))))))
  · exact Or.inr (Or.inr (Or.inr (Or.inr (Or.inr (Or.inr (Or.inr (Or.inr (Or.inl ⟨k, hk, rfl, rfl⟩))))))))
  · exact Or.inr (Or.inr (Or.inr (Or.inr (Or.inr (Or.inr (Or.inr (Or.inr (Or.inr ⟨rfl, by omega⟩))))))))
theorem cC_dm {F : Nat → Int} {A W : Nat → Int → Int} {a : eA} {c : eC} (h : cC F A W a = some c) : a ∈ dmL := by
  have hW : cW8 W a = some c → a ∈ dmL := by
    intro h
    unfold cW8 at h
    split at h
    · split at h
      · rename_i hk; exact dm_i hk (by simp)
      · cases h
    · split at h
      · rename_i hk; exact dm_i hk (by simp)
      · cases h
    · cases h
  have hK : cK8 a = some c → a ∈ dmL := by
    intro h
    unfold cK8 at h
    split at h <;> first | (exact dm_i (n := 23) (by decide) (by decide)) | (cases h; done) | (split at h <;> first | (rename_i hk; exact dm_i hk (by simp)) | cases h)
  have hF : cF8 F a = some c → a ∈ dmL := by
    intro h
    unfold cF8 at h
    split at h <;> first | (exact dm_i (n := 23) (by decide) (by decide)) | (exact dm_i (n := 1) (by decide) (by decide)) | (cases h; done)
  have hA : cA8 A a = some c → a ∈ dmL := by
    intro h
    unfold cA8 at h
    split at h <;> first | (exact dm_i (n := 23) (by decide) (by decide)) | (cases h; done) | (split at h <;> first | (rename_i hk; exact dm_i hk (by simp)) | cases h)
  unfold cC at h
  rcases orM_s h with h | h
  · exact hW h
  rcases orM_s h with h | h
  · exact hK h
  rcases orM_s h with h | h
  · exact hF h
  · exact hA h
/-- which wholes there are: 0 none, 1 a 0, 2 a 1 -/
def obK (k : Nat) : Nat → Option eC
  | 0 => none
  | 1 => some (eO 7 [eR (3, k), eI 0, eI 0])
  | _ => some (eO 7 [eR (3, k), eI 1, eI 1])
def obL (k : Nat) : Nat → Option eC
  | 0 => none
  | 1 => some (eY 0 (lw k) fun _ => eI 0)
  | _ => some (eY 0 (lw k) (fUp (fun _ => eI 0) 0 (eI 1)))
def rlK (X : eM) (f : Nat → Nat) : Prop := ∀ k, X (2, k) = obK k (f k) ∧ X (3, k) = obL k (f k)
theorem rl_up {X : eM} {f : Nat → Nat} {a : eA} {o : eC} (h : rlK X f) (ha : a.1 ∉ [2, 3]) : rlK (eUp X a o) f := fun k => by
  rw [eUp_n (fun e => ha (by rw [← e]; simp)), eUp_n (fun e => ha (by rw [← e]; simp))]
  exact h k
theorem rl_wh {X : eM} {f : Nat → Nat} {j : Nat} (h : rlK X f) : rlK (wh X j) (fun k => if k = j then 1 else f k) := fun k => by
  dsimp only
  by_cases e : k = j
  · subst e
    refine ⟨?_, ?_⟩
    · show eUp _ _ _ _ = _
      rw [eUp_s, if_pos rfl]; rfl
    · show eUp _ _ _ _ = _
      rw [eUp_n (fun e => by cases e), eUp_s, if_pos rfl]; rfl
  · refine ⟨?_, ?_⟩
    · show eUp _ _ _ _ = _
      rw [eUp_n (fun q => e (congrArg Prod.snd q)), eUp_n (fun q => by cases q), if_neg e]
      exact (h k).1
    · show eUp _ _ _ _ = _
      rw [eUp_n (fun q => by cases q), eUp_n (fun q => e (congrArg Prod.snd q)), if_neg e]
      exact (h k).2
theorem rl_wo {X : eM} {f : Nat → Nat} {j : Nat} (h : rlK X f) : rlK (wo X j) (fun k => if k = j then 2 else f k) := fun k => by
  dsimp only
  by_cases e : k = j
  · subst e
    refine ⟨?_, ?_⟩
    · show eUp _ _ _ _ = _
      rw [eUp_s, if_pos rfl]; rfl
    · show eUp _ _ _ _ = _
      rw [eUp_n (fun e => by cases e), eUp_s, if_pos rfl]; rfl
  · refine ⟨?_, ?_⟩
    · show eUp _ _ _ _ = _
      rw [eUp_n (fun q => e (congrArg Prod.snd q)), eUp_n (fun q => by cases q), if_neg e]
      exact (h k).1
    · show eUp _ _ _ _ = _
      rw [eUp_n (fun q => by cases q), eUp_n (fun q => e (congrArg Prod.snd q)), if_neg e]
      exact (h k).2
def kws (f : Nat → Nat) (lo n : Nat) : Nat → Nat := fun k => if lo ≤ k ∧ k < lo + n then 1 else f k
theorem rl_ws {X : eM} {f : Nat → Nat} {lo : Nat} (h : rlK X f) : ∀ n, rlK (whs X lo n) (kws f lo n)
  | 0 => fun k => by
    unfold kws
    rw [if_neg (by omega)]
    exact h k
  | n + 1 => fun k => by
    have h1 := rl_wh (j := lo + n) (rl_ws (lo := lo) h n) k
    have e : (if k = lo + n then 1 else kws f lo n k) = kws f lo (n + 1) k := by
      unfold kws
      by_cases e1 : k = lo + n
      · rw [if_pos e1, if_pos (by omega)]
      · rw [if_neg e1]
        by_cases e2 : lo ≤ k ∧ k < lo + n
        · rw [if_pos e2, if_pos (by omega)]
        · rw [if_neg e2, if_neg (by omega)]
    dsimp only at h1
    rw [e] at h1
    exact h1
theorem rl_rw {X : eM} {f : Nat → Nat} {r lo N : Nat} (h : rlK X f) : rlK (rwM X r lo N) (kws f lo N) := rl_up (rl_up (rl_ws h N) (by simp)) (by simp)
def kgr (f : Nat → Nat) (lo : Nat) : Nat → Nat := fun k => if k = lo + 16 then 2 else kws f lo 16 k
theorem rl_gr {X : eM} {f : Nat → Nat} {g lo : Nat} (h : rlK X f) : rlK (grM X g lo) (kgr f lo) := rl_wo (rl_up (rl_up (rl_ws h 16) (by simp)) (by simp))
theorem rl_pr {X : eM} {f : Nat → Nat} {b q : eA} {t : Nat} (h : rlK X f) (hb : b.1 ∉ [2, 3]) (hq : q.1 ∉ [2, 3]) (ht : t ∉ [2, 3]) : rlK (prM X b q t 0) f := fun k => by
  have e : ∀ id : eA, id.1 ∈ [2, 3] → prM X b q t 0 id = X id := fun id hid => by
    unfold prM
    rw [if_neg (fun e => hb (by rw [← e]; exact hid)), if_neg (fun e => hq (by rw [← e]; exact hid)), if_neg (fun e => ht (by rw [← e.1]; exact hid))]
  rw [e _ (by simp), e _ (by simp)]
  exact h k
def krs (f : Nat → Nat) : Nat → Nat → Nat
  | 0 => f
  | n + 1 => kws (krs f n) (10 + 10 * n) 10
theorem rl_rs {X : eM} {f : Nat → Nat} (h : rlK X f) : ∀ n, rlK (rws X n) (krs f n)
  | 0 => h
  | n + 1 => rl_rw (rl_rs h n)
def kaY (f : Nat → Nat) : Nat → Nat → Nat
  | 0 => f
  | n + 1 => kws (kgr (kgr (kaY f n) (141 + 17 * n)) (260 + 17 * n)) (121 + 4 * n) 4
theorem rl_aY {X : eM} {f : Nat → Nat} (h : rlK X f) : ∀ n, rlK (alY X n) (kaY f n)
  | 0 => h
  | n + 1 => rl_rw (rl_gr (rl_gr (rl_aY h n)))
def kaZ (f : Nat → Nat) : Nat → Nat → Nat
  | 0 => f
  | n + 1 => kgr (kaZ f n) (192 + 17 * n)
theorem rl_aZ {X : eM} {f : Nat → Nat} (h : rlK X f) : ∀ n, rlK (alZ X n) (kaZ f n)
  | 0 => h
  | n + 1 => rl_gr (rl_aZ h n)
def kwh (f : Nat → Nat) (j : Nat) : Nat → Nat := fun k => if k = j then 1 else f k
def kco : Nat → Nat :=
  kaZ (kaY (kwh (kwh (kgr (kwh (kwh (kws (kws (krs (kwh (kws (kws (fun _ => 0) 0 10) 110 10) 120) 10) 133 4) 137 4) 328) 329) 311) 330) 331) 3) 4
theorem rl_co : rlK (coM fun _ => none) kco := by
  have u : ∀ {X : eM} {f : Nat → Nat} {k : Nat} {o : eC}, rlK X f → rlK (eUp X (1, k) o) f := fun h => rl_up h (by simp)
  have b1 : rlK (eUp (whs (fun _ => none) 0 10) (1, 2) deO) (kws (fun _ => 0) 0 10) := u (rl_ws (fun k => ⟨rfl, rfl⟩) 10)
  have b2 := rl_pr (b := (1, 1)) (q := (1, 11)) (t := 6) (rl_pr (b := (1, 0)) (q := (1, 10)) (t := 5) b1 (by decide) (by decide) (by decide)) (by decide) (by decide) (by decide)
  have b3 : rlK (idMk _) _ := u (u (rl_rs (rl_wh (j := 120) (rl_rw (r := 10) (lo := 110) (N := 10) (u (o := eY 2 6 fun _ => eI 0) (k := 14) (u (k := 13) (o := eY 2 10 fun _ => eI 0) b2)))) 10))
  have b4 := u (k := 21) (o := eY 0 3 fun _ => eI 0) (u (k := 20) (o := eY 0 3 fun _ => eI 0) (rl_wh (j := 329) (rl_wh (j := 328) (rl_rw (r := 15) (lo := 137) (N := 4) (rl_rw (r := 14) (lo := 133) (N := 4) (u (k := 15) (o := eY 0 4 fun _ => eI 0) b3))))))
  have b5 : rlK (inM _) _ := u (rl_wh (j := 331) (rl_wh (j := 330) (u (rl_gr (g := 10) (lo := 311) b4))))
  have b6 : rlK (alM _) _ := u (u (u (u (u (rl_aZ (rl_aY b5 3) 4)))))
  exact rl_up b6 (by decide)
theorem kco_e : ∀ k, k < 332 → kco k = if 141 ≤ k ∧ k < 328 ∧ (k - 141) % 17 = 16 then 2 else 1 := by decide +kernel
