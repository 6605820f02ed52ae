/-! Class and reference after a solve. -/
/-- the finite case: W6 the class's numbers, st n its standard monomials -/
def fiL (Ar : Nat → Int → Int) (s : Int → Int) (P m : Nat) (W6 : Nat → Nat → Int) (n : Nat) : Prop := 0 < vD Ar s P m ∧ (∀ m', m' ≤ 3 → (∀ of : Nat, of < 2 → (∀ i j : Nat, i < n → j < n → W6 m' (gb of + (4 * i + j)) = vX Ar s P m of i j) ∧ W6 m' (gb of + 16) = vD Ar s P m) ∧ (∀ i j : Nat, i < n → j < n → W6 m' (gb 2 + (4 * i + j)) = vH Ar s P m i j) ∧ W6 m' (gb 2 + 16) = vD Ar s P m * vD Ar s P m) ∧ ∀ e : Nat, e < 3 → ∀ m', e < m' → m' ≤ 3 → (∀ i j : Nat, i < n → j < n → W6 m' (gb (7 + e) + (4 * i + j)) = vD Ar s P m ^ (2 - (mD ((vG Ar s P m).1 i)).toNat) * (vD Ar s P m ^ (2 - (mD ((vG Ar s P m).1 j)).toNat) * vF Ar s P m e i j) ∧ W6 m' (gb (7 + e) + (4 * i + j)) = W6 m' (gb (7 + e) + (4 * j + i))) ∧ (∀ c : Nat, c < 16 → ¬ (c / 4 < n ∧ c % 4 < n) → W6 m' (gb (7 + e) + c) = 0) ∧ W6 m' (gb (7 + e) + 16) = (vD Ar s P m * vD Ar s P m) ^ (e + 2)
theorem lnk_f {Ar : Nat → Int → Int} {s : Int → Int} {P m : Nat} {hs0 s0 : Int → Int} {V L st : Int → Int} (_ : V = V) {W : Nat → Int} {f : Nat → Int} {n : Nat} (h4 : ∀ k : Nat, k < 24 → -5 ≤ Ar 4 k ∧ Ar 4 k ≤ 5) (h5 : ∀ k : Nat, k < 6 → -5 ≤ Ar 5 k ∧ Ar 5 k ≤ 5) (hP : P ≤ 4) (e5 : ∀ k : Nat, k < 6 → f k = Ar 5 k) (F : fin hs0 s0 (vZ Ar s P m)) (hsys : ∀ J, lin J → (jr J hs0 s0 ↔ ∀ q : Nat, q < P → J (sv (Ar 4) (6 * q)))) (hn : (vG Ar s P m).2 = n) (n4 : n ≤ 4) (n6 : ∀ j : Nat, j < n → 0 ≤ (vG Ar s P m).1 j ∧ (vG Ar s P m).1 j < 6) (hst : ∀ j : Nat, j < n → st j = (vG Ar s P m).1 j) (hW : ∀ k : Nat, k < 10 → (ldb L k = true ↔ (vZ Ar s P m).1 k ≠ 0)) (hR : ∀ k : Nat, k < 10 → (vZ Ar s P m).1 k ≠ 0 → ∀ j : Nat, j < 10 → W (rb k + j) = (vZ Ar s P m).2 (45 * (k : Int) + j)) : bdQ W L st f n ∧ fiL Ar s P m (bv6 W L st f n) n := by
  obtain ⟨z, hz⟩ : ∃ z, vZ Ar s P m = z := ⟨_, rfl⟩
  obtain ⟨G, hG⟩ : ∃ G, vG Ar s P m = G := ⟨_, rfl⟩
  have eG : fG (fE z.1 15 (Ar 16) 15).1 (fE z.1 15 (Ar 16) 15).2 (Ar 18) 15 = G := by rw [← hz, ← hG]; rfl
  have z01 : ∀ k, z.1 k = 0 ∨ z.1 k = 1 := by rw [← hz]; exact F.2.2.2.2
  have kp_ : ∀ p, p < 2025 → vK Ar s P m p = z.2 p := fun p hp => by rw [← hz]; exact (dA_o hp 15 _).trans (lW_o hp 6)
  rw [hz] at F hW hR
  rw [hG] at hn n6 hst
  have so : stO z st n := by
    refine ⟨fun j hj => ?_, fun i j hij hj => ?_, fun k hk h0 => ?_⟩
    · have := n6 j hj
      rw [hst j hj]
      refine ⟨this.1, this.2, ?_⟩
      have := fG_0 (e := Ar 16) (N := 0) (g := Ar 16) (g' := Ar 18) z01 j (by rw [eG, hn]; exact hj)
      rw [eG] at this
      exact this
    · rw [hst i (by omega), hst j hj]
      have := fG_s (fE z.1 15 (Ar 16) 15).1 (fE z.1 15 (Ar 16) 15).2 (Ar 18) 15 i j hij (by rw [eG, hn]; exact hj)
      rw [eG] at this
      exact this
    · obtain ⟨i, i0, i1⟩ := std_of (g := Ar 16) (g' := Ar 18) F hk h0
      rw [eG] at i0 i1
      rw [hn] at i0
      exact ⟨i, i0, by rw [hst i i0]; exact i1⟩
  have st6 : ∀ j : Nat, j < n → 0 ≤ st j ∧ st j < 6 := fun j hj => by rw [hst j hj]; exact n6 j hj
  have lk : lkV W L st z.1 z.2 n := ⟨st6, hW, fun k hk hzk => by
    refine ⟨?_, hR k hk hzk⟩
    have := (fin_e F k (by omega) hzk).1
    rw [rv_in (by omega)] at this
    exact this⟩
  obtain ⟨Δ, β, hΔ, sz⟩ := sz_h F hsys h4 hP so n4
  obtain ⟨sc, D0, -, Dl⟩ := scl_e lk hΔ
  have bq := bd_h2 (f := f) lk n4 sc Dl sz (fun q hq => by rw [e5 q hq]; exact h5 q hq)
  refine ⟨bq, ?_⟩
  obtain ⟨D, eD⟩ : ∃ D, dnF z.1 z.2 st n = D := ⟨_, rfl⟩
  rw [eD] at sc D0 Dl
  have cg : ∀ j : Nat, j < n → st j = G.1 j ∧ 0 ≤ G.1 j ∧ G.1 j < 6 := fun j hj => ⟨hst j hj, n6 j hj⟩
  have vd : vD Ar s P m = D := by
    unfold vD
    rw [hz, hG, hn, ← eD]
    rw [← dnF_cg (hs := z.1) (st' := st) (s' := z.2) (fun p hp => (kp_ p hp).symm) n cg]
  have vx : ∀ w : Int, (w = 0 ∨ w = 1) → mQ n (vX Ar s P m w) (xT z.1 z.2 st D w) := fun w hw => by
    unfold vX
    rw [hz, hG, vd]
    exact mQ_sy (xT_cg (st' := st) (s' := z.2) (fun p hp => (kp_ p hp).symm) cg hw)
  obtain ⟨N, eN⟩ : ∃ N : Nat → mT, N = fun k : Nat => nQ n (xT z.1 z.2 st D 0) (xT z.1 z.2 st D 1) D (st k).toNat := ⟨_, rfl⟩
  obtain ⟨H, eH⟩ : ∃ H : mT, H = hQ n (xT z.1 z.2 st D 0) (xT z.1 z.2 st D 1) D f := ⟨_, rfl⟩
  have vh : mQ n (vH Ar s P m) H := by
    unfold vH
    rw [hG, hn, vd, eH]
    refine mQ_tr (hT_cg (vx 0 (Or.inl rfl)) (vx 1 (Or.inr rfl)) 6) (fun i j _ _ => ?_)
    exact (hQ_e i j 6 e5).symm
  refine ⟨by rw [vd]; exact D0, fun m' hm' => ?_, fun e he m' h1 h2 => ?_⟩
  · obtain ⟨-, b, c, -, d, d2, -⟩ := bv6_e (f := f) lk n4 sc eN eH m' hm'
    rw [vd]
    refine ⟨fun of ho => ⟨fun i j hi hj => ?_, d of ho⟩, fun i j hi hj => ?_, d2⟩
    · rw [b of ho i j hi hj]
      exact (vx of (by omega) i j hi hj).symm
    · rw [c i j hi hj]
      exact (vh i j hi hj).symm
  · obtain ⟨x, y, t⟩ := bv6_f (f := f) lk n4 sc eN eH he m' h1 h2
    rw [vd]
    have n0 : ∀ {i : Nat}, i < n → 0 < n := fun h => by omega
    have tn : ∀ j : Nat, j < n → (((st j).toNat : Nat) : Int) = G.1 j := fun j hj => by have := st6 j hj; rw [← hst j hj]; omega
    have XY := xy_c F so Dl
    have ff : ∀ i j, i < n → j < n → fQ n N H e i j = D ^ (2 - (mD (G.1 i)).toNat) * (D ^ (2 - (mD (G.1 j)).toNat) * vF Ar s P m e i j) ∧ fQ n N H e j i = fQ n N H e i j := fun i j hi hj => by
      have := fQ_f (N := N) (q := fun k : Nat => (st k).toNat) (f := f) (show D ≠ 0 by omega) (n0 hi) XY (fun k => by rw [eN]) (fun k hk i hi => by
        rw [eN]
        exact nq_0 F so hk hi) eH (M := fun k : Nat => pQ n (xT z.1 z.2 st D 0) (xT z.1 z.2 st D 1) (mX (((st k).toNat : Nat) : Int)).toNat (mD (((st k).toNat : Nat) : Int)).toNat) (fun k => rfl) e hi hj
      rw [tn i hi, tn j hj] at this
      refine ⟨?_, this.2⟩
      rw [this.1]
      have vf : vF Ar s P m e i j = fT n (uPw n H e) (fun k : Nat => pQ n (xT z.1 z.2 st D 0) (xT z.1 z.2 st D 1) (mX (((st k).toNat : Nat) : Int)).toNat (mD (((st k).toNat : Nat) : Int)).toNat) i j := by
        unfold vF
        rw [hG, hn]
        refine fT_cg (uPw_cg vh e) (fun k hk => ?_) i j hi hj
        unfold vM
        rw [hG, hn, tn k hk]
        exact pQ_cg (vx 0 (Or.inl rfl)) (vx 1 (Or.inr rfl)) _ _
      rw [vf]
    have both : ∀ i j, i < n → j < n → bv6 W L st f n m' (gb (7 + e) + (4 * i + j)) = fQ n N H e i j := fun i j hi hj => by
      rw [x i j hi hj]
      split
      · rfl
      · exact (ff i j hi hj).2
    refine ⟨fun i j hi hj => ⟨by rw [both i j hi hj, hG]; exact (ff i j hi hj).1, by rw [both i j hi hj, both j i hj hi]; exact (ff i j hi hj).2.symm⟩, y, t⟩
theorem lnk_h {Ar A : Nat → Int → Int} {s f : Int → Int} {V : Nat → Int} {P : Nat} (h01 : ∀ k, Ar 15 k = 0 ∨ Ar 15 k = 1) (h4 : ∀ k : Nat, k < 24 → -5 ≤ Ar 4 k ∧ Ar 4 k ≤ 5) (h5 : ∀ k : Nat, k < 6 → -5 ≤ Ar 5 k ∧ Ar 5 k ≤ 5) (hP : P ≤ 4) (hf : ∀ i : Int, 0 ≤ i → i < 30 → -5 ≤ f i ∧ f i ≤ 5) (e4 : ∀ k : Nat, k < 24 → f k = Ar 4 k) (e5 : ∀ k : Nat, k < 6 → f (24 + (k : Int)) = Ar 5 k) :
    ∃ m, svB Ar s P m ∧ idB f P (vR V) (A 2) (A 3) ∧ (∀ i : Int, 0 ≤ i → i < 10 → slL A V P f i = 0 ∨ slL A V P f i = 1) ∧ slA (slL A V P f) = vA Ar s P m ∧ elc (slL A V P f) 10 = (vE Ar s P m).2 ∧ (∀ k : Int, tpF (slL A V P f) k 10 0 0 = if 0 ≤ k ∧ k < (vE Ar s P m).2 then (vE Ar s P m).1 k else -1) ∧ (∀ l : Nat, l < 10 → slL A V P f l = 1 → (vZ Ar s P m).1 l = 1 ∧ 0 < (vZ Ar s P m).2 (45 * (l : Int) + l) ∧ ∀ j : Nat, j < 10 → slR A V P f l j = (vZ Ar s P m).2 (45 * (l : Int) + j)) ∧ slQ A V P f = (if tF (vK Ar s P m) 2025 15 < 0 then 1 else 0) ∧ (∀ i : Nat, i < (vE Ar s P m).2 → 0 ≤ (vE Ar s P m).1 i ∧ (vE Ar s P m).1 i < 10 ∧ slL A V P f ((vE Ar s P m).1 i) = 1) ∧ (vA Ar s P m < 2 → (vG Ar s P m).2 ≤ 4 ∧ (∀ j : Nat, j < (vG Ar s P m).2 → 0 ≤ (vG Ar s P m).1 j ∧ (vG Ar s P m).1 j < 6) ∧ ∃ st : Int → Int, chG (slL A V P f) (A 4) 6 = (st, ((vG Ar s P m).2 : Int)) ∧ (∀ j : Nat, j < (vG Ar s P m).2 → st j = (vG Ar s P m).1 j) ∧ bdQ (sV V (slR A V P f)) (slL A V P f) st (fun c => f (24 + (c : Int))) (vG Ar s P m).2 ∧ fiL Ar s P m (bv6 (sV V (slR A V P f)) (slL A V P f) st (fun c => f (24 + (c : Int))) (vG Ar s P m).2) (vG Ar s P m).2) := by
  obtain ⟨m, hs0, s0, sB, hsys, F, h6⟩ := sv_fin (s := s) h01 h4 h5 hP
  obtain ⟨iB, hs, ss, c, mq⟩ := idl_h (R := vR V) (L := A 2) (G := A 3) hf hP
  have eL : (idG f P (vR V) (A 2) (A 3)).2.1 = slL A V P f := rfl
  rw [eL] at c
  have z01 := F.2.2.2.2
  have lk := fun {l : Nat} (hl : l < 10) => lk_l e4 hP c F hsys hl
  have lk1 : ll (slL A V P f) (vZ Ar s P m) := fun l hl => by
    have a := lk hl
    have b := c.2.1 l (by omega) (by omega)
    have d := z01 l
    constructor
    · intro h
      rcases d with q | q
      · exact absurd q (a.mpr (by omega))
      · exact q
    · intro h
      rcases b with q | q
      · exact absurd q (a.mp (by omega))
      · exact q
  have rows : ∀ l : Nat, l < 10 → (vZ Ar s P m).1 l ≠ 0 → ∀ j : Nat, j < 10 → slR A V P f l j = (vZ Ar s P m).2 (45 * (l : Int) + j) := fun l hl h j hj => by
    unfold slR
    rw [uR_n _ _ (by omega), lk_r e4 hP c F hsys hl ((lk hl).mp h) j hj]
    exact rv_in (by omega)
  have ldbz : ∀ k : Nat, k < 10 → (ldb (slL A V P f) k = true ↔ (vZ Ar s P m).1 k ≠ 0) := fun k hk => by
    rw [ldb_e]
    have b := c.2.1 k (by omega) (by omega)
    rw [lk hk]
    exact ⟨fun h => by omega, fun h => ⟨by omega, by omega, by omega⟩⟩
  refine ⟨m, sB, iB, c.2.1, an_e F hsys lk1 (Ar 16), el_n2 F hsys lk1 (Ar 16), fun k => tp_n2 F hsys lk1 (Ar 16) k, fun l hl h => ?_, ?_, fun i hi => ?_, fun hA => ?_⟩
  · have h1 := (lk1 l hl).mp h
    refine ⟨h1, ?_, rows l hl (by rw [h1]; decide)⟩
    have := (fin_e F l (by omega) (by rw [h1]; decide)).1
    rw [rv_in (by omega)] at this
    exact this
  · unfold slQ
    have e : tF (vK Ar s P m) 2025 15 < 0 ↔ (idQ f P (vR V) (A 2) (A 3)).2 = -1 := by
      rw [mq]
      have h1 : sv f 24 = sv (Ar 5) 0 := funext (fun j => by
        unfold sv
        split
        · rename_i g
          rw [e5 j g, show (0 : Int) + (j : Int) = j by omega]
        · rfl)
      rw [h1, ← lk_s e4 hP c F hsys (fun j hj => by unfold sv; rw [if_neg (by omega)])]
      exact mem_e F h5
    rcases Decidable.em (tF (vK Ar s P m) 2025 15 < 0) with g | g
    · rw [if_pos g, if_pos (e.mp g)]
    · rw [if_neg g, if_neg (fun q => g (e.mpr q))]
  · obtain ⟨a, a0, a1, a2⟩ := fE_l (hs := (vZ Ar s P m).1) (n := 15) (g := Ar 16) 15 i hi
    have a10 := el_10 F hsys a0 a2
    have a1' : (vE Ar s P m).1 i = a := a1
    rw [a1']
    exact ⟨by omega, by omega, (lk1 a a10).mpr a2.1⟩
  · obtain ⟨n4, n6⟩ := h6 hA
    obtain ⟨q1, q2⟩ := ch_n2 F lk1 (Ar 16) (Ar 18) (A 4) n4 (fun j hj => (n6 j hj).2)
    have q1' : (chG (slL A V P f) (A 4) 6).2 = ((vG Ar s P m).2 : Int) := q1
    have rbk : ∀ k : Nat, k < 10 → (vZ Ar s P m).1 k ≠ 0 → ∀ j : Nat, j < 10 → sV V (slR A V P f) (rb k + j) = (vZ Ar s P m).2 (45 * (k : Int) + j) := fun k hk hz j hj => by
      have r10 := rb_11 (show k < 11 by omega)
      unfold sV
      rw [if_pos (by omega), show (rb k + j - 10) / 10 = k by omega, show (rb k + j - 10) % 10 = j by omega]
      exact rows k hk hz j hj
    obtain ⟨b1, b2⟩ := lnk_f (V := fun _ => 0) (f := fun c : Nat => f (24 + (c : Int))) (L := slL A V P f) (W := sV V (slR A V P f)) (st := (chG (slL A V P f) (A 4) 6).1) rfl h4 h5 hP e5 F hsys rfl n4 n6 q2 ldbz rbk
    exact ⟨n4, n6, (chG (slL A V P f) (A 4) 6).1, by rw [← q1'], q2, b1, b2⟩
