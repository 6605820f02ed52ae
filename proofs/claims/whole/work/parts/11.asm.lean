/-! The engine's steps put together: what is safe there, holds on the machine. -/
theorem gF_mono {M : eM} {a : eA} {x : Option (Nat × Nat)} {f g : eV → Prop} (h : ∀ v, f v → g v) (q : gF M a x f) : gF M a x g := by
  unfold gF at q ⊢
  split
  · rename_i c fs d k hM
    rw [hM] at q
    refine ⟨q.1, ?_⟩
    have q2 := q.2
    split
    · rename_i v hv
      simp only [hv] at q2
      exact h _ q2
    · rename_i hv
      simp only [hv] at q2
  · rename_i hne
    split at q
    · rename_i c fs d k hM
      exact (hne c fs d k hM rfl).elim
    · exact q
theorem pF_mono {M : eM} {a : eA} {x : Option (Nat × Nat)} {z : Int} {f g : eM → Prop} (h : ∀ v, f v → g v) (q : pF M a x z f) : pF M a x z g := by
  unfold pF at q ⊢
  split
  · rename_i c fs d k hM
    rw [hM] at q
    exact ⟨q.1, q.2.1, h _ q.2.2⟩
  · rename_i hne
    split at q
    · rename_i c fs d k hM
      exact (hne c fs d k hM rfl).elim
    · exact q
theorem gA_mono {M : eM} {a : eA} {t : Nat} {i : Int} {f g : eV → Prop} (h : ∀ v, f v → g v) (q : gA M a t i f) : gA M a t i g := by
  unfold gA at q ⊢
  split at q
  · exact ⟨q.1, q.2.1, h _ q.2.2⟩
  · exact q.elim
theorem gR_mono {M : eM} {a : eA} {i : Int} {f g : eV → Prop} (h : ∀ v, f v → g v) (q : gR M a i f) : gR M a i g := by
  unfold gR at q ⊢
  split at q
  · exact ⟨q.1, q.2.1, q.2.2.1, h _ q.2.2.2⟩
  · exact q.elim
theorem pY_mono {M : eM} {a : eA} {t : Nat} {i : Int} {v : eV} {f g : eM → Prop} (h : ∀ v, f v → g v) (q : pY M a t i v f) : pY M a t i v g := by
  unfold pY at q ⊢
  split at q
  · exact ⟨q.1, q.2.1, h _ q.2.2⟩
  · exact q.elim
theorem gN_mono {M : eM} {a : eA} {f g : Int → Prop} (h : ∀ v, f v → g v) (q : gN M a f) : gN M a g := by
  unfold gN at q ⊢
  split at q
  · exact ⟨q.1, q.2.1, h _ q.2.2⟩
  · exact q.elim
section EA
variable {G : eG} {A : Nat → Prop} {p : Program} {l : Launch} {e : Env} {R : Room} {s : State} {m : MethodId} {args : Array Value} {below : List Frame} {meth : Method} {c : Code} {nL : Nat} {own : String} {cc : ByteArray} {T : eT} {ls : List (Option eV)} {st : List eV} {M : eM} {pc : Nat} {ret : Option FieldType} {rt : Option eV → eM → Prop}
/-- which calls a method makes -/
def eCalls (own : String) (R : Room) (T : eT) : Prop :=
  (∀ k n sp, T.2.2.2.1 k = some (n, sp) → eCallV own R k n sp) ∧ ∀ k n sp, T.2.2.2.2 k = some (n, sp) → eCallS own R k n sp
theorem ek_cL {x : Option (Nat × eSp)} {f : Option eV → List eV → eM → Prop} (h : cL x st M f) : ∃ n sp, x = some (n, sp) ∧ n ≤ st.length ∧ cW (st.drop n) ≤ 8 ∧ sp (st.take n).reverse M (fun o M' => f o (st.drop n) M') := by
  unfold cL at h
  split at h
  · exact ⟨_, _, rfl, h⟩
  · exact h.elim
theorem e_split {n : Nat} (h : n ≤ st.length) : st = (st.take n).reverse.reverse ++ st.drop n ∧ (st.take n).reverse.length = n := by
  refine ⟨by simp, by simp [h]⟩
/-- returning -/
theorem e_ret (B : eB G own cc nL T p s m args c) (hr : meth.sig.returnType = ret) (hlocks : meth.locks = false) {v : Option eV} (hv : eRt ret v) (hrt : rt v M) {i : Jvm.ClassFile.Instr} (hd : decode cc pc = .ok (i, 1))
    (hi : (i = .ireturn ∧ ∃ z, v = some (eI z)) ∨ (i = .lreturn ∧ ∃ z, v = some (eL z)) ∨ (i = .areturn ∧ ∃ z, v = some (.inr z)) ∨ (i = .return_ ∧ v = none)) :
    eW G A p l e R s m args below meth c nL (MQ below (eQ G A rt) args s 0 0 A) pc ls v.toList M := by
  obtain ⟨hx, hb, hml, hown, hts, hK, hfld, hldc, hldc2⟩ := B
  intro H locs lm hP hS hz hl
  have post : ∀ t : State, t.heap = H → s.WarmedH t.vm → eQ G A rt args s (.returned (v.map (cv G))) t := fun t ht _ => ⟨⟨v, M, hrt, rfl, by rw [ht]; exact hP⟩, hS.F ht, by rw [ht]; exact hz⟩
  rcases hi with ⟨rfl, z, rfl⟩ | ⟨rfl, z, rfl⟩ | ⟨rfl, z, rfl⟩ | ⟨rfl, rfl⟩
  · unfold eRt at hv
    cases hret : ret with
    | none => rw [hret] at hv; exact hv.elim
    | some ty =>
      rw [hret] at hv hr
      have hn : narrow ty (Value.int (Int32.ofInt z)) = Value.int (Int32.ofInt z) := by
        cases ty <;> simp only [] at hv <;> first | exact hv.elim | rfl | (rcases hv with rfl | rfl <;> decide)
      exact W.zret hx hb hr hn post hS.2.2 hd hlocks
  · unfold eRt at hv
    cases hret : ret with
    | none => rw [hret] at hv; exact hv.elim
    | some ty =>
      rw [hret] at hv hr
      cases ty <;> simp only [] at hv <;> first | exact hv.elim | exact W.lret hx hb hr post hS.2.2 hd hlocks
  · unfold eRt at hv
    cases hret : ret with
    | none => rw [hret] at hv; exact hv.elim
    | some ty =>
      rw [hret] at hv hr
      have hv2 : cv G (.inr z) = .null ∨ ∃ a, cv G (.inr z) = .ref a := by
        rcases z with a | u
        · exact Or.inr ⟨_, rfl⟩
        · exact Or.inl rfl
      cases ty <;> simp only [] at hv <;> first | exact hv.elim | exact W.aret hx hb hr (Or.inl ⟨_, rfl⟩) hv2 post hS.2.2 hd hlocks
  · have hr' : meth.sig.returnType = none := by
      unfold eRt at hv
      cases hret : ret with
      | none => rw [hr, hret]
      | some ty => rw [hret] at hv; cases ty <;> exact hv.elim
    exact W.vret hx hb hr' post hS.2.2 hd hlocks
set_option maxHeartbeats 4000000 in
theorem eS_sound (B : eB G own cc nL T p s m args c) (hr : meth.sig.returnType = ret) (hlocks : meth.locks = false) (hC : eCalls own R T) {i : Jvm.ClassFile.Instr} {len : Nat} (hd : decode cc pc = .ok (i, len)) (hs : stOK nL i = true) (hj : jOK pc i = true) (hlen : eLen i len = true)
    {nx : eK0} (hnx : ∀ pc ls st M, nx pc ls st M → eW G A p l e R s m args below meth c nL (MQ below (eQ G A rt) args s 0 0 A) pc ls st M) (h : eS T i len pc ls st M nx (fun o M => eRt ret o ∧ rt o M)) :
    eW G A p l e R s m args below meth c nL (MQ below (eQ G A rt) args s 0 0 A) pc ls st M := by
  obtain ⟨hcV, hcS⟩ := hC
  cases i with
  | iconst z =>
    simp only [eLen, decide_eq_true_eq] at hlen; subst hlen
    exact sd_iconst B hd (hnx _ _ _ _ h)
  | bipush z =>
    simp only [eLen, decide_eq_true_eq] at hlen; subst hlen
    exact sd_bipush B hd h.1 (hnx _ _ _ _ h.2)
  | sipush z =>
    simp only [eLen, decide_eq_true_eq] at hlen; subst hlen
    exact sd_sipush B hd h.1 (hnx _ _ _ _ h.2)
  | lconst z =>
    simp only [eLen, decide_eq_true_eq] at hlen; subst hlen
    exact sd_lconst B hd (hnx _ _ _ _ h)
  | ldc k =>
    simp only [eLen, decide_eq_true_eq] at hlen; subst hlen
    obtain ⟨z, hz, h⟩ := ek_oI h
    exact sd_ldc B hd hz (hnx _ _ _ _ h)
  | ldc_w k =>
    simp only [eLen, decide_eq_true_eq] at hlen; subst hlen
    obtain ⟨z, hz, h⟩ := ek_oI h
    exact sd_ldcw B hd hz (hnx _ _ _ _ h)
  | ldc2_w k =>
    simp only [eLen, decide_eq_true_eq] at hlen; subst hlen
    obtain ⟨z, hz, h⟩ := ek_oI h
    exact sd_ldc2 B hd hz (hnx _ _ _ _ h)
  | aconst_null =>
    simp only [eLen, decide_eq_true_eq] at hlen; subst hlen
    exact sd_null B hd (hnx _ _ _ _ h)
  | iload k =>
    simp only [eLen, decide_eq_true_eq] at hlen; subst hlen
    obtain ⟨z, hz, h⟩ := ek_qI h
    exact sd_iload B hd hz (hnx _ _ _ _ h)
  | iload_n k =>
    simp only [eLen, decide_eq_true_eq] at hlen; subst hlen
    obtain ⟨z, hz, h⟩ := ek_qI h
    exact sd_iload_n B hd hz (hnx _ _ _ _ h)
  | lload k =>
    simp only [eLen, decide_eq_true_eq] at hlen; subst hlen
    obtain ⟨z, hz, h⟩ := ek_qL h
    exact sd_lload B hd hz (hnx _ _ _ _ h)
  | lload_n k =>
    simp only [eLen, decide_eq_true_eq] at hlen; subst hlen
    obtain ⟨z, hz, h⟩ := ek_qL h
    exact sd_lload_n B hd hz (hnx _ _ _ _ h)
  | aload k =>
    simp only [eLen, decide_eq_true_eq] at hlen; subst hlen
    obtain ⟨z, hz, h⟩ := ek_qR h
    exact sd_aload B hd hz (hnx _ _ _ _ h)
  | aload_n k =>
    simp only [eLen, decide_eq_true_eq] at hlen; subst hlen
    obtain ⟨z, hz, h⟩ := ek_qR h
    exact sd_aload_n B hd hz (hnx _ _ _ _ h)
  | istore k =>
    simp only [eLen, decide_eq_true_eq] at hlen; subst hlen
    obtain ⟨z, r, rfl, h⟩ := ek_pI h
    exact sd_istore B hd (by simpa [stOK] using hs) (hnx _ _ _ _ h)
  | istore_n k =>
    simp only [eLen, decide_eq_true_eq] at hlen; subst hlen
    obtain ⟨z, r, rfl, h⟩ := ek_pI h
    exact sd_istore_n B hd (by simpa [stOK] using hs) (hnx _ _ _ _ h)
  | lstore k =>
    simp only [eLen, decide_eq_true_eq] at hlen; subst hlen
    obtain ⟨z, r, rfl, h⟩ := ek_pL h
    exact sd_lstore B hd (by simpa [stOK] using hs) (hnx _ _ _ _ h)
  | lstore_n k =>
    simp only [eLen, decide_eq_true_eq] at hlen; subst hlen
    obtain ⟨z, r, rfl, h⟩ := ek_pL h
    exact sd_lstore_n B hd (by simpa [stOK] using hs) (hnx _ _ _ _ h)
  | astore k =>
    simp only [eLen, decide_eq_true_eq] at hlen; subst hlen
    obtain ⟨z, r, rfl, h⟩ := ek_pR h
    exact sd_astore B hd (by simpa [stOK] using hs) (hnx _ _ _ _ h)
  | astore_n k =>
    simp only [eLen, decide_eq_true_eq] at hlen; subst hlen
    obtain ⟨z, r, rfl, h⟩ := ek_pR h
    exact sd_astore_n B hd (by simpa [stOK] using hs) (hnx _ _ _ _ h)
  | iinc k d =>
    simp only [eLen, decide_eq_true_eq] at hlen; subst hlen
    obtain ⟨z, hz, h⟩ := ek_qI h
    exact sd_iinc B hd hz (by simpa [stOK] using hs) (hnx _ _ _ _ h)
  | iadd =>
    simp only [eLen, decide_eq_true_eq] at hlen; subst hlen
    obtain ⟨b, r, rfl, h⟩ := ek_pI h
    obtain ⟨a, r, rfl, h⟩ := ek_pI h
    exact sd_iadd B hd (hnx _ _ _ _ h)
  | isub =>
    simp only [eLen, decide_eq_true_eq] at hlen; subst hlen
    obtain ⟨b, r, rfl, h⟩ := ek_pI h
    obtain ⟨a, r, rfl, h⟩ := ek_pI h
    exact sd_isub B hd (hnx _ _ _ _ h)
  | imul =>
    simp only [eLen, decide_eq_true_eq] at hlen; subst hlen
    obtain ⟨b, r, rfl, h⟩ := ek_pI h
    obtain ⟨a, r, rfl, h⟩ := ek_pI h
    exact sd_imul B hd (hnx _ _ _ _ h)
  | ladd =>
    simp only [eLen, decide_eq_true_eq] at hlen; subst hlen
    obtain ⟨b, r, rfl, h⟩ := ek_pL h
    obtain ⟨a, r, rfl, h⟩ := ek_pL h
    exact sd_ladd B hd (hnx _ _ _ _ h)
  | lsub =>
    simp only [eLen, decide_eq_true_eq] at hlen; subst hlen
    obtain ⟨b, r, rfl, h⟩ := ek_pL h
    obtain ⟨a, r, rfl, h⟩ := ek_pL h
    exact sd_lsub B hd (hnx _ _ _ _ h)
  | lmul =>
    simp only [eLen, decide_eq_true_eq] at hlen; subst hlen
    obtain ⟨b, r, rfl, h⟩ := ek_pL h
    obtain ⟨a, r, rfl, h⟩ := ek_pL h
    exact sd_lmul B hd (hnx _ _ _ _ h)
  | iand =>
    simp only [eLen, decide_eq_true_eq] at hlen; subst hlen
    obtain ⟨b, r, rfl, h⟩ := ek_pI h
    obtain ⟨a, r, rfl, h⟩ := ek_pI h
    exact sd_iand B hd (hnx _ _ _ _ h)
  | ior =>
    simp only [eLen, decide_eq_true_eq] at hlen; subst hlen
    obtain ⟨b, r, rfl, h⟩ := ek_pI h
    obtain ⟨a, r, rfl, h⟩ := ek_pI h
    exact sd_ior B hd (hnx _ _ _ _ h)
  | ixor =>
    simp only [eLen, decide_eq_true_eq] at hlen; subst hlen
    obtain ⟨b, r, rfl, h⟩ := ek_pI h
    obtain ⟨a, r, rfl, h⟩ := ek_pI h
    exact sd_ixor B hd (hnx _ _ _ _ h)
  | ishl =>
    simp only [eLen, decide_eq_true_eq] at hlen; subst hlen
    obtain ⟨b, r, rfl, h⟩ := ek_pI h
    obtain ⟨a, r, rfl, h⟩ := ek_pI h
    exact sd_ishl B hd (hnx _ _ _ _ h)
  | ishr =>
    simp only [eLen, decide_eq_true_eq] at hlen; subst hlen
    obtain ⟨b, r, rfl, h⟩ := ek_pI h
    obtain ⟨a, r, rfl, h⟩ := ek_pI h
    exact sd_ishr B hd (hnx _ _ _ _ h)
  | iushr =>
    simp only [eLen, decide_eq_true_eq] at hlen; subst hlen
    obtain ⟨b, r, rfl, h⟩ := ek_pI h
    obtain ⟨a, r, rfl, h⟩ := ek_pI h
    exact sd_iushr B hd (hnx _ _ _ _ h)
  | land =>
    simp only [eLen, decide_eq_true_eq] at hlen; subst hlen
    obtain ⟨b, r, rfl, h⟩ := ek_pL h
    obtain ⟨a, r, rfl, h⟩ := ek_pL h
    exact sd_land B hd (hnx _ _ _ _ h)
  | lor =>
    simp only [eLen, decide_eq_true_eq] at hlen; subst hlen
    obtain ⟨b, r, rfl, h⟩ := ek_pL h
    obtain ⟨a, r, rfl, h⟩ := ek_pL h
    exact sd_lor B hd (hnx _ _ _ _ h)
  | lshl =>
    simp only [eLen, decide_eq_true_eq] at hlen; subst hlen
    obtain ⟨b, r, rfl, h⟩ := ek_pI h
    obtain ⟨a, r, rfl, h⟩ := ek_pL h
    exact sd_lshl B hd (hnx _ _ _ _ h)
  | lshr =>
    simp only [eLen, decide_eq_true_eq] at hlen; subst hlen
    obtain ⟨b, r, rfl, h⟩ := ek_pI h
    obtain ⟨a, r, rfl, h⟩ := ek_pL h
    exact sd_lshr B hd (hnx _ _ _ _ h)
  | idiv =>
    simp only [eLen, decide_eq_true_eq] at hlen; subst hlen
    obtain ⟨b, r, rfl, h⟩ := ek_pI h
    obtain ⟨a, r, rfl, h⟩ := ek_pI h
    exact sd_idiv B hd h.1 (hnx _ _ _ _ h.2)
  | irem =>
    simp only [eLen, decide_eq_true_eq] at hlen; subst hlen
    obtain ⟨b, r, rfl, h⟩ := ek_pI h
    obtain ⟨a, r, rfl, h⟩ := ek_pI h
    exact sd_irem B hd h.1 (hnx _ _ _ _ h.2)
  | ldiv =>
    simp only [eLen, decide_eq_true_eq] at hlen; subst hlen
    obtain ⟨b, r, rfl, h⟩ := ek_pL h
    obtain ⟨a, r, rfl, h⟩ := ek_pL h
    exact sd_ldiv B hd h.1 (hnx _ _ _ _ h.2)
  | lrem =>
    simp only [eLen, decide_eq_true_eq] at hlen; subst hlen
    obtain ⟨b, r, rfl, h⟩ := ek_pL h
    obtain ⟨a, r, rfl, h⟩ := ek_pL h
    exact sd_lrem B hd h.1 (hnx _ _ _ _ h.2)
  | lcmp =>
    simp only [eLen, decide_eq_true_eq] at hlen; subst hlen
    obtain ⟨b, r, rfl, h⟩ := ek_pL h
    obtain ⟨a, r, rfl, h⟩ := ek_pL h
    exact sd_lcmp B hd h.1 (hnx _ _ _ _ h.2)
  | ineg =>
    simp only [eLen, decide_eq_true_eq] at hlen; subst hlen
    obtain ⟨a, r, rfl, h⟩ := ek_pI h
    exact sd_ineg B hd (hnx _ _ _ _ h)
  | lneg =>
    simp only [eLen, decide_eq_true_eq] at hlen; subst hlen
    obtain ⟨a, r, rfl, h⟩ := ek_pL h
    exact sd_lneg B hd (hnx _ _ _ _ h)
  | i2l =>
    simp only [eLen, decide_eq_true_eq] at hlen; subst hlen
    obtain ⟨a, r, rfl, h⟩ := ek_pI h
    exact sd_i2l B hd h.1 (hnx _ _ _ _ h.2)
  | l2i =>
    simp only [eLen, decide_eq_true_eq] at hlen; subst hlen
    obtain ⟨a, r, rfl, h⟩ := ek_pL h
    exact sd_l2i B hd (hnx _ _ _ _ h)
  | dup =>
    simp only [eLen, decide_eq_true_eq] at hlen; subst hlen
    obtain ⟨v, r, rfl, h1, h⟩ := ek_pC1 h
    exact sd_dup B hd h1 (hnx _ _ _ _ h)
  | pop =>
    simp only [eLen, decide_eq_true_eq] at hlen; subst hlen
    obtain ⟨v, r, rfl, h1, h⟩ := ek_pC1 h
    exact sd_pop B hd h1 (hnx _ _ _ _ h)
  | dup2 =>
    simp only [eLen, decide_eq_true_eq] at hlen; subst hlen
    obtain ⟨v, r, rfl, h1, h⟩ := ek_pC1 h
    obtain ⟨u, r, rfl, h2, h⟩ := ek_pC1 h
    exact sd_dup2 B hd h1 h2 (hnx _ _ _ _ h)
  | if_icmp cond off =>
    simp only [eLen, decide_eq_true_eq] at hlen; subst hlen
    cases cond <;> (obtain ⟨b, r, rfl, h⟩ := ek_pI h; obtain ⟨a, r, rfl, h⟩ := ek_pI h)
    · exact sd_icmp_eq B hd h.1 (by simpa [jOK] using hj) (fun q => hnx _ _ _ _ (h.2.1 q)) (fun q => hnx _ _ _ _ (h.2.2 q))
    · exact sd_icmp_ne B hd h.1 (by simpa [jOK] using hj) (fun q => hnx _ _ _ _ (h.2.1 q)) (fun q => hnx _ _ _ _ (h.2.2 q))
    · exact sd_icmp_lt B hd h.1 (by simpa [jOK] using hj) (fun q => hnx _ _ _ _ (h.2.1 q)) (fun q => hnx _ _ _ _ (h.2.2 q))
    · exact sd_icmp_ge B hd h.1 (by simpa [jOK] using hj) (fun q => hnx _ _ _ _ (h.2.1 q)) (fun q => hnx _ _ _ _ (h.2.2 q))
    · exact sd_icmp_gt B hd h.1 (by simpa [jOK] using hj) (fun q => hnx _ _ _ _ (h.2.1 q)) (fun q => hnx _ _ _ _ (h.2.2 q))
    · exact sd_icmp_le B hd h.1 (by simpa [jOK] using hj) (fun q => hnx _ _ _ _ (h.2.1 q)) (fun q => hnx _ _ _ _ (h.2.2 q))
  | ifCond cond off =>
    simp only [eLen, decide_eq_true_eq] at hlen; subst hlen
    cases cond <;> (obtain ⟨a, r, rfl, h⟩ := ek_pI h)
    · exact sd_if_eq B hd h.1 (by simpa [jOK] using hj) (fun q => hnx _ _ _ _ (h.2.1 q)) (fun q => hnx _ _ _ _ (h.2.2 q))
    · exact sd_if_ne B hd h.1 (by simpa [jOK] using hj) (fun q => hnx _ _ _ _ (h.2.1 q)) (fun q => hnx _ _ _ _ (h.2.2 q))
    · exact sd_if_lt B hd h.1 (by simpa [jOK] using hj) (fun q => hnx _ _ _ _ (h.2.1 q)) (fun q => hnx _ _ _ _ (h.2.2 q))
    · exact sd_if_ge B hd h.1 (by simpa [jOK] using hj) (fun q => hnx _ _ _ _ (h.2.1 q)) (fun q => hnx _ _ _ _ (h.2.2 q))
    · exact sd_if_gt B hd h.1 (by simpa [jOK] using hj) (fun q => hnx _ _ _ _ (h.2.1 q)) (fun q => hnx _ _ _ _ (h.2.2 q))
    · exact sd_if_le B hd h.1 (by simpa [jOK] using hj) (fun q => hnx _ _ _ _ (h.2.1 q)) (fun q => hnx _ _ _ _ (h.2.2 q))
  | ifnull off =>
    simp only [eLen, decide_eq_true_eq] at hlen; subst hlen
    obtain ⟨v, r, rfl, h⟩ := ek_pR h
    exact sd_ifnull B hd (by simpa [jOK] using hj) (fun q => hnx _ _ _ _ (h.1 q)) (fun q => hnx _ _ _ _ (h.2 q))
  | ifnonnull off =>
    simp only [eLen, decide_eq_true_eq] at hlen; subst hlen
    obtain ⟨v, r, rfl, h⟩ := ek_pR h
    exact sd_ifnonnull B hd (by simpa [jOK] using hj) (fun q => hnx _ _ _ _ (h.1 q)) (fun q => hnx _ _ _ _ (h.2 q))
  | goto off =>
    simp only [eLen, decide_eq_true_eq] at hlen; subst hlen
    exact sd_goto B hd (by simpa [jOK] using hj) (hnx _ _ _ _ h)
  | tableswitch d lo hi offs =>
    obtain ⟨a, r, rfl, h⟩ := ek_pI h
    exact sd_table B hd h.1 hj (by simpa [eLen] using hlen) (fun q => hnx _ _ _ _ (h.2.1 q)) (fun q1 q2 => sW_mono (fun _ q => hnx _ _ _ _ q) _ _ (h.2.2 q1 q2))
  | getfield k =>
    simp only [eLen, decide_eq_true_eq] at hlen; subst hlen
    obtain ⟨a, r, rfl, h⟩ := ek_pA h
    exact sd_getfield B hd (gF_mono (fun _ q => hnx _ _ _ _ q) h)
  | putfield k =>
    simp only [eLen, decide_eq_true_eq] at hlen; subst hlen
    obtain ⟨z, r, rfl, h⟩ := ek_pI h
    obtain ⟨a, r, rfl, h⟩ := ek_pA h
    exact sd_putfield B hd (pF_mono (fun _ q => hnx _ _ _ _ q) h)
  | iaload =>
    simp only [eLen, decide_eq_true_eq] at hlen; subst hlen
    obtain ⟨z, r, rfl, h⟩ := ek_pI h
    obtain ⟨a, r, rfl, h⟩ := ek_pA h
    exact sd_iaload B hd (gA_mono (fun _ q => hnx _ _ _ _ q) h)
  | laload =>
    simp only [eLen, decide_eq_true_eq] at hlen; subst hlen
    obtain ⟨z, r, rfl, h⟩ := ek_pI h
    obtain ⟨a, r, rfl, h⟩ := ek_pA h
    exact sd_laload B hd (gA_mono (fun _ q => hnx _ _ _ _ q) h)
  | baload =>
    simp only [eLen, decide_eq_true_eq] at hlen; subst hlen
    obtain ⟨z, r, rfl, h⟩ := ek_pI h
    obtain ⟨a, r, rfl, h⟩ := ek_pA h
    exact sd_baload B hd (gA_mono (fun _ q => hnx _ _ _ _ q) h)
  | aaload =>
    simp only [eLen, decide_eq_true_eq] at hlen; subst hlen
    obtain ⟨z, r, rfl, h⟩ := ek_pI h
    obtain ⟨a, r, rfl, h⟩ := ek_pA h
    exact sd_aaload B hd (gR_mono (fun _ q => hnx _ _ _ _ q) h)
  | iastore =>
    simp only [eLen, decide_eq_true_eq] at hlen; subst hlen
    obtain ⟨z, r, rfl, h⟩ := ek_pI h
    obtain ⟨i, r, rfl, h⟩ := ek_pI h
    obtain ⟨a, r, rfl, h⟩ := ek_pA h
    exact sd_iastore B hd (pY_mono (fun _ q => hnx _ _ _ _ q) h)
  | lastore =>
    simp only [eLen, decide_eq_true_eq] at hlen; subst hlen
    obtain ⟨z, r, rfl, h⟩ := ek_pL h
    obtain ⟨i, r, rfl, h⟩ := ek_pI h
    obtain ⟨a, r, rfl, h⟩ := ek_pA h
    exact sd_lastore B hd (pY_mono (fun _ q => hnx _ _ _ _ q) h)
  | bastore =>
    simp only [eLen, decide_eq_true_eq] at hlen; subst hlen
    obtain ⟨z, r, rfl, h⟩ := ek_pI h
    obtain ⟨i, r, rfl, h⟩ := ek_pI h
    obtain ⟨a, r, rfl, h⟩ := ek_pA h
    exact sd_bastore B hd h.1 (pY_mono (fun _ q => hnx _ _ _ _ q) h.2)
  | arraylength =>
    simp only [eLen, decide_eq_true_eq] at hlen; subst hlen
    obtain ⟨a, r, rfl, h⟩ := ek_pA h
    exact sd_arraylength B hd (gN_mono (fun _ q => hnx _ _ _ _ q) h)
  | ireturn =>
    simp only [eLen, decide_eq_true_eq] at hlen; subst hlen
    obtain ⟨z, r, rfl, rfl, h1, h2⟩ := ek_pI h
    exact e_ret (v := some (eI z)) B hr hlocks h1 h2 hd (Or.inl ⟨rfl, z, rfl⟩)
  | lreturn =>
    simp only [eLen, decide_eq_true_eq] at hlen; subst hlen
    obtain ⟨z, r, rfl, rfl, h1, h2⟩ := ek_pL h
    exact e_ret (v := some (eL z)) B hr hlocks h1 h2 hd (Or.inr (Or.inl ⟨rfl, z, rfl⟩))
  | areturn =>
    simp only [eLen, decide_eq_true_eq] at hlen; subst hlen
    obtain ⟨z, r, rfl, rfl, h1, h2⟩ := ek_pR h
    exact e_ret (v := some (.inr z)) B hr hlocks h1 h2 hd (Or.inr (Or.inr (Or.inl ⟨rfl, z, rfl⟩)))
  | return_ =>
    simp only [eLen, decide_eq_true_eq] at hlen; subst hlen
    obtain ⟨rfl, h1, h2⟩ := h
    exact e_ret (v := none) B hr hlocks h1 h2 hd (Or.inr (Or.inr (Or.inr ⟨rfl, rfl⟩)))
  | invokevirtual k =>
    obtain ⟨n, sp, hx, hn, hW, h⟩ := ek_cL (st := st) (M := M) (x := T.2.2.2.1 k) (f := fun o r M' => nx (pc + len) ls (o.toList ++ r) M') h
    have hcl := hcV k n sp hx
    simp only [eLen, decide_eq_true_eq] at hlen; subst hlen
    obtain ⟨e1, e2⟩ := e_split hn
    rw [e1]
    exact sd_callV B hcl hd e2 hW h (fun o M' h => hnx _ _ _ _ h)
  | invokestatic k =>
    obtain ⟨n, sp, hx, hn, hW, h⟩ := ek_cL (st := st) (M := M) (x := T.2.2.2.2 k) (f := fun o r M' => nx (pc + len) ls (o.toList ++ r) M') h
    have hcl := hcS k n sp hx
    simp only [eLen, decide_eq_true_eq] at hlen; subst hlen
    obtain ⟨e1, e2⟩ := e_split hn
    rw [e1]
    exact sd_callS B hcl hd e2 hW h (fun o M' h => hnx _ _ _ _ h)
  | _ => exact h.elim
end EA
theorem eE_sl (G : eG) : ∀ (as : List eV) (k : Nat) (v : eV), lG (eE as) k = some v → (lg_sl (as.map (cv G)))[k]? = some (.val (cv G v))
  | [], k, v, h => by simp [eE, lG] at h
  | .inl (.inr z) :: r, k, v, h => by
    match k, h with
    | 0, h => simp [eE, lG] at h; subst h; rfl
    | 1, h => simp [eE, lG] at h
    | k + 2, h => exact eE_sl G r k v h
  | .inl (.inl z) :: r, k, v, h => by
    match k, h with
    | 0, h => simp [eE, lG] at h; subst h; rfl
    | k + 1, h => exact eE_sl G r k v h
  | .inr (.inl z) :: r, k, v, h => by
    match k, h with
    | 0, h => simp [eE, lG] at h; subst h; rfl
    | k + 1, h => exact eE_sl G r k v h
  | .inr (.inr z) :: r, k, v, h => by
    match k, h with
    | 0, h => simp [eE, lG] at h; subst h; rfl
    | k + 1, h => exact eE_sl G r k v h
theorem eE_len (G : eG) : ∀ (as : List eV), (lg_sl (as.map (cv G))).length = (eE as).length
  | [] => rfl
  | .inl (.inr z) :: r => congrArg (· + 2) (eE_len G r)
  | .inl (.inl z) :: r => congrArg (· + 1) (eE_len G r)
  | .inr (.inl z) :: r => congrArg (· + 1) (eE_len G r)
  | .inr (.inr z) :: r => congrArg (· + 1) (eE_len G r)
theorem lG_app (n : Nat) : ∀ (l : List (Option eV)) (k : Nat) (v : eV), lG (l ++ List.replicate n none) k = some v → lG l k = some v
  | [], k, v, h => by
    induction n generalizing k with
    | zero => simp [lG] at h
    | succ n ih =>
      cases k with
      | zero => simp [lG, List.replicate] at h
      | succ k => exact ih k h
  | a :: l, 0, v, h => h
  | a :: l, k + 1, v, h => lG_app n l k v h
/-- the contract of a method whose body is safe -/
theorem eMet_of {y : MethodName} {cc : ByteArray} {nL : Nat} {ret : Option FieldType} {fr lo : Nat} {sp : eSp} {T : eT} {cd : Nat → Option (Jvm.ClassFile.Instr × Nat)}
    (hy : plainName y.cls = true) (hs : eSafe T cd nL ret sp) (hd : ∀ pc i len, cd pc = some (i, len) → decode cc pc = .ok (i, len) ∧ stOK nL i = true ∧ jOK pc i = true ∧ eLen i len = true)
    (hC : eCalls y.cls { frames := fr, cells := 0, slots := 0, locals := lo } T)
    (hT : (∀ k ci f, T.1 k = some (ci, f) → ∃ q : vw_C, vwCl[ci]? = some q ∧ f < q.2.2 ∧ Cond.fieldLink y.cls k (q.2.1 f).1 (q.2.1 f).2.1 (q.2.1 f).2.2.1 ∈ gW) ∧ (∀ k z, T.2.1 k = some z → Cond.constant y.cls k (Int32.ofInt z) ∈ gW) ∧ (∀ k z, T.2.2.1 k = some z → Cond.constantLong y.cls k (Int64.ofInt z) ∈ gW)) : eMet y cc nL ret fr lo sp := by
  intro l G A as M rt hsp
  refine Met.ofW (cc := cc) (maxL := nL) (ret := ret) hy rfl ?_
  intro p e s m args below meth c s₁ B hml hv
  obtain ⟨rfl, hP, hK⟩ := hv
  have hts : ∀ w ∈ gW, w.before (as.map (cv G)).toArray s = true := fun w hw => atoms_spec (ws := .code y cc nL ret :: gW) B.pre w (List.mem_cons_of_mem _ hw)
  have hown : s.vm.findClass y.cls = some m.cls := findClass_of_methodNamed B.named
  have hB : eB G y.cls cc nL T p s m (as.map (cv G)).toArray c := ⟨B.exec, B.bytes, hml, hown, hts, hK, hT.1, hT.2.1, hT.2.2⟩
  obtain ⟨hlen, hs⟩ := hs (eW G A p l e _ s m _ below meth c nL (MQ below (eQ G A rt) (as.map (cv G)).toArray s 0 0 A)) rt (fun pc i len ls st M hc h => by
    obtain ⟨h1, h2, h3, h4⟩ := hd pc i len hc
    exact eS_sound hB B.returns B.notSynchronized hC h1 h2 h3 h4 (fun _ _ _ _ q => q) h) as M hsp
  have hl := lv_entry (as.map (cv G)) (n := nL) (by rw [eE_len]; exact hlen)
  rw [lg_entry_eq]
  refine hs s.heap [] _ hP va_S.rf rfl ⟨?_, hl.1, hl.2.1, fun i v hi => ?_⟩
  · simp [eLoc]; omega
  · have h2 := eE_sl G as i v (lG_app _ _ _ _ hi)
    have h3 := (List.getElem?_eq_some_iff.mp h2).1
    rw [List.getElem?_toArray, List.getElem?_append_left h3]
    exact h2

