/-! The engine's steps as rows: each takes a state to the next one. -/
def kc (K : eK0) (pc : Nat) (ls : List (Option eV)) (r : List eV) : Option eV → eM → Prop := fun o M => match o with | some v => K pc ls (v :: r) M | none => K pc ls r M
section XS
variable {T : eT} {cd : Nat → Option (Jvm.ClassFile.Instr × Nat)} {ret : Option FieldType} {K : eK0} {rt : Option eV → eM → Prop} {pc : Nat} {ls : List (Option eV)} {st : List eV} {M : eM}
theorem x_to {ls' : List (Option eV)} {st' : List eV} {M' : eM} (h : K pc ls' st' M') (e1 : ls = ls') (e2 : st = st') (e3 : M = M') : K pc ls st M := by subst e1 e2 e3; exact h
theorem x_iconst (hK : eCl T cd ret K rt) {q : Nat} {z : Int} (hc : cd pc = some (.iconst z, 1)) (hq : pc + 1 = q) (k : K q ls (eI z :: st) M) : K pc ls st M := by
  subst hq
  exact hK pc _ _ ls _ M hc k
theorem x_bipush (hK : eCl T cd ret K rt) {q : Nat} {z : Int} (hc : cd pc = some (.bipush z, 2)) (hq : pc + 2 = q) (h : -128 ≤ z ∧ z < 128) (k : K q ls (eI z :: st) M) : K pc ls st M := by
  subst hq
  exact hK pc _ _ ls _ M hc ⟨h, k⟩
theorem x_sipush (hK : eCl T cd ret K rt) {q : Nat} {z : Int} (hc : cd pc = some (.sipush z, 3)) (hq : pc + 3 = q) (h : -32768 ≤ z ∧ z < 32768) (k : K q ls (eI z :: st) M) : K pc ls st M := by
  subst hq
  exact hK pc _ _ ls _ M hc ⟨h, k⟩
theorem x_lconst (hK : eCl T cd ret K rt) {q : Nat} {z : Fin 2} (hc : cd pc = some (.lconst z, 1)) (hq : pc + 1 = q) (k : K q ls (eL (z.val : Int) :: st) M) : K pc ls st M := by
  subst hq
  exact hK pc _ _ ls _ M hc k
theorem x_lconst0 (hK : eCl T cd ret K rt) {q : Nat}  (hc : cd pc = some (.lconst 0, 1)) (hq : pc + 1 = q) (k : K q ls (eL 0 :: st) M) : K pc ls st M := by
  subst hq
  exact hK pc _ _ ls _ M hc k
theorem x_lconst1 (hK : eCl T cd ret K rt) {q : Nat}  (hc : cd pc = some (.lconst 1, 1)) (hq : pc + 1 = q) (k : K q ls (eL 1 :: st) M) : K pc ls st M := by
  subst hq
  exact hK pc _ _ ls _ M hc k
theorem x_ldc (hK : eCl T cd ret K rt) {q : Nat} {j : Nat} {z : Int} (hc : cd pc = some (.ldc j, 2)) (hq : pc + 2 = q) (h : T.2.1 j = some z) (k : K q ls (eI z :: st) M) : K pc ls st M := by
  subst hq
  exact hK pc _ _ ls _ M hc (by show oI (T.2.1 j) _; rw [h]; exact k)
theorem x_ldc_w (hK : eCl T cd ret K rt) {q : Nat} {j : Nat} {z : Int} (hc : cd pc = some (.ldc_w j, 3)) (hq : pc + 3 = q) (h : T.2.1 j = some z) (k : K q ls (eI z :: st) M) : K pc ls st M := by
  subst hq
  exact hK pc _ _ ls _ M hc (by show oI (T.2.1 j) _; rw [h]; exact k)
theorem x_ldc2_w (hK : eCl T cd ret K rt) {q : Nat} {j : Nat} {z : Int} (hc : cd pc = some (.ldc2_w j, 3)) (hq : pc + 3 = q) (h : T.2.2.1 j = some z) (k : K q ls (eL z :: st) M) : K pc ls st M := by
  subst hq
  exact hK pc _ _ ls _ M hc (by show oI (T.2.2.1 j) _; rw [h]; exact k)
theorem x_aconst_null (hK : eCl T cd ret K rt) {q : Nat}  (hc : cd pc = some (.aconst_null, 1)) (hq : pc + 1 = q) (k : K q ls (eN :: st) M) : K pc ls st M := by
  subst hq
  exact hK pc _ _ ls _ M hc k
theorem x_iload (hK : eCl T cd ret K rt) {q : Nat} {j : Nat} {z : Int} (hc : cd pc = some (.iload j, 2)) (hq : pc + 2 = q) (h : lG ls j = some (eI z)) (k : K q ls (eI z :: st) M) : K pc ls st M := by
  subst hq
  exact hK pc _ _ ls _ M hc (by show qI (lG ls j) _; rw [h]; exact k)
theorem x_iload_n (hK : eCl T cd ret K rt) {q : Nat} {j : Fin 4} {z : Int} (hc : cd pc = some (.iload_n j, 1)) (hq : pc + 1 = q) (h : lG ls j.val = some (eI z)) (k : K q ls (eI z :: st) M) : K pc ls st M := by
  subst hq
  exact hK pc _ _ ls _ M hc (by show qI (lG ls j.val) _; rw [h]; exact k)
theorem x_lload (hK : eCl T cd ret K rt) {q : Nat} {j : Nat} {z : Int} (hc : cd pc = some (.lload j, 2)) (hq : pc + 2 = q) (h : lG ls j = some (eL z)) (k : K q ls (eL z :: st) M) : K pc ls st M := by
  subst hq
  exact hK pc _ _ ls _ M hc (by show qL (lG ls j) _; rw [h]; exact k)
theorem x_lload_n (hK : eCl T cd ret K rt) {q : Nat} {j : Fin 4} {z : Int} (hc : cd pc = some (.lload_n j, 1)) (hq : pc + 1 = q) (h : lG ls j.val = some (eL z)) (k : K q ls (eL z :: st) M) : K pc ls st M := by
  subst hq
  exact hK pc _ _ ls _ M hc (by show qL (lG ls j.val) _; rw [h]; exact k)
theorem x_aload (hK : eCl T cd ret K rt) {q : Nat} {j : Nat} {z : eA ⊕ Unit} (hc : cd pc = some (.aload j, 2)) (hq : pc + 2 = q) (h : lG ls j = some (.inr z)) (k : K q ls (.inr z :: st) M) : K pc ls st M := by
  subst hq
  exact hK pc _ _ ls _ M hc (by show qR (lG ls j) _; rw [h]; exact k)
theorem x_aload_n (hK : eCl T cd ret K rt) {q : Nat} {j : Fin 4} {z : eA ⊕ Unit} (hc : cd pc = some (.aload_n j, 1)) (hq : pc + 1 = q) (h : lG ls j.val = some (.inr z)) (k : K q ls (.inr z :: st) M) : K pc ls st M := by
  subst hq
  exact hK pc _ _ ls _ M hc (by show qR (lG ls j.val) _; rw [h]; exact k)
theorem x_istore (hK : eCl T cd ret K rt) {q : Nat} {j : Nat} {z : Int} (hc : cd pc = some (.istore j, 2)) (hq : pc + 2 = q) (k : K q (lS ls j (eI z)) st M) : K pc ls (eI z :: st) M := by
  subst hq
  exact hK pc _ _ ls _ M hc k
theorem x_istore_n (hK : eCl T cd ret K rt) {q : Nat} {j : Fin 4} {jn : Nat} {z : Int} (hc : cd pc = some (.istore_n j, 1)) (hq : pc + 1 = q) (hj : j.val = jn) (k : K q (lS ls jn (eI z)) st M) : K pc ls (eI z :: st) M := by
  subst hq
  exact hK pc _ _ ls _ M hc (by subst hj; exact k)
theorem x_lstore (hK : eCl T cd ret K rt) {q : Nat} {j : Nat} {z : Int} (hc : cd pc = some (.lstore j, 2)) (hq : pc + 2 = q) (k : K q (lS2 ls j (eL z)) st M) : K pc ls (eL z :: st) M := by
  subst hq
  exact hK pc _ _ ls _ M hc k
theorem x_lstore_n (hK : eCl T cd ret K rt) {q : Nat} {j : Fin 4} {jn : Nat} {z : Int} (hc : cd pc = some (.lstore_n j, 1)) (hq : pc + 1 = q) (hj : j.val = jn) (k : K q (lS2 ls jn (eL z)) st M) : K pc ls (eL z :: st) M := by
  subst hq
  exact hK pc _ _ ls _ M hc (by subst hj; exact k)
theorem x_astore (hK : eCl T cd ret K rt) {q : Nat} {j : Nat} {z : eA ⊕ Unit} (hc : cd pc = some (.astore j, 2)) (hq : pc + 2 = q) (k : K q (lS ls j (.inr z)) st M) : K pc ls (.inr z :: st) M := by
  subst hq
  exact hK pc _ _ ls _ M hc k
theorem x_astore_n (hK : eCl T cd ret K rt) {q : Nat} {j : Fin 4} {jn : Nat} {z : eA ⊕ Unit} (hc : cd pc = some (.astore_n j, 1)) (hq : pc + 1 = q) (hj : j.val = jn) (k : K q (lS ls jn (.inr z)) st M) : K pc ls (.inr z :: st) M := by
  subst hq
  exact hK pc _ _ ls _ M hc (by subst hj; exact k)
theorem x_iinc (hK : eCl T cd ret K rt) {q : Nat} {j : Nat} {d z : Int} (hc : cd pc = some (.iinc j d, 3)) (hq : pc + 3 = q) (h : lG ls j = some (eI z)) (k : K q (lS ls j (eI (z + d))) st M) : K pc ls st M := by
  subst hq
  exact hK pc _ _ ls _ M hc (by show qI (lG ls j) _; rw [h]; exact k)
theorem x_iadd (hK : eCl T cd ret K rt) {q : Nat} {a b : Int} (hc : cd pc = some (.iadd, 1)) (hq : pc + 1 = q) (k : K q ls (eI (a + b) :: st) M) : K pc ls (eI b :: eI a :: st) M := by
  subst hq
  exact hK pc _ _ ls _ M hc k
theorem x_isub (hK : eCl T cd ret K rt) {q : Nat} {a b : Int} (hc : cd pc = some (.isub, 1)) (hq : pc + 1 = q) (k : K q ls (eI (a - b) :: st) M) : K pc ls (eI b :: eI a :: st) M := by
  subst hq
  exact hK pc _ _ ls _ M hc k
theorem x_imul (hK : eCl T cd ret K rt) {q : Nat} {a b : Int} (hc : cd pc = some (.imul, 1)) (hq : pc + 1 = q) (k : K q ls (eI (a * b) :: st) M) : K pc ls (eI b :: eI a :: st) M := by
  subst hq
  exact hK pc _ _ ls _ M hc k
theorem x_iand (hK : eCl T cd ret K rt) {q : Nat} {a b : Int} (hc : cd pc = some (.iand, 1)) (hq : pc + 1 = q) (k : K q ls (eI (zAnd a b) :: st) M) : K pc ls (eI b :: eI a :: st) M := by
  subst hq
  exact hK pc _ _ ls _ M hc k
theorem x_ior (hK : eCl T cd ret K rt) {q : Nat} {a b : Int} (hc : cd pc = some (.ior, 1)) (hq : pc + 1 = q) (k : K q ls (eI (zOr a b) :: st) M) : K pc ls (eI b :: eI a :: st) M := by
  subst hq
  exact hK pc _ _ ls _ M hc k
theorem x_ixor (hK : eCl T cd ret K rt) {q : Nat} {a b : Int} (hc : cd pc = some (.ixor, 1)) (hq : pc + 1 = q) (k : K q ls (eI (zXor a b) :: st) M) : K pc ls (eI b :: eI a :: st) M := by
  subst hq
  exact hK pc _ _ ls _ M hc k
theorem x_ishl (hK : eCl T cd ret K rt) {q : Nat} {a b : Int} (hc : cd pc = some (.ishl, 1)) (hq : pc + 1 = q) (k : K q ls (eI (zShl a b) :: st) M) : K pc ls (eI b :: eI a :: st) M := by
  subst hq
  exact hK pc _ _ ls _ M hc k
theorem x_ishr (hK : eCl T cd ret K rt) {q : Nat} {a b : Int} (hc : cd pc = some (.ishr, 1)) (hq : pc + 1 = q) (k : K q ls (eI (zShr a b) :: st) M) : K pc ls (eI b :: eI a :: st) M := by
  subst hq
  exact hK pc _ _ ls _ M hc k
theorem x_iushr (hK : eCl T cd ret K rt) {q : Nat} {a b : Int} (hc : cd pc = some (.iushr, 1)) (hq : pc + 1 = q) (k : K q ls (eI (zUshr a b) :: st) M) : K pc ls (eI b :: eI a :: st) M := by
  subst hq
  exact hK pc _ _ ls _ M hc k
theorem x_ladd (hK : eCl T cd ret K rt) {q : Nat} {a b : Int} (hc : cd pc = some (.ladd, 1)) (hq : pc + 1 = q) (k : K q ls (eL (a + b) :: st) M) : K pc ls (eL b :: eL a :: st) M := by
  subst hq
  exact hK pc _ _ ls _ M hc k
theorem x_lsub (hK : eCl T cd ret K rt) {q : Nat} {a b : Int} (hc : cd pc = some (.lsub, 1)) (hq : pc + 1 = q) (k : K q ls (eL (a - b) :: st) M) : K pc ls (eL b :: eL a :: st) M := by
  subst hq
  exact hK pc _ _ ls _ M hc k
theorem x_lmul (hK : eCl T cd ret K rt) {q : Nat} {a b : Int} (hc : cd pc = some (.lmul, 1)) (hq : pc + 1 = q) (k : K q ls (eL (a * b) :: st) M) : K pc ls (eL b :: eL a :: st) M := by
  subst hq
  exact hK pc _ _ ls _ M hc k
theorem x_land (hK : eCl T cd ret K rt) {q : Nat} {a b : Int} (hc : cd pc = some (.land, 1)) (hq : pc + 1 = q) (k : K q ls (eL (zAndL a b) :: st) M) : K pc ls (eL b :: eL a :: st) M := by
  subst hq
  exact hK pc _ _ ls _ M hc k
theorem x_lor (hK : eCl T cd ret K rt) {q : Nat} {a b : Int} (hc : cd pc = some (.lor, 1)) (hq : pc + 1 = q) (k : K q ls (eL (zOrL a b) :: st) M) : K pc ls (eL b :: eL a :: st) M := by
  subst hq
  exact hK pc _ _ ls _ M hc k
theorem x_lshl (hK : eCl T cd ret K rt) {q : Nat} {a b : Int} (hc : cd pc = some (.lshl, 1)) (hq : pc + 1 = q) (k : K q ls (eL (zShlL a b) :: st) M) : K pc ls (eI b :: eL a :: st) M := by
  subst hq
  exact hK pc _ _ ls _ M hc k
theorem x_lshr (hK : eCl T cd ret K rt) {q : Nat} {a b : Int} (hc : cd pc = some (.lshr, 1)) (hq : pc + 1 = q) (k : K q ls (eL (zShrL a b) :: st) M) : K pc ls (eI b :: eL a :: st) M := by
  subst hq
  exact hK pc _ _ ls _ M hc k
theorem x_idiv (hK : eCl T cd ret K rt) {q : Nat} {a b : Int} (hc : cd pc = some (.idiv, 1)) (hq : pc + 1 = q) (h : w32 a ∧ w32 b ∧ b ≠ 0) (k : K q ls (eI (a.tdiv b) :: st) M) : K pc ls (eI b :: eI a :: st) M := by
  subst hq
  exact hK pc _ _ ls _ M hc ⟨h, k⟩
theorem x_irem (hK : eCl T cd ret K rt) {q : Nat} {a b : Int} (hc : cd pc = some (.irem, 1)) (hq : pc + 1 = q) (h : w32 a ∧ w32 b ∧ b ≠ 0) (k : K q ls (eI (a.tmod b) :: st) M) : K pc ls (eI b :: eI a :: st) M := by
  subst hq
  exact hK pc _ _ ls _ M hc ⟨h, k⟩
theorem x_ldiv (hK : eCl T cd ret K rt) {q : Nat} {a b : Int} (hc : cd pc = some (.ldiv, 1)) (hq : pc + 1 = q) (h : w64 a ∧ w64 b ∧ b ≠ 0) (k : K q ls (eL (a.tdiv b) :: st) M) : K pc ls (eL b :: eL a :: st) M := by
  subst hq
  exact hK pc _ _ ls _ M hc ⟨h, k⟩
theorem x_lrem (hK : eCl T cd ret K rt) {q : Nat} {a b : Int} (hc : cd pc = some (.lrem, 1)) (hq : pc + 1 = q) (h : w64 a ∧ w64 b ∧ b ≠ 0) (k : K q ls (eL (a.tmod b) :: st) M) : K pc ls (eL b :: eL a :: st) M := by
  subst hq
  exact hK pc _ _ ls _ M hc ⟨h, k⟩
theorem x_ineg (hK : eCl T cd ret K rt) {q : Nat} {a : Int} (hc : cd pc = some (.ineg, 1)) (hq : pc + 1 = q) (k : K q ls (eI (-a) :: st) M) : K pc ls (eI a :: st) M := by
  subst hq
  exact hK pc _ _ ls _ M hc k
theorem x_lneg (hK : eCl T cd ret K rt) {q : Nat} {a : Int} (hc : cd pc = some (.lneg, 1)) (hq : pc + 1 = q) (k : K q ls (eL (-a) :: st) M) : K pc ls (eL a :: st) M := by
  subst hq
  exact hK pc _ _ ls _ M hc k
theorem x_i2l (hK : eCl T cd ret K rt) {q : Nat} {a : Int} (hc : cd pc = some (.i2l, 1)) (hq : pc + 1 = q) (h : w32 a) (k : K q ls (eL a :: st) M) : K pc ls (eI a :: st) M := by
  subst hq
  exact hK pc _ _ ls _ M hc ⟨h, k⟩
theorem x_l2i (hK : eCl T cd ret K rt) {q : Nat} {a : Int} (hc : cd pc = some (.l2i, 1)) (hq : pc + 1 = q) (k : K q ls (eI a :: st) M) : K pc ls (eL a :: st) M := by
  subst hq
  exact hK pc _ _ ls _ M hc k
theorem x_lcmp (hK : eCl T cd ret K rt) {q : Nat} {a b : Int} (hc : cd pc = some (.lcmp, 1)) (hq : pc + 1 = q) (h : w64 a ∧ w64 b) (k : K q ls (eI (zCmp a b) :: st) M) : K pc ls (eL b :: eL a :: st) M := by
  subst hq
  exact hK pc _ _ ls _ M hc ⟨h, k⟩
theorem x_dupI (hK : eCl T cd ret K rt) {q : Nat} {a : Int} (hc : cd pc = some (.dup, 1)) (hq : pc + 1 = q) (k : K q ls (eI a :: eI a :: st) M) : K pc ls (eI a :: st) M := by
  subst hq
  exact hK pc _ _ ls _ M hc k
theorem x_dupR (hK : eCl T cd ret K rt) {q : Nat} {a : eA ⊕ Unit} (hc : cd pc = some (.dup, 1)) (hq : pc + 1 = q) (k : K q ls (.inr a :: .inr a :: st) M) : K pc ls (.inr a :: st) M := by
  subst hq
  exact hK pc _ _ ls _ M hc k
theorem x_popI (hK : eCl T cd ret K rt) {q : Nat} {a : Int} (hc : cd pc = some (.pop, 1)) (hq : pc + 1 = q) (k : K q ls st M) : K pc ls (eI a :: st) M := by
  subst hq
  exact hK pc _ _ ls _ M hc k
theorem x_popR (hK : eCl T cd ret K rt) {q : Nat} {a : eA ⊕ Unit} (hc : cd pc = some (.pop, 1)) (hq : pc + 1 = q) (k : K q ls st M) : K pc ls (.inr a :: st) M := by
  subst hq
  exact hK pc _ _ ls _ M hc k
theorem x_dup2 (hK : eCl T cd ret K rt) {q : Nat} {a : Int} {b : eA ⊕ Unit} (hc : cd pc = some (.dup2, 1)) (hq : pc + 1 = q) (k : K q ls (eI a :: .inr b :: eI a :: .inr b :: st) M) : K pc ls (eI a :: .inr b :: st) M := by
  subst hq
  exact hK pc _ _ ls _ M hc k
theorem x_icmp_eq (hK : eCl T cd ret K rt) {q : Nat} {a b off : Int} {tg : Nat} (hc : cd pc = some (.if_icmp .eq off, 3)) (hq : pc + 3 = q) (ht : ((pc : Int) + off).toNat = tg) (h : w32 a ∧ w32 b) (k1 : (a = b) → K tg ls st M) (k2 : ¬ (a = b) → K q ls st M) : K pc ls (eI b :: eI a :: st) M := by
  subst hq
  exact hK pc _ _ ls _ M hc ⟨h, fun q => ht ▸ k1 q, k2⟩
theorem x_icmp_ne (hK : eCl T cd ret K rt) {q : Nat} {a b off : Int} {tg : Nat} (hc : cd pc = some (.if_icmp .ne off, 3)) (hq : pc + 3 = q) (ht : ((pc : Int) + off).toNat = tg) (h : w32 a ∧ w32 b) (k1 : (a ≠ b) → K tg ls st M) (k2 : ¬ (a ≠ b) → K q ls st M) : K pc ls (eI b :: eI a :: st) M := by
  subst hq
  exact hK pc _ _ ls _ M hc ⟨h, fun q => ht ▸ k1 q, k2⟩
theorem x_icmp_lt (hK : eCl T cd ret K rt) {q : Nat} {a b off : Int} {tg : Nat} (hc : cd pc = some (.if_icmp .lt off, 3)) (hq : pc + 3 = q) (ht : ((pc : Int) + off).toNat = tg) (h : w32 a ∧ w32 b) (k1 : (a < b) → K tg ls st M) (k2 : ¬ (a < b) → K q ls st M) : K pc ls (eI b :: eI a :: st) M := by
  subst hq
  exact hK pc _ _ ls _ M hc ⟨h, fun q => ht ▸ k1 q, k2⟩
theorem x_icmp_ge (hK : eCl T cd ret K rt) {q : Nat} {a b off : Int} {tg : Nat} (hc : cd pc = some (.if_icmp .ge off, 3)) (hq : pc + 3 = q) (ht : ((pc : Int) + off).toNat = tg) (h : w32 a ∧ w32 b) (k1 : (b ≤ a) → K tg ls st M) (k2 : ¬ (b ≤ a) → K q ls st M) : K pc ls (eI b :: eI a :: st) M := by
  subst hq
  exact hK pc _ _ ls _ M hc ⟨h, fun q => ht ▸ k1 q, k2⟩
theorem x_icmp_gt (hK : eCl T cd ret K rt) {q : Nat} {a b off : Int} {tg : Nat} (hc : cd pc = some (.if_icmp .gt off, 3)) (hq : pc + 3 = q) (ht : ((pc : Int) + off).toNat = tg) (h : w32 a ∧ w32 b) (k1 : (b < a) → K tg ls st M) (k2 : ¬ (b < a) → K q ls st M) : K pc ls (eI b :: eI a :: st) M := by
  subst hq
  exact hK pc _ _ ls _ M hc ⟨h, fun q => ht ▸ k1 q, k2⟩
theorem x_icmp_le (hK : eCl T cd ret K rt) {q : Nat} {a b off : Int} {tg : Nat} (hc : cd pc = some (.if_icmp .le off, 3)) (hq : pc + 3 = q) (ht : ((pc : Int) + off).toNat = tg) (h : w32 a ∧ w32 b) (k1 : (a ≤ b) → K tg ls st M) (k2 : ¬ (a ≤ b) → K q ls st M) : K pc ls (eI b :: eI a :: st) M := by
  subst hq
  exact hK pc _ _ ls _ M hc ⟨h, fun q => ht ▸ k1 q, k2⟩
theorem x_if_eq (hK : eCl T cd ret K rt) {q : Nat} {a off : Int} {tg : Nat} (hc : cd pc = some (.ifCond .eq off, 3)) (hq : pc + 3 = q) (ht : ((pc : Int) + off).toNat = tg) (h : w32 a) (k1 : (a = 0) → K tg ls st M) (k2 : ¬ (a = 0) → K q ls st M) : K pc ls (eI a :: st) M := by
  subst hq
  exact hK pc _ _ ls _ M hc ⟨h, fun q => ht ▸ k1 q, k2⟩
theorem x_if_ne (hK : eCl T cd ret K rt) {q : Nat} {a off : Int} {tg : Nat} (hc : cd pc = some (.ifCond .ne off, 3)) (hq : pc + 3 = q) (ht : ((pc : Int) + off).toNat = tg) (h : w32 a) (k1 : (a ≠ 0) → K tg ls st M) (k2 : ¬ (a ≠ 0) → K q ls st M) : K pc ls (eI a :: st) M := by
  subst hq
  exact hK pc _ _ ls _ M hc ⟨h, fun q => ht ▸ k1 q, k2⟩
theorem x_if_lt (hK : eCl T cd ret K rt) {q : Nat} {a off : Int} {tg : Nat} (hc : cd pc = some (.ifCond .lt off, 3)) (hq : pc + 3 = q) (ht : ((pc : Int) + off).toNat = tg) (h : w32 a) (k1 : (a < 0) → K tg ls st M) (k2 : ¬ (a < 0) → K q ls st M) : K pc ls (eI a :: st) M := by
  subst hq
  exact hK pc _ _ ls _ M hc ⟨h, fun q => ht ▸ k1 q, k2⟩
theorem x_if_ge (hK : eCl T cd ret K rt) {q : Nat} {a off : Int} {tg : Nat} (hc : cd pc = some (.ifCond .ge off, 3)) (hq : pc + 3 = q) (ht : ((pc : Int) + off).toNat = tg) (h : w32 a) (k1 : (0 ≤ a) → K tg ls st M) (k2 : ¬ (0 ≤ a) → K q ls st M) : K pc ls (eI a :: st) M := by
  subst hq
  exact hK pc _ _ ls _ M hc ⟨h, fun q => ht ▸ k1 q, k2⟩
theorem x_if_gt (hK : eCl T cd ret K rt) {q : Nat} {a off : Int} {tg : Nat} (hc : cd pc = some (.ifCond .gt off, 3)) (hq : pc + 3 = q) (ht : ((pc : Int) + off).toNat = tg) (h : w32 a) (k1 : (0 < a) → K tg ls st M) (k2 : ¬ (0 < a) → K q ls st M) : K pc ls (eI a :: st) M := by
  subst hq
  exact hK pc _ _ ls _ M hc ⟨h, fun q => ht ▸ k1 q, k2⟩
theorem x_if_le (hK : eCl T cd ret K rt) {q : Nat} {a off : Int} {tg : Nat} (hc : cd pc = some (.ifCond .le off, 3)) (hq : pc + 3 = q) (ht : ((pc : Int) + off).toNat = tg) (h : w32 a) (k1 : (a ≤ 0) → K tg ls st M) (k2 : ¬ (a ≤ 0) → K q ls st M) : K pc ls (eI a :: st) M := by
  subst hq
  exact hK pc _ _ ls _ M hc ⟨h, fun q => ht ▸ k1 q, k2⟩
theorem x_ifc_eq (hK : eCl T cd ret K rt) {q : Nat} {a b off : Int} {tg : Nat} (hc : cd pc = some (.ifCond .eq off, 3)) (hq : pc + 3 = q) (ht : ((pc : Int) + off).toNat = tg) (k1 : (a = b) → K tg ls st M) (k2 : ¬ (a = b) → K q ls st M) : K pc ls (eI (zCmp a b) :: st) M := by
  subst hq
  exact hK pc _ _ ls _ M hc ⟨(zCmp_w a b).mpr trivial, fun q => ht ▸ k1 ((zCmp_eq a b).mp q), fun q => k2 (fun q2 => q ((zCmp_eq a b).mpr q2))⟩
theorem x_ifc_ne (hK : eCl T cd ret K rt) {q : Nat} {a b off : Int} {tg : Nat} (hc : cd pc = some (.ifCond .ne off, 3)) (hq : pc + 3 = q) (ht : ((pc : Int) + off).toNat = tg) (k1 : (a ≠ b) → K tg ls st M) (k2 : ¬ (a ≠ b) → K q ls st M) : K pc ls (eI (zCmp a b) :: st) M := by
  subst hq
  exact hK pc _ _ ls _ M hc ⟨(zCmp_w a b).mpr trivial, fun q => ht ▸ k1 (fun q2 => q ((zCmp_eq a b).mpr q2)), fun q => k2 (fun q2 => q (fun q3 => q2 ((zCmp_eq a b).mp q3)))⟩
theorem x_ifc_lt (hK : eCl T cd ret K rt) {q : Nat} {a b off : Int} {tg : Nat} (hc : cd pc = some (.ifCond .lt off, 3)) (hq : pc + 3 = q) (ht : ((pc : Int) + off).toNat = tg) (k1 : (a < b) → K tg ls st M) (k2 : ¬ (a < b) → K q ls st M) : K pc ls (eI (zCmp a b) :: st) M := by
  subst hq
  exact hK pc _ _ ls _ M hc ⟨(zCmp_w a b).mpr trivial, fun q => ht ▸ k1 ((zCmp_lt a b).mp q), fun q => k2 (fun q2 => q ((zCmp_lt a b).mpr q2))⟩
theorem x_ifc_ge (hK : eCl T cd ret K rt) {q : Nat} {a b off : Int} {tg : Nat} (hc : cd pc = some (.ifCond .ge off, 3)) (hq : pc + 3 = q) (ht : ((pc : Int) + off).toNat = tg) (k1 : (b ≤ a) → K tg ls st M) (k2 : ¬ (b ≤ a) → K q ls st M) : K pc ls (eI (zCmp a b) :: st) M := by
  subst hq
  exact hK pc _ _ ls _ M hc ⟨(zCmp_w a b).mpr trivial, fun q => ht ▸ k1 ((zCmp_ge a b).mp q), fun q => k2 (fun q2 => q ((zCmp_ge a b).mpr q2))⟩
theorem x_ifc_gt (hK : eCl T cd ret K rt) {q : Nat} {a b off : Int} {tg : Nat} (hc : cd pc = some (.ifCond .gt off, 3)) (hq : pc + 3 = q) (ht : ((pc : Int) + off).toNat = tg) (k1 : (b < a) → K tg ls st M) (k2 : ¬ (b < a) → K q ls st M) : K pc ls (eI (zCmp a b) :: st) M := by
  subst hq
  exact hK pc _ _ ls _ M hc ⟨(zCmp_w a b).mpr trivial, fun q => ht ▸ k1 ((zCmp_gt a b).mp q), fun q => k2 (fun q2 => q ((zCmp_gt a b).mpr q2))⟩
theorem x_ifc_le (hK : eCl T cd ret K rt) {q : Nat} {a b off : Int} {tg : Nat} (hc : cd pc = some (.ifCond .le off, 3)) (hq : pc + 3 = q) (ht : ((pc : Int) + off).toNat = tg) (k1 : (a ≤ b) → K tg ls st M) (k2 : ¬ (a ≤ b) → K q ls st M) : K pc ls (eI (zCmp a b) :: st) M := by
  subst hq
  exact hK pc _ _ ls _ M hc ⟨(zCmp_w a b).mpr trivial, fun q => ht ▸ k1 ((zCmp_le a b).mp q), fun q => k2 (fun q2 => q ((zCmp_le a b).mpr q2))⟩
theorem x_ifnull (hK : eCl T cd ret K rt) {q : Nat} {off : Int} {v : eA ⊕ Unit} {tg : Nat} (hc : cd pc = some (.ifnull off, 3)) (hq : pc + 3 = q) (ht : ((pc : Int) + off).toNat = tg) (k1 : (.inr v : eV) = eN → K tg ls st M) (k2 : ¬ (.inr v : eV) = eN → K q ls st M) : K pc ls (.inr v :: st) M := by
  subst hq
  exact hK pc _ _ ls _ M hc ⟨fun q => ht ▸ k1 q, k2⟩
theorem x_ifnonnull (hK : eCl T cd ret K rt) {q : Nat} {off : Int} {v : eA ⊕ Unit} {tg : Nat} (hc : cd pc = some (.ifnonnull off, 3)) (hq : pc + 3 = q) (ht : ((pc : Int) + off).toNat = tg) (k1 : ¬ (.inr v : eV) = eN → K tg ls st M) (k2 : (.inr v : eV) = eN → K q ls st M) : K pc ls (.inr v :: st) M := by
  subst hq
  exact hK pc _ _ ls _ M hc ⟨fun q => ht ▸ k1 q, k2⟩
theorem x_goto (hK : eCl T cd ret K rt) {off : Int} {tg : Nat} (hc : cd pc = some (.goto off, 3)) (ht : ((pc : Int) + off).toNat = tg) (k : K tg ls st M) : K pc ls st M := hK pc _ _ ls _ M hc (ht ▸ k : K ((pc : Int) + off).toNat ls st M)
theorem x_table (hK : eCl T cd ret K rt) {a d lo hi : Int} {offs : Array Int} {len tg : Nat} (hc : cd pc = some (.tableswitch d lo hi offs, len)) (ht : ((pc : Int) + d).toNat = tg) (h : w32 a) (k1 : (a < lo ∨ hi < a) → K tg ls st M) (k2 : ¬ a < lo → ¬ hi < a → sW a lo offs.toList fun off => K ((pc : Int) + off).toNat ls st M) : K pc ls (eI a :: st) M := hK pc _ _ ls _ M hc ⟨h, fun q => ht ▸ k1 q, k2⟩
theorem x_getfield (hK : eCl T cd ret K rt) {q : Nat} {j : Nat} {a : eA} (hc : cd pc = some (.getfield j, 3)) (hq : pc + 3 = q) (k : gF M a (T.1 j) fun v => K q ls (v :: st) M) : K pc ls (eR a :: st) M := by
  subst hq
  exact hK pc _ _ ls _ M hc k
theorem x_putfield (hK : eCl T cd ret K rt) {q : Nat} {j : Nat} {a : eA} {z : Int} (hc : cd pc = some (.putfield j, 3)) (hq : pc + 3 = q) (k : pF M a (T.1 j) z fun M' => K q ls st M') : K pc ls (eI z :: eR a :: st) M := by
  subst hq
  exact hK pc _ _ ls _ M hc k
theorem x_iaload (hK : eCl T cd ret K rt) {q : Nat} {a : eA} {i : Int} (hc : cd pc = some (.iaload, 1)) (hq : pc + 1 = q) (k : gA M a 0 i fun v => K q ls (v :: st) M) : K pc ls (eI i :: eR a :: st) M := by
  subst hq
  exact hK pc _ _ ls _ M hc k
theorem x_laload (hK : eCl T cd ret K rt) {q : Nat} {a : eA} {i : Int} (hc : cd pc = some (.laload, 1)) (hq : pc + 1 = q) (k : gA M a 1 i fun v => K q ls (v :: st) M) : K pc ls (eI i :: eR a :: st) M := by
  subst hq
  exact hK pc _ _ ls _ M hc k
theorem x_baload (hK : eCl T cd ret K rt) {q : Nat} {a : eA} {i : Int} (hc : cd pc = some (.baload, 1)) (hq : pc + 1 = q) (k : gA M a 2 i fun v => K q ls (v :: st) M) : K pc ls (eI i :: eR a :: st) M := by
  subst hq
  exact hK pc _ _ ls _ M hc k
theorem x_aaload (hK : eCl T cd ret K rt) {q : Nat} {a : eA} {i : Int} (hc : cd pc = some (.aaload, 1)) (hq : pc + 1 = q) (k : gR M a i fun v => K q ls (v :: st) M) : K pc ls (eI i :: eR a :: st) M := by
  subst hq
  exact hK pc _ _ ls _ M hc k
theorem x_iastore (hK : eCl T cd ret K rt) {q : Nat} {a : eA} {i z : Int} (hc : cd pc = some (.iastore, 1)) (hq : pc + 1 = q) (k : pY M a 0 i (eI z) fun M' => K q ls st M') : K pc ls (eI z :: eI i :: eR a :: st) M := by
  subst hq
  exact hK pc _ _ ls _ M hc k
theorem x_lastore (hK : eCl T cd ret K rt) {q : Nat} {a : eA} {i z : Int} (hc : cd pc = some (.lastore, 1)) (hq : pc + 1 = q) (k : pY M a 1 i (eL z) fun M' => K q ls st M') : K pc ls (eL z :: eI i :: eR a :: st) M := by
  subst hq
  exact hK pc _ _ ls _ M hc k
theorem x_bastore (hK : eCl T cd ret K rt) {q : Nat} {a : eA} {i z : Int} (hc : cd pc = some (.bastore, 1)) (hq : pc + 1 = q) (h : z = 0 ∨ z = 1) (k : pY M a 2 i (eI z) fun M' => K q ls st M') : K pc ls (eI z :: eI i :: eR a :: st) M := by
  subst hq
  exact hK pc _ _ ls _ M hc ⟨h, k⟩
theorem x_arraylength (hK : eCl T cd ret K rt) {q : Nat} {a : eA} (hc : cd pc = some (.arraylength, 1)) (hq : pc + 1 = q) (k : gN M a fun n => K q ls (eI n :: st) M) : K pc ls (eR a :: st) M := by
  subst hq
  exact hK pc _ _ ls _ M hc k
theorem x_ireturn (hK : eCl T cd ret K rt) {z : Int} (hc : cd pc = some (.ireturn, 1)) (h : eRt ret (some (eI z))) (k : rt (some (eI z)) M) : K pc ls [eI z] M := hK pc _ _ ls _ M hc ⟨rfl, h, k⟩
theorem x_lreturn (hK : eCl T cd ret K rt) {z : Int} (hc : cd pc = some (.lreturn, 1)) (h : eRt ret (some (eL z))) (k : rt (some (eL z)) M) : K pc ls [eL z] M := hK pc _ _ ls _ M hc ⟨rfl, h, k⟩
theorem x_areturn (hK : eCl T cd ret K rt) {z : eA ⊕ Unit} (hc : cd pc = some (.areturn, 1)) (h : eRt ret (some (.inr z))) (k : rt (some (.inr z)) M) : K pc ls [.inr z] M := hK pc _ _ ls _ M hc ⟨rfl, h, k⟩
theorem x_return_ (hK : eCl T cd ret K rt)  (hc : cd pc = some (.return_, 1)) (h : eRt ret none) (k : rt none M) : K pc ls [] M := hK pc _ _ ls _ M hc ⟨rfl, h, k⟩
theorem x_cs0 (hK : eCl T cd ret K rt) {q : Nat} {j : Nat} {sp : eSp} (hc : cd pc = some (.invokestatic j, 3)) (hq : pc + 3 = q) (h : T.2.2.2.2 j = some (0, sp)) (hw : cW st ≤ 8) (k : sp [] M (kc K q ls st)) : K pc ls (st) M := by
  subst hq
  exact hK pc _ _ ls _ M hc (by
    show cL (T.2.2.2.2 j) (st) M (fun o r M' => K (pc + 3) ls (o.toList ++ r) M')
    rw [h]
    refine ⟨by simp, hw, ?_⟩
    refine Eq.mp ?_ k
    congr 1
    funext o M'
    cases o <;> rfl)
theorem x_cv1 (hK : eCl T cd ret K rt) {q : Nat} {a1 : eV} {j : Nat} {sp : eSp} (hc : cd pc = some (.invokevirtual j, 3)) (hq : pc + 3 = q) (h : T.2.2.2.1 j = some (1, sp)) (hw : cW st ≤ 8) (k : sp [a1] M (kc K q ls st)) : K pc ls (a1 :: st) M := by
  subst hq
  exact hK pc _ _ ls _ M hc (by
    show cL (T.2.2.2.1 j) (a1 :: st) M (fun o r M' => K (pc + 3) ls (o.toList ++ r) M')
    rw [h]
    refine ⟨by simp, hw, ?_⟩
    refine Eq.mp ?_ k
    congr 1
    funext o M'
    cases o <;> rfl)
theorem x_cs1 (hK : eCl T cd ret K rt) {q : Nat} {a1 : eV} {j : Nat} {sp : eSp} (hc : cd pc = some (.invokestatic j, 3)) (hq : pc + 3 = q) (h : T.2.2.2.2 j = some (1, sp)) (hw : cW st ≤ 8) (k : sp [a1] M (kc K q ls st)) : K pc ls (a1 :: st) M := by
  subst hq
  exact hK pc _ _ ls _ M hc (by
    show cL (T.2.2.2.2 j) (a1 :: st) M (fun o r M' => K (pc + 3) ls (o.toList ++ r) M')
    rw [h]
    refine ⟨by simp, hw, ?_⟩
    refine Eq.mp ?_ k
    congr 1
    funext o M'
    cases o <;> rfl)
theorem x_cv2 (hK : eCl T cd ret K rt) {q : Nat} {a1 a2 : eV} {j : Nat} {sp : eSp} (hc : cd pc = some (.invokevirtual j, 3)) (hq : pc + 3 = q) (h : T.2.2.2.1 j = some (2, sp)) (hw : cW st ≤ 8) (k : sp [a1, a2] M (kc K q ls st)) : K pc ls (a2 :: a1 :: st) M := by
  subst hq
  exact hK pc _ _ ls _ M hc (by
    show cL (T.2.2.2.1 j) (a2 :: a1 :: st) M (fun o r M' => K (pc + 3) ls (o.toList ++ r) M')
    rw [h]
    refine ⟨by simp, hw, ?_⟩
    refine Eq.mp ?_ k
    congr 1
    funext o M'
    cases o <;> rfl)
theorem x_cs2 (hK : eCl T cd ret K rt) {q : Nat} {a1 a2 : eV} {j : Nat} {sp : eSp} (hc : cd pc = some (.invokestatic j, 3)) (hq : pc + 3 = q) (h : T.2.2.2.2 j = some (2, sp)) (hw : cW st ≤ 8) (k : sp [a1, a2] M (kc K q ls st)) : K pc ls (a2 :: a1 :: st) M := by
  subst hq
  exact hK pc _ _ ls _ M hc (by
    show cL (T.2.2.2.2 j) (a2 :: a1 :: st) M (fun o r M' => K (pc + 3) ls (o.toList ++ r) M')
    rw [h]
    refine ⟨by simp, hw, ?_⟩
    refine Eq.mp ?_ k
    congr 1
    funext o M'
    cases o <;> rfl)
theorem x_cv3 (hK : eCl T cd ret K rt) {q : Nat} {a1 a2 a3 : eV} {j : Nat} {sp : eSp} (hc : cd pc = some (.invokevirtual j, 3)) (hq : pc + 3 = q) (h : T.2.2.2.1 j = some (3, sp)) (hw : cW st ≤ 8) (k : sp [a1, a2, a3] M (kc K q ls st)) : K pc ls (a3 :: a2 :: a1 :: st) M := by
  subst hq
  exact hK pc _ _ ls _ M hc (by
    show cL (T.2.2.2.1 j) (a3 :: a2 :: a1 :: st) M (fun o r M' => K (pc + 3) ls (o.toList ++ r) M')
    rw [h]
    refine ⟨by simp, hw, ?_⟩
    refine Eq.mp ?_ k
    congr 1
    funext o M'
    cases o <;> rfl)
theorem x_cs3 (hK : eCl T cd ret K rt) {q : Nat} {a1 a2 a3 : eV} {j : Nat} {sp : eSp} (hc : cd pc = some (.invokestatic j, 3)) (hq : pc + 3 = q) (h : T.2.2.2.2 j = some (3, sp)) (hw : cW st ≤ 8) (k : sp [a1, a2, a3] M (kc K q ls st)) : K pc ls (a3 :: a2 :: a1 :: st) M := by
  subst hq
  exact hK pc _ _ ls _ M hc (by
    show cL (T.2.2.2.2 j) (a3 :: a2 :: a1 :: st) M (fun o r M' => K (pc + 3) ls (o.toList ++ r) M')
    rw [h]
    refine ⟨by simp, hw, ?_⟩
    refine Eq.mp ?_ k
    congr 1
    funext o M'
    cases o <;> rfl)
theorem x_cv4 (hK : eCl T cd ret K rt) {q : Nat} {a1 a2 a3 a4 : eV} {j : Nat} {sp : eSp} (hc : cd pc = some (.invokevirtual j, 3)) (hq : pc + 3 = q) (h : T.2.2.2.1 j = some (4, sp)) (hw : cW st ≤ 8) (k : sp [a1, a2, a3, a4] M (kc K q ls st)) : K pc ls (a4 :: a3 :: a2 :: a1 :: st) M := by
  subst hq
  exact hK pc _ _ ls _ M hc (by
    show cL (T.2.2.2.1 j) (a4 :: a3 :: a2 :: a1 :: st) M (fun o r M' => K (pc + 3) ls (o.toList ++ r) M')
    rw [h]
    refine ⟨by simp, hw, ?_⟩
    refine Eq.mp ?_ k
    congr 1
    funext o M'
    cases o <;> rfl)
theorem x_cs4 (hK : eCl T cd ret K rt) {q : Nat} {a1 a2 a3 a4 : eV} {j : Nat} {sp : eSp} (hc : cd pc = some (.invokestatic j, 3)) (hq : pc + 3 = q) (h : T.2.2.2.2 j = some (4, sp)) (hw : cW st ≤ 8) (k : sp [a1, a2, a3, a4] M (kc K q ls st)) : K pc ls (a4 :: a3 :: a2 :: a1 :: st) M := by
  subst hq
  exact hK pc _ _ ls _ M hc (by
    show cL (T.2.2.2.2 j) (a4 :: a3 :: a2 :: a1 :: st) M (fun o r M' => K (pc + 3) ls (o.toList ++ r) M')
    rw [h]
    refine ⟨by simp, hw, ?_⟩
    refine Eq.mp ?_ k
    congr 1
    funext o M'
    cases o <;> rfl)
theorem x_cv5 (hK : eCl T cd ret K rt) {q : Nat} {a1 a2 a3 a4 a5 : eV} {j : Nat} {sp : eSp} (hc : cd pc = some (.invokevirtual j, 3)) (hq : pc + 3 = q) (h : T.2.2.2.1 j = some (5, sp)) (hw : cW st ≤ 8) (k : sp [a1, a2, a3, a4, a5] M (kc K q ls st)) : K pc ls (a5 :: a4 :: a3 :: a2 :: a1 :: st) M := by
  subst hq
  exact hK pc _ _ ls _ M hc (by
    show cL (T.2.2.2.1 j) (a5 :: a4 :: a3 :: a2 :: a1 :: st) M (fun o r M' => K (pc + 3) ls (o.toList ++ r) M')
    rw [h]
    refine ⟨by simp, hw, ?_⟩
    refine Eq.mp ?_ k
    congr 1
    funext o M'
    cases o <;> rfl)
theorem x_cs5 (hK : eCl T cd ret K rt) {q : Nat} {a1 a2 a3 a4 a5 : eV} {j : Nat} {sp : eSp} (hc : cd pc = some (.invokestatic j, 3)) (hq : pc + 3 = q) (h : T.2.2.2.2 j = some (5, sp)) (hw : cW st ≤ 8) (k : sp [a1, a2, a3, a4, a5] M (kc K q ls st)) : K pc ls (a5 :: a4 :: a3 :: a2 :: a1 :: st) M := by
  subst hq
  exact hK pc _ _ ls _ M hc (by
    show cL (T.2.2.2.2 j) (a5 :: a4 :: a3 :: a2 :: a1 :: st) M (fun o r M' => K (pc + 3) ls (o.toList ++ r) M')
    rw [h]
    refine ⟨by simp, hw, ?_⟩
    refine Eq.mp ?_ k
    congr 1
    funext o M'
    cases o <;> rfl)
theorem x_cv6 (hK : eCl T cd ret K rt) {q : Nat} {a1 a2 a3 a4 a5 a6 : eV} {j : Nat} {sp : eSp} (hc : cd pc = some (.invokevirtual j, 3)) (hq : pc + 3 = q) (h : T.2.2.2.1 j = some (6, sp)) (hw : cW st ≤ 8) (k : sp [a1, a2, a3, a4, a5, a6] M (kc K q ls st)) : K pc ls (a6 :: a5 :: a4 :: a3 :: a2 :: a1 :: st) M := by
  subst hq
  exact hK pc _ _ ls _ M hc (by
    show cL (T.2.2.2.1 j) (a6 :: a5 :: a4 :: a3 :: a2 :: a1 :: st) M (fun o r M' => K (pc + 3) ls (o.toList ++ r) M')
    rw [h]
    refine ⟨by simp, hw, ?_⟩
    refine Eq.mp ?_ k
    congr 1
    funext o M'
    cases o <;> rfl)
theorem x_cs6 (hK : eCl T cd ret K rt) {q : Nat} {a1 a2 a3 a4 a5 a6 : eV} {j : Nat} {sp : eSp} (hc : cd pc = some (.invokestatic j, 3)) (hq : pc + 3 = q) (h : T.2.2.2.2 j = some (6, sp)) (hw : cW st ≤ 8) (k : sp [a1, a2, a3, a4, a5, a6] M (kc K q ls st)) : K pc ls (a6 :: a5 :: a4 :: a3 :: a2 :: a1 :: st) M := by
  subst hq
  exact hK pc _ _ ls _ M hc (by
    show cL (T.2.2.2.2 j) (a6 :: a5 :: a4 :: a3 :: a2 :: a1 :: st) M (fun o r M' => K (pc + 3) ls (o.toList ++ r) M')
    rw [h]
    refine ⟨by simp, hw, ?_⟩
    refine Eq.mp ?_ k
    congr 1
    funext o M'
    cases o <;> rfl)
theorem x_cv7 (hK : eCl T cd ret K rt) {q : Nat} {a1 a2 a3 a4 a5 a6 a7 : eV} {j : Nat} {sp : eSp} (hc : cd pc = some (.invokevirtual j, 3)) (hq : pc + 3 = q) (h : T.2.2.2.1 j = some (7, sp)) (hw : cW st ≤ 8) (k : sp [a1, a2, a3, a4, a5, a6, a7] M (kc K q ls st)) : K pc ls (a7 :: a6 :: a5 :: a4 :: a3 :: a2 :: a1 :: st) M := by
  subst hq
  exact hK pc _ _ ls _ M hc (by
    show cL (T.2.2.2.1 j) (a7 :: a6 :: a5 :: a4 :: a3 :: a2 :: a1 :: st) M (fun o r M' => K (pc + 3) ls (o.toList ++ r) M')
    rw [h]
    refine ⟨by simp, hw, ?_⟩
    refine Eq.mp ?_ k
    congr 1
    funext o M'
    cases o <;> rfl)
theorem x_cs7 (hK : eCl T cd ret K rt) {q : Nat} {a1 a2 a3 a4 a5 a6 a7 : eV} {j : Nat} {sp : eSp} (hc : cd pc = some (.invokestatic j, 3)) (hq : pc + 3 = q) (h : T.2.2.2.2 j = some (7, sp)) (hw : cW st ≤ 8) (k : sp [a1, a2, a3, a4, a5, a6, a7] M (kc K q ls st)) : K pc ls (a7 :: a6 :: a5 :: a4 :: a3 :: a2 :: a1 :: st) M := by
  subst hq
  exact hK pc _ _ ls _ M hc (by
    show cL (T.2.2.2.2 j) (a7 :: a6 :: a5 :: a4 :: a3 :: a2 :: a1 :: st) M (fun o r M' => K (pc + 3) ls (o.toList ++ r) M')
    rw [h]
    refine ⟨by simp, hw, ?_⟩
    refine Eq.mp ?_ k
    congr 1
    funext o M'
    cases o <;> rfl)
end XS
