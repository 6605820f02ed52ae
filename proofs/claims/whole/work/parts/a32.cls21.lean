/-! The ideal: build. -/
theorem rdF_k {R : Nat → Nat → Int} {L : Int → Int} (hS : rwS R L) {k : Nat} (hk : k < 10) : ∀ (n : Nat) (v : Nat → Int) (t : Int), n ≤ k → 0 < v k → (∀ i, k < i → i < 10 → v i = 0) → 0 < (rdF R L n v t).1 k ∧ ∀ i, k < i → i < 10 → (rdF R L n v t).1 i = 0
  | 0, v, t, _, h0, hz => ⟨h0, hz⟩
  | n + 1, v, t, hn, h0, hz => by
    unfold rdF
    split
    · exact rdF_k hS hk n v t (by omega) h0 hz
    · split
      · exact rdF_k hS hk n v _ (by omega) h0 hz
      · rename_i l
        obtain ⟨r0, rz⟩ := hS n (by omega) l
        have en := el_n (v := v) (p := n) (i := k) r0 (rz k (by omega) hk)
        have pos : 0 < el v (R n) n k := by rw [en.1]; exact Int.mul_pos h0 en.2
        exact rdF_k hS hk n _ t (by omega) ((sm_n hk (by omega)).2.1 pos) (fun i h1 h2 => sm_0 (el_0 (hz i h1 h2) (rz i (by omega) h2)))
def bdF (f : Int → Int) (R : Nat → Nat → Int) (L : Int → Int) : Nat → (Nat → Nat → Int) × (Int → Int)
  | 0 => (R, L)
  | i + 1 => insF (uR (bdF f R L i).1 10 (ldr f i)) (bdF f R L i).2
def lgS (L G : Int → Int) : Nat → Nat → Int
  | 0, _ => -1
  | n + 1, i => if L i = 1 ∧ G i = 0 then i else lgS L G n (i + 1)
theorem lgS_e {L G : Int → Int} {k : Int} (h : lg L G k) : ∀ (n i : Nat), i + n = 6 → (k = -1 ∨ (i : Int) ≤ k) → lgS L G n i = k
  | 0, i, hi, hk => by
    rcases h with ⟨a, b⟩ | ⟨a, b, c⟩
    · exact a.symm
    · omega
  | n + 1, i, hi, hk => by
    unfold lgS
    rcases h with ⟨a, b⟩ | ⟨a, b, c, d, e⟩
    · rw [if_neg (b i (by omega) (by omega))]
      exact lgS_e (Or.inl ⟨a, b⟩) n (i + 1) (by omega) (Or.inl a)
    · rcases Decidable.em (k = i) with q | q
      · rw [if_pos ⟨by rw [← q]; exact c, by rw [← q]; exact d⟩, q]
      · rw [if_neg (e i (by omega) (by omega))]
        exact lgS_e (Or.inr ⟨a, b, c, d, e⟩) n (i + 1) (by omega) (Or.inr (by omega))
def gr1 (R : Nat → Nat → Int) (L : Int → Int) (k : Nat) (w : Int) : (Nat → Nat → Int) × (Int → Int) := insF (uR R 10 (xw w (R k))) L
def grF : Nat → (Nat → Nat → Int) → (Int → Int) → (Int → Int) → (Nat → Nat → Int) × (Int → Int) × (Int → Int)
  | 0, R, L, G => (R, L, G)
  | n + 1, R, L, G => if lgS L G 6 0 < 0 then (R, L, G) else grF n (gr1 (gr1 R L (lgS L G 6 0).toNat 1).1 (gr1 R L (lgS L G 6 0).toNat 1).2 (lgS L G 6 0).toNat 0).1 (gr1 (gr1 R L (lgS L G 6 0).toNat 1).1 (gr1 R L (lgS L G 6 0).toNat 1).2 (lgS L G 6 0).toNat 0).2 (uI G (lgS L G 6 0) 1)
def grB : Nat → (Nat → Nat → Int) → (Int → Int) → (Int → Int) → Prop
  | 0, _, _, _ => True
  | n + 1, R, L, G => lgS L G 6 0 < 0 ∨ (insB (uR R 10 (xw 1 (R (lgS L G 6 0).toNat))) L ∧ insB (uR (gr1 R L (lgS L G 6 0).toNat 1).1 10 (xw 0 ((gr1 R L (lgS L G 6 0).toNat 1).1 (lgS L G 6 0).toNat))) (gr1 R L (lgS L G 6 0).toNat 1).2 ∧ grB n (gr1 (gr1 R L (lgS L G 6 0).toNat 1).1 (gr1 R L (lgS L G 6 0).toNat 1).2 (lgS L G 6 0).toNat 0).1 (gr1 (gr1 R L (lgS L G 6 0).toNat 1).1 (gr1 R L (lgS L G 6 0).toNat 1).2 (lgS L G 6 0).toNat 0).2 (uI G (lgS L G 6 0) 1))
def zL (n : Int) (L : Int → Int) : Int → Int := fun i => if 0 ≤ i ∧ i < n then 0 else L i
/-- the ideal's rows and leads for a problem -/
def idG (f : Int → Int) (P : Nat) (R : Nat → Nat → Int) (L G : Int → Int) : (Nat → Nat → Int) × (Int → Int) × (Int → Int) := grF 6 (bdF f R (zL 10 L) P).1 (bdF f R (zL 10 L) P).2 (zL 6 G)
def idR (f : Int → Int) (P : Nat) (R : Nat → Nat → Int) (L G : Int → Int) : Nat → Nat → Int := uR (idG f P R L G).1 10 (ldr f 4)
def idQ (f : Int → Int) (P : Nat) (R : Nat → Nat → Int) (L G : Int → Int) : (Nat → Int) × Int := rdF (idR f P R L G) (idG f P R L G).2.1 10 (idR f P R L G 10) (-1)
def idB (f : Int → Int) (P : Nat) (R : Nat → Nat → Int) (L G : Int → Int) : Prop := (∀ i, i < P → insB (uR (bdF f R (zL 10 L) i).1 10 (ldr f i)) (bdF f R (zL 10 L) i).2) ∧ grB 6 (bdF f R (zL 10 L) P).1 (bdF f R (zL 10 L) P).2 (zL 6 G) ∧ rdB (idR f P R L G) (idG f P R L G).2.1 10 (idR f P R L G 10)
theorem uR_S {R : Nat → Nat → Int} {L : Int → Int} {v : Nat → Int} (h : rwS R L) : rwS (uR R 10 v) L := fun p hp hl => by
  rw [uR_n R v (by omega)]
  exact h p hp hl
theorem iO_t {W W1 W2 : Nat → Int → Int} (h : iO W W1) (h2 : iO W1 W2) : iO W W2 := fun t ht => by rw [h2 t ht]; exact h t ht
theorem insF_k {R : Nat → Nat → Int} {L : Int → Int} {k : Int} (h : L k = 1) : (insF R L).2 k = 1 := by
  unfold insF
  split
  · exact h
  · show uI L _ 1 k = 1
    rcases Decidable.em (k = (rdF R L 10 (R 10) (-1)).2) with q | q
    · rw [q, uI_s]
    · rw [uI_n _ _ q]; exact h
def SX3_build : eSp := fun as M rt => ∃ (F : Nat → Int) (A W : Nat → Int → Int) (p P : Nat) (R : Nat → Nat → Int), as = [eR (1, 3), eR (1, p)] ∧ M = cC F A W ∧ (p < 2) ∧ (P ≤ 4) ∧ (F (2 + p) = P) ∧ (iR W R) ∧ (∀ i : Int, 0 ≤ i → i < 30 → w32 (A p i)) ∧ (idB (A p) P R (A 2) (A 3)) ∧ (∀ W', iO W W' → iR W' (uR (idR (A p) P R (A 2) (A 3)) 10 (idQ (A p) P R (A 2) (A 3)).1) → rt none (cC (uF F 4 (if (idQ (A p) P R (A 2) (A 3)).2 = -1 then 1 else 0)) (uA (uA A 2 (idG (A p) P R (A 2) (A 3)).2.1) 3 (idG (A p) P R (A 2) (A 3)).2.2) W'))
theorem SX3_build_i {F : Nat → Int} {A W : Nat → Int → Int} {p P : Nat} {R : Nat → Nat → Int} {rt : Option eV → eM → Prop} (hp : p < 2) (hP : P ≤ 4) (hF : F (2 + p) = P) (hR : iR W R) (hA : ∀ i : Int, 0 ≤ i → i < 30 → w32 (A p i)) (hB : idB (A p) P R (A 2) (A 3)) (h : ∀ W', iO W W' → iR W' (uR (idR (A p) P R (A 2) (A 3)) 10 (idQ (A p) P R (A 2) (A 3)).1) → rt none (cC (uF F 4 (if (idQ (A p) P R (A 2) (A 3)).2 = -1 then 1 else 0)) (uA (uA A 2 (idG (A p) P R (A 2) (A 3)).2.1) 3 (idG (A p) P R (A 2) (A 3)).2.2) W')) : SX3_build [eR (1, 3), eR (1, p)] (cC F A W) rt := ⟨F, A, W, p, P, R, rfl, rfl, hp, hP, hF, hR, hA, hB, h⟩
theorem SX3_build_r : ∀ as M rt, SX3_build as M rt → ∃ a r fs, as = eR a :: r ∧ M a = some (.inl (3, fs)) := by
  rintro as M rt ⟨F, A, W, p, P, R, rfl, rfl, -⟩
  exact ⟨_, _, _, rfl, rfl⟩
def kX3_build : List (Nat × Jvm.ClassFile.Instr × Nat) := [(0, .iconst 0, 1), (1, .istore_n 2, 1), (2, .iload_n 2, 1), (3, .bipush 10, 2), (5, .if_icmp .ge 16, 3), (8, .aload_n 0, 1), (9, .getfield 19, 3), (12, .iload_n 2, 1), (13, .iconst 0, 1), (14, .bastore, 1), (15, .iinc 2 1, 3), (18, .goto (-16), 3), (21, .iconst 0, 1), (22, .istore_n 2, 1), (23, .iload_n 2, 1), (24, .bipush 6, 2), (26, .if_icmp .ge 16, 3), (29, .aload_n 0, 1), (30, .getfield 23, 3), (33, .iload_n 2, 1), (34, .iconst 0, 1), (35, .bastore, 1), (36, .iinc 2 1, 3), (39, .goto (-16), 3), (42, .iconst 0, 1), (43, .istore_n 2, 1), (44, .iload_n 2, 1), (45, .aload_n 1, 1), (46, .invokevirtual 48, 3), (49, .if_icmp .ge 19, 3), (52, .aload_n 0, 1), (53, .aload_n 1, 1), (54, .iload_n 2, 1), (55, .invokevirtual 54, 3), (58, .aload_n 0, 1), (59, .invokevirtual 58, 3), (62, .iinc 2 1, 3), (65, .goto (-21), 3), (68, .iconst 0, 1), (69, .istore_n 2, 1), (70, .iload_n 2, 1), (71, .bipush 6, 2), (73, .if_icmp .ge 54, 3), (76, .aload_n 0, 1), (77, .invokevirtual 61, 3), (80, .istore_n 3, 1), (81, .iload_n 3, 1), (82, .ifCond .lt 45, 3), (85, .iload_n 3, 1), (86, .bipush 6, 2), (88, .if_icmp .lt 6, 3), (91, .goto 36, 3), (94, .aload_n 0, 1), (95, .getfield 23, 3), (98, .iload_n 3, 1), (99, .iconst 1, 1), (100, .bastore, 1), (101, .aload_n 0, 1), (102, .iload_n 3, 1), (103, .iconst 0, 1), (104, .invokevirtual 64, 3), (107, .aload_n 0, 1), (108, .invokevirtual 58, 3), (111, .aload_n 0, 1), (112, .iload_n 3, 1), (113, .iconst 1, 1), (114, .invokevirtual 64, 3), (117, .aload_n 0, 1), (118, .invokevirtual 58, 3), (121, .iinc 2 1, 3), (124, .goto (-54), 3), (127, .aload_n 0, 1), (128, .aload_n 1, 1), (129, .iconst 4, 1), (130, .invokevirtual 54, 3), (133, .aload_n 0, 1), (134, .aload_n 0, 1), (135, .invokevirtual 68, 3), (138, .iconst (-1), 1), (139, .if_icmp .ne 7, 3), (142, .iconst 1, 1), (143, .goto 4, 3), (146, .iconst 0, 1), (147, .putfield 40, 3), (150, .return_, 1)]
theorem kX3_build_0 : cdOf kX3_build 0 = some (.iconst 0, 1) := by decide +kernel
theorem kX3_build_1 : cdOf kX3_build 1 = some (.istore_n 2, 1) := by decide +kernel
theorem kX3_build_2 : cdOf kX3_build 2 = some (.iload_n 2, 1) := by decide +kernel
theorem kX3_build_3 : cdOf kX3_build 3 = some (.bipush 10, 2) := by decide +kernel
theorem kX3_build_5 : cdOf kX3_build 5 = some (.if_icmp .ge 16, 3) := by decide +kernel
theorem kX3_build_8 : cdOf kX3_build 8 = some (.aload_n 0, 1) := by decide +kernel
theorem kX3_build_9 : cdOf kX3_build 9 = some (.getfield 19, 3) := by decide +kernel
theorem kX3_build_12 : cdOf kX3_build 12 = some (.iload_n 2, 1) := by decide +kernel
theorem kX3_build_13 : cdOf kX3_build 13 = some (.iconst 0, 1) := by decide +kernel
theorem kX3_build_14 : cdOf kX3_build 14 = some (.bastore, 1) := by decide +kernel
theorem kX3_build_15 : cdOf kX3_build 15 = some (.iinc 2 1, 3) := by decide +kernel
theorem kX3_build_18 : cdOf kX3_build 18 = some (.goto (-16), 3) := by decide +kernel
theorem kX3_build_21 : cdOf kX3_build 21 = some (.iconst 0, 1) := by decide +kernel
theorem kX3_build_22 : cdOf kX3_build 22 = some (.istore_n 2, 1) := by decide +kernel
theorem kX3_build_23 : cdOf kX3_build 23 = some (.iload_n 2, 1) := by decide +kernel
theorem kX3_build_24 : cdOf kX3_build 24 = some (.bipush 6, 2) := by decide +kernel
theorem kX3_build_26 : cdOf kX3_build 26 = some (.if_icmp .ge 16, 3) := by decide +kernel
theorem kX3_build_29 : cdOf kX3_build 29 = some (.aload_n 0, 1) := by decide +kernel
theorem kX3_build_30 : cdOf kX3_build 30 = some (.getfield 23, 3) := by decide +kernel
theorem kX3_build_33 : cdOf kX3_build 33 = some (.iload_n 2, 1) := by decide +kernel
theorem kX3_build_34 : cdOf kX3_build 34 = some (.iconst 0, 1) := by decide +kernel
theorem kX3_build_35 : cdOf kX3_build 35 = some (.bastore, 1) := by decide +kernel
theorem kX3_build_36 : cdOf kX3_build 36 = some (.iinc 2 1, 3) := by decide +kernel
theorem kX3_build_39 : cdOf kX3_build 39 = some (.goto (-16), 3) := by decide +kernel
theorem kX3_build_42 : cdOf kX3_build 42 = some (.iconst 0, 1) := by decide +kernel
theorem kX3_build_43 : cdOf kX3_build 43 = some (.istore_n 2, 1) := by decide +kernel
theorem kX3_build_44 : cdOf kX3_build 44 = some (.iload_n 2, 1) := by decide +kernel
theorem kX3_build_45 : cdOf kX3_build 45 = some (.aload_n 1, 1) := by decide +kernel
theorem kX3_build_46 : cdOf kX3_build 46 = some (.invokevirtual 48, 3) := by decide +kernel
theorem kX3_build_49 : cdOf kX3_build 49 = some (.if_icmp .ge 19, 3) := by decide +kernel
theorem kX3_build_52 : cdOf kX3_build 52 = some (.aload_n 0, 1) := by decide +kernel
theorem kX3_build_53 : cdOf kX3_build 53 = some (.aload_n 1, 1) := by decide +kernel
theorem kX3_build_54 : cdOf kX3_build 54 = some (.iload_n 2, 1) := by decide +kernel
theorem kX3_build_55 : cdOf kX3_build 55 = some (.invokevirtual 54, 3) := by decide +kernel
theorem kX3_build_58 : cdOf kX3_build 58 = some (.aload_n 0, 1) := by decide +kernel
theorem kX3_build_59 : cdOf kX3_build 59 = some (.invokevirtual 58, 3) := by decide +kernel
theorem kX3_build_62 : cdOf kX3_build 62 = some (.iinc 2 1, 3) := by decide +kernel
theorem kX3_build_65 : cdOf kX3_build 65 = some (.goto (-21), 3) := by decide +kernel
theorem kX3_build_68 : cdOf kX3_build 68 = some (.iconst 0, 1) := by decide +kernel
theorem kX3_build_69 : cdOf kX3_build 69 = some (.istore_n 2, 1) := by decide +kernel
theorem kX3_build_70 : cdOf kX3_build 70 = some (.iload_n 2, 1) := by decide +kernel
theorem kX3_build_71 : cdOf kX3_build 71 = some (.bipush 6, 2) := by decide +kernel
theorem kX3_build_73 : cdOf kX3_build 73 = some (.if_icmp .ge 54, 3) := by decide +kernel
theorem kX3_build_76 : cdOf kX3_build 76 = some (.aload_n 0, 1) := by decide +kernel
theorem kX3_build_77 : cdOf kX3_build 77 = some (.invokevirtual 61, 3) := by decide +kernel
theorem kX3_build_80 : cdOf kX3_build 80 = some (.istore_n 3, 1) := by decide +kernel
theorem kX3_build_81 : cdOf kX3_build 81 = some (.iload_n 3, 1) := by decide +kernel
theorem kX3_build_82 : cdOf kX3_build 82 = some (.ifCond .lt 45, 3) := by decide +kernel
theorem kX3_build_85 : cdOf kX3_build 85 = some (.iload_n 3, 1) := by decide +kernel
theorem kX3_build_86 : cdOf kX3_build 86 = some (.bipush 6, 2) := by decide +kernel
theorem kX3_build_88 : cdOf kX3_build 88 = some (.if_icmp .lt 6, 3) := by decide +kernel
theorem kX3_build_91 : cdOf kX3_build 91 = some (.goto 36, 3) := by decide +kernel
theorem kX3_build_94 : cdOf kX3_build 94 = some (.aload_n 0, 1) := by decide +kernel
theorem kX3_build_95 : cdOf kX3_build 95 = some (.getfield 23, 3) := by decide +kernel
theorem kX3_build_98 : cdOf kX3_build 98 = some (.iload_n 3, 1) := by decide +kernel
theorem kX3_build_99 : cdOf kX3_build 99 = some (.iconst 1, 1) := by decide +kernel
theorem kX3_build_100 : cdOf kX3_build 100 = some (.bastore, 1) := by decide +kernel
theorem kX3_build_101 : cdOf kX3_build 101 = some (.aload_n 0, 1) := by decide +kernel
theorem kX3_build_102 : cdOf kX3_build 102 = some (.iload_n 3, 1) := by decide +kernel
theorem kX3_build_103 : cdOf kX3_build 103 = some (.iconst 0, 1) := by decide +kernel
theorem kX3_build_104 : cdOf kX3_build 104 = some (.invokevirtual 64, 3) := by decide +kernel
theorem kX3_build_107 : cdOf kX3_build 107 = some (.aload_n 0, 1) := by decide +kernel
theorem kX3_build_108 : cdOf kX3_build 108 = some (.invokevirtual 58, 3) := by decide +kernel
theorem kX3_build_111 : cdOf kX3_build 111 = some (.aload_n 0, 1) := by decide +kernel
theorem kX3_build_112 : cdOf kX3_build 112 = some (.iload_n 3, 1) := by decide +kernel
theorem kX3_build_113 : cdOf kX3_build 113 = some (.iconst 1, 1) := by decide +kernel
theorem kX3_build_114 : cdOf kX3_build 114 = some (.invokevirtual 64, 3) := by decide +kernel
theorem kX3_build_117 : cdOf kX3_build 117 = some (.aload_n 0, 1) := by decide +kernel
theorem kX3_build_118 : cdOf kX3_build 118 = some (.invokevirtual 58, 3) := by decide +kernel
theorem kX3_build_121 : cdOf kX3_build 121 = some (.iinc 2 1, 3) := by decide +kernel
theorem kX3_build_124 : cdOf kX3_build 124 = some (.goto (-54), 3) := by decide +kernel
theorem kX3_build_127 : cdOf kX3_build 127 = some (.aload_n 0, 1) := by decide +kernel
theorem kX3_build_128 : cdOf kX3_build 128 = some (.aload_n 1, 1) := by decide +kernel
theorem kX3_build_129 : cdOf kX3_build 129 = some (.iconst 4, 1) := by decide +kernel
theorem kX3_build_130 : cdOf kX3_build 130 = some (.invokevirtual 54, 3) := by decide +kernel
theorem kX3_build_133 : cdOf kX3_build 133 = some (.aload_n 0, 1) := by decide +kernel
theorem kX3_build_134 : cdOf kX3_build 134 = some (.aload_n 0, 1) := by decide +kernel
theorem kX3_build_135 : cdOf kX3_build 135 = some (.invokevirtual 68, 3) := by decide +kernel
theorem kX3_build_138 : cdOf kX3_build 138 = some (.iconst (-1), 1) := by decide +kernel
theorem kX3_build_139 : cdOf kX3_build 139 = some (.if_icmp .ne 7, 3) := by decide +kernel
theorem kX3_build_142 : cdOf kX3_build 142 = some (.iconst 1, 1) := by decide +kernel
theorem kX3_build_143 : cdOf kX3_build 143 = some (.goto 4, 3) := by decide +kernel
theorem kX3_build_146 : cdOf kX3_build 146 = some (.iconst 0, 1) := by decide +kernel
theorem kX3_build_147 : cdOf kX3_build 147 = some (.putfield 40, 3) := by decide +kernel
theorem kX3_build_150 : cdOf kX3_build 150 = some (.return_, 1) := by decide +kernel
set_option maxRecDepth 20000 in
theorem kX3_build_ok : ∀ pc i len, cdOf kX3_build pc = some (i, len) → decode cX3_build pc = .ok (i, len) ∧ stOK 4 i = true ∧ jOK pc i = true ∧ eLen i len = true := cdOf_ok cX3_build 4 kX3_build (by decide +kernel)
def vtX3_build : Nat → Option (Nat × eSp) := fun k => match k with
  | 48 => some (1, SX6_size)
  | 54 => some (3, SX3_load)
  | 58 => some (1, SX3_insert)
  | 61 => some (1, SX3_lowestToGrow)
  | 64 => some (3, SX3_loadMultiple)
  | 68 => some (1, SX3_reduce)
  | _ => none
theorem vtX3_build_48 : vtX3_build 48 = some (1, SX6_size) := rfl
theorem vtX3_build_54 : vtX3_build 54 = some (3, SX3_load) := rfl
theorem vtX3_build_58 : vtX3_build 58 = some (1, SX3_insert) := rfl
theorem vtX3_build_61 : vtX3_build 61 = some (1, SX3_lowestToGrow) := rfl
theorem vtX3_build_64 : vtX3_build 64 = some (3, SX3_loadMultiple) := rfl
theorem vtX3_build_68 : vtX3_build 68 = some (1, SX3_reduce) := rfl
def stX3_build : Nat → Option (Nat × eSp) := fun _ => none
abbrev TX3_build : eT := (fl_RX3, cl_RX3, dl_RX3, vtX3_build, stX3_build)
set_option maxRecDepth 20000 in
theorem caX3_build : eCalls RX3 { frames := 6, cells := 0, slots := 0, locals := 158 } TX3_build := by
  refine ⟨fun k n sp h => ?_, fun k n sp h => ?_⟩
  · dsimp only [TX3_build] at h
    unfold vtX3_build at h
    split at h
    · cases h; exact eV_mk mX6_size wX6_size (by decide +kernel) (Or.inl (gW_at 412 (by decide +kernel) rfl))
    · cases h; exact eV_mk mX3_load wX3_load (by decide +kernel) (Or.inl (gW_at 416 (by decide +kernel) rfl))
    · cases h; exact eV_mk mX3_insert wX3_insert (by decide +kernel) (Or.inl (gW_at 427 (by decide +kernel) rfl))
    · cases h; exact eV_mk mX3_lowestToGrow wX3_lowestToGrow (by decide +kernel) (Or.inl (gW_at 562 (by decide +kernel) rfl))
    · cases h; exact eV_mk mX3_loadMultiple wX3_loadMultiple (by decide +kernel) (Or.inl (gW_at 566 (by decide +kernel) rfl))
    · cases h; exact eV_mk mX3_reduce wX3_reduce (by decide +kernel) (Or.inl (gW_at 431 (by decide +kernel) rfl))
    · cases h
  · cases h
set_option maxRecDepth 100000 in
set_option maxHeartbeats 4000000 in
theorem sX3_build : eSafe TX3_build (cdOf kX3_build) 4 none SX3_build := by
  intro K rt hK as M h
  obtain ⟨F, A, W, p, P, R, rfl, rfl, hp, hP, hF, hR, hA, hB, h⟩ := h
  refine ⟨by simp [eE], ?_⟩
  obtain ⟨hB1, hB2, hB4⟩ := hB
  have a2 : ∀ L G, uA (uA A 2 L) 3 G 2 = L := fun L G => by rw [uA_n _ _ (by decide), uA_g]
  have a3 : ∀ L G, uA (uA A 2 L) 3 G 3 = G := fun L G => uA_g _ _ _
  have ap : ∀ L G, uA (uA A 2 L) 3 G p = A p := fun L G => by rw [uA_n _ _ (by omega), uA_n _ _ (by omega)]
  have s2 : ∀ L G L', uA (uA (uA A 2 L) 3 G) 2 L' = uA (uA A 2 L') 3 G := fun L G L' => by rw [uA_c _ _ _ (by decide), uA_u]
  have s3 : ∀ L G G', uA (uA (uA A 2 L) 3 G) 3 G' = uA (uA A 2 L) 3 G' := fun L G G' => uA_u _ _ _ _
  have hA' : ∀ L G, ∀ i : Int, 0 ≤ i → i < 30 → w32 (uA (uA A 2 L) 3 G p i) := fun L G i i0 i1 => by rw [ap]; exact hA i i0 i1
  -- the end
  have last : ∀ (W1 : Nat → Int → Int) (u2 u3 : Option eV), (∀ i : Int, 0 ≤ i → i < 10 → (idG (A p) P R (A 2) (A 3)).2.1 i = 0 ∨ (idG (A p) P R (A 2) (A 3)).2.1 i = 1) → rwS (idG (A p) P R (A 2) (A 3)).1 (idG (A p) P R (A 2) (A 3)).2.1 → iO W W1 → iR W1 (idG (A p) P R (A 2) (A 3)).1 → K 127 [some (eR (1, 3)), some (eR (1, p)), u2, u3] [] (cC F (uA (uA A 2 (idG (A p) P R (A 2) (A 3)).2.1) 3 (idG (A p) P R (A 2) (A 3)).2.2) W1) := by
    intro W1 u2 u3 hL hS ho hi
    have qt : (idQ (A p) P R (A 2) (A 3)).2 = -1 ∨ ∃ k : Nat, (idQ (A p) P R (A 2) (A 3)).2 = k ∧ k < 10 := by
      have hh := rdF_h (R := idR (A p) P R (A 2) (A 3)) (uR_S hS) 10 (idR (A p) P R (A 2) (A 3) 10) (-1) (Nat.le_refl _) (fun i a b _ => by omega) (Or.inl ⟨rfl, fun i a b => by omega⟩)
      rcases hh.2 with g | ⟨k, g, g2, -⟩
      · exact Or.inl g.1
      · exact Or.inr ⟨k, g, g2⟩
    have w : w32 (idQ (A p) P R (A 2) (A 3)).2 := by
      rcases qt with g | ⟨k, g, g2⟩
      · rw [g]; decide
      · rw [g]; exact ⟨by omega, by omega⟩
    refine x_aload_n hK kX3_build_127 (q := 128) rfl rfl ?_
    refine x_aload_n hK kX3_build_128 (q := 129) rfl rfl ?_
    refine x_iconst hK kX3_build_129 (q := 130) rfl ?_
    refine x_cv3 hK kX3_build_130 (q := 133) rfl (vtX3_build_54) (Nat.le_of_ble_eq_true rfl) ?_
    refine SX3_load_i (p := p) (k := 4) hp (by decide) hi (hA' _ _) (fun W3 o3 i3 => ?_)
    rw [ap] at i3
    refine x_aload_n hK kX3_build_133 (q := 134) rfl rfl ?_
    refine x_aload_n hK kX3_build_134 (q := 135) rfl rfl ?_
    refine x_cv1 hK kX3_build_135 (q := 138) rfl (vtX3_build_68) (Nat.le_of_ble_eq_true rfl) ?_
    refine SX3_reduce_i (R := idR (A p) P R (A 2) (A 3)) i3 (by rw [a2]; exact hL) (by rw [a2]; exact fun k hk hk1 => (uR_S hS k hk (by omega)).1) (by rw [a2]; exact hB4) (fun W4 o4 i4 => ?_)
    rw [a2] at i4 ⊢
    have hfin := h W4 (iO_t ho (iO_t o3 o4)) i4
    refine x_iconst hK kX3_build_138 (q := 139) rfl ?_
    refine x_icmp_ne hK kX3_build_139 (q := 142) rfl (tg := 146) rfl (by refine ⟨w, by decide⟩) (fun c139 => ?_) (fun c139 => ?_)
    · rw [if_neg (show ¬ (idQ (A p) P R (A 2) (A 3)).2 = -1 from c139)] at hfin
      refine x_iconst hK kX3_build_146 (q := 147) rfl ?_
      refine x_putfield hK kX3_build_147 (q := 150) rfl (pX3_40 (by first | exact Or.inl rfl | exact Or.inr rfl) ?_)
      refine x_return_ hK kX3_build_150 (by first | trivial | exact Or.inl rfl | exact Or.inr rfl) ?_
      exact hfin
    · rw [if_pos (show (idQ (A p) P R (A 2) (A 3)).2 = -1 from Decidable.not_not.mp c139)] at hfin
      refine x_iconst hK kX3_build_142 (q := 143) rfl ?_
      refine x_goto hK kX3_build_143 (tg := 147) rfl ?_
      refine x_putfield hK kX3_build_147 (q := 150) rfl (pX3_40 (by first | exact Or.inl rfl | exact Or.inr rfl) ?_)
      refine x_return_ hK kX3_build_150 (by first | trivial | exact Or.inl rfl | exact Or.inr rfl) ?_
      exact hfin
  have grow : ∀ (n st : Nat) (R1 : Nat → Nat → Int) (L1 G1 : Int → Int) (W1 : Nat → Int → Int) (u3 : Option eV), st + n = 6 → (∀ i : Int, 0 ≤ i → i < 10 → L1 i = 0 ∨ L1 i = 1) → (∀ i : Int, 0 ≤ i → i < 6 → G1 i = 0 ∨ G1 i = 1) → rwS R1 L1 → grB n R1 L1 G1 → grF n R1 L1 G1 = idG (A p) P R (A 2) (A 3) → iO W W1 → iR W1 R1 → K 70 [some (eR (1, 3)), some (eR (1, p)), some (eI st), u3] [] (cC F (uA (uA A 2 L1) 3 G1) W1) := by
    intro n
    induction n with
    | zero =>
      intro st R1 L1 G1 W1 u3 hst hL hG hS hb he ho hi
      have he' : (R1, L1, G1) = idG (A p) P R (A 2) (A 3) := he
      refine x_iload_n hK kX3_build_70 (q := 71) rfl rfl ?_
      refine x_bipush hK kX3_build_71 (q := 73) rfl (by decide) ?_
      refine x_icmp_ge hK kX3_build_73 (q := 76) rfl (tg := 127) rfl (by refine ⟨?_, ?_⟩ <;> omega) (fun c73 => ?_) (fun c73 => ?_)
      · exact x_to (last W1 _ _ (by rw [← he']; exact hL) (by rw [← he']; exact hS) ho (by rw [← he']; exact hi)) rfl rfl (by rw [← he'])
      · exfalso; omega
    | succ n ih =>
      intro st R1 L1 G1 W1 u3 hst hL hG hS hb he ho hi
      unfold grF at he
      unfold grB at hb
      refine x_iload_n hK kX3_build_70 (q := 71) rfl rfl ?_
      refine x_bipush hK kX3_build_71 (q := 73) rfl (by decide) ?_
      refine x_icmp_ge hK kX3_build_73 (q := 76) rfl (tg := 127) rfl (by refine ⟨?_, ?_⟩ <;> omega) (fun c73 => ?_) (fun c73 => ?_)
      · exfalso; omega
      · refine x_aload_n hK kX3_build_76 (q := 77) rfl rfl ?_
        refine x_cv1 hK kX3_build_77 (q := 80) rfl (vtX3_build_61) (Nat.le_of_ble_eq_true rfl) ?_
        refine SX3_lowestToGrow_i (by rw [a2]; exact hL) (by rw [a3]; exact hG) (fun k hk => ?_)
        rw [a2, a3] at hk
        have kr : -1 ≤ k ∧ k < 6 := by rcases hk with ⟨a, b⟩ | ⟨a, b, c⟩ <;> omega
        have ek := lgS_e hk 6 0 rfl (by omega)
        rw [ek] at he hb
        refine x_istore_n hK kX3_build_80 (q := 81) (jn := 3) rfl rfl ?_
        refine x_iload_n hK kX3_build_81 (q := 82) rfl rfl ?_
        simp only [lS, lS2, clr_0, clr_I, clr_L, clr_R]
        refine x_if_lt hK kX3_build_82 (q := 85) rfl (tg := 127) rfl (by exact ⟨by omega, by omega⟩) (fun c82 => ?_) (fun c82 => ?_)
        · rw [if_pos c82] at he
          have he' : (R1, L1, G1) = idG (A p) P R (A 2) (A 3) := he
          exact x_to (last W1 _ _ (by rw [← he']; exact hL) (by rw [← he']; exact hS) ho (by rw [← he']; exact hi)) rfl rfl (by rw [← he'])
        · rw [if_neg c82] at he
          obtain ⟨kn, rfl⟩ : ∃ kn : Nat, k = kn := ⟨k.toNat, by omega⟩
          rw [show (kn : Int).toNat = kn from rfl] at he hb
          have hb' := hb.resolve_left c82
          obtain ⟨b1, b2, b3⟩ := hb'
          have lk : L1 kn = 1 := by rcases hk with ⟨a, b⟩ | ⟨a, b, c, d⟩; omega; exact c
          refine x_iload_n hK kX3_build_85 (q := 86) rfl rfl ?_
          refine x_bipush hK kX3_build_86 (q := 88) rfl (by decide) ?_
          refine x_icmp_lt hK kX3_build_88 (q := 91) rfl (tg := 94) rfl (by refine ⟨?_, ?_⟩ <;> omega) (fun c88 => ?_) (fun c88 => ?_)
          · refine x_aload_n hK kX3_build_94 (q := 95) rfl rfl ?_
            refine x_getfield hK kX3_build_95 (q := 98) rfl (gX3_23 ?_)
            refine x_iload_n hK kX3_build_98 (q := 99) rfl rfl ?_
            refine x_iconst hK kX3_build_99 (q := 100) rfl ?_
            refine x_bastore hK kX3_build_100 (q := 101) rfl (by exact Or.inr rfl) (yC3_3 (by refine ⟨?_, ?_⟩ <;> omega) ?_)
            rw [a3, s3]
            refine x_aload_n hK kX3_build_101 (q := 102) rfl rfl ?_
            refine x_iload_n hK kX3_build_102 (q := 103) rfl rfl ?_
            refine x_iconst hK kX3_build_103 (q := 104) rfl ?_
            refine x_cv3 hK kX3_build_104 (q := 107) rfl (vtX3_build_64) (Nat.le_of_ble_eq_true rfl) ?_
            refine SX3_loadMultiple_i (k := kn) (w := 1) (by omega) (Or.inr rfl) hi (by rw [a2]; exact hL) (by rw [a2]; exact lk) (fun W2 o2 i2 => ?_)
            refine x_aload_n hK kX3_build_107 (q := 108) rfl rfl ?_
            refine x_cv1 hK kX3_build_108 (q := 111) rfl (vtX3_build_58) (Nat.le_of_ble_eq_true rfl) ?_
            refine SX3_insert_i i2 (by rw [a2]; exact hL) (by rw [a2]; exact uR_S hS) (by rw [a2]; exact b1) (fun W3 o3 i3 => ?_)
            rw [a2] at i3 ⊢
            rw [s2]
            have i3' : iR W3 (gr1 R1 L1 kn 1).1 := i3
            have hL3 : ∀ i : Int, 0 ≤ i → i < 10 → (gr1 R1 L1 kn 1).2 i = 0 ∨ (gr1 R1 L1 kn 1).2 i = 1 := insF_01 hL
            have hS3 : rwS (gr1 R1 L1 kn 1).1 (gr1 R1 L1 kn 1).2 := insF_S (uR_S hS)
            have lk3 : (gr1 R1 L1 kn 1).2 kn = 1 := insF_k lk
            refine x_to (ls' := [some (eR (1, 3)), some (eR (1, p)), some (eI st), some (eI kn)]) (st' := []) (M' := cC F (uA (uA A 2 (gr1 R1 L1 kn 1).2) 3 (uI G1 kn 1)) W3) ?_ rfl rfl rfl
            refine x_aload_n hK kX3_build_111 (q := 112) rfl rfl ?_
            refine x_iload_n hK kX3_build_112 (q := 113) rfl rfl ?_
            refine x_iconst hK kX3_build_113 (q := 114) rfl ?_
            refine x_cv3 hK kX3_build_114 (q := 117) rfl (vtX3_build_64) (Nat.le_of_ble_eq_true rfl) ?_
            refine SX3_loadMultiple_i (k := kn) (w := 0) (by omega) (Or.inl rfl) i3' (by rw [a2]; exact hL3) (by rw [a2]; exact lk3) (fun W4 o4 i4 => ?_)
            refine x_aload_n hK kX3_build_117 (q := 118) rfl rfl ?_
            refine x_cv1 hK kX3_build_118 (q := 121) rfl (vtX3_build_58) (Nat.le_of_ble_eq_true rfl) ?_
            refine SX3_insert_i i4 (by rw [a2]; exact hL3) (by rw [a2]; exact uR_S hS3) (by rw [a2]; exact b2) (fun W5 o5 i5 => ?_)
            rw [a2] at i5 ⊢
            rw [s2]
            refine x_iinc hK kX3_build_121 (q := 124) rfl rfl ?_
            simp only [lS, lS2, clr_0, clr_I, clr_L, clr_R]
            refine x_goto hK kX3_build_124 (tg := 70) rfl ?_
            rw [show (st : Int) + 1 = ((st + 1 : Nat) : Int) by omega]
            exact ih (st + 1) _ _ _ W5 _ (by omega) (insF_01 hL3) (fun i i0 i1 => by
              rcases Decidable.em (i = kn) with q | q
              · rw [q, uI_s]; exact Or.inr rfl
              · rw [uI_n _ _ q]; exact hG i i0 i1) (insF_S (uR_S hS3)) b3 he (iO_t ho (iO_t o2 (iO_t o3 (iO_t o4 o5)))) i5
          · exfalso; omega
  have zr6 : ∀ i : Int, 0 ≤ i → i < 6 → zL 6 (A 3) i = 0 ∨ zL 6 (A 3) i = 1 := fun i i0 i1 => Or.inl (if_pos ⟨i0, i1⟩)
  have ins : ∀ (d i : Nat) (W1 : Nat → Int → Int) (u3 : Option eV), i + d = P → (∀ t : Int, 0 ≤ t → t < 10 → (bdF (A p) R (zL 10 (A 2)) i).2 t = 0 ∨ (bdF (A p) R (zL 10 (A 2)) i).2 t = 1) → rwS (bdF (A p) R (zL 10 (A 2)) i).1 (bdF (A p) R (zL 10 (A 2)) i).2 → iO W W1 → iR W1 (bdF (A p) R (zL 10 (A 2)) i).1 → K 44 [some (eR (1, 3)), some (eR (1, p)), some (eI i), u3] [] (cC F (uA (uA A 2 (bdF (A p) R (zL 10 (A 2)) i).2) 3 (zL 6 (A 3))) W1) := by
    intro d
    induction d with
    | zero =>
      intro i W1 u3 hi hL hS ho hr
      have : i = P := by omega
      subst this
      refine x_iload_n hK kX3_build_44 (q := 45) rfl rfl ?_
      refine x_aload_n hK kX3_build_45 (q := 46) rfl rfl ?_
      refine x_cv1 hK kX3_build_46 (q := 49) rfl (vtX3_build_48) (Nat.le_of_ble_eq_true rfl) ?_
      refine SX6_size_i hp ?_
      rw [hF]
      refine x_icmp_ge hK kX3_build_49 (q := 52) rfl (tg := 68) rfl (by refine ⟨?_, ?_⟩ <;> omega) (fun c49 => ?_) (fun c49 => ?_)
      · refine x_iconst hK kX3_build_68 (q := 69) rfl ?_
        refine x_istore_n hK kX3_build_69 (q := 70) (jn := 2) rfl rfl ?_
        simp only [lS, lS2, clr_0, clr_I, clr_L, clr_R]
        exact grow 6 0 _ _ _ W1 _ rfl hL zr6 hS hB2 rfl ho hr
      · exfalso; omega
    | succ d ih =>
      intro i W1 u3 hi hL hS ho hr
      refine x_iload_n hK kX3_build_44 (q := 45) rfl rfl ?_
      refine x_aload_n hK kX3_build_45 (q := 46) rfl rfl ?_
      refine x_cv1 hK kX3_build_46 (q := 49) rfl (vtX3_build_48) (Nat.le_of_ble_eq_true rfl) ?_
      refine SX6_size_i hp ?_
      rw [hF]
      refine x_icmp_ge hK kX3_build_49 (q := 52) rfl (tg := 68) rfl (by refine ⟨?_, ?_⟩ <;> omega) (fun c49 => ?_) (fun c49 => ?_)
      · exfalso; omega
      · refine x_aload_n hK kX3_build_52 (q := 53) rfl rfl ?_
        refine x_aload_n hK kX3_build_53 (q := 54) rfl rfl ?_
        refine x_iload_n hK kX3_build_54 (q := 55) rfl rfl ?_
        refine x_cv3 hK kX3_build_55 (q := 58) rfl (vtX3_build_54) (Nat.le_of_ble_eq_true rfl) ?_
        refine SX3_load_i (p := p) (k := i) hp (by omega) hr (hA' _ _) (fun W2 o2 i2 => ?_)
        rw [ap] at i2
        refine x_aload_n hK kX3_build_58 (q := 59) rfl rfl ?_
        refine x_cv1 hK kX3_build_59 (q := 62) rfl (vtX3_build_58) (Nat.le_of_ble_eq_true rfl) ?_
        refine SX3_insert_i i2 (by rw [a2]; exact hL) (by rw [a2]; exact uR_S hS) (by rw [a2]; exact hB1 i (by omega)) (fun W3 o3 i3 => ?_)
        rw [a2] at i3 ⊢
        rw [s2]
        refine x_iinc hK kX3_build_62 (q := 65) rfl rfl ?_
        simp only [lS, lS2, clr_0, clr_I, clr_L, clr_R]
        refine x_goto hK kX3_build_65 (tg := 44) rfl ?_
        rw [show (i : Int) + 1 = ((i + 1 : Nat) : Int) by omega]
        exact ih (i + 1) W3 _ (by omega) (insF_01 hL) (insF_S (uR_S hS)) (iO_t ho (iO_t o2 o3)) i3
  have zero3 : ∀ (d i : Nat) (G : Int → Int), i + d = 6 → (∀ t : Int, 0 ≤ t → t < i → G t = 0) → (∀ t : Int, (t < 0 ∨ (i : Int) ≤ t) → G t = A 3 t) → K 23 [some (eR (1, 3)), some (eR (1, p)), some (eI i), none] [] (cC F (uA (uA A 2 (zL 10 (A 2))) 3 G) W) := by
    intro d
    induction d with
    | zero =>
      intro i G hi h1 h2
      have e : G = zL 6 (A 3) := by
        funext t
        unfold zL
        split
        · rename_i q
          exact h1 t q.1 (by omega)
        · exact h2 t (by omega)
      subst e
      refine x_iload_n hK kX3_build_23 (q := 24) rfl rfl ?_
      refine x_bipush hK kX3_build_24 (q := 26) rfl (by decide) ?_
      refine x_icmp_ge hK kX3_build_26 (q := 29) rfl (tg := 42) rfl (by refine ⟨?_, ?_⟩ <;> omega) (fun c26 => ?_) (fun c26 => ?_)
      · refine x_iconst hK kX3_build_42 (q := 43) rfl ?_
        refine x_istore_n hK kX3_build_43 (q := 44) (jn := 2) rfl rfl ?_
        simp only [lS, lS2, clr_0, clr_I, clr_L, clr_R]
        exact ins P 0 W _ (by omega) (fun t t0 t1 => Or.inl (if_pos ⟨t0, t1⟩)) (fun q hq hl => absurd (if_pos ⟨by omega, by omega⟩) hl) (fun _ _ => rfl) hR
      · exfalso; omega
    | succ d ih =>
      intro i G hi h1 h2
      refine x_iload_n hK kX3_build_23 (q := 24) rfl rfl ?_
      refine x_bipush hK kX3_build_24 (q := 26) rfl (by decide) ?_
      refine x_icmp_ge hK kX3_build_26 (q := 29) rfl (tg := 42) rfl (by refine ⟨?_, ?_⟩ <;> omega) (fun c26 => ?_) (fun c26 => ?_)
      · exfalso; omega
      · refine x_aload_n hK kX3_build_29 (q := 30) rfl rfl ?_
        refine x_getfield hK kX3_build_30 (q := 33) rfl (gX3_23 ?_)
        refine x_iload_n hK kX3_build_33 (q := 34) rfl rfl ?_
        refine x_iconst hK kX3_build_34 (q := 35) rfl ?_
        refine x_bastore hK kX3_build_35 (q := 36) rfl (by exact Or.inl rfl) (yC3_3 (by refine ⟨?_, ?_⟩ <;> omega) ?_)
        rw [a3, s3]
        refine x_iinc hK kX3_build_36 (q := 39) rfl rfl ?_
        simp only [lS, lS2, clr_0, clr_I, clr_L, clr_R]
        refine x_goto hK kX3_build_39 (tg := 23) rfl ?_
        rw [show (i : Int) + 1 = ((i + 1 : Nat) : Int) by omega]
        refine ih (i + 1) _ (by omega) (fun t t0 t1 => ?_) (fun t ht => by rw [uI_n _ _ (by omega)]; exact h2 t (by omega))
        rcases Decidable.em (t = i) with q | q
        · rw [q, uI_s]
        · rw [uI_n _ _ q]; exact h1 t t0 (by omega)
  have zero2 : ∀ (d i : Nat) (L : Int → Int), i + d = 10 → (∀ t : Int, 0 ≤ t → t < i → L t = 0) → (∀ t : Int, (t < 0 ∨ (i : Int) ≤ t) → L t = A 2 t) → K 2 [some (eR (1, 3)), some (eR (1, p)), some (eI i), none] [] (cC F (uA A 2 L) W) := by
    intro d
    induction d with
    | zero =>
      intro i L hi h1 h2
      have e : L = zL 10 (A 2) := by
        funext t
        unfold zL
        split
        · rename_i q
          exact h1 t q.1 (by omega)
        · exact h2 t (by omega)
      subst e
      have e3 : uA (uA A 2 (zL 10 (A 2))) 3 (A 3) = uA A 2 (zL 10 (A 2)) := by
        have : uA A 2 (zL 10 (A 2)) 3 = A 3 := uA_n _ _ (by decide)
        rw [← this, uA_s]
      refine x_iload_n hK kX3_build_2 (q := 3) rfl rfl ?_
      refine x_bipush hK kX3_build_3 (q := 5) rfl (by decide) ?_
      refine x_icmp_ge hK kX3_build_5 (q := 8) rfl (tg := 21) rfl (by refine ⟨?_, ?_⟩ <;> omega) (fun c5 => ?_) (fun c5 => ?_)
      · refine x_iconst hK kX3_build_21 (q := 22) rfl ?_
        refine x_istore_n hK kX3_build_22 (q := 23) (jn := 2) rfl rfl ?_
        simp only [lS, lS2, clr_0, clr_I, clr_L, clr_R]
        exact x_to (zero3 6 0 (A 3) rfl (fun t t0 t1 => by omega) (fun _ _ => rfl)) rfl rfl (by rw [e3])
      · exfalso; omega
    | succ d ih =>
      intro i L hi h1 h2
      refine x_iload_n hK kX3_build_2 (q := 3) rfl rfl ?_
      refine x_bipush hK kX3_build_3 (q := 5) rfl (by decide) ?_
      refine x_icmp_ge hK kX3_build_5 (q := 8) rfl (tg := 21) rfl (by refine ⟨?_, ?_⟩ <;> omega) (fun c5 => ?_) (fun c5 => ?_)
      · exfalso; omega
      · refine x_aload_n hK kX3_build_8 (q := 9) rfl rfl ?_
        refine x_getfield hK kX3_build_9 (q := 12) rfl (gX3_19 ?_)
        refine x_iload_n hK kX3_build_12 (q := 13) rfl rfl ?_
        refine x_iconst hK kX3_build_13 (q := 14) rfl ?_
        refine x_bastore hK kX3_build_14 (q := 15) rfl (by exact Or.inl rfl) (yC3_2 (by refine ⟨?_, ?_⟩ <;> omega) ?_)
        rw [uA_g, uA_u]
        refine x_iinc hK kX3_build_15 (q := 18) rfl rfl ?_
        simp only [lS, lS2, clr_0, clr_I, clr_L, clr_R]
        refine x_goto hK kX3_build_18 (tg := 2) rfl ?_
        rw [show (i : Int) + 1 = ((i + 1 : Nat) : Int) by omega]
        refine ih (i + 1) _ (by omega) (fun t t0 t1 => ?_) (fun t ht => by rw [uI_n _ _ (by omega)]; exact h2 t (by omega))
        rcases Decidable.em (t = i) with q | q
        · rw [q, uI_s]
        · rw [uI_n _ _ q]; exact h1 t t0 (by omega)
  simp only [eLoc, eE, List.length_cons, List.length_nil, List.replicate, List.cons_append, List.nil_append, Nat.reduceAdd, Nat.reduceSub]
  refine x_iconst hK kX3_build_0 (q := 1) rfl ?_
  refine x_istore_n hK kX3_build_1 (q := 2) (jn := 2) rfl rfl ?_
  simp only [lS, lS2, clr_0, clr_I, clr_L, clr_R]
  exact x_to (zero2 10 0 (A 2) rfl (fun t t0 t1 => by omega) (fun _ _ => rfl)) rfl rfl (by rw [uA_s])
set_option maxRecDepth 20000 in
theorem mX3_build : eMet yX3_build cX3_build 4 none 6 158 SX3_build := eMet_of (by decide +kernel) sX3_build kX3_build_ok caX3_build tb_RX3
theorem wX3_build : eWV yX3_build cX3_build 4 none 2 3 SX3_build := ⟨(gW_at 411 (by decide +kernel) rfl), (gW_at 84 (by decide +kernel) rfl), (gW_at 409 (by decide +kernel) rfl), ⟨_, rfl, (gW_at 410 (by decide +kernel) rfl)⟩, by decide +kernel, SX3_build_r⟩
