/-! THE ENGINE: an abstract machine over whole numbers and cells; what it says of a method's bytecode holds on the machine (part 07). -/
abbrev eA : Type := Nat × Nat
abbrev eV : Type := (Int ⊕ Int) ⊕ (eA ⊕ Unit)
abbrev eI (z : Int) : eV := .inl (.inl z)
abbrev eL (z : Int) : eV := .inl (.inr z)
abbrev eR (a : eA) : eV := .inr (.inl a)
abbrev eN : eV := .inr (.inr ())
abbrev eC : Type := (Nat × List eV) ⊕ (Nat × Nat × (Int → eV))
abbrev eM : Type := eA → Option eC
abbrev eO (c : Nat) (fs : List eV) : eC := .inl (c, fs)
abbrev eY (t n : Nat) (f : Int → eV) : eC := .inr (t, n, f)
abbrev eK0 : Type := Nat → List (Option eV) → List eV → eM → Prop
abbrev eSp : Type := List eV → eM → (Option eV → eM → Prop) → Prop
abbrev eT : Type := (Nat → Option (Nat × Nat)) × (Nat → Option Int) × (Nat → Option Int) × (Nat → Option (Nat × eSp)) × (Nat → Option (Nat × eSp))
def eUp (M : eM) (a : eA) (c : eC) : eM := fun b => if b = a then some c else M b
def fUp (f : Int → eV) (i : Int) (v : eV) : Int → eV := fun j => if j = i then v else f j
def lG : List (Option eV) → Nat → Option eV
  | [], _ => none
  | a :: _, 0 => a
  | _ :: l, k + 1 => lG l k
def clr : Option eV → Option eV
  | some (.inl (.inr _)) => none
  | a => a
def lS : List (Option eV) → Nat → eV → List (Option eV)
  | [], _, _ => []
  | _ :: l, 0, v => some v :: l
  | a :: l, 1, v => clr a :: lS l 0 v
  | a :: l, k + 2, v => a :: lS l (k + 1) v
def lS2 : List (Option eV) → Nat → eV → List (Option eV)
  | [], _, _ => []
  | [_], 0, _ => [none]
  | _ :: _ :: l, 0, v => some v :: none :: l
  | a :: l, 1, v => clr a :: lS2 l 0 v
  | a :: l, k + 2, v => a :: lS2 l (k + 1) v
theorem clr_0 : clr none = none := rfl
theorem clr_I (z : Int) : clr (some (.inl (.inl z))) = some (.inl (.inl z)) := rfl
theorem clr_L (z : Int) : clr (some (.inl (.inr z))) = none := rfl
theorem clr_R (z : eA ⊕ Unit) : clr (some (.inr z)) = some (.inr z) := rfl
theorem clr_s {a : Option eV} {w : eV} (h : clr a = some w) : a = some w ∧ ∀ z, w ≠ .inl (.inr z) := by
  unfold clr at h
  split at h
  · cases h
  · rename_i hn
    exact ⟨h, fun z e => hn z (by rw [h, e])⟩
def nV : List eV → Nat → Option eV
  | [], _ => none
  | a :: _, 0 => some a
  | _ :: l, k + 1 => nV l k
def uV : List eV → Nat → eV → List eV
  | [], _, _ => []
  | _ :: l, 0, v => v :: l
  | a :: l, k + 1, v => a :: uV l k v
def qI : Option eV → (Int → Prop) → Prop
  | some (.inl (.inl z)), f => f z
  | _, _ => False
def qL : Option eV → (Int → Prop) → Prop
  | some (.inl (.inr z)), f => f z
  | _, _ => False
def qR : Option eV → (eV → Prop) → Prop
  | some (.inr z), f => f (.inr z)
  | _, _ => False
def oI : Option Int → (Int → Prop) → Prop
  | some z, f => f z
  | none, _ => False
def pI : List eV → (Int → List eV → Prop) → Prop
  | .inl (.inl z) :: r, f => f z r
  | _, _ => False
def pL : List eV → (Int → List eV → Prop) → Prop
  | .inl (.inr z) :: r, f => f z r
  | _, _ => False
def pA : List eV → (eA → List eV → Prop) → Prop
  | .inr (.inl a) :: r, f => f a r
  | _, _ => False
def pR : List eV → (eV → List eV → Prop) → Prop
  | .inr a :: r, f => f (.inr a) r
  | _, _ => False
def pC1 : List eV → (eV → List eV → Prop) → Prop
  | .inl (.inl z) :: r, f => f (eI z) r
  | .inr a :: r, f => f (.inr a) r
  | _, _ => False
def sW (a : Int) : Int → List Int → (Int → Prop) → Prop
  | _, [], _ => True
  | lo, off :: l, f => (a = lo → f off) ∧ sW a (lo + 1) l f
def gF (M : eM) (a : eA) (x : Option (Nat × Nat)) (f : eV → Prop) : Prop :=
  match M a, x with
  | some (.inl (c, fs)), some (d, k) => c = d ∧ (match nV fs k with | some v => f v | none => False)
  | _, _ => False
/-- kinds of fields that may be put: 0 int, 1 boolean -/
def fK : Nat → Nat → Option Nat := fun c k => match (vwCl[c]?) with
  | some q => if k < q.2.2 then (if (q.2.1 k).2.2.2 = false then (match gW_ty c k with | .int => some 0 | .boolean => some 1 | _ => none) else none) else none
  | none => none
def pF (M : eM) (a : eA) (x : Option (Nat × Nat)) (z : Int) (f : eM → Prop) : Prop :=
  match M a, x with
  | some (.inl (c, fs)), some (d, k) => c = d ∧ (match fK c k with | some 0 => True | some 1 => z = 0 ∨ z = 1 | _ => False) ∧ f (eUp M a (.inl (c, uV fs k (eI z))))
  | _, _ => False
def gA (M : eM) (a : eA) (t : Nat) (i : Int) (f : eV → Prop) : Prop :=
  match M a with
  | some (.inr (t', n, g)) => t' = t ∧ (0 ≤ i ∧ i < (n : Int) ∧ n ≤ 2147483647) ∧ f (g i)
  | _ => False
def gR (M : eM) (a : eA) (i : Int) (f : eV → Prop) : Prop :=
  match M a with
  | some (.inr (t', n, g)) => 3 ≤ t' ∧ t' ≤ 6 ∧ (0 ≤ i ∧ i < (n : Int) ∧ n ≤ 2147483647) ∧ f (g i)
  | _ => False
def pY (M : eM) (a : eA) (t : Nat) (i : Int) (v : eV) (f : eM → Prop) : Prop :=
  match M a with
  | some (.inr (t', n, g)) => t' = t ∧ (0 ≤ i ∧ i < (n : Int) ∧ n ≤ 2147483647) ∧ f (eUp M a (.inr (t, n, fUp g i v)))
  | _ => False
def gN (M : eM) (a : eA) (f : Int → Prop) : Prop :=
  match M a with
  | some (.inr (t, n, _)) => t ≤ 6 ∧ n ≤ 2147483647 ∧ f (n : Int)
  | _ => False
def cW : List eV → Nat
  | [] => 0
  | .inl (.inr _) :: l => 2 + cW l
  | _ :: l => 1 + cW l
def cL (x : Option (Nat × eSp)) (st : List eV) (M : eM) (f : Option eV → List eV → eM → Prop) : Prop :=
  match x with
  | some (n, sp) => n ≤ st.length ∧ cW (st.drop n) ≤ 8 ∧ sp (st.take n).reverse M (fun o M' => f o (st.drop n) M')
  | none => False

def eS (T : eT) (i : Jvm.ClassFile.Instr) (len pc : Nat) (ls : List (Option eV)) (st : List eV) (M : eM) (nx : eK0) (rt : Option eV → eM → Prop) : Prop :=
  match i with
  | .iconst z => nx (pc + len) ls (eI z :: st) M
  | .bipush z => (-128 ≤ z ∧ z < 128) ∧ nx (pc + len) ls (eI z :: st) M
  | .sipush z => (-32768 ≤ z ∧ z < 32768) ∧ nx (pc + len) ls (eI z :: st) M
  | .lconst z => nx (pc + len) ls (eL (z.val : Int) :: st) M
  | .ldc k => oI (T.2.1 k) fun z => nx (pc + len) ls (eI z :: st) M
  | .ldc_w k => oI (T.2.1 k) fun z => nx (pc + len) ls (eI z :: st) M
  | .ldc2_w k => oI (T.2.2.1 k) fun z => nx (pc + len) ls (eL z :: st) M
  | .aconst_null => nx (pc + len) ls (eN :: st) M
  | .iload k => qI (lG ls k) fun z => nx (pc + len) ls (eI z :: st) M
  | .iload_n k => qI (lG ls k.val) fun z => nx (pc + len) ls (eI z :: st) M
  | .lload k => qL (lG ls k) fun z => nx (pc + len) ls (eL z :: st) M
  | .lload_n k => qL (lG ls k.val) fun z => nx (pc + len) ls (eL z :: st) M
  | .aload k => qR (lG ls k) fun z => nx (pc + len) ls (z :: st) M
  | .aload_n k => qR (lG ls k.val) fun z => nx (pc + len) ls (z :: st) M
  | .istore k => pI st fun z r => nx (pc + len) (lS ls k (eI z)) r M
  | .istore_n k => pI st fun z r => nx (pc + len) (lS ls k.val (eI z)) r M
  | .lstore k => pL st fun z r => nx (pc + len) (lS2 ls k (eL z)) r M
  | .lstore_n k => pL st fun z r => nx (pc + len) (lS2 ls k.val (eL z)) r M
  | .astore k => pR st fun z r => nx (pc + len) (lS ls k z) r M
  | .astore_n k => pR st fun z r => nx (pc + len) (lS ls k.val z) r M
  | .iinc k d => qI (lG ls k) fun z => nx (pc + len) (lS ls k (eI (z + d))) st M
  | .iadd => pI st fun b r => pI r fun a r => nx (pc + len) ls (eI (a + b) :: r) M
  | .isub => pI st fun b r => pI r fun a r => nx (pc + len) ls (eI (a - b) :: r) M
  | .imul => pI st fun b r => pI r fun a r => nx (pc + len) ls (eI (a * b) :: r) M
  | .iand => pI st fun b r => pI r fun a r => nx (pc + len) ls (eI (zAnd a b) :: r) M
  | .ior => pI st fun b r => pI r fun a r => nx (pc + len) ls (eI (zOr a b) :: r) M
  | .ixor => pI st fun b r => pI r fun a r => nx (pc + len) ls (eI (zXor a b) :: r) M
  | .ishl => pI st fun b r => pI r fun a r => nx (pc + len) ls (eI (zShl a b) :: r) M
  | .ishr => pI st fun b r => pI r fun a r => nx (pc + len) ls (eI (zShr a b) :: r) M
  | .iushr => pI st fun b r => pI r fun a r => nx (pc + len) ls (eI (zUshr a b) :: r) M
  | .ladd => pL st fun b r => pL r fun a r => nx (pc + len) ls (eL (a + b) :: r) M
  | .lsub => pL st fun b r => pL r fun a r => nx (pc + len) ls (eL (a - b) :: r) M
  | .lmul => pL st fun b r => pL r fun a r => nx (pc + len) ls (eL (a * b) :: r) M
  | .land => pL st fun b r => pL r fun a r => nx (pc + len) ls (eL (zAndL a b) :: r) M
  | .lor => pL st fun b r => pL r fun a r => nx (pc + len) ls (eL (zOrL a b) :: r) M
  | .lshl => pI st fun b r => pL r fun a r => nx (pc + len) ls (eL (zShlL a b) :: r) M
  | .lshr => pI st fun b r => pL r fun a r => nx (pc + len) ls (eL (zShrL a b) :: r) M
  | .idiv => pI st fun b r => pI r fun a r => (w32 a ∧ w32 b ∧ b ≠ 0) ∧ nx (pc + len) ls (eI (a.tdiv b) :: r) M
  | .irem => pI st fun b r => pI r fun a r => (w32 a ∧ w32 b ∧ b ≠ 0) ∧ nx (pc + len) ls (eI (a.tmod b) :: r) M
  | .ldiv => pL st fun b r => pL r fun a r => (w64 a ∧ w64 b ∧ b ≠ 0) ∧ nx (pc + len) ls (eL (a.tdiv b) :: r) M
  | .lrem => pL st fun b r => pL r fun a r => (w64 a ∧ w64 b ∧ b ≠ 0) ∧ nx (pc + len) ls (eL (a.tmod b) :: r) M
  | .ineg => pI st fun a r => nx (pc + len) ls (eI (-a) :: r) M
  | .lneg => pL st fun a r => nx (pc + len) ls (eL (-a) :: r) M
  | .i2l => pI st fun a r => w32 a ∧ nx (pc + len) ls (eL a :: r) M
  | .l2i => pL st fun a r => nx (pc + len) ls (eI a :: r) M
  | .lcmp => pL st fun b r => pL r fun a r => (w64 a ∧ w64 b) ∧ nx (pc + len) ls (eI (zCmp a b) :: r) M
  | .dup => pC1 st fun v r => nx (pc + len) ls (v :: v :: r) M
  | .pop => pC1 st fun v r => nx (pc + len) ls r M
  | .dup2 => pC1 st fun v r => pC1 r fun u r => nx (pc + len) ls (v :: u :: v :: u :: r) M
  | .if_icmp .eq off => pI st fun b r => pI r fun a r => (w32 a ∧ w32 b) ∧ ((a = b) → nx ((pc : Int) + off).toNat ls r M) ∧ (¬ (a = b) → nx (pc + len) ls r M)
  | .if_icmp .ne off => pI st fun b r => pI r fun a r => (w32 a ∧ w32 b) ∧ ((a ≠ b) → nx ((pc : Int) + off).toNat ls r M) ∧ (¬ (a ≠ b) → nx (pc + len) ls r M)
  | .if_icmp .lt off => pI st fun b r => pI r fun a r => (w32 a ∧ w32 b) ∧ ((a < b) → nx ((pc : Int) + off).toNat ls r M) ∧ (¬ (a < b) → nx (pc + len) ls r M)
  | .if_icmp .ge off => pI st fun b r => pI r fun a r => (w32 a ∧ w32 b) ∧ ((b ≤ a) → nx ((pc : Int) + off).toNat ls r M) ∧ (¬ (b ≤ a) → nx (pc + len) ls r M)
  | .if_icmp .gt off => pI st fun b r => pI r fun a r => (w32 a ∧ w32 b) ∧ ((b < a) → nx ((pc : Int) + off).toNat ls r M) ∧ (¬ (b < a) → nx (pc + len) ls r M)
  | .if_icmp .le off => pI st fun b r => pI r fun a r => (w32 a ∧ w32 b) ∧ ((a ≤ b) → nx ((pc : Int) + off).toNat ls r M) ∧ (¬ (a ≤ b) → nx (pc + len) ls r M)
  | .ifCond .eq off => pI st fun a r => w32 a ∧ ((a = 0) → nx ((pc : Int) + off).toNat ls r M) ∧ (¬ (a = 0) → nx (pc + len) ls r M)
  | .ifCond .ne off => pI st fun a r => w32 a ∧ ((a ≠ 0) → nx ((pc : Int) + off).toNat ls r M) ∧ (¬ (a ≠ 0) → nx (pc + len) ls r M)
  | .ifCond .lt off => pI st fun a r => w32 a ∧ ((a < 0) → nx ((pc : Int) + off).toNat ls r M) ∧ (¬ (a < 0) → nx (pc + len) ls r M)
  | .ifCond .ge off => pI st fun a r => w32 a ∧ ((0 ≤ a) → nx ((pc : Int) + off).toNat ls r M) ∧ (¬ (0 ≤ a) → nx (pc + len) ls r M)
  | .ifCond .gt off => pI st fun a r => w32 a ∧ ((0 < a) → nx ((pc : Int) + off).toNat ls r M) ∧ (¬ (0 < a) → nx (pc + len) ls r M)
  | .ifCond .le off => pI st fun a r => w32 a ∧ ((a ≤ 0) → nx ((pc : Int) + off).toNat ls r M) ∧ (¬ (a ≤ 0) → nx (pc + len) ls r M)
  | .ifnull off => pR st fun v r => (v = eN → nx ((pc : Int) + off).toNat ls r M) ∧ (¬ v = eN → nx (pc + len) ls r M)
  | .ifnonnull off => pR st fun v r => (¬ v = eN → nx ((pc : Int) + off).toNat ls r M) ∧ (v = eN → nx (pc + len) ls r M)
  | .goto off => nx ((pc : Int) + off).toNat ls st M
  | .tableswitch d lo hi offs => pI st fun a r => w32 a ∧ ((a < lo ∨ hi < a) → nx ((pc : Int) + d).toNat ls r M) ∧ (¬ a < lo → ¬ hi < a → sW a lo offs.toList fun off => nx ((pc : Int) + off).toNat ls r M)
  | .getfield k => pA st fun a r => gF M a (T.1 k) fun v => nx (pc + len) ls (v :: r) M
  | .putfield k => pI st fun z r => pA r fun a r => pF M a (T.1 k) z fun M' => nx (pc + len) ls r M'
  | .iaload => pI st fun i r => pA r fun a r => gA M a 0 i fun v => nx (pc + len) ls (v :: r) M
  | .laload => pI st fun i r => pA r fun a r => gA M a 1 i fun v => nx (pc + len) ls (v :: r) M
  | .baload => pI st fun i r => pA r fun a r => gA M a 2 i fun v => nx (pc + len) ls (v :: r) M
  | .aaload => pI st fun i r => pA r fun a r => gR M a i fun v => nx (pc + len) ls (v :: r) M
  | .iastore => pI st fun z r => pI r fun i r => pA r fun a r => pY M a 0 i (eI z) fun M' => nx (pc + len) ls r M'
  | .lastore => pL st fun z r => pI r fun i r => pA r fun a r => pY M a 1 i (eL z) fun M' => nx (pc + len) ls r M'
  | .bastore => pI st fun z r => pI r fun i r => pA r fun a r => (z = 0 ∨ z = 1) ∧ pY M a 2 i (eI z) fun M' => nx (pc + len) ls r M'
  | .arraylength => pA st fun a r => gN M a fun n => nx (pc + len) ls (eI n :: r) M
  | .ireturn => pI st fun z r => r = [] ∧ rt (some (eI z)) M
  | .lreturn => pL st fun z r => r = [] ∧ rt (some (eL z)) M
  | .areturn => pR st fun v r => r = [] ∧ rt (some v) M
  | .return_ => st = [] ∧ rt none M
  | .invokevirtual k => cL (T.2.2.2.1 k) st M fun o r M' => nx (pc + len) ls (o.toList ++ r) M'
  | .invokestatic k => cL (T.2.2.2.2 k) st M fun o r M' => nx (pc + len) ls (o.toList ++ r) M'
  | _ => False
/-- the locals at a method's entry -/
def eE : List eV → List (Option eV)
  | [] => []
  | .inl (.inr z) :: l => some (eL z) :: none :: eE l
  | v :: l => some v :: eE l
def eLoc (as : List eV) (n : Nat) : List (Option eV) := eE as ++ List.replicate (n - (eE as).length) none
/-- a method's body does what its specification says: for every predicate of machine states that goes back over the abstract steps -/
def eRt (ret : Option FieldType) (o : Option eV) : Prop := match ret, o with
  | some .int, some (.inl (.inl _)) => True
  | some .boolean, some (.inl (.inl z)) => z = 0 ∨ z = 1
  | some .long, some (.inl (.inr _)) => True
  | some (.object _), some (.inr _) => True
  | none, none => True
  | _, _ => False
/-- machine states that go back over the abstract steps -/
def eCl (T : eT) (cd : Nat → Option (Jvm.ClassFile.Instr × Nat)) (ret : Option FieldType) (K : eK0) (rt : Option eV → eM → Prop) : Prop :=
  ∀ (pc : Nat) (i : Jvm.ClassFile.Instr) (len : Nat) (ls : List (Option eV)) (st : List eV) (M : eM), cd pc = some (i, len) → eS T i len pc ls st M K (fun o M => eRt ret o ∧ rt o M) → K pc ls st M
def eSafe (T : eT) (cd : Nat → Option (Jvm.ClassFile.Instr × Nat)) (nL : Nat) (ret : Option FieldType) (sp : eSp) : Prop :=
  ∀ (K : eK0) (rt : Option eV → eM → Prop), eCl T cd ret K rt → ∀ (as : List eV) (M : eM), sp as M rt → (eE as).length ≤ nL ∧ K 0 (eLoc as nL) [] M

/-- how long an instruction is -/
def eLen : Jvm.ClassFile.Instr → Nat → Bool
  | .getfield _, n => decide (n = 3)
  | .putfield _, n => decide (n = 3)
  | .if_icmp _ _, n => decide (n = 3)
  | .ifCond _ _, n => decide (n = 3)
  | .ifnull _, n => decide (n = 3)
  | .ifnonnull _, n => decide (n = 3)
  | .goto _, n => decide (n = 3)
  | .invokevirtual _, n => decide (n = 3)
  | .invokestatic _, n => decide (n = 3)
  | .sipush _, n => decide (n = 3)
  | .ldc_w _, n => decide (n = 3)
  | .ldc2_w _, n => decide (n = 3)
  | .iinc _ _, n => decide (n = 3)
  | .iload _, n => decide (n = 2)
  | .lload _, n => decide (n = 2)
  | .aload _, n => decide (n = 2)
  | .istore _, n => decide (n = 2)
  | .lstore _, n => decide (n = 2)
  | .astore _, n => decide (n = 2)
  | .bipush _, n => decide (n = 2)
  | .ldc _, n => decide (n = 2)
  | .tableswitch _ lo hi offs, _ => decide (hi < lo + (offs.size : Int))
  | _, n => decide (n = 1)
theorem sW_mono {f g : Int → Prop} {a : Int} (h : ∀ z, f z → g z) : ∀ (l : List Int) (lo : Int), sW a lo l f → sW a lo l g
  | [], _, _ => trivial
  | _ :: l, lo, q => ⟨fun e => h _ (q.1 e), sW_mono h l (lo + 1) q.2⟩

