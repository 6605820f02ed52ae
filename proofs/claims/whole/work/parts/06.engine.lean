/-! THE ENGINE: an abstract machine over whole numbers and cells; what it says of a method's bytecode holds on the machine (part 07). -/
abbrev eA : Type := Nat × Nat
abbrev eV : Type := (Int ⊕ Int) ⊕ (eA ⊕ Unit)
abbrev eI (z : Int) : eV := .inl (.inl z)
abbrev eL (z : Int) : eV := .inl (.inr z)
abbrev eR (a : eA) : eV := .inr (.inl a)
abbrev eN : eV := .inr (.inr ())
abbrev eC : Type := (Nat × List eV) ⊕ (Nat × Nat × (Int → eV))
abbrev eM : Type := eA → Option eC
abbrev eO (c : Nat) (fs : List eV) : eC := .inl (c, fs)
abbrev eY (t n : Nat) (f : Int → eV) : eC := .inr (t, n, f)
abbrev eK0 : Type := Nat → List (Option eV) → List eV → eM → Prop
abbrev eSp : Type := List eV → eM → (Option eV → eM → Prop) → Prop
abbrev eT : Type := (Nat → Option (Nat × Nat)) × (Nat → Option Int) × (Nat → Option Int) × (Nat → Option (Nat × eSp))
def eUp (M : eM) (a : eA) (c : eC) : eM := fun b => if b = a then some c else M b
def fUp (f : Int → eV) (i : Int) (v : eV) : Int → eV := fun j => if j = i then v else f j
def lG : List (Option eV) → Nat → Option eV
  | [], _ => none
  | a :: _, 0 => a
  | _ :: l, k + 1 => lG l k
def lS : List (Option eV) → Nat → eV → List (Option eV)
  | [], _, _ => []
  | _ :: l, 0, v => some v :: l
  | some (.inl (.inr _)) :: l, 1, v => none :: lS l 0 v
  | a :: l, k + 1, v => a :: lS l k v
def lS2 : List (Option eV) → Nat → eV → List (Option eV)
  | [], _, _ => []
  | [_], 0, _ => [none]
  | _ :: _ :: l, 0, v => some v :: none :: l
  | some (.inl (.inr _)) :: l, 1, v => none :: lS2 l 0 v
  | a :: l, k + 1, v => a :: lS2 l k v
def nV : List eV → Nat → Option eV
  | [], _ => none
  | a :: _, 0 => some a
  | _ :: l, k + 1 => nV l k
def uV : List eV → Nat → eV → List eV
  | [], _, _ => []
  | _ :: l, 0, v => v :: l
  | a :: l, k + 1, v => a :: uV l k v
def qI : Option eV → (Int → Prop) → Prop
  | some (.inl (.inl z)), f => f z
  | _, _ => False
def qL : Option eV → (Int → Prop) → Prop
  | some (.inl (.inr z)), f => f z
  | _, _ => False
def qR : Option eV → (eV → Prop) → Prop
  | some (.inr z), f => f (.inr z)
  | _, _ => False
def oI : Option Int → (Int → Prop) → Prop
  | some z, f => f z
  | none, _ => False
def pI : List eV → (Int → List eV → Prop) → Prop
  | .inl (.inl z) :: r, f => f z r
  | _, _ => False
def pL : List eV → (Int → List eV → Prop) → Prop
  | .inl (.inr z) :: r, f => f z r
  | _, _ => False
def pA : List eV → (eA → List eV → Prop) → Prop
  | .inr (.inl a) :: r, f => f a r
  | _, _ => False
def pR : List eV → (eV → List eV → Prop) → Prop
  | .inr a :: r, f => f (.inr a) r
  | _, _ => False
def pC1 : List eV → (eV → List eV → Prop) → Prop
  | .inl (.inl z) :: r, f => f (eI z) r
  | .inr a :: r, f => f (.inr a) r
  | _, _ => False
def sW (a : Int) : Int → List Int → (Int → Prop) → Prop
  | _, [], _ => True
  | lo, off :: l, f => (a = lo → f off) ∧ sW a (lo + 1) l f
def gF (M : eM) (a : eA) (x : Option (Nat × Nat)) (f : eV → Prop) : Prop :=
  match M a, x with
  | some (.inl (c, fs)), some (d, k) => c = d ∧ (match nV fs k with | some v => f v | none => False)
  | _, _ => False
/-- kinds of fields that may be put: 0 int, 1 boolean -/
def fK : Nat → Nat → Option Nat := fun c k => match (vwCl[c]?) with
  | some q => if k < q.2.2 then (if (q.2.1 k).2.2.2 = false then (match gW_ty c k with | .int => some 0 | .boolean => some 1 | _ => none) else none) else none
  | none => none
def pF (M : eM) (a : eA) (x : Option (Nat × Nat)) (z : Int) (f : eM → Prop) : Prop :=
  match M a, x with
  | some (.inl (c, fs)), some (d, k) => c = d ∧ (match fK c k with | some 0 => True | some 1 => z = 0 ∨ z = 1 | _ => False) ∧ f (eUp M a (.inl (c, uV fs k (eI z))))
  | _, _ => False
def gA (M : eM) (a : eA) (t : Nat) (i : Int) (f : eV → Prop) : Prop :=
  match M a with
  | some (.inr (t', n, g)) => t' = t ∧ (0 ≤ i ∧ i < (n : Int) ∧ n ≤ 2147483647) ∧ f (g i)
  | _ => False
def gR (M : eM) (a : eA) (i : Int) (f : eV → Prop) : Prop :=
  match M a with
  | some (.inr (t', n, g)) => 3 ≤ t' ∧ t' ≤ 6 ∧ (0 ≤ i ∧ i < (n : Int) ∧ n ≤ 2147483647) ∧ f (g i)
  | _ => False
def pY (M : eM) (a : eA) (t : Nat) (i : Int) (v : eV) (f : eM → Prop) : Prop :=
  match M a with
  | some (.inr (t', n, g)) => t' = t ∧ (0 ≤ i ∧ i < (n : Int) ∧ n ≤ 2147483647) ∧ f (eUp M a (.inr (t, n, fUp g i v)))
  | _ => False
def gN (M : eM) (a : eA) (f : Int → Prop) : Prop :=
  match M a with
  | some (.inr (t, n, _)) => t ≤ 6 ∧ n ≤ 2147483647 ∧ f (n : Int)
  | _ => False
def cW : List eV → Nat
  | [] => 0
  | .inl (.inr _) :: l => 2 + cW l
  | _ :: l => 1 + cW l
def cL (x : Option (Nat × eSp)) (st : List eV) (M : eM) (f : Option eV → List eV → eM → Prop) : Prop :=
  match x with
  | some (n, sp) => n ≤ st.length ∧ cW (st.drop n) ≤ 8 ∧ sp (st.take n).reverse M (fun o M' => f o (st.drop n) M')
  | none => False

def eS (T : eT) (i : Jvm.ClassFile.Instr) (len pc : Nat) (ls : List (Option eV)) (st : List eV) (M : eM) (nx : eK0) (rt : Option eV → eM → Prop) : Prop :=
  match i with
  | .iconst z => nx (pc + len) ls (eI z :: st) M
  | .bipush z => (-128 ≤ z ∧ z < 128) ∧ nx (pc + len) ls (eI z :: st) M
  | .sipush z => (-32768 ≤ z ∧ z < 32768) ∧ nx (pc + len) ls (eI z :: st) M
  | .lconst z => nx (pc + len) ls (eL (z.val : Int) :: st) M
  | .ldc k => oI (T.2.1 k) fun z => nx (pc + len) ls (eI z :: st) M
  | .ldc2_w k => oI (T.2.2.1 k) fun z => nx (pc + len) ls (eL z :: st) M
  | .aconst_null => nx (pc + len) ls (eN :: st) M
  | .iload k => qI (lG ls k) fun z => nx (pc + len) ls (eI z :: st) M
  | .iload_n k => qI (lG ls k.val) fun z => nx (pc + len) ls (eI z :: st) M
  | .lload k => qL (lG ls k) fun z => nx (pc + len) ls (eL z :: st) M
  | .lload_n k => qL (lG ls k.val) fun z => nx (pc + len) ls (eL z :: st) M
  | .aload k => qR (lG ls k) fun z => nx (pc + len) ls (z :: st) M
  | .aload_n k => qR (lG ls k.val) fun z => nx (pc + len) ls (z :: st) M
  | .istore k => pI st fun z r => nx (pc + len) (lS ls k (eI z)) r M
  | .istore_n k => pI st fun z r => nx (pc + len) (lS ls k.val (eI z)) r M
  | .lstore k => pL st fun z r => nx (pc + len) (lS2 ls k (eL z)) r M
  | .lstore_n k => pL st fun z r => nx (pc + len) (lS2 ls k.val (eL z)) r M
  | .astore k => pR st fun z r => nx (pc + len) (lS ls k z) r M
  | .astore_n k => pR st fun z r => nx (pc + len) (lS ls k.val z) r M
  | .iinc k d => qI (lG ls k) fun z => nx (pc + len) (lS ls k (eI (z + d))) st M
  | .iadd => pI st fun b r => pI r fun a r => nx (pc + len) ls (eI (a + b) :: r) M
  | .isub => pI st fun b r => pI r fun a r => nx (pc + len) ls (eI (a - b) :: r) M
  | .imul => pI st fun b r => pI r fun a r => nx (pc + len) ls (eI (a * b) :: r) M
  | .iand => pI st fun b r => pI r fun a r => nx (pc + len) ls (eI (zAnd a b) :: r) M
  | .ior => pI st fun b r => pI r fun a r => nx (pc + len) ls (eI (zOr a b) :: r) M
  | .ixor => pI st fun b r => pI r fun a r => nx (pc + len) ls (eI (zXor a b) :: r) M
  | .ishl => pI st fun b r => pI r fun a r => nx (pc + len) ls (eI (zShl a b) :: r) M
  | .ishr => pI st fun b r => pI r fun a r => nx (pc + len) ls (eI (zShr a b) :: r) M
  | .iushr => pI st fun b r => pI r fun a r => nx (pc + len) ls (eI (zUshr a b) :: r) M
  | .ladd => pL st fun b r => pL r fun a r => nx (pc + len) ls (eL (a + b) :: r) M
  | .lsub => pL st fun b r => pL r fun a r => nx (pc + len) ls (eL (a - b) :: r) M
  | .lmul => pL st fun b r => pL r fun a r => nx (pc + len) ls (eL (a * b) :: r) M
  | .land => pL st fun b r => pL r fun a r => nx (pc + len) ls (eL (zAndL a b) :: r) M
  | .lor => pL st fun b r => pL r fun a r => nx (pc + len) ls (eL (zOrL a b) :: r) M
  | .lshl => pI st fun b r => pL r fun a r => nx (pc + len) ls (eL (zShlL a b) :: r) M
  | .lshr => pI st fun b r => pL r fun a r => nx (pc + len) ls (eL (zShrL a b) :: r) M
  | .idiv => pI st fun b r => pI r fun a r => (w32 a ∧ w32 b ∧ b ≠ 0) ∧ nx (pc + len) ls (eI (a.tdiv b) :: r) M
  | .irem => pI st fun b r => pI r fun a r => (w32 a ∧ w32 b ∧ b ≠ 0) ∧ nx (pc + len) ls (eI (a.tmod b) :: r) M
  | .ldiv => pL st fun b r => pL r fun a r => (w64 a ∧ w64 b ∧ b ≠ 0) ∧ nx (pc + len) ls (eL (a.tdiv b) :: r) M
  | .lrem => pL st fun b r => pL r fun a r => (w64 a ∧ w64 b ∧ b ≠ 0) ∧ nx (pc + len) ls (eL (a.tmod b) :: r) M
  | .ineg => pI st fun a r => nx (pc + len) ls (eI (-a) :: r) M
  | .lneg => pL st fun a r => nx (pc + len) ls (eL (-a) :: r) M
  | .i2l => pI st fun a r => w32 a ∧ nx (pc + len) ls (eL a :: r) M
  | .l2i => pL st fun a r => nx (pc + len) ls (eI a :: r) M
  | .lcmp => pL st fun b r => pL r fun a r => (w64 a ∧ w64 b) ∧ nx (pc + len) ls (eI (zCmp a b) :: r) M
  | .dup => pC1 st fun v r => nx (pc + len) ls (v :: v :: r) M
  | .pop => pC1 st fun v r => nx (pc + len) ls r M
  | .dup2 => pC1 st fun v r => pC1 r fun u r => nx (pc + len) ls (v :: u :: v :: u :: r) M
  | .if_icmp .eq off => pI st fun b r => pI r fun a r => (w32 a ∧ w32 b) ∧ ((a = b) → nx ((pc : Int) + off).toNat ls r M) ∧ (¬ (a = b) → nx (pc + len) ls r M)
  | .if_icmp .ne off => pI st fun b r => pI r fun a r => (w32 a ∧ w32 b) ∧ ((a ≠ b) → nx ((pc : Int) + off).toNat ls r M) ∧ (¬ (a ≠ b) → nx (pc + len) ls r M)
  | .if_icmp .lt off => pI st fun b r => pI r fun a r => (w32 a ∧ w32 b) ∧ ((a < b) → nx ((pc : Int) + off).toNat ls r M) ∧ (¬ (a < b) → nx (pc + len) ls r M)
  | .if_icmp .ge off => pI st fun b r => pI r fun a r => (w32 a ∧ w32 b) ∧ ((b ≤ a) → nx ((pc : Int) + off).toNat ls r M) ∧ (¬ (b ≤ a) → nx (pc + len) ls r M)
  | .if_icmp .gt off => pI st fun b r => pI r fun a r => (w32 a ∧ w32 b) ∧ ((b < a) → nx ((pc : Int) + off).toNat ls r M) ∧ (¬ (b < a) → nx (pc + len) ls r M)
  | .if_icmp .le off => pI st fun b r => pI r fun a r => (w32 a ∧ w32 b) ∧ ((a ≤ b) → nx ((pc : Int) + off).toNat ls r M) ∧ (¬ (a ≤ b) → nx (pc + len) ls r M)
  | .ifCond .eq off => pI st fun a r => w32 a ∧ ((a = 0) → nx ((pc : Int) + off).toNat ls r M) ∧ (¬ (a = 0) → nx (pc + len) ls r M)
  | .ifCond .ne off => pI st fun a r => w32 a ∧ ((a ≠ 0) → nx ((pc : Int) + off).toNat ls r M) ∧ (¬ (a ≠ 0) → nx (pc + len) ls r M)
  | .ifCond .lt off => pI st fun a r => w32 a ∧ ((a < 0) → nx ((pc : Int) + off).toNat ls r M) ∧ (¬ (a < 0) → nx (pc + len) ls r M)
  | .ifCond .ge off => pI st fun a r => w32 a ∧ ((0 ≤ a) → nx ((pc : Int) + off).toNat ls r M) ∧ (¬ (0 ≤ a) → nx (pc + len) ls r M)
  | .ifCond .gt off => pI st fun a r => w32 a ∧ ((0 < a) → nx ((pc : Int) + off).toNat ls r M) ∧ (¬ (0 < a) → nx (pc + len) ls r M)
  | .ifCond .le off => pI st fun a r => w32 a ∧ ((a ≤ 0) → nx ((pc : Int) + off).toNat ls r M) ∧ (¬ (a ≤ 0) → nx (pc + len) ls r M)
  | .ifnull off => pR st fun v r => (v = eN → nx ((pc : Int) + off).toNat ls r M) ∧ (¬ v = eN → nx (pc + len) ls r M)
  | .ifnonnull off => pR st fun v r => (¬ v = eN → nx ((pc : Int) + off).toNat ls r M) ∧ (v = eN → nx (pc + len) ls r M)
  | .goto off => nx ((pc : Int) + off).toNat ls st M
  | .tableswitch d lo hi offs => pI st fun a r => w32 a ∧ ((a < lo ∨ hi < a) → nx ((pc : Int) + d).toNat ls r M) ∧ (¬ a < lo → ¬ hi < a → sW a lo offs.toList fun off => nx ((pc : Int) + off).toNat ls r M)
  | .getfield k => pA st fun a r => gF M a (T.1 k) fun v => nx (pc + len) ls (v :: r) M
  | .putfield k => pI st fun z r => pA r fun a r => pF M a (T.1 k) z fun M' => nx (pc + len) ls r M'
  | .iaload => pI st fun i r => pA r fun a r => gA M a 0 i fun v => nx (pc + len) ls (v :: r) M
  | .laload => pI st fun i r => pA r fun a r => gA M a 1 i fun v => nx (pc + len) ls (v :: r) M
  | .baload => pI st fun i r => pA r fun a r => gA M a 2 i fun v => nx (pc + len) ls (v :: r) M
  | .aaload => pI st fun i r => pA r fun a r => gR M a i fun v => nx (pc + len) ls (v :: r) M
  | .iastore => pI st fun z r => pI r fun i r => pA r fun a r => pY M a 0 i (eI z) fun M' => nx (pc + len) ls r M'
  | .lastore => pL st fun z r => pI r fun i r => pA r fun a r => pY M a 1 i (eL z) fun M' => nx (pc + len) ls r M'
  | .bastore => pI st fun z r => pI r fun i r => pA r fun a r => (z = 0 ∨ z = 1) ∧ pY M a 2 i (eI z) fun M' => nx (pc + len) ls r M'
  | .arraylength => pA st fun a r => gN M a fun n => nx (pc + len) ls (eI n :: r) M
  | .ireturn => pI st fun z r => r = [] ∧ rt (some (eI z)) M
  | .lreturn => pL st fun z r => r = [] ∧ rt (some (eL z)) M
  | .areturn => pR st fun v r => r = [] ∧ rt (some v) M
  | .return_ => st = [] ∧ rt none M
  | .invokevirtual k => cL (T.2.2.2 k) st M fun o r M' => nx (pc + len) ls (o.toList ++ r) M'
  | .invokestatic k => cL (T.2.2.2 k) st M fun o r M' => nx (pc + len) ls (o.toList ++ r) M'
  | .invokespecial k => cL (T.2.2.2 k) st M fun o r M' => nx (pc + len) ls (o.toList ++ r) M'
  | _ => False
theorem es_iconst (T : eT) (z : Int) (len pc : Nat) (ls : List (Option eV)) (st : List eV) (M : eM) (nx : eK0) (rt : Option eV → eM → Prop) : eS T (.iconst z) len pc ls st M nx rt = (nx (pc + len) ls (eI z :: st) M) := rfl
theorem es_bipush (T : eT) (z : Int) (len pc : Nat) (ls : List (Option eV)) (st : List eV) (M : eM) (nx : eK0) (rt : Option eV → eM → Prop) : eS T (.bipush z) len pc ls st M nx rt = ((-128 ≤ z ∧ z < 128) ∧ nx (pc + len) ls (eI z :: st) M) := rfl
theorem es_sipush (T : eT) (z : Int) (len pc : Nat) (ls : List (Option eV)) (st : List eV) (M : eM) (nx : eK0) (rt : Option eV → eM → Prop) : eS T (.sipush z) len pc ls st M nx rt = ((-32768 ≤ z ∧ z < 32768) ∧ nx (pc + len) ls (eI z :: st) M) := rfl
theorem es_lconst (T : eT) (z : Fin 2) (len pc : Nat) (ls : List (Option eV)) (st : List eV) (M : eM) (nx : eK0) (rt : Option eV → eM → Prop) : eS T (.lconst z) len pc ls st M nx rt = (nx (pc + len) ls (eL (z.val : Int) :: st) M) := rfl
theorem es_ldc (T : eT) (k : Nat) (len pc : Nat) (ls : List (Option eV)) (st : List eV) (M : eM) (nx : eK0) (rt : Option eV → eM → Prop) : eS T (.ldc k) len pc ls st M nx rt = (oI (T.2.1 k) fun z => nx (pc + len) ls (eI z :: st) M) := rfl
theorem es_ldc2_w (T : eT) (k : Nat) (len pc : Nat) (ls : List (Option eV)) (st : List eV) (M : eM) (nx : eK0) (rt : Option eV → eM → Prop) : eS T (.ldc2_w k) len pc ls st M nx rt = (oI (T.2.2.1 k) fun z => nx (pc + len) ls (eL z :: st) M) := rfl
theorem es_aconst_null (T : eT)  (len pc : Nat) (ls : List (Option eV)) (st : List eV) (M : eM) (nx : eK0) (rt : Option eV → eM → Prop) : eS T (.aconst_null) len pc ls st M nx rt = (nx (pc + len) ls (eN :: st) M) := rfl
theorem es_iload (T : eT) (k : Nat) (len pc : Nat) (ls : List (Option eV)) (st : List eV) (M : eM) (nx : eK0) (rt : Option eV → eM → Prop) : eS T (.iload k) len pc ls st M nx rt = (qI (lG ls k) fun z => nx (pc + len) ls (eI z :: st) M) := rfl
theorem es_iload_n (T : eT) (k : Fin 4) (len pc : Nat) (ls : List (Option eV)) (st : List eV) (M : eM) (nx : eK0) (rt : Option eV → eM → Prop) : eS T (.iload_n k) len pc ls st M nx rt = (qI (lG ls k.val) fun z => nx (pc + len) ls (eI z :: st) M) := rfl
theorem es_lload (T : eT) (k : Nat) (len pc : Nat) (ls : List (Option eV)) (st : List eV) (M : eM) (nx : eK0) (rt : Option eV → eM → Prop) : eS T (.lload k) len pc ls st M nx rt = (qL (lG ls k) fun z => nx (pc + len) ls (eL z :: st) M) := rfl
theorem es_lload_n (T : eT) (k : Fin 4) (len pc : Nat) (ls : List (Option eV)) (st : List eV) (M : eM) (nx : eK0) (rt : Option eV → eM → Prop) : eS T (.lload_n k) len pc ls st M nx rt = (qL (lG ls k.val) fun z => nx (pc + len) ls (eL z :: st) M) := rfl
theorem es_aload (T : eT) (k : Nat) (len pc : Nat) (ls : List (Option eV)) (st : List eV) (M : eM) (nx : eK0) (rt : Option eV → eM → Prop) : eS T (.aload k) len pc ls st M nx rt = (qR (lG ls k) fun z => nx (pc + len) ls (z :: st) M) := rfl
theorem es_aload_n (T : eT) (k : Fin 4) (len pc : Nat) (ls : List (Option eV)) (st : List eV) (M : eM) (nx : eK0) (rt : Option eV → eM → Prop) : eS T (.aload_n k) len pc ls st M nx rt = (qR (lG ls k.val) fun z => nx (pc + len) ls (z :: st) M) := rfl
theorem es_istore (T : eT) (k : Nat) (len pc : Nat) (ls : List (Option eV)) (st : List eV) (M : eM) (nx : eK0) (rt : Option eV → eM → Prop) : eS T (.istore k) len pc ls st M nx rt = (pI st fun z r => nx (pc + len) (lS ls k (eI z)) r M) := rfl
theorem es_istore_n (T : eT) (k : Fin 4) (len pc : Nat) (ls : List (Option eV)) (st : List eV) (M : eM) (nx : eK0) (rt : Option eV → eM → Prop) : eS T (.istore_n k) len pc ls st M nx rt = (pI st fun z r => nx (pc + len) (lS ls k.val (eI z)) r M) := rfl
theorem es_lstore (T : eT) (k : Nat) (len pc : Nat) (ls : List (Option eV)) (st : List eV) (M : eM) (nx : eK0) (rt : Option eV → eM → Prop) : eS T (.lstore k) len pc ls st M nx rt = (pL st fun z r => nx (pc + len) (lS2 ls k (eL z)) r M) := rfl
theorem es_lstore_n (T : eT) (k : Fin 4) (len pc : Nat) (ls : List (Option eV)) (st : List eV) (M : eM) (nx : eK0) (rt : Option eV → eM → Prop) : eS T (.lstore_n k) len pc ls st M nx rt = (pL st fun z r => nx (pc + len) (lS2 ls k.val (eL z)) r M) := rfl
theorem es_astore (T : eT) (k : Nat) (len pc : Nat) (ls : List (Option eV)) (st : List eV) (M : eM) (nx : eK0) (rt : Option eV → eM → Prop) : eS T (.astore k) len pc ls st M nx rt = (pR st fun z r => nx (pc + len) (lS ls k z) r M) := rfl
theorem es_astore_n (T : eT) (k : Fin 4) (len pc : Nat) (ls : List (Option eV)) (st : List eV) (M : eM) (nx : eK0) (rt : Option eV → eM → Prop) : eS T (.astore_n k) len pc ls st M nx rt = (pR st fun z r => nx (pc + len) (lS ls k.val z) r M) := rfl
theorem es_iinc (T : eT) (k : Nat) (d : Int) (len pc : Nat) (ls : List (Option eV)) (st : List eV) (M : eM) (nx : eK0) (rt : Option eV → eM → Prop) : eS T (.iinc k d) len pc ls st M nx rt = (qI (lG ls k) fun z => nx (pc + len) (lS ls k (eI (z + d))) st M) := rfl
theorem es_iadd (T : eT)  (len pc : Nat) (ls : List (Option eV)) (st : List eV) (M : eM) (nx : eK0) (rt : Option eV → eM → Prop) : eS T (.iadd) len pc ls st M nx rt = (pI st fun b r => pI r fun a r => nx (pc + len) ls (eI (a + b) :: r) M) := rfl
theorem es_isub (T : eT)  (len pc : Nat) (ls : List (Option eV)) (st : List eV) (M : eM) (nx : eK0) (rt : Option eV → eM → Prop) : eS T (.isub) len pc ls st M nx rt = (pI st fun b r => pI r fun a r => nx (pc + len) ls (eI (a - b) :: r) M) := rfl
theorem es_imul (T : eT)  (len pc : Nat) (ls : List (Option eV)) (st : List eV) (M : eM) (nx : eK0) (rt : Option eV → eM → Prop) : eS T (.imul) len pc ls st M nx rt = (pI st fun b r => pI r fun a r => nx (pc + len) ls (eI (a * b) :: r) M) := rfl
theorem es_iand (T : eT)  (len pc : Nat) (ls : List (Option eV)) (st : List eV) (M : eM) (nx : eK0) (rt : Option eV → eM → Prop) : eS T (.iand) len pc ls st M nx rt = (pI st fun b r => pI r fun a r => nx (pc + len) ls (eI (zAnd a b) :: r) M) := rfl
theorem es_ior (T : eT)  (len pc : Nat) (ls : List (Option eV)) (st : List eV) (M : eM) (nx : eK0) (rt : Option eV → eM → Prop) : eS T (.ior) len pc ls st M nx rt = (pI st fun b r => pI r fun a r => nx (pc + len) ls (eI (zOr a b) :: r) M) := rfl
theorem es_ixor (T : eT)  (len pc : Nat) (ls : List (Option eV)) (st : List eV) (M : eM) (nx : eK0) (rt : Option eV → eM → Prop) : eS T (.ixor) len pc ls st M nx rt = (pI st fun b r => pI r fun a r => nx (pc + len) ls (eI (zXor a b) :: r) M) := rfl
theorem es_ishl (T : eT)  (len pc : Nat) (ls : List (Option eV)) (st : List eV) (M : eM) (nx : eK0) (rt : Option eV → eM → Prop) : eS T (.ishl) len pc ls st M nx rt = (pI st fun b r => pI r fun a r => nx (pc + len) ls (eI (zShl a b) :: r) M) := rfl
theorem es_ishr (T : eT)  (len pc : Nat) (ls : List (Option eV)) (st : List eV) (M : eM) (nx : eK0) (rt : Option eV → eM → Prop) : eS T (.ishr) len pc ls st M nx rt = (pI st fun b r => pI r fun a r => nx (pc + len) ls (eI (zShr a b) :: r) M) := rfl
theorem es_iushr (T : eT)  (len pc : Nat) (ls : List (Option eV)) (st : List eV) (M : eM) (nx : eK0) (rt : Option eV → eM → Prop) : eS T (.iushr) len pc ls st M nx rt = (pI st fun b r => pI r fun a r => nx (pc + len) ls (eI (zUshr a b) :: r) M) := rfl
theorem es_ladd (T : eT)  (len pc : Nat) (ls : List (Option eV)) (st : List eV) (M : eM) (nx : eK0) (rt : Option eV → eM → Prop) : eS T (.ladd) len pc ls st M nx rt = (pL st fun b r => pL r fun a r => nx (pc + len) ls (eL (a + b) :: r) M) := rfl
theorem es_lsub (T : eT)  (len pc : Nat) (ls : List (Option eV)) (st : List eV) (M : eM) (nx : eK0) (rt : Option eV → eM → Prop) : eS T (.lsub) len pc ls st M nx rt = (pL st fun b r => pL r fun a r => nx (pc + len) ls (eL (a - b) :: r) M) := rfl
theorem es_lmul (T : eT)  (len pc : Nat) (ls : List (Option eV)) (st : List eV) (M : eM) (nx : eK0) (rt : Option eV → eM → Prop) : eS T (.lmul) len pc ls st M nx rt = (pL st fun b r => pL r fun a r => nx (pc + len) ls (eL (a * b) :: r) M) := rfl
theorem es_land (T : eT)  (len pc : Nat) (ls : List (Option eV)) (st : List eV) (M : eM) (nx : eK0) (rt : Option eV → eM → Prop) : eS T (.land) len pc ls st M nx rt = (pL st fun b r => pL r fun a r => nx (pc + len) ls (eL (zAndL a b) :: r) M) := rfl
theorem es_lor (T : eT)  (len pc : Nat) (ls : List (Option eV)) (st : List eV) (M : eM) (nx : eK0) (rt : Option eV → eM → Prop) : eS T (.lor) len pc ls st M nx rt = (pL st fun b r => pL r fun a r => nx (pc + len) ls (eL (zOrL a b) :: r) M) := rfl
theorem es_lshl (T : eT)  (len pc : Nat) (ls : List (Option eV)) (st : List eV) (M : eM) (nx : eK0) (rt : Option eV → eM → Prop) : eS T (.lshl) len pc ls st M nx rt = (pI st fun b r => pL r fun a r => nx (pc + len) ls (eL (zShlL a b) :: r) M) := rfl
theorem es_lshr (T : eT)  (len pc : Nat) (ls : List (Option eV)) (st : List eV) (M : eM) (nx : eK0) (rt : Option eV → eM → Prop) : eS T (.lshr) len pc ls st M nx rt = (pI st fun b r => pL r fun a r => nx (pc + len) ls (eL (zShrL a b) :: r) M) := rfl
theorem es_idiv (T : eT)  (len pc : Nat) (ls : List (Option eV)) (st : List eV) (M : eM) (nx : eK0) (rt : Option eV → eM → Prop) : eS T (.idiv) len pc ls st M nx rt = (pI st fun b r => pI r fun a r => (w32 a ∧ w32 b ∧ b ≠ 0) ∧ nx (pc + len) ls (eI (a.tdiv b) :: r) M) := rfl
theorem es_irem (T : eT)  (len pc : Nat) (ls : List (Option eV)) (st : List eV) (M : eM) (nx : eK0) (rt : Option eV → eM → Prop) : eS T (.irem) len pc ls st M nx rt = (pI st fun b r => pI r fun a r => (w32 a ∧ w32 b ∧ b ≠ 0) ∧ nx (pc + len) ls (eI (a.tmod b) :: r) M) := rfl
theorem es_ldiv (T : eT)  (len pc : Nat) (ls : List (Option eV)) (st : List eV) (M : eM) (nx : eK0) (rt : Option eV → eM → Prop) : eS T (.ldiv) len pc ls st M nx rt = (pL st fun b r => pL r fun a r => (w64 a ∧ w64 b ∧ b ≠ 0) ∧ nx (pc + len) ls (eL (a.tdiv b) :: r) M) := rfl
theorem es_lrem (T : eT)  (len pc : Nat) (ls : List (Option eV)) (st : List eV) (M : eM) (nx : eK0) (rt : Option eV → eM → Prop) : eS T (.lrem) len pc ls st M nx rt = (pL st fun b r => pL r fun a r => (w64 a ∧ w64 b ∧ b ≠ 0) ∧ nx (pc + len) ls (eL (a.tmod b) :: r) M) := rfl
theorem es_ineg (T : eT)  (len pc : Nat) (ls : List (Option eV)) (st : List eV) (M : eM) (nx : eK0) (rt : Option eV → eM → Prop) : eS T (.ineg) len pc ls st M nx rt = (pI st fun a r => nx (pc + len) ls (eI (-a) :: r) M) := rfl
theorem es_lneg (T : eT)  (len pc : Nat) (ls : List (Option eV)) (st : List eV) (M : eM) (nx : eK0) (rt : Option eV → eM → Prop) : eS T (.lneg) len pc ls st M nx rt = (pL st fun a r => nx (pc + len) ls (eL (-a) :: r) M) := rfl
theorem es_i2l (T : eT)  (len pc : Nat) (ls : List (Option eV)) (st : List eV) (M : eM) (nx : eK0) (rt : Option eV → eM → Prop) : eS T (.i2l) len pc ls st M nx rt = (pI st fun a r => w32 a ∧ nx (pc + len) ls (eL a :: r) M) := rfl
theorem es_l2i (T : eT)  (len pc : Nat) (ls : List (Option eV)) (st : List eV) (M : eM) (nx : eK0) (rt : Option eV → eM → Prop) : eS T (.l2i) len pc ls st M nx rt = (pL st fun a r => nx (pc + len) ls (eI a :: r) M) := rfl
theorem es_lcmp (T : eT)  (len pc : Nat) (ls : List (Option eV)) (st : List eV) (M : eM) (nx : eK0) (rt : Option eV → eM → Prop) : eS T (.lcmp) len pc ls st M nx rt = (pL st fun b r => pL r fun a r => (w64 a ∧ w64 b) ∧ nx (pc + len) ls (eI (zCmp a b) :: r) M) := rfl
theorem es_dup (T : eT)  (len pc : Nat) (ls : List (Option eV)) (st : List eV) (M : eM) (nx : eK0) (rt : Option eV → eM → Prop) : eS T (.dup) len pc ls st M nx rt = (pC1 st fun v r => nx (pc + len) ls (v :: v :: r) M) := rfl
theorem es_pop (T : eT)  (len pc : Nat) (ls : List (Option eV)) (st : List eV) (M : eM) (nx : eK0) (rt : Option eV → eM → Prop) : eS T (.pop) len pc ls st M nx rt = (pC1 st fun v r => nx (pc + len) ls r M) := rfl
theorem es_dup2 (T : eT)  (len pc : Nat) (ls : List (Option eV)) (st : List eV) (M : eM) (nx : eK0) (rt : Option eV → eM → Prop) : eS T (.dup2) len pc ls st M nx rt = (pC1 st fun v r => pC1 r fun u r => nx (pc + len) ls (v :: u :: v :: u :: r) M) := rfl
theorem es_if_icmp_eq (T : eT) (off : Int) (len pc : Nat) (ls : List (Option eV)) (st : List eV) (M : eM) (nx : eK0) (rt : Option eV → eM → Prop) : eS T (.if_icmp .eq off) len pc ls st M nx rt = (pI st fun b r => pI r fun a r => (w32 a ∧ w32 b) ∧ ((a = b) → nx ((pc : Int) + off).toNat ls r M) ∧ (¬ (a = b) → nx (pc + len) ls r M)) := rfl
theorem es_if_icmp_ne (T : eT) (off : Int) (len pc : Nat) (ls : List (Option eV)) (st : List eV) (M : eM) (nx : eK0) (rt : Option eV → eM → Prop) : eS T (.if_icmp .ne off) len pc ls st M nx rt = (pI st fun b r => pI r fun a r => (w32 a ∧ w32 b) ∧ ((a ≠ b) → nx ((pc : Int) + off).toNat ls r M) ∧ (¬ (a ≠ b) → nx (pc + len) ls r M)) := rfl
theorem es_if_icmp_lt (T : eT) (off : Int) (len pc : Nat) (ls : List (Option eV)) (st : List eV) (M : eM) (nx : eK0) (rt : Option eV → eM → Prop) : eS T (.if_icmp .lt off) len pc ls st M nx rt = (pI st fun b r => pI r fun a r => (w32 a ∧ w32 b) ∧ ((a < b) → nx ((pc : Int) + off).toNat ls r M) ∧ (¬ (a < b) → nx (pc + len) ls r M)) := rfl
theorem es_if_icmp_ge (T : eT) (off : Int) (len pc : Nat) (ls : List (Option eV)) (st : List eV) (M : eM) (nx : eK0) (rt : Option eV → eM → Prop) : eS T (.if_icmp .ge off) len pc ls st M nx rt = (pI st fun b r => pI r fun a r => (w32 a ∧ w32 b) ∧ ((b ≤ a) → nx ((pc : Int) + off).toNat ls r M) ∧ (¬ (b ≤ a) → nx (pc + len) ls r M)) := rfl
theorem es_if_icmp_gt (T : eT) (off : Int) (len pc : Nat) (ls : List (Option eV)) (st : List eV) (M : eM) (nx : eK0) (rt : Option eV → eM → Prop) : eS T (.if_icmp .gt off) len pc ls st M nx rt = (pI st fun b r => pI r fun a r => (w32 a ∧ w32 b) ∧ ((b < a) → nx ((pc : Int) + off).toNat ls r M) ∧ (¬ (b < a) → nx (pc + len) ls r M)) := rfl
theorem es_if_icmp_le (T : eT) (off : Int) (len pc : Nat) (ls : List (Option eV)) (st : List eV) (M : eM) (nx : eK0) (rt : Option eV → eM → Prop) : eS T (.if_icmp .le off) len pc ls st M nx rt = (pI st fun b r => pI r fun a r => (w32 a ∧ w32 b) ∧ ((a ≤ b) → nx ((pc : Int) + off).toNat ls r M) ∧ (¬ (a ≤ b) → nx (pc + len) ls r M)) := rfl
theorem es_ifCond_eq (T : eT) (off : Int) (len pc : Nat) (ls : List (Option eV)) (st : List eV) (M : eM) (nx : eK0) (rt : Option eV → eM → Prop) : eS T (.ifCond .eq off) len pc ls st M nx rt = (pI st fun a r => w32 a ∧ ((a = 0) → nx ((pc : Int) + off).toNat ls r M) ∧ (¬ (a = 0) → nx (pc + len) ls r M)) := rfl
theorem es_ifCond_ne (T : eT) (off : Int) (len pc : Nat) (ls : List (Option eV)) (st : List eV) (M : eM) (nx : eK0) (rt : Option eV → eM → Prop) : eS T (.ifCond .ne off) len pc ls st M nx rt = (pI st fun a r => w32 a ∧ ((a ≠ 0) → nx ((pc : Int) + off).toNat ls r M) ∧ (¬ (a ≠ 0) → nx (pc + len) ls r M)) := rfl
theorem es_ifCond_lt (T : eT) (off : Int) (len pc : Nat) (ls : List (Option eV)) (st : List eV) (M : eM) (nx : eK0) (rt : Option eV → eM → Prop) : eS T (.ifCond .lt off) len pc ls st M nx rt = (pI st fun a r => w32 a ∧ ((a < 0) → nx ((pc : Int) + off).toNat ls r M) ∧ (¬ (a < 0) → nx (pc + len) ls r M)) := rfl
theorem es_ifCond_ge (T : eT) (off : Int) (len pc : Nat) (ls : List (Option eV)) (st : List eV) (M : eM) (nx : eK0) (rt : Option eV → eM → Prop) : eS T (.ifCond .ge off) len pc ls st M nx rt = (pI st fun a r => w32 a ∧ ((0 ≤ a) → nx ((pc : Int) + off).toNat ls r M) ∧ (¬ (0 ≤ a) → nx (pc + len) ls r M)) := rfl
theorem es_ifCond_gt (T : eT) (off : Int) (len pc : Nat) (ls : List (Option eV)) (st : List eV) (M : eM) (nx : eK0) (rt : Option eV → eM → Prop) : eS T (.ifCond .gt off) len pc ls st M nx rt = (pI st fun a r => w32 a ∧ ((0 < a) → nx ((pc : Int) + off).toNat ls r M) ∧ (¬ (0 < a) → nx (pc + len) ls r M)) := rfl
theorem es_ifCond_le (T : eT) (off : Int) (len pc : Nat) (ls : List (Option eV)) (st : List eV) (M : eM) (nx : eK0) (rt : Option eV → eM → Prop) : eS T (.ifCond .le off) len pc ls st M nx rt = (pI st fun a r => w32 a ∧ ((a ≤ 0) → nx ((pc : Int) + off).toNat ls r M) ∧ (¬ (a ≤ 0) → nx (pc + len) ls r M)) := rfl
theorem es_ifnull (T : eT) (off : Int) (len pc : Nat) (ls : List (Option eV)) (st : List eV) (M : eM) (nx : eK0) (rt : Option eV → eM → Prop) : eS T (.ifnull off) len pc ls st M nx rt = (pR st fun v r => (v = eN → nx ((pc : Int) + off).toNat ls r M) ∧ (¬ v = eN → nx (pc + len) ls r M)) := rfl
theorem es_ifnonnull (T : eT) (off : Int) (len pc : Nat) (ls : List (Option eV)) (st : List eV) (M : eM) (nx : eK0) (rt : Option eV → eM → Prop) : eS T (.ifnonnull off) len pc ls st M nx rt = (pR st fun v r => (¬ v = eN → nx ((pc : Int) + off).toNat ls r M) ∧ (v = eN → nx (pc + len) ls r M)) := rfl
theorem es_goto (T : eT) (off : Int) (len pc : Nat) (ls : List (Option eV)) (st : List eV) (M : eM) (nx : eK0) (rt : Option eV → eM → Prop) : eS T (.goto off) len pc ls st M nx rt = (nx ((pc : Int) + off).toNat ls st M) := rfl
theorem es_tableswitch (T : eT) (d lo hi : Int) (offs : Array Int) (len pc : Nat) (ls : List (Option eV)) (st : List eV) (M : eM) (nx : eK0) (rt : Option eV → eM → Prop) : eS T (.tableswitch d lo hi offs) len pc ls st M nx rt = (pI st fun a r => w32 a ∧ ((a < lo ∨ hi < a) → nx ((pc : Int) + d).toNat ls r M) ∧ (¬ a < lo → ¬ hi < a → sW a lo offs.toList fun off => nx ((pc : Int) + off).toNat ls r M)) := rfl
theorem es_getfield (T : eT) (k : Nat) (len pc : Nat) (ls : List (Option eV)) (st : List eV) (M : eM) (nx : eK0) (rt : Option eV → eM → Prop) : eS T (.getfield k) len pc ls st M nx rt = (pA st fun a r => gF M a (T.1 k) fun v => nx (pc + len) ls (v :: r) M) := rfl
theorem es_putfield (T : eT) (k : Nat) (len pc : Nat) (ls : List (Option eV)) (st : List eV) (M : eM) (nx : eK0) (rt : Option eV → eM → Prop) : eS T (.putfield k) len pc ls st M nx rt = (pI st fun z r => pA r fun a r => pF M a (T.1 k) z fun M' => nx (pc + len) ls r M') := rfl
theorem es_iaload (T : eT)  (len pc : Nat) (ls : List (Option eV)) (st : List eV) (M : eM) (nx : eK0) (rt : Option eV → eM → Prop) : eS T (.iaload) len pc ls st M nx rt = (pI st fun i r => pA r fun a r => gA M a 0 i fun v => nx (pc + len) ls (v :: r) M) := rfl
theorem es_laload (T : eT)  (len pc : Nat) (ls : List (Option eV)) (st : List eV) (M : eM) (nx : eK0) (rt : Option eV → eM → Prop) : eS T (.laload) len pc ls st M nx rt = (pI st fun i r => pA r fun a r => gA M a 1 i fun v => nx (pc + len) ls (v :: r) M) := rfl
theorem es_baload (T : eT)  (len pc : Nat) (ls : List (Option eV)) (st : List eV) (M : eM) (nx : eK0) (rt : Option eV → eM → Prop) : eS T (.baload) len pc ls st M nx rt = (pI st fun i r => pA r fun a r => gA M a 2 i fun v => nx (pc + len) ls (v :: r) M) := rfl
theorem es_aaload (T : eT)  (len pc : Nat) (ls : List (Option eV)) (st : List eV) (M : eM) (nx : eK0) (rt : Option eV → eM → Prop) : eS T (.aaload) len pc ls st M nx rt = (pI st fun i r => pA r fun a r => gR M a i fun v => nx (pc + len) ls (v :: r) M) := rfl
theorem es_iastore (T : eT)  (len pc : Nat) (ls : List (Option eV)) (st : List eV) (M : eM) (nx : eK0) (rt : Option eV → eM → Prop) : eS T (.iastore) len pc ls st M nx rt = (pI st fun z r => pI r fun i r => pA r fun a r => pY M a 0 i (eI z) fun M' => nx (pc + len) ls r M') := rfl
theorem es_lastore (T : eT)  (len pc : Nat) (ls : List (Option eV)) (st : List eV) (M : eM) (nx : eK0) (rt : Option eV → eM → Prop) : eS T (.lastore) len pc ls st M nx rt = (pL st fun z r => pI r fun i r => pA r fun a r => pY M a 1 i (eL z) fun M' => nx (pc + len) ls r M') := rfl
theorem es_bastore (T : eT)  (len pc : Nat) (ls : List (Option eV)) (st : List eV) (M : eM) (nx : eK0) (rt : Option eV → eM → Prop) : eS T (.bastore) len pc ls st M nx rt = (pI st fun z r => pI r fun i r => pA r fun a r => (z = 0 ∨ z = 1) ∧ pY M a 2 i (eI z) fun M' => nx (pc + len) ls r M') := rfl
theorem es_arraylength (T : eT)  (len pc : Nat) (ls : List (Option eV)) (st : List eV) (M : eM) (nx : eK0) (rt : Option eV → eM → Prop) : eS T (.arraylength) len pc ls st M nx rt = (pA st fun a r => gN M a fun n => nx (pc + len) ls (eI n :: r) M) := rfl
theorem es_ireturn (T : eT)  (len pc : Nat) (ls : List (Option eV)) (st : List eV) (M : eM) (nx : eK0) (rt : Option eV → eM → Prop) : eS T (.ireturn) len pc ls st M nx rt = (pI st fun z r => r = [] ∧ rt (some (eI z)) M) := rfl
theorem es_lreturn (T : eT)  (len pc : Nat) (ls : List (Option eV)) (st : List eV) (M : eM) (nx : eK0) (rt : Option eV → eM → Prop) : eS T (.lreturn) len pc ls st M nx rt = (pL st fun z r => r = [] ∧ rt (some (eL z)) M) := rfl
theorem es_areturn (T : eT)  (len pc : Nat) (ls : List (Option eV)) (st : List eV) (M : eM) (nx : eK0) (rt : Option eV → eM → Prop) : eS T (.areturn) len pc ls st M nx rt = (pR st fun v r => r = [] ∧ rt (some v) M) := rfl
theorem es_return_ (T : eT)  (len pc : Nat) (ls : List (Option eV)) (st : List eV) (M : eM) (nx : eK0) (rt : Option eV → eM → Prop) : eS T (.return_) len pc ls st M nx rt = (st = [] ∧ rt none M) := rfl
theorem es_invokevirtual (T : eT) (k : Nat) (len pc : Nat) (ls : List (Option eV)) (st : List eV) (M : eM) (nx : eK0) (rt : Option eV → eM → Prop) : eS T (.invokevirtual k) len pc ls st M nx rt = (cL (T.2.2.2 k) st M fun o r M' => nx (pc + len) ls (o.toList ++ r) M') := rfl
theorem es_invokestatic (T : eT) (k : Nat) (len pc : Nat) (ls : List (Option eV)) (st : List eV) (M : eM) (nx : eK0) (rt : Option eV → eM → Prop) : eS T (.invokestatic k) len pc ls st M nx rt = (cL (T.2.2.2 k) st M fun o r M' => nx (pc + len) ls (o.toList ++ r) M') := rfl
theorem es_invokespecial (T : eT) (k : Nat) (len pc : Nat) (ls : List (Option eV)) (st : List eV) (M : eM) (nx : eK0) (rt : Option eV → eM → Prop) : eS T (.invokespecial k) len pc ls st M nx rt = (cL (T.2.2.2 k) st M fun o r M' => nx (pc + len) ls (o.toList ++ r) M') := rfl
def eX (T : eT) (cd : Nat → Option (Jvm.ClassFile.Instr × Nat)) (cut : Nat → Bool) (K : eK0) (rt : Option eV → eM → Prop) : Nat → eK0
  | 0, pc, ls, st, M => K pc ls st M
  | n + 1, pc, ls, st, M => match cd pc with
    | none => False
    | some (i, len) => eS T i len pc ls st M (fun pc' ls' st' M' => if cut pc' = true then K pc' ls' st' M' else eX T cd cut K rt n pc' ls' st' M') rt
theorem eX_s (T : eT) (cd : Nat → Option (Jvm.ClassFile.Instr × Nat)) (cut : Nat → Bool) (K : eK0) (rt : Option eV → eM → Prop) (n pc : Nat) (ls : List (Option eV)) (st : List eV) (M : eM) : eX T cd cut K rt (n + 1) pc ls st M = (match cd pc with
    | none => False
    | some (i, len) => eS T i len pc ls st M (fun pc' ls' st' M' => if cut pc' = true then K pc' ls' st' M' else eX T cd cut K rt n pc' ls' st' M') rt) := rfl
/-- the locals at a method's entry -/
def eE : List eV → List (Option eV)
  | [] => []
  | .inl (.inr z) :: l => some (eL z) :: none :: eE l
  | v :: l => some v :: eE l
def eLoc (as : List eV) (n : Nat) : List (Option eV) := eE as ++ List.replicate (n - (eE as).length) none
/-- a method's body does what its specification says: for every predicate of machine states that goes back over the abstract steps -/
def eRt (ret : Option FieldType) (o : Option eV) : Prop := match ret, o with
  | some .int, some (.inl (.inl _)) => True
  | some .boolean, some (.inl (.inl z)) => z = 0 ∨ z = 1
  | some .long, some (.inl (.inr _)) => True
  | some (.object _), some (.inr _) => True
  | none, none => True
  | _, _ => False
def eSafe (T : eT) (cd : Nat → Option (Jvm.ClassFile.Instr × Nat)) (nL : Nat) (ret : Option FieldType) (sp : eSp) : Prop :=
  ∀ (K : eK0) (rt : Option eV → eM → Prop), (∀ (cut : Nat → Bool) (n pc : Nat) (ls : List (Option eV)) (st : List eV) (M : eM), eX T cd cut K (fun o M => eRt ret o ∧ rt o M) n pc ls st M → K pc ls st M) → ∀ (as : List eV) (M : eM), sp as M rt → (eE as).length ≤ nL ∧ K 0 (eLoc as nL) [] M

/-- how long an instruction is -/
def eLen : Jvm.ClassFile.Instr → Nat → Bool
  | .getfield _, n => decide (n = 3)
  | .putfield _, n => decide (n = 3)
  | .if_icmp _ _, n => decide (n = 3)
  | .ifCond _ _, n => decide (n = 3)
  | .ifnull _, n => decide (n = 3)
  | .ifnonnull _, n => decide (n = 3)
  | .goto _, n => decide (n = 3)
  | .invokevirtual _, n => decide (n = 3)
  | .invokestatic _, n => decide (n = 3)
  | .invokespecial _, n => decide (n = 3)
  | .sipush _, n => decide (n = 3)
  | .ldc2_w _, n => decide (n = 3)
  | .iinc _ _, n => decide (n = 3)
  | .iload _, n => decide (n = 2)
  | .lload _, n => decide (n = 2)
  | .aload _, n => decide (n = 2)
  | .istore _, n => decide (n = 2)
  | .lstore _, n => decide (n = 2)
  | .astore _, n => decide (n = 2)
  | .bipush _, n => decide (n = 2)
  | .ldc _, n => decide (n = 2)
  | .tableswitch _ lo hi offs, _ => decide (hi < lo + (offs.size : Int))
  | _, n => decide (n = 1)
theorem sW_mono {f g : Int → Prop} {a : Int} (h : ∀ z, f z → g z) : ∀ (l : List Int) (lo : Int), sW a lo l f → sW a lo l g
  | [], _, _ => trivial
  | _ :: l, lo, q => ⟨fun e => h _ (q.1 e), sW_mono h l (lo + 1) q.2⟩

