/-! Whole numbers as Int32 and Int64. -/
abbrev w32 (z : Int) : Prop := -2147483648 ≤ z ∧ z < 2147483648
abbrev w64 (z : Int) : Prop := -9223372036854775808 ≤ z ∧ z < 9223372036854775808
theorem z_add (a b : Int) : Int32.ofInt a + Int32.ofInt b = Int32.ofInt (a + b) := (Int32.ofInt_add a b).symm
theorem z_sub (a b : Int) : Int32.ofInt a - Int32.ofInt b = Int32.ofInt (a - b) := (Int32.ofInt_sub a b).symm
theorem z_mul (a b : Int) : Int32.ofInt a * Int32.ofInt b = Int32.ofInt (a * b) := (Int32.ofInt_mul a b).symm
theorem z_neg (a : Int) : - Int32.ofInt a = Int32.ofInt (-a) := (Int32.ofInt_neg a).symm
theorem z_addL (a b : Int) : Int64.ofInt a + Int64.ofInt b = Int64.ofInt (a + b) := (Int64.ofInt_add a b).symm
theorem z_subL (a b : Int) : Int64.ofInt a - Int64.ofInt b = Int64.ofInt (a - b) := (Int64.ofInt_sub a b).symm
theorem z_mulL (a b : Int) : Int64.ofInt a * Int64.ofInt b = Int64.ofInt (a * b) := (Int64.ofInt_mul a b).symm
theorem z_negL (a : Int) : - Int64.ofInt a = Int64.ofInt (-a) := (Int64.ofInt_neg a).symm
theorem z_to (x : Int32) : Int32.ofInt x.toInt = x := Int32.ofInt_toInt x
theorem z_toL (x : Int64) : Int64.ofInt x.toInt = x := Int64.ofInt_toInt x
theorem z_i (a : Int) (h : w32 a) : (Int32.ofInt a).toInt = a := by
  rw [Int32.toInt_ofInt]
  show a.bmod 4294967296 = a
  apply Int.bmod_eq_of_le <;> omega
theorem z_l (a : Int) (h : w64 a) : (Int64.ofInt a).toInt = a := by
  rw [Int64.toInt_ofInt]
  show a.bmod 18446744073709551616 = a
  apply Int.bmod_eq_of_le <;> omega
theorem z_lt {a b : Int} (ha : w32 a) (hb : w32 b) : Int32.ofInt a < Int32.ofInt b ↔ a < b := by rw [Int32.lt_iff_toInt_lt, z_i a ha, z_i b hb]
theorem z_le {a b : Int} (ha : w32 a) (hb : w32 b) : Int32.ofInt a ≤ Int32.ofInt b ↔ a ≤ b := by rw [Int32.le_iff_toInt_le, z_i a ha, z_i b hb]
theorem z_eq {a b : Int} (ha : w32 a) (hb : w32 b) : Int32.ofInt a = Int32.ofInt b ↔ a = b := by rw [← Int32.toInt_inj, z_i a ha, z_i b hb]
theorem z_ltL {a b : Int} (ha : w64 a) (hb : w64 b) : Int64.ofInt a < Int64.ofInt b ↔ a < b := by rw [Int64.lt_iff_toInt_lt, z_l a ha, z_l b hb]
theorem z_eqL {a b : Int} (ha : w64 a) (hb : w64 b) : Int64.ofInt a = Int64.ofInt b ↔ a = b := by rw [← Int64.toInt_inj, z_l a ha, z_l b hb]
theorem z_0 : (0 : Int32) = Int32.ofInt 0 := rfl
theorem z_0L : (0 : Int64) = Int64.ofInt 0 := rfl
theorem z_wl (a : Int) (h : w32 a) : (Int32.ofInt a).toInt64 = Int64.ofInt a := by
  rw [← Int64.toInt_inj, Int32.toInt_toInt64, z_i a h, z_l a (by omega)]
theorem z_li (a : Int) : (Int64.ofInt a).toInt32 = Int32.ofInt a := by
  rw [← Int32.toInt_inj, Int64.toInt_toInt32, Int64.toInt_ofInt, Int32.toInt_ofInt]
  rw [Int.bmod_bmod_of_dvd] <;> decide
theorem z_byte (a : Int) (h : -128 ≤ a ∧ a < 128) : (Int8.ofInt a).toInt32 = Int32.ofInt a := by
  rw [← Int32.toInt_inj, Int8.toInt_toInt32, z_i a (by omega), Int8.toInt_ofInt]
  show a.bmod 256 = a
  apply Int.bmod_eq_of_le <;> omega
theorem z_short (a : Int) (h : -32768 ≤ a ∧ a < 32768) : (Int16.ofInt a).toInt32 = Int32.ofInt a := by
  rw [← Int32.toInt_inj, Int16.toInt_toInt32, z_i a (by omega), Int16.toInt_ofInt]
  show a.bmod 65536 = a
  apply Int.bmod_eq_of_le <;> omega
theorem z_div {a b : Int} (ha : w32 a) (hb : w32 b) (h0 : b ≠ 0) : Int32.ofInt a / Int32.ofInt b = Int32.ofInt (a.tdiv b) := by
  rw [← Int32.toInt_inj, Int32.toInt_div, z_i a ha, z_i b hb, Int32.toInt_ofInt]
theorem z_divL {a b : Int} (ha : w64 a) (hb : w64 b) (h0 : b ≠ 0) : Int64.ofInt a / Int64.ofInt b = Int64.ofInt (a.tdiv b) := by
  rw [← Int64.toInt_inj, Int64.toInt_div, z_l a ha, z_l b hb, Int64.toInt_ofInt]
theorem z_rem {a b : Int} (ha : w32 a) (hb : w32 b) (h0 : b ≠ 0) : Int32.ofInt a - Int32.ofInt a / Int32.ofInt b * Int32.ofInt b = Int32.ofInt (a.tmod b) := by
  rw [z_div ha hb h0, z_mul, z_sub, Int.tmod_def, Int.mul_comm]
theorem z_remL {a b : Int} (ha : w64 a) (hb : w64 b) (h0 : b ≠ 0) : Int64.ofInt a - Int64.ofInt a / Int64.ofInt b * Int64.ofInt b = Int64.ofInt (a.tmod b) := by
  rw [z_divL ha hb h0, z_mulL, z_subL, Int.tmod_def, Int.mul_comm]
theorem z_clamp {a : Int} (h : 0 ≤ a) (hb : a < 2147483648) : (Int32.ofInt a).toNatClampNeg = a.toNat := by
  show (Int32.ofInt a).toInt.toNat = a.toNat
  rw [z_i a (by omega)]
/-- bit operations, by their answers -/
def zAnd (a b : Int) : Int := (Int32.ofInt a &&& Int32.ofInt b).toInt
def zOr (a b : Int) : Int := (Int32.ofInt a ||| Int32.ofInt b).toInt
def zXor (a b : Int) : Int := (Int32.ofInt a ^^^ Int32.ofInt b).toInt
def zShl (a b : Int) : Int := (Int32.ofInt a <<< (Int32.ofInt b &&& 31)).toInt
def zShr (a b : Int) : Int := (Int32.ofInt a >>> (Int32.ofInt b &&& 31)).toInt
def zUshr (a b : Int) : Int := ((Int32.ofInt a).toUInt32 >>> ((Int32.ofInt b).toUInt32 &&& Int32.toUInt32 31)).toInt32.toInt
def zAndL (a b : Int) : Int := (Int64.ofInt a &&& Int64.ofInt b).toInt
def zOrL (a b : Int) : Int := (Int64.ofInt a ||| Int64.ofInt b).toInt
def zShlL (a b : Int) : Int := (Int64.ofInt a <<< ((Int32.ofInt b).toInt64 &&& 63)).toInt
def zShrL (a b : Int) : Int := (Int64.ofInt a >>> ((Int32.ofInt b).toInt64 &&& 63)).toInt
def zCmp (a b : Int) : Int := if b < a then 1 else if a = b then 0 else -1
theorem zCmp_lt (a b : Int) : zCmp a b < 0 ↔ a < b := by unfold zCmp; split <;> (try split) <;> omega
theorem zCmp_le (a b : Int) : zCmp a b ≤ 0 ↔ a ≤ b := by unfold zCmp; split <;> (try split) <;> omega
theorem zCmp_eq (a b : Int) : zCmp a b = 0 ↔ a = b := by unfold zCmp; split <;> (try split) <;> omega
theorem zCmp_ge (a b : Int) : 0 ≤ zCmp a b ↔ b ≤ a := by unfold zCmp; split <;> (try split) <;> omega
theorem zCmp_gt (a b : Int) : 0 < zCmp a b ↔ b < a := by unfold zCmp; split <;> (try split) <;> omega
theorem zCmp_w (a b : Int) : w32 (zCmp a b) ↔ True := ⟨fun _ => trivial, fun _ => by unfold zCmp; constructor <;> (split <;> (try split) <;> omega)⟩
theorem z_cmp {a b : Int} (ha : w64 a) (hb : w64 b) : lg_cmp (Int64.ofInt a) (Int64.ofInt b) = Int32.ofInt (zCmp a b) := by
  unfold lg_cmp zCmp
  simp only [gt_iff_lt, z_ltL hb ha, z_eqL ha hb]
  split
  · rfl
  · split <;> rfl
