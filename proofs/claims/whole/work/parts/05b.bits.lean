/-! Bit operations by whole numbers. -/
theorem zb_tn (a : Int) : (Int32.ofInt a).toBitVec.toNat = (a % 4294967296).toNat := by
  show (BitVec.ofInt 32 a).toNat = _
  rw [BitVec.toNat_ofInt]
  rfl
theorem zb_tnL (a : Int) : (Int64.ofInt a).toBitVec.toNat = (a % 18446744073709551616).toNat := by
  show (BitVec.ofInt 64 a).toNat = _
  rw [BitVec.toNat_ofInt]
  rfl
theorem zb_cnt : ∀ n : Nat, n < 32 → ((Int32.ofInt (n : Int) &&& 31).toBitVec.smod 32).toNat = n := by decide +kernel
theorem zb_cntU : ∀ n : Nat, n < 32 → (((Int32.ofInt (n : Int)).toUInt32 &&& Int32.toUInt32 31).toBitVec % 32).toNat = n := by decide +kernel
theorem zb_cntL : ∀ n : Nat, n < 64 → (((Int32.ofInt (n : Int)).toInt64 &&& 63).toBitVec.smod 64).toNat = n := by decide +kernel
theorem zb_p2 (k : Nat) : ((2 ^ k : Nat) : Int) = 2 ^ k := by simp
theorem zb_ple {k n : Nat} (h : k ≤ n) : (2 : Int) ^ k ≤ 2 ^ n := by
  rw [← zb_p2, ← zb_p2]
  exact Int.ofNat_le.mpr (Nat.pow_le_pow_right (by decide) h)
theorem zb_dvd {k n : Nat} (h : k ≤ n) : ((2 : Int) ^ k) ∣ 2 ^ n := ⟨2 ^ (n - k), by rw [← Int.pow_add]; congr 1; omega⟩
theorem zb_toNat {a m : Int} (h : 0 < m) : ((a % m).toNat : Int) = a % m := Int.toNat_of_nonneg (Int.emod_nonneg a (by omega))
theorem zAnd_m (a m : Int) (k : Nat) (hk : k ≤ 31) (hm : m = 2 ^ k - 1) : zAnd a m = a % 2 ^ k := by
  have hp : (2 : Int) ^ k ≤ 2 ^ 31 := zb_ple hk
  have hp0 : (0 : Int) < 2 ^ k := Int.pow_pos (by decide)
  have e : (Int32.ofInt m).toBitVec.toNat = 2 ^ k - 1 := by
    rw [zb_tn, hm, Int.emod_eq_of_lt (by omega) (by omega)]
    have := zb_p2 k
    omega
  unfold zAnd
  rw [pk_and _ k e, zb_tn]
  have h1 : ((a % 4294967296).toNat % 2 ^ k : Nat) < 2 ^ 31 := Nat.lt_of_lt_of_le (Nat.mod_lt _ (Nat.two_pow_pos k)) (Nat.pow_le_pow_right (by decide) hk)
  rw [nI_toInt h1, Int.natCast_emod, zb_p2, zb_toNat (by decide)]
  exact Int.emod_emod_of_dvd a (zb_dvd (k := k) (n := 32) (by omega))
theorem zAndL_m (a m : Int) (k : Nat) (hk : k ≤ 62) (hm : m = 2 ^ k - 1) : zAndL a m = a % 2 ^ k := by
  have hp : (2 : Int) ^ k ≤ 2 ^ 62 := zb_ple hk
  have hp0 : (0 : Int) < 2 ^ k := Int.pow_pos (by decide)
  have e : (Int64.ofInt m).toBitVec.toNat = 2 ^ k - 1 := by
    rw [zb_tnL, hm, Int.emod_eq_of_lt (by omega) (by omega)]
    have := zb_p2 k
    omega
  unfold zAndL
  have h0 : (Int64.ofInt a &&& Int64.ofInt m) = Int64.ofInt (a % 2 ^ k) := by
    apply Int64.toBitVec_inj.mp
    apply BitVec.eq_of_toNat_eq
    rw [Int64.toBitVec_and, BitVec.toNat_and, e, Nat.and_two_pow_sub_one_eq_mod, zb_tnL, zb_tnL]
    have h2 : a % 2 ^ k % 18446744073709551616 = a % 2 ^ k := Int.emod_eq_of_lt (Int.emod_nonneg _ (by omega)) (Int.lt_of_lt_of_le (Int.emod_lt_of_pos a hp0) (by omega))
    rw [h2]
    apply Int.ofNat.inj
    show (((a % 18446744073709551616).toNat % 2 ^ k : Nat) : Int) = ((a % 2 ^ k).toNat : Int)
    rw [Int.natCast_emod, zb_p2, zb_toNat (by decide), zb_toNat hp0]
    exact Int.emod_emod_of_dvd a (zb_dvd (k := k) (n := 64) (by omega))
  rw [h0, z_l]
  have h3 := Int.emod_nonneg a (b := 2 ^ k) (by omega)
  have h4 := Int.emod_lt_of_pos a hp0
  omega
theorem zShr_n (a : Int) (ha : w32 a) (n : Nat) (hn : n < 32) : zShr a n = a / 2 ^ n := by
  unfold zShr
  rw [pk_shr _ _ n (zb_cnt n hn), z_i a ha, Int.shiftRight_eq_div_pow]
  rfl
theorem zShrL_n (a : Int) (ha : w64 a) (n : Nat) (hn : n < 64) : zShrL a n = a / 2 ^ n := by
  unfold zShrL
  have e : (Int64.ofInt a >>> ((Int32.ofInt (n : Int)).toInt64 &&& 63)).toInt = (Int64.ofInt a).toInt >>> n := by
    show ((Int64.ofInt a).toBitVec.sshiftRight (((Int32.ofInt (n : Int)).toInt64 &&& 63).toBitVec.smod 64).toNat).toInt = _
    rw [zb_cntL n hn, BitVec.toInt_sshiftRight]
    rfl
  rw [e, z_l a ha, Int.shiftRight_eq_div_pow]
  rfl
theorem zShl_n (a : Int) (n : Nat) (hn : n < 32) (h : w32 (a * 2 ^ n)) : zShl a n = a * 2 ^ n := by
  unfold zShl
  have e : (Int32.ofInt a <<< (Int32.ofInt (n : Int) &&& 31)) = Int32.ofInt (a * 2 ^ n) := by
    apply Int32.toBitVec_inj.mp
    apply BitVec.eq_of_toNat_eq
    rw [pk_shl _ _ n (zb_cnt n hn), zb_tn, zb_tn]
    apply Int.ofNat.inj
    show (((a % 4294967296).toNat * 2 ^ n % 2 ^ 32 : Nat) : Int) = ((a * 2 ^ n % 4294967296).toNat : Int)
    rw [Int.natCast_emod, Int.natCast_mul, zb_p2, zb_toNat (by decide), zb_toNat (by decide)]
    show a % 4294967296 * 2 ^ n % 4294967296 = _
    rw [Int.mul_emod, Int.emod_emod_of_dvd _ (Int.dvd_refl _), ← Int.mul_emod]
  rw [e, z_i _ h]
theorem zShlL_n (a : Int) (n : Nat) (hn : n < 64) (h : w64 (a * 2 ^ n)) : zShlL a n = a * 2 ^ n := by
  unfold zShlL
  have e : (Int64.ofInt a <<< ((Int32.ofInt (n : Int)).toInt64 &&& 63)) = Int64.ofInt (a * 2 ^ n) := by
    apply Int64.toBitVec_inj.mp
    apply BitVec.eq_of_toNat_eq
    show ((Int64.ofInt a).toBitVec <<< (((Int32.ofInt (n : Int)).toInt64 &&& 63).toBitVec.smod 64).toNat).toNat = _
    rw [zb_cntL n hn, BitVec.toNat_shiftLeft, Nat.shiftLeft_eq, zb_tnL, zb_tnL]
    apply Int.ofNat.inj
    show (((a % 18446744073709551616).toNat * 2 ^ n % 2 ^ 64 : Nat) : Int) = ((a * 2 ^ n % 18446744073709551616).toNat : Int)
    rw [Int.natCast_emod, Int.natCast_mul, zb_p2, zb_toNat (by decide), zb_toNat (by decide)]
    show a % 18446744073709551616 * 2 ^ n % 18446744073709551616 = _
    rw [Int.mul_emod, Int.emod_emod_of_dvd _ (Int.dvd_refl _), ← Int.mul_emod]
  rw [e, z_l _ h]
theorem zUshr_n (a : Int) (h0 : 0 ≤ a) (ha : a < 2147483648) (n : Nat) (hn : n < 32) : zUshr a n = a / 2 ^ n := by
  unfold zUshr
  obtain ⟨b, rfl⟩ := Int.eq_ofNat_of_zero_le h0
  have hb : b < 2 ^ 31 := by omega
  have e := pk_ushrN (n := b) (by omega) (Int32.ofInt (n : Int)) n (zb_cntU n hn)
  have e2 : nI b = Int32.ofInt (b : Int) := (Int32.ofInt_eq_ofNat).symm
  rw [← e2, e, nI_toInt (Nat.lt_of_le_of_lt (Nat.div_le_self _ _) hb)]
  simp
/-- the two halves side by side -/
theorem zOrL_s (a b : Int) (k : Nat) (hk : k ≤ 62) (ha : 0 ≤ a) (hb : 0 ≤ b) (hbk : b < 2 ^ k) (h : a * 2 ^ k + b < 9223372036854775808) : zOrL (a * 2 ^ k) b = a * 2 ^ k + b := by
  obtain ⟨x, rfl⟩ := Int.eq_ofNat_of_zero_le ha
  obtain ⟨y, rfl⟩ := Int.eq_ofNat_of_zero_le hb
  have hy : y < 2 ^ k := by have := zb_p2 k; omega
  have ex : ((x : Int) * 2 ^ k) = ((x * 2 ^ k : Nat) : Int) := by simp
  rw [ex] at h ⊢
  unfold zOrL
  have e : (Int64.ofInt ((x * 2 ^ k : Nat) : Int) ||| Int64.ofInt (y : Int)) = Int64.ofInt (((x * 2 ^ k : Nat) : Int) + y) := by
    apply Int64.toBitVec_inj.mp
    apply BitVec.eq_of_toNat_eq
    rw [Int64.toBitVec_or, BitVec.toNat_or, zb_tnL, zb_tnL, zb_tnL]
    rw [Int.emod_eq_of_lt (by omega) (by omega), Int.emod_eq_of_lt (by omega) (by omega), Int.emod_eq_of_lt (by omega) (by omega)]
    have e1 : (((x * 2 ^ k : Nat) : Int)).toNat = x * 2 ^ k := Int.toNat_natCast _
    have e2 : ((((x * 2 ^ k : Nat) : Int)) + (y : Int)).toNat = x * 2 ^ k + y := by omega
    rw [e1, e2, Int.toNat_natCast, Nat.mul_comm x, ← Nat.two_pow_add_eq_or_of_lt hy]
  rw [e, z_l]
  omega
theorem zOr_s (a b : Int) (k : Nat) (hk : k ≤ 30) (ha : 0 ≤ a) (hb : 0 ≤ b) (hbk : b < 2 ^ k) (h : a * 2 ^ k + b < 2147483648) : zOr (a * 2 ^ k) b = a * 2 ^ k + b := by
  obtain ⟨x, rfl⟩ := Int.eq_ofNat_of_zero_le ha
  obtain ⟨y, rfl⟩ := Int.eq_ofNat_of_zero_le hb
  have hy : y < 2 ^ k := by have := zb_p2 k; omega
  have ex : ((x : Int) * 2 ^ k) = ((x * 2 ^ k : Nat) : Int) := by simp
  rw [ex] at h ⊢
  unfold zOr
  have e : (Int32.ofInt ((x * 2 ^ k : Nat) : Int) ||| Int32.ofInt (y : Int)) = Int32.ofInt (((x * 2 ^ k : Nat) : Int) + y) := by
    apply Int32.toBitVec_inj.mp
    apply BitVec.eq_of_toNat_eq
    rw [Int32.toBitVec_or, BitVec.toNat_or, zb_tn, zb_tn, zb_tn]
    rw [Int.emod_eq_of_lt (by omega) (by omega), Int.emod_eq_of_lt (by omega) (by omega), Int.emod_eq_of_lt (by omega) (by omega)]
    have e1 : (((x * 2 ^ k : Nat) : Int)).toNat = x * 2 ^ k := Int.toNat_natCast _
    have e2 : ((((x * 2 ^ k : Nat) : Int)) + (y : Int)).toNat = x * 2 ^ k + y := by omega
    rw [e1, e2, Int.toNat_natCast, Nat.mul_comm x, ← Nat.two_pow_add_eq_or_of_lt hy]
  rw [e, z_i]
  omega
theorem zOr_0 (b : Int) (h : w32 b) : zOr 0 b = b := by
  unfold zOr
  have e : Int32.ofInt 0 ||| Int32.ofInt b = Int32.ofInt b := by
    apply Int32.toBitVec_inj.mp
    rw [Int32.toBitVec_or]
    exact BitVec.zero_or
  rw [e, z_i b h]
theorem zOr_m1 (b : Int) : zOr (-1) b = -1 := by
  unfold zOr
  have e : Int32.ofInt (-1) ||| Int32.ofInt b = Int32.ofInt (-1) := by
    apply Int32.toBitVec_inj.mp
    rw [Int32.toBitVec_or]
    have : (Int32.ofInt (-1)).toBitVec = BitVec.allOnes 32 := by decide
    rw [this]
    exact BitVec.allOnes_or
  rw [e]
  decide
