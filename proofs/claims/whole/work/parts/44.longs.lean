/-! Longs as patterns of 64 bits: bL n. -/
def bL (n : Nat) : Int64 := Int64.ofNat n
theorem bL_v (n : Nat) : (bL n).toBitVec = BitVec.ofNat 64 n := rfl
theorem bL_n {n : Nat} (h : n < 2 ^ 64) : (bL n).toBitVec.toNat = n := by
  rw [bL_v, BitVec.toNat_ofNat]
  exact Nat.mod_eq_of_lt h
theorem L_ext {x y : Int64} (h : x.toBitVec.toNat = y.toBitVec.toNat) : x = y := Int64.toBitVec_inj.mp (BitVec.eq_of_toNat_eq h)
theorem bL_inj {a b : Nat} (ha : a < 2 ^ 64) (hb : b < 2 ^ 64) : (bL a = bL b) = (a = b) := propext ⟨fun h => by
  have e : (bL a).toBitVec.toNat = (bL b).toBitVec.toNat := by rw [h]
  rw [bL_n ha, bL_n hb] at e
  exact e, fun h => by rw [h]⟩
theorem bL_or {z v k : Nat} (hv : v < 2 ^ k) (hz : z * 2 ^ k + v < 2 ^ 64) : bL (z * 2 ^ k) ||| bL v = bL (z * 2 ^ k + v) := by
  apply L_ext
  rw [Int64.toBitVec_or, BitVec.toNat_or, bL_n (by omega), bL_n (by omega), bL_n hz]
  have e := Nat.shiftLeft_add_eq_or_of_lt hv z
  rw [Nat.shiftLeft_eq] at e
  exact e.symm
theorem bL_sh {k : Nat} (hk : k < 64) : ((Int32.ofInt (k : Int)).toInt64 &&& 63) = bL k := by
  have e : ∀ k : Fin 64, ((Int32.ofInt (k.val : Int)).toInt64 &&& 63) = bL k.val := by decide
  exact e ⟨k, hk⟩
theorem bL_shl {z k : Nat} (hk : k < 64) (hz : z * 2 ^ k < 2 ^ 64) : bL z <<< bL k = bL (z * 2 ^ k) := by
  have h1 : z < 2 ^ 64 := Nat.lt_of_le_of_lt (Nat.le_mul_of_pos_right z (Nat.two_pow_pos k)) hz
  apply L_ext
  rw [Int64.toBitVec_shiftLeft, bL_n hz]
  have e : (bL k).toBitVec.smod 64 = BitVec.ofNat 64 k := by
    have e : ∀ k : Fin 64, (bL k.val).toBitVec.smod 64 = BitVec.ofNat 64 k.val := by decide
    exact e ⟨k, hk⟩
  rw [e, BitVec.shiftLeft_eq', BitVec.toNat_shiftLeft, BitVec.toNat_ofNat, Nat.mod_eq_of_lt (show k < 2 ^ 64 by omega), bL_n h1, Nat.shiftLeft_eq]
  exact Nat.mod_eq_of_lt hz
theorem bL_and {z k : Nat} (hz : z < 2 ^ 64) (hk : k ≤ 63) : bL z &&& bL (2 ^ k - 1) = bL (z % 2 ^ k) := by
  have h1 : 2 ^ k ≤ 2 ^ 63 := Nat.pow_le_pow_right (by decide) hk
  have h2 := Nat.two_pow_pos k
  have h3 : z % 2 ^ k ≤ z := Nat.mod_le _ _
  apply L_ext
  rw [Int64.toBitVec_and, BitVec.toNat_and, bL_n hz, bL_n (by omega), bL_n (by omega), Nat.and_two_pow_sub_one_eq_mod]
/-- the shift without a sign -/
theorem bL_ush {z k : Nat} (hz : z < 2 ^ 64) (hk : k < 64) : ((bL z).toUInt64 >>> ((Int32.ofInt (k : Int)).toInt64.toUInt64 &&& Int64.toUInt64 63)).toInt64 = bL (z / 2 ^ k) := by
  have e1 : ((Int32.ofInt (k : Int)).toInt64.toUInt64 &&& Int64.toUInt64 63) = UInt64.ofNat k := by
    have e : ∀ k : Fin 64, ((Int32.ofInt (k.val : Int)).toInt64.toUInt64 &&& Int64.toUInt64 63) = UInt64.ofNat k.val := by decide
    exact e ⟨k, hk⟩
  rw [e1]
  have h3 : z / 2 ^ k ≤ z := Nat.div_le_self _ _
  apply L_ext
  have e2 : ((bL z).toUInt64 >>> UInt64.ofNat k).toInt64.toBitVec = ((bL z).toUInt64 >>> UInt64.ofNat k).toBitVec := rfl
  rw [e2, UInt64.toBitVec_shiftRight, bL_n (by omega)]
  have e3 : (UInt64.ofNat k).toBitVec % 64 = BitVec.ofNat 64 k := by
    have e : ∀ k : Fin 64, (UInt64.ofNat k.val).toBitVec % 64 = BitVec.ofNat 64 k.val := by decide
    exact e ⟨k, hk⟩
  rw [e3, BitVec.ushiftRight_eq', BitVec.toNat_ushiftRight, BitVec.toNat_ofNat, Nat.mod_eq_of_lt (show k < 2 ^ 64 by omega)]
  have e4 : (bL z).toUInt64.toBitVec.toNat = z := bL_n hz
  rw [e4, Nat.shiftRight_eq_div_pow]
/-- the shift with a sign, of what has none -/
theorem bL_shr {z k : Nat} (hz : z < 2 ^ 63) (hk : k < 64) : bL z >>> bL k = bL (z / 2 ^ k) := by
  have h3 : z / 2 ^ k ≤ z := Nat.div_le_self _ _
  apply L_ext
  rw [Int64.toBitVec_shiftRight, bL_n (by omega)]
  have e : (bL k).toBitVec.smod 64 = BitVec.ofNat 64 k := by
    have e : ∀ k : Fin 64, (bL k.val).toBitVec.smod 64 = BitVec.ofNat 64 k.val := by decide
    exact e ⟨k, hk⟩
  have hm : (bL z).toBitVec.msb = false := by
    rw [BitVec.msb_eq_false_iff_two_mul_lt, bL_n (by omega)]
    omega
  rw [e, BitVec.sshiftRight_eq', BitVec.sshiftRight_eq_of_msb_false hm, BitVec.toNat_ushiftRight, BitVec.toNat_ofNat, Nat.mod_eq_of_lt (show k < 2 ^ 64 by omega), bL_n (by omega), Nat.shiftRight_eq_div_pow]
theorem bL_i {z : Nat} (hz : z < 2147483648) : (Int32.ofInt (z : Int)).toInt64 = bL z := by
  rw [← Int64.toInt_inj, Int32.toInt_toInt64, Int32.toInt_ofInt_of_le (by omega) (by omega)]
  show (z : Int) = (BitVec.ofNat 64 z).toInt
  rw [BitVec.toInt_ofNat']
  exact (Int.bmod_eq_of_le (by omega) (by omega)).symm
theorem bL_l2i (z : Nat) : (bL z).toInt32 = Int32.ofInt (z : Int) := by
  rw [← Int32.toInt_inj, Int64.toInt_toInt32]
  show ((BitVec.ofNat 64 z).toInt).bmod (2 ^ 32) = _
  rw [BitVec.toInt_ofNat', Int32.toInt_ofInt, Int.bmod_bmod_of_dvd]
  exact ⟨2 ^ 32, by decide⟩
/-! Ints as patterns of 32 bits, where they have no sign. -/
def bJ (n : Nat) : Int32 := Int32.ofInt (n : Int)
theorem bJ_v (n : Nat) : (bJ n).toBitVec = BitVec.ofNat 32 n := by
  show BitVec.ofInt 32 (n : Int) = _
  exact BitVec.ofInt_natCast 32 n
theorem bJ_n {n : Nat} (h : n < 2 ^ 32) : (bJ n).toBitVec.toNat = n := by
  rw [bJ_v, BitVec.toNat_ofNat]
  exact Nat.mod_eq_of_lt h
theorem J_ext {x y : Int32} (h : x.toBitVec.toNat = y.toBitVec.toNat) : x = y := Int32.toBitVec_inj.mp (BitVec.eq_of_toNat_eq h)
theorem bJ_and {z k : Nat} (hz : z < 2 ^ 32) (hk : k ≤ 31) : bJ z &&& bJ (2 ^ k - 1) = bJ (z % 2 ^ k) := by
  have h1 : 2 ^ k ≤ 2 ^ 31 := Nat.pow_le_pow_right (by decide) hk
  have h2 := Nat.two_pow_pos k
  have h3 : z % 2 ^ k ≤ z := Nat.mod_le _ _
  apply J_ext
  rw [Int32.toBitVec_and, BitVec.toNat_and, bJ_n hz, bJ_n (by omega), bJ_n (by omega), Nat.and_two_pow_sub_one_eq_mod]
theorem bJ_shr {z k : Nat} (hz : z < 2 ^ 31) (hk : k < 32) : bJ z >>> (bJ k &&& 31) = bJ (z / 2 ^ k) := by
  have h3 : z / 2 ^ k ≤ z := Nat.div_le_self _ _
  have e0 : (bJ k &&& 31) = bJ k := by
    have e : ∀ k : Fin 32, (bJ k.val &&& 31) = bJ k.val := by decide
    exact e ⟨k, hk⟩
  rw [e0]
  apply J_ext
  rw [Int32.toBitVec_shiftRight, bJ_n (by omega)]
  have e : (bJ k).toBitVec.smod 32 = BitVec.ofNat 32 k := by
    have e : ∀ k : Fin 32, (bJ k.val).toBitVec.smod 32 = BitVec.ofNat 32 k.val := by decide
    exact e ⟨k, hk⟩
  have hm : (bJ z).toBitVec.msb = false := by
    rw [BitVec.msb_eq_false_iff_two_mul_lt, bJ_n (by omega)]
    omega
  rw [e, BitVec.sshiftRight_eq', BitVec.sshiftRight_eq_of_msb_false hm, BitVec.toNat_ushiftRight, BitVec.toNat_ofNat, Nat.mod_eq_of_lt (show k < 2 ^ 32 by omega), bJ_n (by omega), Nat.shiftRight_eq_div_pow]
/-- a TYPE in 21 bits -/
def tcode (st wk lv il pl la fl : Nat) : Nat := (((((st * 4 + wk) * 8 + lv) * 2 + il) * 8 + pl) * 32 + la) * 32 + fl
theorem tcode_lt {st wk lv il pl la fl : Nat} (h1 : st < 4) (h2 : wk < 4) (h3 : lv < 8) (h4 : il < 2) (h5 : pl < 8) (h6 : la < 32) (h7 : fl < 32) : tcode st wk lv il pl la fl < 2097152 := by
  unfold tcode
  omega
theorem tcode_rd {st wk lv il pl la fl c : Nat} (hc : c = tcode st wk lv il pl la fl) (h1 : st < 4) (h2 : wk < 4) (h3 : lv < 8) (h4 : il < 2) (h5 : pl < 8) (h6 : la < 32) (h7 : fl < 32) : c % 32 = fl ∧ c / 32 % 32 = la ∧ c / 1024 % 8 = pl ∧ c / 8192 % 2 = il ∧ c / 16384 % 8 = lv ∧ c / 131072 % 4 = wk ∧ c / 524288 % 4 = st := by
  unfold tcode at hc
  omega
