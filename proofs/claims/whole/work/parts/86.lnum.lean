/-! Whole numbers behind the longs that have no sign: bz z. -/
def bz (z : Int) : Int64 := bL z.toNat
theorem bz_sh {k : Nat} (hk : k < 64) : ((iI (k : Int)).toInt64 &&& 63) = bL k := bL_sh hk
theorem bz_or {z v : Int} {k : Nat} (hk : k < 64) (h1 : 0 ≤ z) (h2 : 0 ≤ v) (h3 : v < 2 ^ k) (h4 : z * 2 ^ k + v < 9223372036854775808) (h5 : v < 2147483648) : (bz z <<< ((iI (k : Int)).toInt64 &&& 63)) ||| (iI v).toInt64 = bz (z * 2 ^ k + v) := by
  have hp : (0 : Int) < 2 ^ k := Int.pow_pos (by decide)
  have e1 : ((z.toNat * 2 ^ k : Nat) : Int) = z * 2 ^ k := by
    rw [Int.natCast_mul, Int.natCast_pow, show ((z.toNat : Nat) : Int) = z by omega]
    rfl
  have e2 : ((2 ^ k : Nat) : Int) = (2 : Int) ^ k := Int.natCast_pow 2 k
  have e3 : 0 ≤ z * 2 ^ k := Int.mul_nonneg h1 (by omega)
  have e4 : (iI v).toInt64 = bL v.toNat := by
    have := bL_i (z := v.toNat) (by omega)
    rw [show ((v.toNat : Nat) : Int) = v by omega] at this
    exact this
  rw [bz_sh hk, e4]
  unfold bz
  rw [bL_shl hk (by omega), bL_or (by omega) (by omega)]
  congr 1
  omega
theorem bz_o1 {z v : Int} (h1 : 0 ≤ z) (h2 : 0 ≤ v) (h3 : v < 2) (h4 : z * 2 + v < 9223372036854775808) : (bz z <<< ((iI 1).toInt64 &&& 63)) ||| (iI v).toInt64 = bz (z * 2 + v) := bz_or (k := 1) (by decide) h1 h2 h3 h4 (by omega)
theorem bz_o2 {z v : Int} (h1 : 0 ≤ z) (h2 : 0 ≤ v) (h3 : v < 4) (h4 : z * 4 + v < 9223372036854775808) : (bz z <<< ((iI 2).toInt64 &&& 63)) ||| (iI v).toInt64 = bz (z * 4 + v) := bz_or (k := 2) (by decide) h1 h2 h3 h4 (by omega)
theorem bz_o3 {z v : Int} (h1 : 0 ≤ z) (h2 : 0 ≤ v) (h3 : v < 8) (h4 : z * 8 + v < 9223372036854775808) : (bz z <<< ((iI 3).toInt64 &&& 63)) ||| (iI v).toInt64 = bz (z * 8 + v) := bz_or (k := 3) (by decide) h1 h2 h3 h4 (by omega)
theorem bz_o5 {z v : Int} (h1 : 0 ≤ z) (h2 : 0 ≤ v) (h3 : v < 32) (h4 : z * 32 + v < 9223372036854775808) : (bz z <<< ((iI 5).toInt64 &&& 63)) ||| (iI v).toInt64 = bz (z * 32 + v) := bz_or (k := 5) (by decide) h1 h2 h3 h4 (by omega)
theorem bz_shr {z : Int} {k : Nat} (hk : k < 64) (h1 : 0 ≤ z) (h2 : z < 9223372036854775808) : bz z >>> ((iI (k : Int)).toInt64 &&& 63) = bz (z / 2 ^ k) := by
  have e1 : (z / 2 ^ k).toNat = z.toNat / 2 ^ k := by
    have : ((z.toNat / 2 ^ k : Nat) : Int) = z / 2 ^ k := by
      rw [Int.natCast_ediv, Int.natCast_pow, show ((z.toNat : Nat) : Int) = z by omega]
      rfl
    rw [← this, Int.toNat_natCast]
  rw [bz_sh hk]
  unfold bz
  rw [bL_shr (by omega) hk, e1]
theorem bz_r5 {z : Int} (h1 : 0 ≤ z) (h2 : z < 9223372036854775808) : bz z >>> ((iI 5).toInt64 &&& 63) = bz (z / 32) := bz_shr (k := 5) (by decide) h1 h2
theorem bz_r8 {z : Int} (h1 : 0 ≤ z) (h2 : z < 9223372036854775808) : bz z >>> ((iI 8).toInt64 &&& 63) = bz (z / 256) := bz_shr (k := 8) (by decide) h1 h2
theorem bz_r11 {z : Int} (h1 : 0 ≤ z) (h2 : z < 9223372036854775808) : bz z >>> ((iI 11).toInt64 &&& 63) = bz (z / 2048) := bz_shr (k := 11) (by decide) h1 h2
theorem bz_r21 {z : Int} (h1 : 0 ≤ z) (h2 : z < 9223372036854775808) : bz z >>> ((iI 21).toInt64 &&& 63) = bz (z / 2097152) := bz_shr (k := 21) (by decide) h1 h2
theorem bz_and {z : Int} {k : Nat} (hk : k ≤ 63) (h1 : 0 ≤ z) (h2 : z < 9223372036854775808) : bz z &&& Int64.ofNat (2 ^ k - 1) = bz (z % 2 ^ k) := by
  have e1 : (z % 2 ^ k).toNat = z.toNat % 2 ^ k := by
    have : ((z.toNat % 2 ^ k : Nat) : Int) = z % 2 ^ k := by
      rw [Int.natCast_emod, Int.natCast_pow, show ((z.toNat : Nat) : Int) = z by omega]
      rfl
    rw [← this, Int.toNat_natCast]
  unfold bz
  rw [e1]
  exact bL_and (by omega) hk
theorem bz_a31 {z : Int} (h1 : 0 ≤ z) (h2 : z < 9223372036854775808) : bz z &&& Int64.ofNat 31 = bz (z % 32) := bz_and (k := 5) (by decide) h1 h2
theorem bz_a7 {z : Int} (h1 : 0 ≤ z) (h2 : z < 9223372036854775808) : bz z &&& Int64.ofNat 7 = bz (z % 8) := bz_and (k := 3) (by decide) h1 h2
theorem bz_a21 {z : Int} (h1 : 0 ≤ z) (h2 : z < 9223372036854775808) : bz z &&& Int64.ofNat 2097151 = bz (z % 2097152) := bz_and (k := 21) (by decide) h1 h2
theorem bz_l2i {z : Int} (h1 : 0 ≤ z) : (bz z).toInt32 = iI z := by
  have e := bL_l2i z.toNat
  rw [show ((z.toNat : Nat) : Int) = z by omega] at e
  exact e
theorem bz_0 : Int64.ofNat 0 = bz 0 := rfl
theorem jz_shr {z : Int} {k : Nat} (hk : k < 32) (h1 : 0 ≤ z) (h2 : z < 2147483648) : iI z >>> (iI (k : Int) &&& 31) = iI (z / 2 ^ k) := by
  have e := bJ_shr (z := z.toNat) (k := k) (by omega) hk
  unfold bJ at e
  rw [show ((z.toNat : Nat) : Int) = z by omega, Int.natCast_ediv, Int.natCast_pow, show ((z.toNat : Nat) : Int) = z by omega] at e
  exact e
theorem jz_and {z : Int} {k : Nat} (hk : k ≤ 31) (h1 : 0 ≤ z) (h2 : z < 2147483648) : iI z &&& iI ((2 ^ k - 1 : Nat) : Int) = iI (z % 2 ^ k) := by
  have e := bJ_and (z := z.toNat) (k := k) (by omega) hk
  unfold bJ at e
  rw [show ((z.toNat : Nat) : Int) = z by omega, Int.natCast_emod, Int.natCast_pow, show ((z.toNat : Nat) : Int) = z by omega] at e
  exact e
theorem jz_r5 {z : Int} (h1 : 0 ≤ z) (h2 : z < 2147483648) : iI z >>> (iI 5 &&& 31) = iI (z / 32) := jz_shr (k := 5) (by decide) h1 h2
theorem jz_r10 {z : Int} (h1 : 0 ≤ z) (h2 : z < 2147483648) : iI z >>> (iI 10 &&& 31) = iI (z / 1024) := jz_shr (k := 10) (by decide) h1 h2
theorem jz_r13 {z : Int} (h1 : 0 ≤ z) (h2 : z < 2147483648) : iI z >>> (iI 13 &&& 31) = iI (z / 8192) := jz_shr (k := 13) (by decide) h1 h2
theorem jz_r14 {z : Int} (h1 : 0 ≤ z) (h2 : z < 2147483648) : iI z >>> (iI 14 &&& 31) = iI (z / 16384) := jz_shr (k := 14) (by decide) h1 h2
theorem jz_r17 {z : Int} (h1 : 0 ≤ z) (h2 : z < 2147483648) : iI z >>> (iI 17 &&& 31) = iI (z / 131072) := jz_shr (k := 17) (by decide) h1 h2
theorem jz_r19 {z : Int} (h1 : 0 ≤ z) (h2 : z < 2147483648) : iI z >>> (iI 19 &&& 31) = iI (z / 524288) := jz_shr (k := 19) (by decide) h1 h2
theorem jz_a31 {z : Int} (h1 : 0 ≤ z) (h2 : z < 2147483648) : iI z &&& iI 31 = iI (z % 32) := jz_and (k := 5) (by decide) h1 h2
theorem jz_a7 {z : Int} (h1 : 0 ≤ z) (h2 : z < 2147483648) : iI z &&& iI 7 = iI (z % 8) := jz_and (k := 3) (by decide) h1 h2
theorem jz_a3 {z : Int} (h1 : 0 ≤ z) (h2 : z < 2147483648) : iI z &&& iI 3 = iI (z % 4) := jz_and (k := 2) (by decide) h1 h2
theorem jz_a1 {z : Int} (h1 : 0 ≤ z) (h2 : z < 2147483648) : iI z &&& iI 1 = iI (z % 2) := jz_and (k := 1) (by decide) h1 h2
theorem bz_upd {L : Int → Int} {z v : Int} (h1 : 0 ≤ z) (h2 : z < 2147483648) : vp_updL (fun j : Nat => bz (L j)) (iI z).toNatClampNeg (bz v) = fun j : Nat => bz (vI L z v j) := by
  have e := iI_ix h1 h2
  funext j
  unfold vp_updL vI
  by_cases hj : j = (iI z).toNatClampNeg
  · rw [if_pos hj, if_pos (by rw [hj]; exact e)]
  · rw [if_neg hj, if_neg (fun q => hj (by omega))]
theorem bz_eq {a b : Int} (h1 : 0 ≤ a) (h2 : a < 9223372036854775808) (h3 : 0 ≤ b) (h4 : b < 9223372036854775808) : (bz a = bz b) = (a = b) := propext ⟨fun h => by
  unfold bz at h
  rw [bL_inj (by omega) (by omega)] at h
  omega, fun h => by rw [h]⟩
