/-! Whole numbers behind the ints: iI z. Contents of arrays are functions of whole numbers. -/
def iI (z : Int) : Int32 := Int32.ofInt z
theorem iI_add (a b : Int) : iI a + iI b = iI (a + b) := (Int32.ofInt_add a b).symm
theorem iI_sub (a b : Int) : iI a - iI b = iI (a - b) := (Int32.ofInt_sub a b).symm
theorem iI_mul (a b : Int) : iI a * iI b = iI (a * b) := (Int32.ofInt_mul a b).symm
theorem iI_neg (a : Int) : -iI a = iI (-a) := (Int32.ofInt_neg a).symm
theorem iI_t {z : Int} (h1 : -2147483648 ≤ z) (h2 : z < 2147483648) : (iI z).toInt = z := Int32.toInt_ofInt_of_le h1 h2
theorem iI_lt {a b : Int} (h1 : -2147483648 ≤ a) (h2 : a < 2147483648) (h3 : -2147483648 ≤ b) (h4 : b < 2147483648) : (iI a < iI b) = (a < b) := propext (by rw [Int32.lt_iff_toInt_lt, iI_t h1 h2, iI_t h3 h4])
theorem iI_le {a b : Int} (h1 : -2147483648 ≤ a) (h2 : a < 2147483648) (h3 : -2147483648 ≤ b) (h4 : b < 2147483648) : (iI a ≤ iI b) = (a ≤ b) := propext (by rw [Int32.le_iff_toInt_le, iI_t h1 h2, iI_t h3 h4])
theorem iI_eq {a b : Int} (h1 : -2147483648 ≤ a) (h2 : a < 2147483648) (h3 : -2147483648 ≤ b) (h4 : b < 2147483648) : (iI a = iI b) = (a = b) := propext (by rw [← Int32.toInt_inj, iI_t h1 h2, iI_t h3 h4])
theorem iI_z : (0 : Int32) = iI 0 := Eq.trans rfl rfl
theorem iI_lt0 {a : Int} (h1 : -2147483648 ≤ a) (h2 : a < 2147483648) : (iI a < 0) = (a < 0) := by rw [iI_z]; exact iI_lt h1 h2 (by decide) (by decide)
theorem iI_0lt {a : Int} (h1 : -2147483648 ≤ a) (h2 : a < 2147483648) : (0 < iI a) = (0 < a) := by rw [iI_z]; exact iI_lt (by decide) (by decide) h1 h2
theorem iI_le0 {a : Int} (h1 : -2147483648 ≤ a) (h2 : a < 2147483648) : (iI a ≤ 0) = (a ≤ 0) := by rw [iI_z]; exact iI_le h1 h2 (by decide) (by decide)
theorem iI_0le {a : Int} (h1 : -2147483648 ≤ a) (h2 : a < 2147483648) : (0 ≤ iI a) = (0 ≤ a) := by rw [iI_z]; exact iI_le (by decide) (by decide) h1 h2
theorem iI_eq0 {a : Int} (h1 : -2147483648 ≤ a) (h2 : a < 2147483648) : (iI a = 0) = (a = 0) := by rw [iI_z]; exact iI_eq h1 h2 (by decide) (by decide)
theorem iI_eq1 {a : Int} (h1 : -2147483648 ≤ a) (h2 : a < 2147483648) : (iI a = 1) = (a = 1) := iI_eq (b := 1) h1 h2 (by decide) (by decide)
/-- an index, as a whole number -/
theorem iI_ix {z : Int} (h1 : 0 ≤ z) (h2 : z < 2147483648) : (((iI z).toNatClampNeg : Nat) : Int) = z := by
  show (((iI z).toInt.toNat : Nat) : Int) = z
  rw [iI_t (by omega) h2]
  omega
theorem iI_bad {z : Int} {n : Nat} (h1 : -2147483648 ≤ z) (h2 : z < 2147483648) : (iI z < 0 ∨ n ≤ (iI z).toNatClampNeg) = (z < 0 ∨ (n : Int) ≤ z) := by
  rw [iI_lt0 h1 h2]
  show (z < 0 ∨ n ≤ (iI z).toInt.toNat) = _
  rw [iI_t h1 h2]
  exact propext (by omega)
theorem iI_nle {z : Int} {n : Nat} (h1 : 0 ≤ z) (h2 : z < 2147483648) : (n ≤ (iI z).toNatClampNeg) = ((n : Int) ≤ z) := by
  have e := iI_ix h1 h2
  exact propext (by omega)
theorem am_ft_i {x : Int32} : am_ft 0 (.int x) = true := Eq.trans rfl rfl
theorem am_ft_r {x : Nat} : am_ft 2 (.ref x) = true := Eq.trans rfl rfl
theorem am_ft_z {z : Int} (h : z = 0 ∨ z = 1) : am_ft 3 (.int (iI z)) = true := by
  rcases h with rfl | rfl <;> rfl
theorem iI_c (n : Int) : Int32.ofInt n = iI n := Eq.trans rfl rfl
theorem iI_n (n : Nat) : Int32.ofNat n = iI n := Eq.trans rfl rfl
theorem iI_b {n : Int} (h1 : -128 ≤ n) (h2 : n < 128) : (Int8.ofInt n).toInt32 = iI n := by
  rw [← Int32.toInt_inj, iI_t (by omega) (by omega), Int8.toInt_toInt32]
  exact Int8.toInt_ofInt_of_le h1 h2
theorem iI_s {n : Int} (h1 : -32768 ≤ n) (h2 : n < 32768) : (Int16.ofInt n).toInt32 = iI n := by
  rw [← Int32.toInt_inj, iI_t (by omega) (by omega), Int16.toInt_toInt32]
  exact Int16.toInt_ofInt_of_le h1 h2
theorem iI_all (x : Int32) : ∃ z : Int, x = iI z ∧ -2147483648 ≤ z ∧ z < 2147483648 := ⟨x.toInt, (Int32.ofInt_toInt x).symm, Int32.le_toInt x, Int32.toInt_lt x⟩
/-- a function changed at a place -/
def vI {α : Type} (f : Int → α) (k : Int) (v : α) : Int → α := fun y => if y = k then v else f y
theorem vI_hit {α : Type} {f : Int → α} {k : Int} {v : α} : vI f k v k = v := if_pos rfl
theorem vI_miss {α : Type} {f : Int → α} {i k : Int} {v : α} (h : i ≠ k) : vI f k v i = f i := if_neg h
theorem vI_same {α : Type} {f : Int → α} {k : Int} : vI f k (f k) = f := by
  funext y
  unfold vI
  split
  · rename_i h
    rw [h]
  · rfl
theorem vI_vI {α : Type} {f : Int → α} {k : Int} {v w : α} : vI (vI f k v) k w = vI f k w := by
  funext y
  unfold vI
  split <;> rfl
theorem iI_upd {S : Int → Int} {z v : Int} (h1 : 0 ≤ z) (h2 : z < 2147483648) : upd (fun j : Nat => iI (S j)) (iI z).toNatClampNeg (iI v) = fun j : Nat => iI (vI S z v j) := by
  have e := iI_ix h1 h2
  funext j
  unfold upd vI
  by_cases hj : j = (iI z).toNatClampNeg
  · rw [if_pos hj, if_pos (by rw [hj]; exact e)]
  · rw [if_neg hj, if_neg (fun q => hj (by omega))]
theorem iI_updZ {S : Int → Int} {z v : Int} (h1 : 0 ≤ z) (h2 : z < 2147483648) (hv : v = 0 ∨ v = 1) : upd (fun j : Nat => iI (S j)) (iI z).toNatClampNeg (vp_nar .boolean (iI v)) = fun j : Nat => iI (vI S z v j) := by
  have e : vp_nar .boolean (iI v) = iI v := by rcases hv with rfl | rfl <;> rfl
  rw [e]
  exact iI_upd h1 h2
