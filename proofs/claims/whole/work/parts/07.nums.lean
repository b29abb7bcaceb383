/-! whole numbers: what an int's value is behind an instruction -/
theorem i_add {x y : Int32} (h : -2147483648 ≤ x.toInt + y.toInt ∧ x.toInt + y.toInt < 2147483648) : (x + y).toInt = x.toInt + y.toInt := by
  rw [Int32.toInt_add]; exact Int.bmod_eq_of_le (by omega) (by omega)
theorem i_sub {x y : Int32} (h : -2147483648 ≤ x.toInt - y.toInt ∧ x.toInt - y.toInt < 2147483648) : (x - y).toInt = x.toInt - y.toInt := by
  rw [Int32.toInt_sub]; exact Int.bmod_eq_of_le (by omega) (by omega)
theorem i_mul {x y : Int32} (h : -2147483648 ≤ x.toInt * y.toInt ∧ x.toInt * y.toInt < 2147483648) : (x * y).toInt = x.toInt * y.toInt := by
  rw [Int32.toInt_mul]; exact Int.bmod_eq_of_le (by omega) (by omega)
theorem i_rng (x : Int32) : -2147483648 ≤ x.toInt ∧ x.toInt < 2147483648 := ⟨Int32.le_toInt x, Int32.toInt_lt x⟩
theorem i_in {x : Int32} {n : Nat} (h : 0 ≤ x.toInt ∧ x.toInt < n) : vp_in x n := by
  intro hh
  rcases hh with hh | hh
  · have := Int32.lt_iff_toInt_lt.mp hh
    have h0 : (0 : Int32).toInt = 0 := rfl
    omega
  · have : x.toNatClampNeg = x.toInt.toNat := rfl
    omega
def bn (x : Int32) : Nat := x.toBitVec.toNat
theorem bn_and (x y : Int32) : bn (x &&& y) = bn x &&& bn y := by simp [bn]
theorem bn_or (x y : Int32) : bn (x ||| y) = bn x ||| bn y := by simp [bn]
theorem bn_xor (x y : Int32) : bn (x ^^^ y) = bn x ^^^ bn y := by simp [bn]
theorem bn_add (x y : Int32) : bn (x + y) = (bn x + bn y) % 4294967296 := by simp [bn]
theorem bn_lt (x : Int32) : bn x < 4294967296 := x.toBitVec.isLt
theorem i_bn {x : Int32} (h : bn x < 2147483648) : x.toInt = bn x := by
  have h1 : x.toInt = x.toBitVec.toInt := rfl
  rw [h1, BitVec.toInt_eq_toNat_of_lt (by show 2 * bn x < 2 ^ 32; omega)]; rfl
theorem i_bn2 {x : Int32} (h : 0 ≤ x.toInt) : (bn x : Int) = x.toInt := by
  have h1 : x.toInt = x.toBitVec.toInt := rfl
  rw [h1, BitVec.toInt_eq_toNat_cond] at h ⊢
  split at h
  · rename_i h2; rw [if_pos h2]; rfl
  · have := x.toBitVec.isLt; omega
theorem bn_toNat {x : Int32} (h : 0 ≤ x.toInt) : bn x = x.toInt.toNat := by have := i_bn2 h; omega
theorem i_ext {x y : Int32} (h : x.toInt = y.toInt) : x = y := Int32.toInt_inj.mp h
def i_ushr (x y : Int32) : Int32 := (x.toUInt32 >>> (y.toUInt32 &&& Int32.toUInt32 31)).toInt32
