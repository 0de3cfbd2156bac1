-- INTS AND LONGS BY THEIR NUMBERS: what an operation's answer is, as an Int
theorem bm64 {a : Int} (h1 : -9223372036854775808 ≤ a) (h2 : a < 9223372036854775808) : a.bmod (2 ^ 64) = a := by
  rw [Int.bmod_def]
  split <;> omega
theorem bm32 {a : Int} (h1 : -2147483648 ≤ a) (h2 : a < 2147483648) : a.bmod (2 ^ 32) = a := by
  rw [Int.bmod_def]
  split <;> omega
theorem l_add {x y : Int64} {a b : Int} (hx : x.toInt = a) (hy : y.toInt = b) (h1 : -9223372036854775808 ≤ a + b) (h2 : a + b < 9223372036854775808) : (x + y).toInt = a + b := by
  rw [Int64.toInt_add, hx, hy, bm64 h1 h2]
theorem l_sub {x y : Int64} {a b : Int} (hx : x.toInt = a) (hy : y.toInt = b) (h1 : -9223372036854775808 ≤ a - b) (h2 : a - b < 9223372036854775808) : (x - y).toInt = a - b := by
  rw [Int64.toInt_sub, hx, hy, bm64 h1 h2]
theorem l_mul {x y : Int64} {a b : Int} (hx : x.toInt = a) (hy : y.toInt = b) (h1 : -9223372036854775808 ≤ a * b) (h2 : a * b < 9223372036854775808) : (x * y).toInt = a * b := by
  rw [Int64.toInt_mul, hx, hy, bm64 h1 h2]
theorem l_i2l {x : Int32} {a : Int} (hx : x.toInt = a) : x.toInt64.toInt = a := by
  rw [Int32.toInt_toInt64, hx]
theorem l_l2i {x : Int64} {a : Int} (hx : x.toInt = a) (h1 : -2147483648 ≤ a) (h2 : a < 2147483648) : x.toInt32.toInt = a := by
  rw [Int64.toInt_toInt32, hx, bm32 h1 h2]
theorem i_add {x y : Int32} {a b : Int} (hx : x.toInt = a) (hy : y.toInt = b) (h1 : -2147483648 ≤ a + b) (h2 : a + b < 2147483648) : (x + y).toInt = a + b := by
  rw [Int32.toInt_add, hx, hy, bm32 h1 h2]
theorem i_sub {x y : Int32} {a b : Int} (hx : x.toInt = a) (hy : y.toInt = b) (h1 : -2147483648 ≤ a - b) (h2 : a - b < 2147483648) : (x - y).toInt = a - b := by
  rw [Int32.toInt_sub, hx, hy, bm32 h1 h2]
theorem i_mul {x y : Int32} {a b : Int} (hx : x.toInt = a) (hy : y.toInt = b) (h1 : -2147483648 ≤ a * b) (h2 : a * b < 2147483648) : (x * y).toInt = a * b := by
  rw [Int32.toInt_mul, hx, hy, bm32 h1 h2]
/-- a long's number, modulo a power of two -/
theorem l_tn (x : Int64) : x.toInt % 18446744073709551616 = (x.toBitVec.toNat : Int) := by
  have h : x.toInt = x.toBitVec.toInt := rfl
  have h2 := x.toBitVec.isLt
  rw [h, BitVec.toInt_eq_toNat_bmod, Int.bmod_def]
  split <;> omega
theorem l_and31 (x : Int64) : (x &&& 2147483647).toInt = x.toInt % 2147483648 := by
  have h0 := l_tn x
  have h1 : (x &&& 2147483647).toBitVec.toNat = x.toBitVec.toNat % 2147483648 := by
    rw [Int64.toBitVec_and, BitVec.toNat_and]
    exact Nat.and_two_pow_sub_one_eq_mod _ 31
  have h2 := l_tn (x &&& 2147483647)
  have h3 : (x &&& 2147483647).toInt = (x &&& 2147483647).toBitVec.toInt := rfl
  rw [BitVec.toInt_eq_toNat_bmod, h1, Int.bmod_def] at h3
  rw [h3]
  split <;> omega
theorem l_shr (x s : Int64) (k : Nat) (hs : (s.toBitVec.smod 64).toNat = k) : (x >>> s).toInt = x.toInt / ((2 ^ k : Nat) : Int) := by
  rw [← Int.shiftRight_eq_div_pow]
  show (x.toBitVec.sshiftRight (s.toBitVec.smod 64).toNat).toInt = _
  rw [hs, BitVec.toInt_sshiftRight]
  rfl
theorem l_shr31 (x : Int64) : (x >>> ((31 : Int32).toInt64 &&& 63)).toInt = x.toInt / 2147483648 := l_shr x _ 31 (by decide)
theorem l_eqI {x y : Int64} (h : x.toInt = y.toInt) : x = y := Int64.toInt_inj.mp h
theorem i_eqI {x y : Int32} (h : x.toInt = y.toInt) : x = y := Int32.toInt_inj.mp h
theorem i_lo (x : Int32) : -2147483648 ≤ x.toInt := Int32.le_toInt x
theorem i_hi (x : Int32) : x.toInt < 2147483648 := Int32.toInt_lt x
theorem l_lo (x : Int64) : -9223372036854775808 ≤ x.toInt := Int64.le_toInt x
theorem l_hi (x : Int64) : x.toInt < 9223372036854775808 := Int64.toInt_lt x
theorem i_le {x y : Int32} : x ≤ y ↔ x.toInt ≤ y.toInt := Int32.le_iff_toInt_le
theorem i_lt {x y : Int32} : x < y ↔ x.toInt < y.toInt := Int32.lt_iff_toInt_lt
theorem l_le {x y : Int64} : x ≤ y ↔ x.toInt ≤ y.toInt := Int64.le_iff_toInt_le
theorem l_lt {x y : Int64} : x < y ↔ x.toInt < y.toInt := Int64.lt_iff_toInt_lt
theorem i_cl {x : Int32} (h : 0 ≤ x.toInt) : (x.toNatClampNeg : Int) = x.toInt := by
  show ((x.toInt.toNat : Nat) : Int) = _
  omega
theorem i_clN {x : Int32} {n : Nat} (h : x.toInt = n) : x.toNatClampNeg = n := by
  show x.toInt.toNat = n
  omega
theorem i_nI {x : Int32} {n : Nat} (h : x.toInt = n) : x = nI n := by
  have h2 := i_hi x
  apply i_eqI
  rw [h, nI_toInt (by omega)]
