/-! numbers: an int is Int32.ofInt of a mathematical one, a long Int64.ofInt -/
theorem zn_toI {x : Int} (h : -2147483648 ≤ x ∧ x ≤ 2147483647) : (Int32.ofInt x).toInt = x := by
  rw [Int32.toInt_ofInt]
  show Int.bmod x 4294967296 = x
  rw [Int.bmod_eq_of_le] <;> omega
theorem zn_toJ {x : Int} (h : -9223372036854775808 ≤ x ∧ x ≤ 9223372036854775807) : (Int64.ofInt x).toInt = x := by
  rw [Int64.toInt_ofInt]
  show Int.bmod x 18446744073709551616 = x
  rw [Int.bmod_eq_of_le] <;> omega
theorem zn_self (x : Int32) : Int32.ofInt x.toInt = x := Int32.ofInt_toInt x
theorem zn_selfJ (x : Int64) : Int64.ofInt x.toInt = x := Int64.ofInt_toInt x
theorem zn_add (x y : Int) : Int32.ofInt (x + y) = Int32.ofInt x + Int32.ofInt y := Int32.ofInt_add x y
theorem zn_sub (x y : Int) : Int32.ofInt (x - y) = Int32.ofInt x - Int32.ofInt y := Int32.ofInt_sub x y
theorem zn_mul (x y : Int) : Int32.ofInt (x * y) = Int32.ofInt x * Int32.ofInt y := Int32.ofInt_mul x y
theorem zn_addJ (x y : Int) : Int64.ofInt (x + y) = Int64.ofInt x + Int64.ofInt y := Int64.ofInt_add x y
theorem zn_subJ (x y : Int) : Int64.ofInt (x - y) = Int64.ofInt x - Int64.ofInt y := Int64.ofInt_sub x y
theorem zn_bd (x : Int32) : -2147483648 ≤ x.toInt ∧ x.toInt ≤ 2147483647 := by
  have h1 := x.le_toInt
  have h2 := x.toInt_lt
  omega
theorem zn_bdJ (x : Int64) : -9223372036854775808 ≤ x.toInt ∧ x.toInt ≤ 9223372036854775807 := by
  have h1 := x.le_toInt
  have h2 := x.toInt_lt
  omega
theorem zn_lt {x y : Int} (hx : -2147483648 ≤ x ∧ x ≤ 2147483647) (hy : -2147483648 ≤ y ∧ y ≤ 2147483647) : Int32.ofInt x < Int32.ofInt y ↔ x < y := by
  rw [Int32.lt_iff_toInt_lt, zn_toI hx, zn_toI hy]
theorem zn_le {x y : Int} (hx : -2147483648 ≤ x ∧ x ≤ 2147483647) (hy : -2147483648 ≤ y ∧ y ≤ 2147483647) : Int32.ofInt x ≤ Int32.ofInt y ↔ x ≤ y := by
  rw [Int32.le_iff_toInt_le, zn_toI hx, zn_toI hy]
theorem zn_eq {x y : Int} (hx : -2147483648 ≤ x ∧ x ≤ 2147483647) (hy : -2147483648 ≤ y ∧ y ≤ 2147483647) : Int32.ofInt x = Int32.ofInt y ↔ x = y := by
  rw [← Int32.toInt_inj, zn_toI hx, zn_toI hy]
theorem zn_z : (0 : Int32) = Int32.ofInt 0 := by decide
theorem zn_clamp {x : Int} (hx : 0 ≤ x ∧ x ≤ 2147483647) : (Int32.ofInt x).toNatClampNeg = x.toNat := by
  show (Int32.ofInt x).toInt.toNat = x.toNat
  rw [zn_toI (by omega)]
theorem zn_in {x : Int} {n : Nat} (h : 0 ≤ x ∧ x < (n : Int)) (hn : n ≤ 2147483647) : ¬ (Int32.ofInt x < 0 ∨ n ≤ (Int32.ofInt x).toNatClampNeg) := by
  rw [zn_clamp (by omega), zn_z, zn_lt (by omega) (by omega)]
  omega
theorem zn_neg {x : Int} (h : 0 ≤ x ∧ x ≤ 2147483647) : ¬ Int32.ofInt x < 0 := by
  rw [zn_z, zn_lt (by omega) (by omega)]
  omega
theorem zn_div {x : Int} (hx : 0 ≤ x ∧ x ≤ 2147483647) {d : Int} (hd : 0 < d ∧ d ≤ 2147483647) : Int32.ofInt x / Int32.ofInt d = Int32.ofInt (x / d) := by
  rw [← Int32.toInt_inj, Int32.toInt_div, zn_toI (by omega), zn_toI (by omega)]
  have h0 : 0 ≤ x / d := Int.ediv_nonneg hx.1 (by omega)
  have h1 : x / d ≤ x := Int.ediv_le_self d hx.1
  rw [zn_toI (by omega), Int.tdiv_eq_ediv_of_nonneg hx.1]
  show Int.bmod (x / d) 4294967296 = _
  rw [Int.bmod_eq_of_le] <;> omega
theorem zn_nz {x : Int} (h : 0 < x ∧ x ≤ 2147483647) : ¬ Int32.ofInt x = 0 := by
  rw [zn_z, zn_eq (by omega) (by omega)]
  omega
theorem zn_i2l {x : Int} (h : -2147483648 ≤ x ∧ x ≤ 2147483647) : (Int32.ofInt x).toInt64 = Int64.ofInt x := by
  rw [← Int64.toInt_inj, Int32.toInt_toInt64, zn_toI h, zn_toJ (by omega)]
theorem zn_l2i (x : Int) : (Int64.ofInt x).toInt32 = Int32.ofInt x := by
  rw [← Int32.toInt_inj, Int64.toInt_toInt32, Int64.toInt_ofInt, Int32.toInt_ofInt]
  show Int.bmod (Int.bmod x 18446744073709551616) 4294967296 = Int.bmod x 4294967296
  exact Int.bmod_bmod_of_dvd (by decide)
theorem zn_ltJ {x y : Int} (hx : -9223372036854775808 ≤ x ∧ x ≤ 9223372036854775807) (hy : -9223372036854775808 ≤ y ∧ y ≤ 9223372036854775807) : Int64.ofInt x < Int64.ofInt y ↔ x < y := by
  rw [Int64.lt_iff_toInt_lt, zn_toJ hx, zn_toJ hy]
theorem zn_eqJ {x y : Int} (hx : -9223372036854775808 ≤ x ∧ x ≤ 9223372036854775807) (hy : -9223372036854775808 ≤ y ∧ y ≤ 9223372036854775807) : Int64.ofInt x = Int64.ofInt y ↔ x = y := by
  rw [← Int64.toInt_inj, zn_toJ hx, zn_toJ hy]
