/-! pure words: bits of sets. A set is a number 0 .. 65535; zp2 b its member b alone -/
def zp2 (b : Int) : Int := 2 ^ b.toNat
theorem zn_nat (n : Nat) : Int32.ofInt (n : Int) = nI n := rfl
theorem zn_natJ (n : Nat) : Int64.ofInt (n : Int) = lN n := rfl
theorem zp2_nat (b : Int) : zp2 b = ((2 ^ b.toNat : Nat) : Int) := by
  unfold zp2
  rw [Int.natCast_pow]
  rfl
theorem zp2_pos (b : Int) : 0 < zp2 b := by
  rw [zp2_nat]
  have := Nat.two_pow_pos b.toNat
  omega
theorem zp2_0 : zp2 0 = 1 := rfl
theorem zp2_s {b : Int} (h : 0 ≤ b) : zp2 (b + 1) = 2 * zp2 b := by
  unfold zp2
  rw [show (b + 1).toNat = b.toNat + 1 by omega, Int.pow_succ]
  omega
theorem zp2_le {a b : Int} (h : a ≤ b) : zp2 a ≤ zp2 b := by
  rw [zp2_nat, zp2_nat]
  have := Nat.pow_le_pow_right (n := 2) (by omega) (show a.toNat ≤ b.toNat by omega)
  omega
theorem zp2_30 {b : Int} (h : b ≤ 30) : zp2 b ≤ 1073741824 := zp2_le (b := 30) h
/-- the member b of a set: 1 or 0 -/
def zbit (x b : Int) : Int := x / zp2 b % 2
theorem zbit_b (x b : Int) : zbit x b = 0 ∨ zbit x b = 1 := by
  unfold zbit
  omega
theorem zsm (k : Nat) (hk : k < 32) : ((nI k &&& 31).toBitVec.smod 32).toNat = k := by
  revert hk
  revert k
  decide +kernel
theorem zshl_1 {b : Int} (h : 0 ≤ b ∧ b ≤ 30) : zshl 1 b = zp2 b := by
  unfold zshl
  have e : Int32.ofInt 1 <<< (Int32.ofInt b &&& 31) = nI (1 * 2 ^ b.toNat) := by
    rw [show Int32.ofInt b = nI b.toNat by rw [← zn_nat]; rw [show ((b.toNat : Nat) : Int) = b by omega]]
    refine pk_shlN (n := 1) _ b.toNat (zsm _ (by omega)) ?_
    have := Nat.pow_lt_pow_right (a := 2) (by omega) (show b.toNat < 32 by omega)
    omega
  rw [e, Nat.one_mul, nI_toInt, zp2_nat]
  exact Nat.pow_lt_pow_right (by omega) (by omega)
theorem zshr_n {x b : Int} (hx : 0 ≤ x ∧ x ≤ 2147483647) (h : 0 ≤ b ∧ b ≤ 30) : zshr x b = x / zp2 b := by
  unfold zshr
  have e : Int32.ofInt x >>> (Int32.ofInt b &&& 31) = nI (x.toNat / 2 ^ b.toNat) := by
    rw [show Int32.ofInt b = nI b.toNat by rw [← zn_nat]; rw [show ((b.toNat : Nat) : Int) = b by omega], show Int32.ofInt x = nI x.toNat by rw [← zn_nat]; rw [show ((x.toNat : Nat) : Int) = x by omega]]
    exact pk_shrN (n := x.toNat) (by omega) _ b.toNat (zsm _ (by omega))
  have h2 := Nat.div_le_self x.toNat (2 ^ b.toNat)
  rw [e, nI_toInt (by omega), zp2_nat, Int.natCast_ediv, show ((x.toNat : Nat) : Int) = x by omega]
theorem zn_and (a b : Nat) : nI a &&& nI b = nI (a &&& b) := by
  apply Int32.toBitVec_inj.mp
  show BitVec.ofNat 32 a &&& BitVec.ofNat 32 b = BitVec.ofNat 32 (a &&& b)
  rw [BitVec.ofNat_and]
theorem zn_or (a b : Nat) : nI a ||| nI b = nI (a ||| b) := by
  apply Int32.toBitVec_inj.mp
  show BitVec.ofNat 32 a ||| BitVec.ofNat 32 b = BitVec.ofNat 32 (a ||| b)
  rw [BitVec.ofNat_or]
theorem zn_xor (a b : Nat) : nI a ^^^ nI b = nI (a ^^^ b) := by
  apply Int32.toBitVec_inj.mp
  show BitVec.ofNat 32 a ^^^ BitVec.ofNat 32 b = BitVec.ofNat 32 (a ^^^ b)
  rw [BitVec.ofNat_xor]
theorem zn_nn {x : Int} (h : 0 ≤ x) : Int32.ofInt x = nI x.toNat := by
  rw [← zn_nat, show ((x.toNat : Nat) : Int) = x by omega]
theorem zand_n {x y : Int} (hx : 0 ≤ x ∧ x ≤ 2147483647) (hy : 0 ≤ y ∧ y ≤ 2147483647) : zand x y = ((x.toNat &&& y.toNat : Nat) : Int) := by
  unfold zand
  rw [zn_nn hx.1, zn_nn hy.1, zn_and, nI_toInt]
  exact Nat.lt_of_le_of_lt Nat.and_le_left (by omega)
theorem zor_n {x y : Int} (hx : 0 ≤ x ∧ x ≤ 2147483647) (hy : 0 ≤ y ∧ y ≤ 2147483647) : zor x y = ((x.toNat ||| y.toNat : Nat) : Int) := by
  unfold zor
  rw [zn_nn hx.1, zn_nn hy.1, zn_or, nI_toInt]
  exact Nat.or_lt_two_pow (by omega) (by omega)
theorem zxor_n {x y : Int} (hx : 0 ≤ x ∧ x ≤ 2147483647) (hy : 0 ≤ y ∧ y ≤ 2147483647) : zxor x y = ((x.toNat ^^^ y.toNat : Nat) : Int) := by
  unfold zxor
  rw [zn_nn hx.1, zn_nn hy.1, zn_xor, nI_toInt]
  exact Nat.xor_lt_two_pow (by omega) (by omega)
theorem zand_1 {x : Int} (hx : 0 ≤ x ∧ x ≤ 2147483647) : zand x 1 = x % 2 := by
  rw [zand_n hx (by omega), show (1 : Int).toNat = 1 from rfl, Nat.and_one_is_mod]
  omega
theorem zand_15 {x : Int} (hx : 0 ≤ x ∧ x ≤ 2147483647) : zand x 15 = x % 16 := by
  rw [zand_n hx (by omega), show (15 : Int).toNat = 2 ^ 4 - 1 from rfl, Nat.and_two_pow_sub_one_eq_mod]
  omega
theorem zbit_t {x b : Int} (hx : 0 ≤ x) : zbit x b = 1 ↔ x.toNat.testBit b.toNat = true := by
  unfold zbit
  rw [zp2_nat, Nat.testBit_eq_decide_div_mod_eq, decide_eq_true_eq]
  have e : x / ((2 ^ b.toNat : Nat) : Int) = ((x.toNat / 2 ^ b.toNat : Nat) : Int) := by
    rw [Int.natCast_ediv, show ((x.toNat : Nat) : Int) = x by omega]
  rw [e]
  omega
/-- what the walk asks: is b in the set -/
theorem zand_bit {x b : Int} (hx : 0 ≤ x ∧ x ≤ 2147483647) (h : 0 ≤ b ∧ b ≤ 30) : zand (zshr x b) 1 = zbit x b := by
  have h0 := zp2_pos b
  have h1 : 0 ≤ x / zp2 b := Int.ediv_nonneg hx.1 (by omega)
  have h2 : x / zp2 b ≤ x := Int.ediv_le_self _ hx.1
  rw [zshr_n hx h, zand_1 (by omega)]
  rfl
theorem znb_add {a b : Nat} (h : a.testBit b = false) : a + 2 ^ b = a ||| 2 ^ b ∧ a ^^^ 2 ^ b = a ||| 2 ^ b := by
  have hd : a = 2 ^ b * (a / 2 ^ b) + a % 2 ^ b := (Nat.div_add_mod a (2 ^ b)).symm
  have hl : a % 2 ^ b < 2 ^ b := Nat.mod_lt _ (Nat.two_pow_pos b)
  have hb : a / 2 ^ b % 2 = 0 := by
    rw [Nat.testBit_eq_decide_div_mod_eq] at h
    have := of_decide_eq_false h
    omega
  generalize a / 2 ^ b = q at hd hb
  generalize a % 2 ^ b = l at hd hl
  have e1 : a + 2 ^ b = 2 ^ b * (q + 1) + l := by rw [hd, Nat.mul_add]; omega
  have t : ∀ i, a.testBit i = if i < b then l.testBit i else q.testBit (i - b) := fun i => by rw [hd, Nat.testBit_two_pow_mul_add _ hl]
  have t1 : ∀ i, (a + 2 ^ b).testBit i = if i < b then l.testBit i else (q + 1).testBit (i - b) := fun i => by rw [e1, Nat.testBit_two_pow_mul_add _ hl]
  have key : ∀ j, (q + 1).testBit j = (q.testBit j || decide (j = 0)) := by
    intro j
    cases j with
    | zero => simp [Nat.testBit_zero]; omega
    | succ j =>
      rw [Nat.testBit_succ, Nat.testBit_succ, show (q + 1) / 2 = q / 2 by omega]
      simp
  constructor
  · apply Nat.eq_of_testBit_eq
    intro i
    rw [t1, Nat.testBit_or, t, Nat.testBit_two_pow]
    by_cases hi : i < b
    · rw [if_pos hi, if_pos hi]
      simp
      omega
    · rw [if_neg hi, if_neg hi, key]
      congr 1
      apply decide_eq_decide.mpr
      omega
  · apply Nat.eq_of_testBit_eq
    intro i
    rw [Nat.testBit_xor, Nat.testBit_or, Nat.testBit_two_pow]
    by_cases hi : b = i
    · subst hi
      rw [h]
      simp
    · simp [hi]
theorem zbit_lt {x b : Int} (hx : 0 ≤ x) (h : zbit x b = 1) : zp2 b ≤ x := by
  unfold zbit at h
  have h0 := zp2_pos b
  have h1 : 0 < x / zp2 b := by
    have : 0 ≤ x / zp2 b := Int.ediv_nonneg hx (by omega)
    omega
  have := Int.ediv_mul_le x (b := zp2 b) (by omega)
  have h2 : 1 * zp2 b ≤ x / zp2 b * zp2 b := Int.mul_le_mul_of_nonneg_right (by omega) (by omega)
  omega
theorem zor_in {x b : Int} (hx : 0 ≤ x ∧ x ≤ 1073741823) (hb : 0 ≤ b ∧ b ≤ 30) (h : zbit x b = 0) : zor x (zp2 b) = x + zp2 b := by
  have h0 := zp2_30 hb.2
  have h1 := zp2_pos b
  rw [zor_n (by omega) (by omega)]
  have hf : x.toNat.testBit b.toNat = false := by
    cases e : x.toNat.testBit b.toNat with
    | false => rfl
    | true => rw [← zbit_t hx.1] at e; omega
  have := (znb_add hf).1
  have e2 : (zp2 b).toNat = 2 ^ b.toNat := by rw [zp2_nat]; exact Int.toNat_natCast _
  rw [e2, ← this, ← e2]
  omega
theorem zbit_sub {x b : Int} (hx : 0 ≤ x) (h : zbit x b = 1) : zbit (x - zp2 b) b = 0 := by
  unfold zbit at *
  have h0 := zp2_pos b
  have : (x - zp2 b) / zp2 b = x / zp2 b - 1 := by
    rw [show x - zp2 b = x + (-1) * zp2 b by omega, Int.add_mul_ediv_right _ _ (by omega)]
    omega
  rw [this]
  omega
theorem zxor_out {x b : Int} (hx : 0 ≤ x ∧ x ≤ 1073741823) (hb : 0 ≤ b ∧ b ≤ 30) (h : zbit x b = 1) : zxor x (zp2 b) = x - zp2 b := by
  have h0 := zp2_30 hb.2
  have h1 := zp2_pos b
  have h2 := zbit_lt hx.1 h
  have h3 := zbit_sub hx.1 h
  have hf : (x - zp2 b).toNat.testBit b.toNat = false := by
    cases e : (x - zp2 b).toNat.testBit b.toNat with
    | false => rfl
    | true => rw [← zbit_t (by omega)] at e; omega
  have e2 : (zp2 b).toNat = 2 ^ b.toNat := by rw [zp2_nat]; exact Int.toNat_natCast _
  have h4 := znb_add hf
  rw [zxor_n (by omega) (by omega), e2]
  have h5 : x.toNat = (x - zp2 b).toNat ^^^ 2 ^ b.toNat := by
    rw [h4.2, ← h4.1, ← e2]
    omega
  rw [h5, Nat.xor_assoc, Nat.xor_self, Nat.xor_zero]
  omega
theorem zbit_o {x b c : Int} (hx : 0 ≤ x) (hb : 0 ≤ b) (hc : 0 ≤ c) (hbc : b ≠ c) (h : zbit x b = 0) : zbit (x + zp2 b) c = zbit x c := by
  have h1 := zp2_pos b
  have hf : x.toNat.testBit b.toNat = false := by
    cases e : x.toNat.testBit b.toNat with
    | false => rfl
    | true => rw [← zbit_t hx] at e; omega
  have e2 : (zp2 b).toNat = 2 ^ b.toNat := by rw [zp2_nat]; exact Int.toNat_natCast _
  have h4 := (znb_add hf).1
  have e3 : (x + zp2 b).toNat = x.toNat ||| 2 ^ b.toNat := by rw [← h4, ← e2]; omega
  have key : zbit (x + zp2 b) c = 1 ↔ zbit x c = 1 := by
    rw [zbit_t (by omega), zbit_t hx, e3, Nat.testBit_or, Nat.testBit_two_pow]
    have : decide (b.toNat = c.toNat) = false := decide_eq_false (by omega)
    rw [this, Bool.or_false]
  have a1 := zbit_b (x + zp2 b) c
  have a2 := zbit_b x c
  omega
theorem zbit_s {x b : Int} (hx : 0 ≤ x) (h : zbit x b = 0) : zbit (x + zp2 b) b = 1 := by
  unfold zbit at *
  have h0 := zp2_pos b
  have : (x + zp2 b) / zp2 b = x / zp2 b + 1 := by
    rw [show x + zp2 b = x + 1 * zp2 b by omega, Int.add_mul_ediv_right _ _ (by omega)]
  rw [this]
  omega
