/-! pure: bytes, cut items -/
theorem zb_u (X : BitVec 64) (k : Nat) : (((X >>> k).setWidth 32) &&& (255#32)).toNat = X.toNat / 2 ^ k % 256 := by
  rw [BitVec.toNat_and, BitVec.toNat_setWidth, BitVec.toNat_ushiftRight, Nat.shiftRight_eq_div_pow, show (255#32).toNat = 2 ^ 8 - 1 from rfl, Nat.and_two_pow_sub_one_eq_mod]
  omega
theorem zb_s (X : BitVec 64) (k : Nat) : ((X.sshiftRight k) &&& (255#64)).toNat = if X.toNat < 9223372036854775808 then X.toNat / 2 ^ k % 256 else (18446744073709551615 - (18446744073709551615 - X.toNat) / 2 ^ k) % 256 := by
  rw [BitVec.toNat_and, show (255#64).toNat = 2 ^ 8 - 1 from rfl, Nat.and_two_pow_sub_one_eq_mod]
  by_cases h : X.toNat < 9223372036854775808
  · have hm : X.msb = false := by
      rw [BitVec.msb_eq_decide]
      exact decide_eq_false (by omega)
    rw [if_pos h, BitVec.sshiftRight_eq_of_msb_false hm, BitVec.toNat_ushiftRight, Nat.shiftRight_eq_div_pow]
  · have hm : X.msb = true := by
      rw [BitVec.msb_eq_decide]
      exact decide_eq_true (by omega)
    rw [if_neg h, BitVec.sshiftRight_eq_of_msb_true hm, BitVec.toNat_not, BitVec.toNat_ushiftRight, BitVec.toNat_not, Nat.shiftRight_eq_div_pow]
theorem zb_e (X : BitVec 64) (t : Nat) (ht : t < 8) : (((X >>> (8 * t)).setWidth 32) &&& (255#32)).toNat = ((X.sshiftRight (8 * t)) &&& (255#64)).toNat := by
  rw [zb_u, zb_s]
  have hX := X.isLt
  obtain rfl | rfl | rfl | rfl | rfl | rfl | rfl | rfl : t = 0 ∨ t = 1 ∨ t = 2 ∨ t = 3 ∨ t = 4 ∨ t = 5 ∨ t = 6 ∨ t = 7 := by omega
  all_goals
    split
    · rfl
    · omega
theorem zI_of {x : Int32} {n : Nat} (h : x.toBitVec.toNat = n) (hn : n < 2 ^ 31) : x.toInt = n := by
  show x.toBitVec.toInt = n
  rw [BitVec.toInt_eq_toNat_of_lt (by rw [h]; omega), h]
theorem zl2i_bv (y : Int64) : (Int32.ofInt y.toInt).toBitVec.toNat = (y.toBitVec.setWidth 32).toNat := by
  show (BitVec.ofInt 32 y.toBitVec.toInt).toNat = _
  rw [BitVec.toNat_ofInt, BitVec.toNat_setWidth]
  have h1 := y.toBitVec.isLt
  have h2 := BitVec.toInt_eq_toNat_cond y.toBitVec
  rw [h2]
  split <;> omega
theorem zbyt_M {w t : Int} (ht : 0 ≤ t ∧ t < 8) : zbyt w t = zbyM w t := by
  have hk : 0 ≤ 8 * t := by omega
  have ek : (8 * t).toNat = 8 * t.toNat := by omega
  unfold zbyt zbyM zand zandJ zushrJ zshrJ
  generalize Int64.ofInt w = x
  rw [zn_nn hk, zsmJ _ (by omega), zsmJu _ (by omega), zn_selfJ]
  have e2 : (lN (8 * t).toNat).toBitVec.smod 64 = BitVec.ofNat 64 (8 * t).toNat := by
    have : ∀ q, q < 64 → (BitVec.ofNat 64 q).smod 64 = BitVec.ofNat 64 q := by decide +kernel
    exact this _ (by omega)
  have h1 : (x >>> lN (8 * t).toNat &&& Int64.ofInt 255).toBitVec.toNat = ((x.toBitVec.sshiftRight (8 * t.toNat)) &&& (255#64)).toNat := by
    show ((x.toBitVec.sshiftRight ((lN (8 * t).toNat).toBitVec.smod 64).toNat) &&& (255#64)).toNat = _
    rw [e2, BitVec.toNat_ofNat, Nat.mod_eq_of_lt (by omega), ek]
  have h2 : (Int32.ofInt ((x.toUInt64 >>> UInt64.ofNat (8 * t).toNat).toInt64).toInt &&& Int32.ofInt 255).toBitVec.toNat = (((x.toBitVec >>> (8 * t.toNat)).setWidth 32) &&& (255#32)).toNat := by
    show ((Int32.ofInt ((x.toUInt64 >>> UInt64.ofNat (8 * t).toNat).toInt64).toInt).toBitVec &&& (255#32)).toNat = _
    rw [BitVec.toNat_and, BitVec.toNat_and, zl2i_bv]
    have h3 : (x.toUInt64 >>> UInt64.ofNat (8 * t).toNat).toInt64.toBitVec = x.toBitVec >>> (8 * t.toNat) := by
      have h4 : (UInt64.ofNat (8 * t).toNat) % 64 = UInt64.ofNat (8 * t).toNat := by
        have : ∀ q, q < 64 → (UInt64.ofNat q) % 64 = UInt64.ofNat q := by decide +kernel
        exact this _ (by omega)
      show x.toBitVec >>> ((UInt64.ofNat (8 * t).toNat) % 64).toBitVec = _
      rw [h4]
      show x.toBitVec >>> (BitVec.ofNat 64 (8 * t).toNat).toNat = _
      rw [BitVec.toNat_ofNat, Nat.mod_eq_of_lt (by omega), ek]
    rw [h3]
  have h5 := zb_e x.toBitVec t.toNat (by omega)
  have h6 : ((x.toBitVec.sshiftRight (8 * t.toNat)) &&& (255#64)).toNat ≤ 255 := by
    rw [BitVec.toNat_and]
    exact Nat.le_trans Nat.and_le_right (by decide)
  rw [zJ_of h1 (by omega), zI_of h2 (by omega), h5]
theorem zcu_8 (v : Int) : zi2b v = zshr (zshl v 24) 24 := by
  unfold zi2b zshr zshl
  generalize Int32.ofInt v = x
  rw [zn_self]
  show ((x.toBitVec.signExtend 8).signExtend 32).toInt = ((x.toBitVec <<< ((Int32.ofInt 24 &&& 31).toBitVec.smod 32).toNat).sshiftRight ((Int32.ofInt 24 &&& 31).toBitVec.smod 32).toNat).toInt
  rw [show ((Int32.ofInt 24 &&& 31).toBitVec.smod 32).toNat = 24 by decide]
  rw [BitVec.toInt_sshiftRight, BitVec.toInt_shiftLeft, Int.shiftRight_eq_div_pow, BitVec.toInt_signExtend, BitVec.toInt_signExtend]
  have h1 := x.toBitVec.isLt
  have h2 := BitVec.toInt_eq_toNat_cond x.toBitVec
  rw [h2, Nat.shiftLeft_eq]
  generalize x.toBitVec.toNat = X at h1 ⊢
  show Int.bmod (Int.bmod (if 2 * X < 4294967296 then (X : Int) else (X : Int) - 4294967296) 256) 256 = Int.bmod ((X * 16777216 : Nat) : Int) 4294967296 / 16777216
  have h1 : X < 4294967296 := h1
  unfold Int.bmod
  dsimp only
  split <;> split <;> split <;> split <;> omega
theorem zcu_16 (v : Int) : zi2s v = zshr (zshl v 16) 16 := by
  unfold zi2s zshr zshl
  generalize Int32.ofInt v = x
  rw [zn_self]
  show ((x.toBitVec.signExtend 16).signExtend 32).toInt = ((x.toBitVec <<< ((Int32.ofInt 16 &&& 31).toBitVec.smod 32).toNat).sshiftRight ((Int32.ofInt 16 &&& 31).toBitVec.smod 32).toNat).toInt
  rw [show ((Int32.ofInt 16 &&& 31).toBitVec.smod 32).toNat = 16 by decide]
  rw [BitVec.toInt_sshiftRight, BitVec.toInt_shiftLeft, Int.shiftRight_eq_div_pow, BitVec.toInt_signExtend, BitVec.toInt_signExtend]
  have h1 := x.toBitVec.isLt
  have h2 := BitVec.toInt_eq_toNat_cond x.toBitVec
  rw [h2, Nat.shiftLeft_eq]
  generalize x.toBitVec.toNat = X at h1 ⊢
  show Int.bmod (Int.bmod (if 2 * X < 4294967296 then (X : Int) else (X : Int) - 4294967296) 65536) 65536 = Int.bmod ((X * 65536 : Nat) : Int) 4294967296 / 65536
  have h1 : X < 4294967296 := h1
  unfold Int.bmod
  dsimp only
  split <;> split <;> split <;> split <;> omega
theorem zcut_M (a v : Int) : zcut a v = zcuM a v := by
  unfold zcut zcuM
  rw [zcu_8, zcu_16]
