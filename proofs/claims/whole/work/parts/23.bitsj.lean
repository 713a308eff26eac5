/-! pure words: shifts of longs, masks, how many are in a set -/
theorem zsmJ (k : Nat) (hk : k < 64) : (nI k).toInt64 &&& 63 = lN k := by
  revert hk
  revert k
  decide +kernel
theorem zsmJu (k : Nat) (hk : k < 64) : ((nI k).toInt64.toUInt64 &&& Int64.toUInt64 63) = UInt64.ofNat k := by
  revert hk
  revert k
  decide +kernel
theorem zn_nnJ {x : Int} (h : 0 ≤ x) : Int64.ofInt x = lN x.toNat := by
  rw [← zn_natJ, show ((x.toNat : Nat) : Int) = x by omega]
theorem zJ_bv (n : Nat) (h : n < 2 ^ 64) : (lN n).toBitVec.toNat = n := by
  show (BitVec.ofNat 64 n).toNat = n
  rw [BitVec.toNat_ofNat, Nat.mod_eq_of_lt h]
theorem zJ_of {x : Int64} {n : Nat} (h : x.toBitVec.toNat = n) (hn : n < 2 ^ 63) : x.toInt = n := by
  show x.toBitVec.toInt = n
  rw [BitVec.toInt_eq_toNat_of_lt (by rw [h]; omega), h]
theorem zshlJ_n {x k : Int} (hx : 0 ≤ x) (hk : 0 ≤ k ∧ k ≤ 62) (hb : x * zp2 k ≤ 9223372036854775807) : zshlJ x k = x * zp2 k := by
  have hp := zp2_pos k
  have hxk : x ≤ x * zp2 k := by
    have := Int.mul_le_mul_of_nonneg_left (show 1 ≤ zp2 k by omega) hx
    omega
  have e1 : x * zp2 k = ((x.toNat * 2 ^ k.toNat : Nat) : Int) := by
    rw [zp2_nat, Int.natCast_mul, show ((x.toNat : Nat) : Int) = x by omega]
  rw [e1] at hb
  unfold zshlJ
  rw [zn_nnJ hx, zn_nn hk.1, zsmJ _ (by omega), e1]
  refine zJ_of ?_ (by omega)
  show ((lN x.toNat).toBitVec <<< ((lN k.toNat).toBitVec.smod 64)).toNat = _
  have e2 : (lN k.toNat).toBitVec.smod 64 = BitVec.ofNat 64 k.toNat := by
    have : ∀ q, q < 64 → (BitVec.ofNat 64 q).smod 64 = BitVec.ofNat 64 q := by decide +kernel
    exact this _ (by omega)
  rw [e2, BitVec.shiftLeft_eq', BitVec.toNat_shiftLeft, zJ_bv _ (by omega), BitVec.toNat_ofNat, Nat.mod_eq_of_lt (show k.toNat < 2 ^ 64 by omega), Nat.shiftLeft_eq, Nat.mod_eq_of_lt (by omega)]
theorem zushrJ_n {x k : Int} (hx : 0 ≤ x ∧ x ≤ 9223372036854775807) (hk : 0 ≤ k ∧ k ≤ 62) : zushrJ x k = x / zp2 k := by
  unfold zushrJ
  rw [zn_nnJ hx.1, zn_nn hk.1, zsmJu _ (by omega)]
  have e1 : x / zp2 k = ((x.toNat / 2 ^ k.toNat : Nat) : Int) := by
    rw [zp2_nat, Int.natCast_ediv, show ((x.toNat : Nat) : Int) = x by omega]
  have h2 := Nat.div_le_self x.toNat (2 ^ k.toNat)
  rw [e1]
  refine zJ_of ?_ (by omega)
  show ((lN x.toNat).toBitVec >>> ((UInt64.ofNat k.toNat).toBitVec % 64#64)).toNat = _
  have e2 : ((UInt64.ofNat k.toNat).toBitVec % 64#64) = BitVec.ofNat 64 k.toNat := by
    have : ∀ q, q < 64 → ((UInt64.ofNat q).toBitVec % 64#64) = BitVec.ofNat 64 q := by decide +kernel
    exact this _ (by omega)
  rw [e2, BitVec.ushiftRight_eq', BitVec.toNat_ushiftRight, zJ_bv _ (by omega), BitVec.toNat_ofNat, Nat.mod_eq_of_lt (show k.toNat < 2 ^ 64 by omega), Nat.shiftRight_eq_div_pow]
theorem zand_m {x m : Int} {k : Nat} (hx : 0 ≤ x) (hk : k ≤ 30) (hm : (Int32.ofInt m).toBitVec.toNat = 2 ^ k - 1) : zand x m = x % 2 ^ k := by
  unfold zand
  have h1 : x.toNat % 2 ^ 32 % 2 ^ k = x.toNat % 2 ^ k := Nat.mod_mod_of_dvd _ (Nat.pow_dvd_pow 2 (by omega))
  have h2 : (Int32.ofInt x).toBitVec.toNat = x.toNat % 2 ^ 32 := by
    rw [zn_nn hx]
    show (BitVec.ofNat 32 x.toNat).toNat = _
    rw [BitVec.toNat_ofNat]
  have h3 : x.toNat % 2 ^ k < 2 ^ k := Nat.mod_lt _ (Nat.two_pow_pos k)
  have h4 : 2 ^ k ≤ 2 ^ 30 := Nat.pow_le_pow_right (by omega) hk
  rw [pk_and _ k hm, h2, h1, nI_toInt (by omega), Int.natCast_emod, show ((x.toNat : Nat) : Int) = x by omega, Int.natCast_pow]
  rfl
theorem zand_15J {x : Int} (hx : 0 ≤ x) : zand x 15 = x % 16 := zand_m (k := 4) hx (by omega) (by decide)
/-- how many are in a set -/
def znes : Nat → Nat → Nat
  | 0, _ => 0
  | n + 1, x => x % 2 + znes n (x / 2)
def zone (x : Int) : Int := znes 16 x.toNat
theorem znes_b (n x : Nat) : znes n x ≤ n := by
  induction n generalizing x with
  | zero => exact Nat.le_refl 0
  | succ n ih =>
    have := ih (x / 2)
    unfold znes
    omega
theorem zone_b (x : Int) : 0 ≤ zone x ∧ zone x ≤ 16 := by
  have := znes_b 16 x.toNat
  unfold zone
  omega
theorem znes_0 (n : Nat) : znes n 0 = 0 := by
  induction n with
  | zero => rfl
  | succ n ih =>
    unfold znes
    rw [show 0 % 2 + znes n (0 / 2) = 0 + znes n 0 from rfl, ih]
theorem zland_e (y : Nat) (h : 0 < y) : 2 * y &&& (2 * y - 1) = 2 * (y &&& (y - 1)) := by
  apply Nat.eq_of_testBit_eq
  intro i
  rw [Nat.testBit_and]
  cases i with
  | zero =>
    simp [Nat.testBit_zero]
  | succ i =>
    rw [Nat.testBit_succ, Nat.testBit_succ, Nat.testBit_succ, show 2 * y / 2 = y by omega, show (2 * y - 1) / 2 = y - 1 by omega, show 2 * (y &&& (y - 1)) / 2 = y &&& (y - 1) by omega, Nat.testBit_and]
theorem zland_o (y : Nat) : (2 * y + 1) &&& (2 * y) = 2 * y := by
  apply Nat.eq_of_testBit_eq
  intro i
  rw [Nat.testBit_and]
  cases i with
  | zero => simp [Nat.testBit_zero]
  | succ i =>
    rw [Nat.testBit_succ, Nat.testBit_succ, show (2 * y + 1) / 2 = y by omega, show 2 * y / 2 = y by omega, Bool.and_self]
theorem znes_clr (n : Nat) : ∀ x, 0 < x → x < 2 ^ n → znes n (x &&& (x - 1)) + 1 = znes n x ∧ (x &&& (x - 1)) < x := by
  induction n with
  | zero => intro x h1 h2; omega
  | succ n ih =>
    intro x h1 h2
    rw [Nat.pow_succ] at h2
    by_cases ho : x % 2 = 1
    · obtain ⟨y, rfl⟩ : ∃ y, x = 2 * y + 1 := ⟨x / 2, by omega⟩
      rw [show 2 * y + 1 - 1 = 2 * y by omega, zland_o]
      unfold znes
      rw [show 2 * y % 2 = 0 by omega, show 2 * y / 2 = y by omega, show (2 * y + 1) % 2 = 1 by omega, show (2 * y + 1) / 2 = y by omega]
      omega
    · obtain ⟨y, rfl⟩ : ∃ y, x = 2 * y := ⟨x / 2, by omega⟩
      have := ih y (by omega) (by omega)
      rw [zland_e y (by omega)]
      unfold znes
      rw [show 2 * (y &&& (y - 1)) % 2 = 0 by omega, show 2 * (y &&& (y - 1)) / 2 = y &&& (y - 1) by omega, show 2 * y % 2 = 0 by omega, show 2 * y / 2 = y by omega]
      omega
