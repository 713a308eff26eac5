/-! the class: mixes -/
/-- the set of those of the first k at whom g is v -/
def zmay (g : Int → Int) (v : Int) : Nat → Int
  | 0 => 0
  | k + 1 => if g k = v then zmay g v k + zp2 k else zmay g v k
theorem zmay_b (g : Int → Int) (v : Int) (k : Nat) : 0 ≤ zmay g v k ∧ zmay g v k < zp2 k := by
  induction k with
  | zero => exact ⟨Int.le_refl 0, zp2_pos _⟩
  | succ k ih =>
    have h2 : zp2 ((k : Int) + 1) = 2 * zp2 k := zp2_s (by omega)
    have h3 : zp2 ((k + 1 : Nat) : Int) = 2 * zp2 k := h2
    rw [h3]
    unfold zmay
    split <;> omega
theorem zbit_low {x b : Int} (hx : 0 ≤ x ∧ x < zp2 b) : zbit x b = 0 := by
  unfold zbit
  rw [Int.ediv_eq_zero_of_lt hx.1 hx.2]
  rfl
theorem zmay_or (g : Int → Int) (v o : Int) (ho : 0 ≤ o ∧ o ≤ 6) : zor (zmay g v o.toNat) (zp2 o) = zmay g v o.toNat + zp2 o := by
  have h := zmay_b g v o.toNat
  rw [show ((o.toNat : Nat) : Int) = o by omega] at h
  have h2 : zp2 o ≤ 64 := zp2_le (b := 6) ho.2
  exact zor_in (by omega) (by omega) (zbit_low h)
/-- x without those of y -/
def zsb (x y : Int) : Int := zand x (zxor y (-1))
theorem zsb_n : ∀ x y : Nat, x < 64 → y < 64 → zsb x y = ((x &&& (63 ^^^ y) : Nat) : Int) := by
  intro x y hx hy
  have h : ∀ x : Fin 64, ∀ y : Fin 64, zsb (x.val : Int) (y.val : Int) = ((x.val &&& (63 ^^^ y.val) : Nat) : Int) := by decide +kernel
  exact h ⟨x, hx⟩ ⟨y, hy⟩
theorem zsb_b {x y : Int} (hx : 0 ≤ x ∧ x < 64) (hy : 0 ≤ y ∧ y < 64) : 0 ≤ zsb x y ∧ zsb x y < 64 := by
  have h := zsb_n x.toNat y.toNat (by omega) (by omega)
  rw [show ((x.toNat : Nat) : Int) = x by omega, show ((y.toNat : Nat) : Int) = y by omega] at h
  have h2 : (x.toNat &&& (63 ^^^ y.toNat)) ≤ x.toNat := Nat.and_le_left
  rw [h]
  omega
theorem zsb_t {x y t : Int} (hx : 0 ≤ x ∧ x < 64) (hy : 0 ≤ y ∧ y < 64) (ht : 0 ≤ t ∧ t < 6) : zbit (zsb x y) t = 1 ↔ zbit x t = 1 ∧ zbit y t = 0 := by
  have hb := zsb_b hx hy
  have h := zsb_n x.toNat y.toNat (by omega) (by omega)
  rw [show ((x.toNat : Nat) : Int) = x by omega, show ((y.toNat : Nat) : Int) = y by omega] at h
  have h63 : Nat.testBit 63 t.toNat = true := by
    have : ∀ q : Fin 6, Nat.testBit 63 q.val = true := by decide
    exact this ⟨t.toNat, by omega⟩
  have e1 := zbit_t (x := zsb x y) (b := t) hb.1
  have e2 := zbit_t (x := x) (b := t) hx.1
  have e3 := zbit_t (x := y) (b := t) hy.1
  have b3 := zbit_b y t
  rw [h, Int.toNat_natCast, Nat.testBit_and, Nat.testBit_xor, h63] at e1
  rw [h, e1, e2]
  cases hq : y.toNat.testBit t.toNat
  · rw [hq] at e3
    have : zbit y t = 0 := by
      rcases b3 with b3 | b3
      · exact b3
      · exact absurd (e3.1 b3) (by decide)
    rw [this]
    cases x.toNat.testBit t.toNat <;> decide
  · rw [hq] at e3
    rw [e3.2 rfl]
    cases x.toNat.testBit t.toNat <;> decide
theorem zone_i : ∀ h t : Int, 0 ≤ h ∧ h < 64 → 0 ≤ t ∧ t < 6 → zbit h t = 0 → zone (h + zp2 t) = zone h + 1 := by
  intro h t hh ht
  have k : ∀ x : Fin 64, ∀ q : Fin 6, zbit (x.val : Int) (q.val : Int) = 0 → zone ((x.val : Int) + zp2 (q.val : Int)) = zone (x.val : Int) + 1 := by decide +kernel
  have := k ⟨h.toNat, by omega⟩ ⟨t.toNat, by omega⟩
  rw [show (((⟨h.toNat, by omega⟩ : Fin 64).val : Nat) : Int) = h by show ((h.toNat : Nat) : Int) = h; omega, show (((⟨t.toNat, by omega⟩ : Fin 6).val : Nat) : Int) = t by show ((t.toNat : Nat) : Int) = t; omega] at this
  exact this
theorem zone_l : ∀ h n : Int, 0 ≤ n ∧ n ≤ 6 → 0 ≤ h ∧ h < zp2 n → 0 ≤ zone h ∧ zone h ≤ n ∧ (h < zp2 n - 1 → zone h < n) := by
  intro h n hn hh
  have h6 : zp2 n ≤ 64 := zp2_le (b := 6) hn.2
  have k : ∀ x : Fin 64, ∀ q : Fin 7, (x.val : Int) < zp2 (q.val : Int) → 0 ≤ zone (x.val : Int) ∧ zone (x.val : Int) ≤ (q.val : Int) ∧ ((x.val : Int) < zp2 (q.val : Int) - 1 → zone (x.val : Int) < (q.val : Int)) := by decide +kernel
  have := k ⟨h.toNat, by omega⟩ ⟨n.toNat, by omega⟩
  rw [show (((⟨h.toNat, by omega⟩ : Fin 64).val : Nat) : Int) = h by show ((h.toNat : Nat) : Int) = h; omega, show (((⟨n.toNat, by omega⟩ : Fin 7).val : Nat) : Int) = n by show ((n.toNat : Nat) : Int) = n; omega] at this
  exact this hh.2
theorem zin_l {h t n : Int} (hn : 0 ≤ n ∧ n ≤ 6) (hh : 0 ≤ h ∧ h < zp2 n) (ht : 0 ≤ t ∧ t < n) (hb : zbit h t = 0) : h + zp2 t < zp2 n := by
  have h6 : zp2 n ≤ 64 := zp2_le (b := 6) hn.2
  have h1 := zp2_pos t
  have h2 : zp2 t ≤ 64 := zp2_le (b := 6) (by omega)
  have e := zor_in (x := h) (b := t) (by omega) (by omega) hb
  have e2 := zor_n (x := h) (y := zp2 t) (by omega) (by omega)
  have e3 : (zp2 t).toNat = 2 ^ t.toNat := by rw [zp2_nat]; exact Int.toNat_natCast _
  have e4 : zp2 n = ((2 ^ n.toNat : Nat) : Int) := zp2_nat n
  have hlt : h.toNat ||| (zp2 t).toNat < 2 ^ n.toNat := Nat.or_lt_two_pow (by omega) (by rw [e3]; exact Nat.pow_lt_pow_right (by omega) (by omega))
  omega
/-- the rows of the brides after those who had, out of a set: the sum over the first t others -/
def zsmo (x : Int) (R : Int → Int) (h : Int) : Nat → Int
  | 0 => 0
  | t + 1 => if zbit x t = 1 then zsmo x R h t + R (h + zp2 t) else zsmo x R h t
def zrw (m : Int → Int) (n : Int) (R : Int → Int) (h : Int) : Int := if h = zp2 n - 1 then 1 else zsmo (zsb (m (zone h)) h) R h n.toNat
def z6 (k : Int) : Int := 6 ^ k.toNat
theorem z6_s {k : Int} (h : 1 ≤ k) : z6 k = 6 * z6 (k - 1) := by
  unfold z6
  rw [show k.toNat = (k - 1).toNat + 1 by omega, Int.pow_succ, Int.mul_comm]
theorem z6_p (k : Int) : 0 < z6 k := by
  unfold z6
  exact Int.pow_pos (by omega)
theorem z6_6 {k : Int} (h : k ≤ 6) : z6 k ≤ 46656 := by
  have : ∀ q : Fin 7, (6 : Int) ^ q.val ≤ 46656 := by decide +kernel
  exact this ⟨k.toNat, by omega⟩
theorem zsm_c {x : Int} {R R' : Int → Int} {h : Int} (k : Nat) (hR : ∀ t : Nat, t < k → zbit x t = 1 → R' (h + zp2 t) = R (h + zp2 t)) : zsmo x R' h k = zsmo x R h k := by
  induction k with
  | zero => rfl
  | succ k ih =>
    have ih := ih (fun t ht => hR t (by omega))
    unfold zsmo
    by_cases hb : zbit x k = 1
    · rw [if_pos hb, if_pos hb, ih, hR k (by omega) hb]
    · rw [if_neg hb, if_neg hb, ih]
/-- a table of rows that is right above a set -/
def zRow (m : Int → Int) (n : Int) (R : Int → Int) (h : Int) : Prop := ∀ j, h < j ∧ j ≤ zp2 n - 1 → R j = zrw m n R j ∧ 0 ≤ R j ∧ R j ≤ z6 (n - zone j)
theorem zRow_s {m : Int → Int} {n h v : Int} {M : zM} (hn : 1 ≤ n ∧ n ≤ 6) (hm : ∀ b, 0 ≤ b ∧ b < n → 0 ≤ m b ∧ m b < 64) (hh : 0 ≤ h ∧ h ≤ zp2 n - 1) (H : zRow m n (M 140) h) (hv : v = zrw m n (M 140) h) (hb : 0 ≤ v ∧ v ≤ z6 (n - zone h)) : zRow m n (zset M 140 h v 140) (h + -1) := by
  have h64 : zp2 n ≤ 64 := zp2_le (b := 6) hn.2
  have hc : ∀ j, h ≤ j ∧ j ≤ zp2 n - 1 → zrw m n (zset M 140 h v 140) j = zrw m n (M 140) j := by
    intro j hj
    unfold zrw
    by_cases e : j = zp2 n - 1
    · rw [if_pos e, if_pos e]
    · rw [if_neg e, if_neg e]
      refine zsm_c _ (fun t ht hbt => ?_)
      have ho := zone_l j n (by omega) (by omega)
      have hp := zp2_pos t
      exact zset_n (by omega)
  intro j hj
  rw [hc j (by omega)]
  by_cases e : j = h
  · subst e
    rw [zset_s, ← hv]
    exact ⟨rfl, hb⟩
  · rw [zset_n e]
    exact H j (by omega)
theorem zset_id {M : zM} {r i : Int} : zset M r i (M r i) = M := by
  funext a b
  unfold zset
  split
  · rename_i h
    rw [h.1, h.2]
  · rfl
set_option maxHeartbeats 4000000 in
set_option maxRecDepth 100000 in
theorem t_countRows {G : zG} {ad : Int → Nat} {M : zM} {n : Int} (hn : 1 ≤ n ∧ n ≤ 6) (hm : ∀ b, 0 ≤ b ∧ b < n → 0 ≤ M 139 b ∧ M 139 b < 64)  : zTV G (zw ad) mi_X0_countRows [zr 138, zi n] M (fun M' => (∀ r, r ≠ 140 → M' r = M r) ∧ zRow (M 139) n (M' 140) (-1)) := by
  refine zTV.of (own := RX0) (ls := [some (zr 138), some (zi n), none, none, none, none]) (by decide +kernel) rfl rfl (Nat.le_of_ble_eq_true rfl) (fun γ ok rt => ?_)
  have p1 := zp2_pos n
  have p2 : zp2 n ≤ 64 := zp2_le (b := 6) hn.2
  have p3 : 2 ≤ zp2 n := zp2_le (a := 1) (by omega)
  have lpc : ∀ (zn : Nat) (h : Int) (l4 l5 : Option zV) (Mx : zM), zn = (h + 1).toNat → (-1 ≤ h ∧ h ≤ zp2 n - 2) → (∀ r, r ≠ 140 → Mx r = M r) → (zRow (M 139) n (Mx 140) h) → zVV G γ (zw ad) (0, 0) 17 [some (zr 138), some (zi n), some (zi (zp2 n - 1)), some (zi h), l4, l5] [] Mx := by
    refine zrec _ (fun zn ih => ?_)
    intro h l4 l5 Mx hzn hh fx tb
    refine v_iload_3 ok dX0_countRows_17 (n := 18) rfl ?_
    refine v_if_lt ok dX0_countRows_18 (tgt := 95) (by decide) (n := 21) rfl (by omega) (fun c18_1 => ?_) (fun c18_1 => ?_)
    · have c18_1 := c18_1
      refine v_vret rt dX0_countRows_95 ?_
      exact ⟨fx, by rw [show h = -1 by omega] at tb; exact tb⟩
    · have c18_1 := c18_1
      have hz := zone_l h n (by omega) (by omega)
      have ih2 := ih
      have hmz := hm (zone h) (by omega)
      have hsb := zsb_b hmz (show 0 ≤ h ∧ h < 64 by omega)
      have k89 : ∀ (l5 : Option zV) (Mx : zM), (∀ r, r ≠ 140 → Mx r = M r) → zRow (M 139) n (Mx 140) (h + -1) → zVV G γ (zw ad) (0, 0) 89 [some (zr 138), some (zi n), some (zi (zp2 n - 1)), some (zi h), some (zi (zsb (M 139 (zone h)) h)), l5] [] Mx := by
        intro l5 Mx fx tb
        refine v_iinc_3 ok (by decide) rfl dX0_countRows_89 (n := 92) rfl ?_
        refine v_goto ok dX0_countRows_92 (n := 17) (by decide) ?_
        exact ih2 _ (by omega) (h + -1) _ _ _ rfl (by omega) fx tb
      have lpd : ∀ (zn : Nat) (t : Int) (Mx : zM), zn = (7 - t).toNat → (0 ≤ t ∧ t ≤ n) → (∀ r, r ≠ 140 → Mx r = M r) → (zRow (M 139) n (Mx 140) h) → (Mx 140 h = zsmo (zsb (M 139 (zone h)) h) (Mx 140) h t.toNat) → (0 ≤ Mx 140 h ∧ Mx 140 h ≤ t * z6 (n - zone h - 1)) → zVV G γ (zw ad) (0, 0) 46 [some (zr 138), some (zi n), some (zi (zp2 n - 1)), some (zi h), some (zi (zsb (M 139 (zone h)) h)), some (zi t)] [] Mx := by
        refine zrec _ (fun zn ih => ?_)
        intro t Mx hzn ht fx tb hv hvb
        have k83 : ∀ (t' : Int) (Mx : zM), (t' = t ∧ t < n) → (∀ r, r ≠ 140 → Mx r = M r) → zRow (M 139) n (Mx 140) h → Mx 140 h = zsmo (zsb (M 139 (zone h)) h) (Mx 140) h (t + 1).toNat → (0 ≤ Mx 140 h ∧ Mx 140 h ≤ (t + 1) * z6 (n - zone h - 1)) → zVV G γ (zw ad) (0, 0) 83 [some (zr 138), some (zi n), some (zi (zp2 n - 1)), some (zi h), some (zi (zsb (M 139 (zone h)) h)), some (zi t)] [] Mx := by
          intro t' Mx ht' fx tb hv hvb
          refine v_iinc_5 ok (by decide) rfl dX0_countRows_83 (n := 86) rfl ?_
          refine v_goto ok dX0_countRows_86 (n := 46) (by decide) ?_
          exact ih _ (by omega) (t + 1) Mx rfl (by omega) fx tb hv hvb
        refine v_iload_5 ok dX0_countRows_46 (n := 48) rfl ?_
        refine v_iload_1 ok dX0_countRows_48 (n := 49) rfl ?_
        refine v_icmp_ge ok dX0_countRows_49 (tgt := 89) (by decide) (n := 52) rfl (by omega) (by omega) (fun c49_1 => ?_) (fun c49_1 => ?_)
        · have c49_1 := c49_1
          exact k89 _ _ fx (by
            refine (show zRow (M 139) n (zset Mx 140 h (Mx 140 h) 140) (h + -1) from zRow_s hn hm (by omega) tb ?_ ?_) |> fun e => by rw [zset_id] at e; exact e
            · rw [hv, show t = n by omega]
              unfold zrw
              rw [if_neg (by omega)]
            · rw [show t = n by omega] at hvb
              have e6 := z6_s (k := n - zone h) (by omega)
              have p6 := z6_p (n - zone h - 1)
              have := Int.mul_le_mul_of_nonneg_right (show n ≤ 6 by omega) (show 0 ≤ z6 (n - zone h - 1) by omega)
              omega)
        · have c49_1 := c49_1
          refine v_iload_4 ok dX0_countRows_52 (n := 54) rfl ?_
          refine v_iload_5 ok dX0_countRows_54 (n := 56) rfl ?_
          refine v_ishr ok dX0_countRows_56 (n := 57) rfl ?_
          refine v_iconst ok dX0_countRows_57 (n := 58) rfl ?_
          refine v_iand ok dX0_countRows_58 (n := 59) rfl ?_
          rw [zand_bit (by omega) (by omega)]
          have zbb := zbit_b (zsb (M 139 (zone h)) h) t
          refine v_iconst ok dX0_countRows_59 (n := 60) rfl ?_
          refine v_icmp_ne ok dX0_countRows_60 (tgt := 83) (by decide) (n := 63) rfl (by omega) (by omega) (fun c60_2 => ?_) (fun c60_2 => ?_)
          · have c60_2 := c60_2
            first
            | exact k83 t _ ⟨rfl, by omega⟩ fx tb (by
                rw [hv, show (t + 1).toNat = t.toNat + 1 by omega]
                conv => rhs; unfold zsmo
                rw [show ((t.toNat : Nat) : Int) = t by omega, if_neg (by assumption)]) (by rw [show (t + 1) * z6 (n - zone h - 1) = t * z6 (n - zone h - 1) + z6 (n - zone h - 1) by rw [Int.add_mul, Int.one_mul]]; have := z6_p (n - zone h - 1); omega)
            | exact k83 t _ ⟨rfl, by omega⟩ (fun r hr => by rw [zset_o hr]; exact fx r hr) (fun j hj => by
                have e := tb j hj
                have ec : zrw (M 139) n (zset Mx 140 h (Mx 140 h + Mx 140 (h + zp2 t)) 140) j = zrw (M 139) n (Mx 140) j := by
                  unfold zrw
                  by_cases e : j = zp2 n - 1
                  · rw [if_pos e, if_pos e]
                  · rw [if_neg e, if_neg e]
                    exact zsm_c _ (fun q hq hbq => by have hp := zp2_pos q; exact zset_n (by omega))
                rw [zset_n (by omega), ec]
                exact e) (by rw [zset_s, hs2, hsv, ← hv]) (by rw [zset_s]; omega)
          · have c60_2 := c60_2
            have hbt := (zsb_t (hm _ (by omega)) (by omega) (by omega)).1 c60_2
            have hil := zin_l (n := n) (by omega) (by omega) (by omega) hbt.2
            have hip := zp2_pos t
            have htb := (tb (h + zp2 t) (by omega)).2
            rw [zone_i h t (by omega) (by omega) hbt.2] at htb
            have hmu : (t + 1) * z6 (n - zone h - 1) = t * z6 (n - zone h - 1) + z6 (n - zone h - 1) := by rw [Int.add_mul, Int.one_mul]
            rw [show n - (zone h + 1) = n - zone h - 1 by omega] at htb
            have hsv : zsmo (zsb (M 139 (zone h)) h) (Mx 140) h (t + 1).toNat = zsmo (zsb (M 139 (zone h)) h) (Mx 140) h t.toNat + Mx 140 (h + zp2 t) := by
              rw [show (t + 1).toNat = t.toNat + 1 by omega]
              conv => lhs; unfold zsmo
              rw [show ((t.toNat : Nat) : Int) = t by omega, if_pos c60_2]
            have hs2 : zsmo (zsb (M 139 (zone h)) h) (zset Mx 140 h (Mx 140 h + Mx 140 (h + zp2 t)) 140) h (t + 1).toNat = zsmo (zsb (M 139 (zone h)) h) (Mx 140) h (t + 1).toNat := zsm_c _ (fun q hq hbq => by
              have hp := zp2_pos q
              exact zset_n (by omega))
            refine v_aload_0 ok dX0_countRows_63 (n := 64) rfl ?_
            refine v_getR ok fd_X0_15 ly_138 rfl rfl rfl rf_138_1 dX0_countRows_64 (n := 67) rfl ?_
            refine v_iload_3 ok dX0_countRows_67 (n := 68) rfl ?_
            refine v_dup2 ok rfl rfl dX0_countRows_68 (n := 69) rfl ?_
            refine v_iald ok ly_140 rfl (by omega) (by decide) dX0_countRows_69 (n := 70) rfl ?_
            refine v_aload_0 ok dX0_countRows_70 (n := 71) rfl ?_
            refine v_getR ok fd_X0_15 ly_138 rfl rfl rfl rf_138_1 dX0_countRows_71 (n := 74) rfl ?_
            refine v_iload_3 ok dX0_countRows_74 (n := 75) rfl ?_
            refine v_iconst ok dX0_countRows_75 (n := 76) rfl ?_
            refine v_iload_5 ok dX0_countRows_76 (n := 78) rfl ?_
            refine v_ishl ok dX0_countRows_78 (n := 79) rfl ?_
            rw [zshl_1 (by omega)]
            refine v_ior ok dX0_countRows_79 (n := 80) rfl ?_
            rw [zor_in (by omega) (by omega) hbt.2]
            refine v_iald ok ly_140 rfl (by omega) (by decide) dX0_countRows_80 (n := 81) rfl ?_
            refine v_iadd ok dX0_countRows_81 (n := 82) rfl ?_
            refine v_iast ok ly_140 rfl (by omega) (by decide) dX0_countRows_82 (n := 83) rfl ?_
            first
            | exact k83 t _ ⟨rfl, by omega⟩ fx tb (by
                rw [hv, show (t + 1).toNat = t.toNat + 1 by omega]
                conv => rhs; unfold zsmo
                rw [show ((t.toNat : Nat) : Int) = t by omega, if_neg (by assumption)]) (by rw [show (t + 1) * z6 (n - zone h - 1) = t * z6 (n - zone h - 1) + z6 (n - zone h - 1) by rw [Int.add_mul, Int.one_mul]]; have := z6_p (n - zone h - 1); omega)
            | exact k83 t _ ⟨rfl, by omega⟩ (fun r hr => by rw [zset_o hr]; exact fx r hr) (fun j hj => by
                have e := tb j hj
                have ec : zrw (M 139) n (zset Mx 140 h (Mx 140 h + Mx 140 (h + zp2 t)) 140) j = zrw (M 139) n (Mx 140) j := by
                  unfold zrw
                  by_cases e : j = zp2 n - 1
                  · rw [if_pos e, if_pos e]
                  · rw [if_neg e, if_neg e]
                    exact zsm_c _ (fun q hq hbq => by have hp := zp2_pos q; exact zset_n (by omega))
                rw [zset_n (by omega), ec]
                exact e) (by rw [zset_s, hs2, hsv, ← hv]) (by rw [zset_s]; omega)
      refine v_aload_0 ok dX0_countRows_21 (n := 22) rfl ?_
      refine v_getR ok fd_X0_9 ly_138 rfl rfl rfl rf_138_0 dX0_countRows_22 (n := 25) rfl ?_
      refine v_iload_3 ok dX0_countRows_25 (n := 26) rfl ?_
      refine v_callSI ok (mi := mi_J6_bitCount_0f7a4) mc_J6_bitCount_0f7a4 cs_X0_38 (by decide) ⟨Nat.zero_le _, Nat.zero_le _⟩ dX0_countRows_26 (n := 29) rfl rfl rfl (Nat.le_of_ble_eq_true rfl) (t_bitCount (by omega)) (fun x2 N2 g2 => ?_)
      obtain ⟨g2, rfl⟩ := g2
      subst N2
      refine v_iald ok ly_139 rfl (by omega) (by decide) dX0_countRows_29 (n := 30) rfl ?_
      rw [fx 139 (by omega)]
      refine v_iload_3 ok dX0_countRows_30 (n := 31) rfl ?_
      refine v_iconst ok dX0_countRows_31 (n := 32) rfl ?_
      refine v_ixor ok dX0_countRows_32 (n := 33) rfl ?_
      refine v_iand ok dX0_countRows_33 (n := 34) rfl ?_
      rw [show zand (M 139 (zone h)) (zxor h (-1)) = (zsb (M 139 (zone h)) h) from rfl]
      refine v_istore_4 ok (by decide) rfl dX0_countRows_34 (n := 36) rfl ?_
      refine v_aload_0 ok dX0_countRows_36 (n := 37) rfl ?_
      refine v_getR ok fd_X0_15 ly_138 rfl rfl rfl rf_138_1 dX0_countRows_37 (n := 40) rfl ?_
      refine v_iload_3 ok dX0_countRows_40 (n := 41) rfl ?_
      refine v_iconst ok dX0_countRows_41 (n := 42) rfl ?_
      refine v_iast ok ly_140 rfl (by omega) (by decide) dX0_countRows_42 (n := 43) rfl ?_
      refine v_iconst ok dX0_countRows_43 (n := 44) rfl ?_
      refine v_istore_5 ok (by decide) rfl dX0_countRows_44 (n := 46) rfl ?_
      exact lpd _ 0 _ rfl (by omega) (fun r hr => by rw [zset_o hr]; exact fx r hr) (fun j hj => by
        have e := tb j hj
        have ec : zrw (M 139) n (zset Mx 140 h 0 140) j = zrw (M 139) n (Mx 140) j := by
          unfold zrw
          by_cases e : j = zp2 n - 1
          · rw [if_pos e, if_pos e]
          · rw [if_neg e, if_neg e]
            exact zsm_c _ (fun q hq hbq => by have hp := zp2_pos q; exact zset_n (by omega))
        rw [zset_n (by omega), ec]
        exact e) (by rw [zset_s]; rfl) (by rw [zset_s]; omega)
  refine v_iconst ok dX0_countRows_0 (n := 1) rfl ?_
  refine v_iload_1 ok dX0_countRows_1 (n := 2) rfl ?_
  refine v_ishl ok dX0_countRows_2 (n := 3) rfl ?_
  rw [zshl_1 (by omega)]
  refine v_iconst ok dX0_countRows_3 (n := 4) rfl ?_
  refine v_isub ok dX0_countRows_4 (n := 5) rfl ?_
  refine v_istore_2 ok (by decide) rfl dX0_countRows_5 (n := 6) rfl ?_
  refine v_aload_0 ok dX0_countRows_6 (n := 7) rfl ?_
  refine v_getR ok fd_X0_15 ly_138 rfl rfl rfl rf_138_1 dX0_countRows_7 (n := 10) rfl ?_
  refine v_iload_2 ok dX0_countRows_10 (n := 11) rfl ?_
  refine v_iconst ok dX0_countRows_11 (n := 12) rfl ?_
  refine v_iast ok ly_140 rfl (by omega) (by decide) dX0_countRows_12 (n := 13) rfl ?_
  refine v_iload_2 ok dX0_countRows_13 (n := 14) rfl ?_
  refine v_iconst ok dX0_countRows_14 (n := 15) rfl ?_
  refine v_isub ok dX0_countRows_15 (n := 16) rfl ?_
  refine v_istore_3 ok (by decide) rfl dX0_countRows_16 (n := 17) rfl ?_
  exact lpc _ _ _ _ _ rfl (by omega) (fun r hr => zset_o hr) (by
    have e := zRow_s (m := M 139) (n := n) (h := zp2 n - 1) (v := 1) (M := M) hn hm (by omega) (fun j hj => by omega) (by unfold zrw; rw [if_pos rfl]) (by have := z6_p (n - zone (zp2 n - 1)); omega)
    rw [show zp2 n - 1 + -1 = zp2 n - 1 - 1 by omega] at e
    exact e)

