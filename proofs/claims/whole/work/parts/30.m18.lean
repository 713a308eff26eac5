/-! the class: mixes, changed -/
theorem zor_l {h t n : Int} (hn : 0 ≤ n ∧ n ≤ 6) (hh : 0 ≤ h ∧ h < zp2 n) (ht : 0 ≤ t ∧ t < n) : 0 ≤ zor h (zp2 t) ∧ zor h (zp2 t) < zp2 n := by
  have h6 : zp2 n ≤ 64 := zp2_le (b := 6) hn.2
  have h1 := zp2_pos t
  have h2 : zp2 t ≤ 64 := zp2_le (b := 6) (by omega)
  have e2 := zor_n (x := h) (y := zp2 t) (by omega) (by omega)
  have e3 : (zp2 t).toNat = 2 ^ t.toNat := by rw [zp2_nat]; exact Int.toNat_natCast _
  have e4 : zp2 n = ((2 ^ n.toNat : Nat) : Int) := zp2_nat n
  have hlt : h.toNat ||| (zp2 t).toNat < 2 ^ n.toNat := Nat.or_lt_two_pow (by omega) (by rw [e3]; exact Nat.pow_lt_pow_right (by omega) (by omega))
  omega
/-- the first of a set, from t on, after whom there is a row -/
def zfr (x : Int) (R : Int → Int) (h : Int) : Nat → Int → Int
  | 0, _ => 0
  | k + 1, t => if zbit x t = 1 ∧ 0 < R (zor h (zp2 t)) then t else zfr x R h k (t + 1)
theorem zfr_b {x : Int} {R : Int → Int} {h : Int} (k : Nat) : ∀ t : Int, 0 ≤ t → 0 ≤ zfr x R h k t ∧ (zfr x R h k t = 0 ∨ zfr x R h k t < t + k) := by
  induction k with
  | zero => intro t _; exact ⟨Int.le_refl 0, Or.inl rfl⟩
  | succ k ih =>
    intro t ht
    have ih := ih (t + 1) (by omega)
    unfold zfr
    split <;> omega
/-- who are had before the bride b -/
def zhd (m R : Int → Int) (n : Int) : Nat → Int
  | 0 => 0
  | b + 1 => zor (zhd m R n b) (zp2 (zfr (zsb (m b) (zhd m R n b)) R (zhd m R n b) n.toNat 0))
/-- whose shoe the bride b has in the first row -/
def zfi (m R : Int → Int) (n b : Int) : Int := zfr (zsb (m b) (zhd m R n b.toNat)) R (zhd m R n b.toNat) n.toNat 0
theorem zfi_b {m R : Int → Int} {n b : Int} (hn : 1 ≤ n) : 0 ≤ zfi m R n b ∧ zfi m R n b < n := by
  have := zfr_b (x := zsb (m b) (zhd m R n b.toNat)) (R := R) (h := zhd m R n b.toNat) n.toNat 0 (by omega)
  unfold zfi
  omega
theorem zhd_b {m R : Int → Int} {n : Int} (hn : 1 ≤ n ∧ n ≤ 6) (b : Nat) : 0 ≤ zhd m R n b ∧ zhd m R n b < zp2 n := by
  induction b with
  | zero => exact ⟨Int.le_refl 0, zp2_pos n⟩
  | succ b ih =>
    have := zfr_b (x := zsb (m b) (zhd m R n b)) (R := R) (h := zhd m R n b) n.toNat 0 (by omega)
    exact zor_l (by omega) ih (by omega)
theorem zref_z {th la ln a i n : Int} (h : zref th la ln a i n = 0) : th ≠ 0 ∧ la = a ∧ 0 ≤ i ∧ 0 ≤ n ∧ i ≤ ln - n := by
  unfold zref at h
  split at h
  · exact absurd h (by decide)
  · split at h
    · exact absurd h (by decide)
    · split at h
      · exact absurd h (by decide)
      · omega
set_option maxHeartbeats 4000000 in
set_option maxRecDepth 100000 in
theorem t_firstFor {G : zG} {ad : Int → Nat} {M : zM} {x h n : Int} (hn : 1 ≤ n ∧ n ≤ 6) (hx : 0 ≤ x ∧ x < 64) (hh : 0 ≤ h ∧ h < zp2 n) (hR : ∀ j, 0 ≤ j ∧ j < zp2 n → 0 ≤ M 140 j ∧ M 140 j ≤ 46656)  : zTI G (zw ad) mi_X0_firstFor [zr 138, zi x, zi h, zi n] M (fun v M' => M' = M ∧ v = zfr x (M 140) h n.toNat 0) := by
  refine zTI.of (own := RX0) (ls := [some (zr 138), some (zi x), some (zi h), some (zi n), none]) (by decide +kernel) rfl rfl (Nat.le_of_ble_eq_true rfl) (fun γ ok rt => ?_)
  have p2 : zp2 n ≤ 64 := zp2_le (b := 6) hn.2
  have lp : ∀ (zn : Nat) (t : Int), zn = (7 - t).toNat → (0 ≤ t ∧ t ≤ n) → (zfr x (M 140) h n.toNat 0 = zfr x (M 140) h (n - t).toNat t) → zVV G γ (zw ad) (0, 0) 3 [some (zr 138), some (zi x), some (zi h), some (zi n), some (zi t)] [] M := by
    refine zrec _ (fun zn ih => ?_)
    intro t hzn ht he
    refine v_iload_4 ok dX0_firstFor_3 (n := 5) rfl ?_
    refine v_iload_3 ok dX0_firstFor_5 (n := 6) rfl ?_
    refine v_icmp_ge ok dX0_firstFor_6 (tgt := 42) (by decide) (n := 9) rfl (by omega) (by omega) (fun c6_1 => ?_) (fun c6_1 => ?_)
    · have c6_1 := c6_1
      refine v_iconst ok dX0_firstFor_42 (n := 43) rfl ?_
      refine v_iret rt dX0_firstFor_43 ?_
      refine ⟨rfl, ?_⟩
      rw [show (n - t).toNat = 0 by omega] at he
      exact he.symm
    · have c6_1 := c6_1
      refine v_iload_1 ok dX0_firstFor_9 (n := 10) rfl ?_
      refine v_iload_4 ok dX0_firstFor_10 (n := 12) rfl ?_
      refine v_ishr ok dX0_firstFor_12 (n := 13) rfl ?_
      refine v_iconst ok dX0_firstFor_13 (n := 14) rfl ?_
      refine v_iand ok dX0_firstFor_14 (n := 15) rfl ?_
      rw [zand_bit (by omega) (by omega)]
      have zbb := zbit_b x t
      rw [show (n - t).toNat = (n - (t + 1)).toNat + 1 by omega] at he
      conv at he => rhs; unfold zfr
      refine v_iconst ok dX0_firstFor_15 (n := 16) rfl ?_
      refine v_icmp_ne ok dX0_firstFor_16 (tgt := 36) (by decide) (n := 19) rfl (by omega) (by omega) (fun c16_2 => ?_) (fun c16_2 => ?_)
      · have c16_2 := c16_2
        refine v_iinc_4 ok (by decide) rfl dX0_firstFor_36 (n := 39) rfl ?_
        refine v_goto ok dX0_firstFor_39 (n := 3) (by decide) ?_
        rw [if_neg (by omega)] at he
        exact ih _ (by omega) _ rfl (by omega) he
      · have c16_2 := c16_2
        refine v_aload_0 ok dX0_firstFor_19 (n := 20) rfl ?_
        refine v_getR ok fd_X0_15 ly_138 rfl rfl rfl rf_138_1 dX0_firstFor_20 (n := 23) rfl ?_
        refine v_iload_2 ok dX0_firstFor_23 (n := 24) rfl ?_
        refine v_iconst ok dX0_firstFor_24 (n := 25) rfl ?_
        refine v_iload_4 ok dX0_firstFor_25 (n := 27) rfl ?_
        refine v_ishl ok dX0_firstFor_27 (n := 28) rfl ?_
        rw [zshl_1 (by omega)]
        refine v_ior ok dX0_firstFor_28 (n := 29) rfl ?_
        have hol := zor_l (h := h) (t := t) (n := n) (by omega) hh (by omega)
        have hrr := hR _ hol
        refine v_iald ok ly_140 rfl (by omega) (by decide) dX0_firstFor_29 (n := 30) rfl ?_
        refine v_if_le ok dX0_firstFor_30 (tgt := 36) (by decide) (n := 33) rfl (by omega) (fun c30_3 => ?_) (fun c30_3 => ?_)
        · have c30_3 := c30_3
          refine v_iinc_4 ok (by decide) rfl dX0_firstFor_36 (n := 39) rfl ?_
          refine v_goto ok dX0_firstFor_39 (n := 3) (by decide) ?_
          rw [if_neg (by omega)] at he
          exact ih _ (by omega) _ rfl (by omega) he
        · have c30_3 := c30_3
          refine v_iload_4 ok dX0_firstFor_33 (n := 35) rfl ?_
          refine v_iret rt dX0_firstFor_35 ?_
          refine ⟨rfl, ?_⟩
          rw [if_pos ⟨by assumption, by omega⟩] at he
          rw [he]
  refine v_iconst ok dX0_firstFor_0 (n := 1) rfl ?_
  refine v_istore_4 ok (by decide) rfl dX0_firstFor_1 (n := 3) rfl ?_
  exact lp _ 0 rfl (by omega) (by rw [show n - 0 = n by omega])

set_option maxHeartbeats 4000000 in
set_option maxRecDepth 100000 in
theorem t_takeFirst {G : zG} {ad : Int → Nat} {M : zM} {n : Int} (hn : 1 ≤ n ∧ n ≤ 6) (hm : ∀ b, 0 ≤ b ∧ b < n → 0 ≤ M 139 b ∧ M 139 b < 64) (hR : ∀ j, 0 ≤ j ∧ j < zp2 n → 0 ≤ M 140 j ∧ M 140 j ≤ 46656)  : zTV G (zw ad) mi_X0_takeFirst [zr 138, zi n] M (fun M' => (∀ r, r ≠ 141 → M' r = M r) ∧ ∀ j, 0 ≤ j ∧ j < n → M' 141 j = zfi (M 139) (M 140) n j) := by
  refine zTV.of (own := RX0) (ls := [some (zr 138), some (zi n), none, none]) (by decide +kernel) rfl rfl (Nat.le_of_ble_eq_true rfl) (fun γ ok rt => ?_)
  have p2 : zp2 n ≤ 64 := zp2_le (b := 6) hn.2
  have lp : ∀ (zn : Nat) (b : Int) (Mx : zM), zn = (7 - b).toNat → (0 ≤ b ∧ b ≤ n) → (∀ r, r ≠ 141 → Mx r = M r) → (∀ j, 0 ≤ j ∧ j < b → Mx 141 j = zfi (M 139) (M 140) n j) → zVV G γ (zw ad) (0, 0) 4 [some (zr 138), some (zi n), some (zi (zhd (M 139) (M 140) n b.toNat)), some (zi b)] [] Mx := by
    refine zrec _ (fun zn ih => ?_)
    intro b Mx hzn hb fx hf
    refine v_iload_3 ok dX0_takeFirst_4 (n := 5) rfl ?_
    refine v_iload_1 ok dX0_takeFirst_5 (n := 6) rfl ?_
    refine v_icmp_ge ok dX0_takeFirst_6 (tgt := 48) (by decide) (n := 9) rfl (by omega) (by omega) (fun c6_1 => ?_) (fun c6_1 => ?_)
    · have c6_1 := c6_1
      refine v_vret rt dX0_takeFirst_48 ?_
      exact ⟨fx, fun j hj => hf j (by omega)⟩
    · have c6_1 := c6_1
      have hdb := zhd_b (m := M 139) (R := M 140) hn b.toNat
      have hmb := hm b (by omega)
      have hsb := zsb_b hmb (show 0 ≤ (zhd (M 139) (M 140) n b.toNat) ∧ (zhd (M 139) (M 140) n b.toNat) < 64 by omega)
      refine v_aload_0 ok dX0_takeFirst_9 (n := 10) rfl ?_
      refine v_getR ok fd_X0_18 ly_138 rfl rfl rfl rf_138_2 dX0_takeFirst_10 (n := 13) rfl ?_
      refine v_iload_3 ok dX0_takeFirst_13 (n := 14) rfl ?_
      refine v_aload_0 ok dX0_takeFirst_14 (n := 15) rfl ?_
      refine v_aload_0 ok dX0_takeFirst_15 (n := 16) rfl ?_
      refine v_getR ok fd_X0_9 ly_138 rfl rfl rfl rf_138_0 dX0_takeFirst_16 (n := 19) rfl ?_
      refine v_iload_3 ok dX0_takeFirst_19 (n := 20) rfl ?_
      refine v_iald ok ly_139 rfl (by omega) (by decide) dX0_takeFirst_20 (n := 21) rfl ?_
      rw [fx 139 (by omega)]
      refine v_iload_2 ok dX0_takeFirst_21 (n := 22) rfl ?_
      refine v_iconst ok dX0_takeFirst_22 (n := 23) rfl ?_
      refine v_ixor ok dX0_takeFirst_23 (n := 24) rfl ?_
      refine v_iand ok dX0_takeFirst_24 (n := 25) rfl ?_
      refine v_iload_2 ok dX0_takeFirst_25 (n := 26) rfl ?_
      refine v_iload_1 ok dX0_takeFirst_26 (n := 27) rfl ?_
      refine v_callVI ok (mi := mi_X0_firstFor) mc_X0_firstFor cv_X0_44 ly_138 rfl rfl rfl (by decide) ⟨Nat.zero_le _, Nat.zero_le _⟩ dX0_takeFirst_27 (n := 30) rfl rfl rfl (Nat.le_of_ble_eq_true rfl) (by
          have e := t_firstFor (G := G) (ad := ad) (M := Mx) (x := zsb (M 139 b) (zhd (M 139) (M 140) n b.toNat)) (h := (zhd (M 139) (M 140) n b.toNat)) (n := n) hn hsb hdb (by rw [fx 140 (by omega)]; exact hR)
          rw [fx 140 (by omega)] at e
          exact e) (fun x1 M1 h1 => ?_)
      obtain ⟨h1_, h1⟩ := h1
      subst M1
      replace h1 : x1 = zfi (M 139) (M 140) n b := h1
      subst h1
      have hfb := zfi_b (m := M 139) (R := M 140) (n := n) (b := b) hn.1
      refine v_iast ok ly_141 rfl (by omega) (by decide) dX0_takeFirst_30 (n := 31) rfl ?_
      refine v_iload_2 ok dX0_takeFirst_31 (n := 32) rfl ?_
      refine v_iconst ok dX0_takeFirst_32 (n := 33) rfl ?_
      refine v_aload_0 ok dX0_takeFirst_33 (n := 34) rfl ?_
      refine v_getR ok fd_X0_18 ly_138 rfl rfl rfl rf_138_2 dX0_takeFirst_34 (n := 37) rfl ?_
      refine v_iload_3 ok dX0_takeFirst_37 (n := 38) rfl ?_
      refine v_iald ok ly_141 rfl (by omega) (by decide) dX0_takeFirst_38 (n := 39) rfl ?_
      rw [zset_s]
      refine v_ishl ok dX0_takeFirst_39 (n := 40) rfl ?_
      rw [zshl_1 (by omega)]
      refine v_ior ok dX0_takeFirst_40 (n := 41) rfl ?_
      rw [show zor (zhd (M 139) (M 140) n b.toNat) (zp2 (zfi (M 139) (M 140) n b)) = zhd (M 139) (M 140) n (b + 1).toNat by
        rw [show (b + 1).toNat = b.toNat + 1 by omega]
        conv => rhs; unfold zhd
        rw [show ((b.toNat : Nat) : Int) = b by omega]
        rfl]
      refine v_istore_2 ok (by decide) rfl dX0_takeFirst_41 (n := 42) rfl ?_
      refine v_iinc_3 ok (by decide) rfl dX0_takeFirst_42 (n := 45) rfl ?_
      refine v_goto ok dX0_takeFirst_45 (n := 4) (by decide) ?_
      exact ih _ (by omega) (b + 1) _ rfl (by omega) (fun r hr => by rw [zset_o hr]; exact fx r hr) (fun j hj => by
        by_cases e : j = b
        · subst e; rw [zset_s]
        · rw [zset_n e]; exact hf j (by omega))
  refine v_iconst ok dX0_takeFirst_0 (n := 1) rfl ?_
  refine v_istore_2 ok (by decide) rfl dX0_takeFirst_1 (n := 2) rfl ?_
  refine v_iconst ok dX0_takeFirst_2 (n := 3) rfl ?_
  refine v_istore_3 ok (by decide) rfl dX0_takeFirst_3 (n := 4) rfl ?_
  exact lp _ 0 M rfl (by omega) (fun r hr => rfl) (fun j hj => by omega)

set_option maxHeartbeats 4000000 in
set_option maxRecDepth 100000 in
theorem t_howMany {G : zG} {ad : Int → Nat} {M : zM}  : zTI G (zw ad) mi_X0_howMany [zr 138] M (fun x M' => M' = M ∧ x = M 140 0) := by
  refine zTI.of (own := RX0) (ls := [some (zr 138)]) (by decide +kernel) rfl rfl (Nat.le_of_ble_eq_true rfl) (fun γ ok rt => ?_)
  refine v_aload_0 ok dX0_howMany_0 (n := 1) rfl ?_
  refine v_getR ok fd_X0_15 ly_138 rfl rfl rfl rf_138_1 dX0_howMany_1 (n := 4) rfl ?_
  refine v_iconst ok dX0_howMany_4 (n := 5) rfl ?_
  refine v_iald ok ly_140 rfl (by omega) (by decide) dX0_howMany_5 (n := 6) rfl ?_
  refine v_iret rt dX0_howMany_6 ?_
  exact ⟨rfl, rfl⟩

/-- by how much the bride b limps in the shoe of another -/
def zgl (M : zM) (own : Int → Int) (b o : Int) : Int := zlim (zfo (M (5 + b)) (M (12 + own o) 0) (M (5 + b) 3)) (M (12 + own o) 1) (M (12 + own o) 2) (M 4 0)
theorem zgl_b {M : zM} {own : Int → Int} {b o : Int} (hB : zBR (M (5 + b))) (hS : zSR (M (12 + own o))) (h0 : 0 ≤ M 4 0 ∧ M 4 0 ≤ 6) : -1000 ≤ zgl M own b o ∧ zgl M own b o ≤ 1000 := by
  obtain ⟨a1, a2, a3, a4⟩ := hB
  obtain ⟨b1, b2, b3, b4⟩ := hS
  have h := zfo_b (f := M (5 + b)) (side := M (12 + own o) 0) (h := M (5 + b) 3) ⟨a1, a2, a3, a4⟩ (by omega) a4
  unfold zgl zlim zloo zgiv
  split <;> split <;> (try split) <;> (try split) <;> (try split) <;> omega
set_option maxHeartbeats 4000000 in
set_option maxRecDepth 100000 in
theorem t_mixes {G : zG} {ad : Int → Nat} {M : zM} {q i n : Int} (hq : 0 ≤ q ∧ q < 4) (hn : 1 ≤ n ∧ n ≤ 6) (hnn : n ≤ M 1 3) (hi : 0 ≤ i ∧ i + n ≤ 100) (hnb : 0 ≤ M 1 3 ∧ M 1 3 ≤ 7) (hns : 0 ≤ M 1 4 ∧ M 1 4 ≤ 16) (hB : ∀ b, 0 ≤ b ∧ b < M 1 3 → zBR (M (5 + b))) (hS : ∀ s, 0 ≤ s ∧ s < M 1 4 → zSR (M (12 + s))) (h0 : 0 ≤ M 4 0 ∧ M 4 0 ≤ 6) (hI : ∀ j i, 0 ≤ j ∧ j < 4 → 0 ≤ i ∧ i < 100 → -2147483648 ≤ M (181 + j) i ∧ M (181 + j) i ≤ 2147483647) (hW : ∀ b, 0 ≤ b ∧ b < M 1 3 → 0 ≤ M 77 b ∧ M 77 b < M 1 4)  : zTV G (zw ad) mi_X0_find [zr 138, zr 1, zr 77, zr (181 + q), zi i, zi n] M (fun M' => (∀ r, r < 138 ∨ 141 < r → M' r = M r) ∧ (∀ b, 0 ≤ b ∧ b < n → M' 139 b = zmay (zgl M (M 77) b) (M (181 + q) (i + b)) n.toNat) ∧ zRow (M' 139) n (M' 140) (-1) ∧ ∀ j, 0 ≤ j ∧ j < n → M' 141 j = zfi (M' 139) (M' 140) n j) := by
  refine zTV.of (own := RX0) (ls := [some (zr 138), some (zr 1), some (zr 77), some (zr (181 + q)), some (zi i), some (zi n), none, none]) (by decide +kernel) rfl rfl (Nat.le_of_ble_eq_true rfl) (fun γ ok rt => ?_)
  have p2 : zp2 n ≤ 64 := zp2_le (b := 6) hn.2
  have lpa : ∀ (zn : Nat) (b : Int) (l7 : Option zV) (Mx : zM), zn = (7 - b).toNat → (0 ≤ b ∧ b ≤ n) → (∀ r, r ≠ 139 → Mx r = M r) → (∀ j, 0 ≤ j ∧ j < b → Mx 139 j = zmay (zgl M (M 77) j) (M (181 + q) (i + j)) n.toNat) → zVV G γ (zw ad) (0, 0) 3 [some (zr 138), some (zr 1), some (zr 77), some (zr (181 + q)), some (zi i), some (zi n), some (zi b), l7] [] Mx := by
    refine zrec _ (fun zn ih => ?_)
    intro b l7 Mx hzn hb fx hf
    refine v_iload_6 ok dX0_find_3 (n := 5) rfl ?_
    refine v_iload_5 ok dX0_find_5 (n := 7) rfl ?_
    refine v_icmp_ge ok dX0_find_7 (tgt := 83) (by decide) (n := 10) rfl (by omega) (by omega) (fun c7_1 => ?_) (fun c7_1 => ?_)
    · have c7_1 := c7_1
      have hm : ∀ b, 0 ≤ b ∧ b < n → 0 ≤ Mx 139 b ∧ Mx 139 b < 64 := by
        intro j hj
        rw [hf j (by omega)]
        have e := zmay_b (zgl M (M 77) j) (M (181 + q) (i + j)) n.toNat
        rw [show ((n.toNat : Nat) : Int) = n by omega] at e
        omega
      refine v_aload_0 ok dX0_find_83 (n := 84) rfl ?_
      refine v_iload_5 ok dX0_find_84 (n := 86) rfl ?_
      refine v_callVV ok (mi := mi_X0_countRows) mc_X0_countRows cv_X0_31 ly_138 rfl rfl rfl (by decide) ⟨Nat.zero_le _, Nat.zero_le _⟩ dX0_find_86 (n := 89) rfl rfl rfl (Nat.le_of_ble_eq_true rfl) (t_countRows hn hm) (fun N1 g1 => ?_)
      obtain ⟨f1, tb⟩ := g1
      rw [← f1 139 (by omega)] at tb
      have hR : ∀ j, 0 ≤ j ∧ j < zp2 n → 0 ≤ N1 140 j ∧ N1 140 j ≤ 46656 := by
        intro j hj
        have e := (tb j (by omega)).2
        have e2 := z6_6 (k := n - zone j) (by have := zone_b j; omega)
        omega
      refine v_aload_0 ok dX0_find_89 (n := 90) rfl ?_
      refine v_iload_5 ok dX0_find_90 (n := 92) rfl ?_
      refine v_callVV ok (mi := mi_X0_takeFirst) mc_X0_takeFirst cv_X0_35 ly_138 rfl rfl rfl (by decide) ⟨Nat.zero_le _, Nat.zero_le _⟩ dX0_find_92 (n := 95) rfl rfl rfl (Nat.le_of_ble_eq_true rfl) (t_takeFirst hn (by rw [f1 139 (by omega)]; exact hm) hR) (fun N2 g2 => ?_)
      obtain ⟨f2, w2⟩ := g2
      refine v_vret rt dX0_find_95 ?_
      refine ⟨fun r hr => by rw [f2 r (by omega), f1 r (by omega), fx r (by omega)], fun j hj => by rw [f2 139 (by omega), f1 139 (by omega)]; exact hf j (by omega), ?_, ?_⟩
      · rw [f2 139 (by omega), f2 140 (by omega)]; exact tb
      · rw [f2 139 (by omega), f2 140 (by omega)]; exact w2
    · have c7_1 := c7_1
      have ih2 := ih
      have k77 : ∀ (l7 : Option zV) (Mx : zM), (∀ r, r ≠ 139 → Mx r = M r) → (∀ j, 0 ≤ j ∧ j < b + 1 → Mx 139 j = zmay (zgl M (M 77) j) (M (181 + q) (i + j)) n.toNat) → zVV G γ (zw ad) (0, 0) 77 [some (zr 138), some (zr 1), some (zr 77), some (zr (181 + q)), some (zi i), some (zi n), some (zi b), l7] [] Mx := by
        intro l7 Mx fx hf
        refine v_iinc_6 ok (by decide) rfl dX0_find_77 (n := 80) rfl ?_
        refine v_goto ok dX0_find_80 (n := 3) (by decide) ?_
        exact ih2 _ (by omega) (b + 1) _ _ rfl (by omega) fx hf
      have lpb : ∀ (zn : Nat) (o : Int) (Mx : zM), zn = (7 - o).toNat → (0 ≤ o ∧ o ≤ n) → (∀ r, r ≠ 139 → Mx r = M r) → (∀ j, 0 ≤ j ∧ j < b → Mx 139 j = zmay (zgl M (M 77) j) (M (181 + q) (i + j)) n.toNat) → (Mx 139 b = zmay (zgl M (M 77) b) (M (181 + q) (i + b)) o.toNat) → zVV G γ (zw ad) (0, 0) 21 [some (zr 138), some (zr 1), some (zr 77), some (zr (181 + q)), some (zi i), some (zi n), some (zi b), some (zi o)] [] Mx := by
        refine zrec _ (fun zn ih => ?_)
        intro o Mx hzn ho fx hf hc
        refine v_iload_7 ok dX0_find_21 (n := 23) rfl ?_
        refine v_iload_5 ok dX0_find_23 (n := 25) rfl ?_
        refine v_icmp_ge ok dX0_find_25 (tgt := 77) (by decide) (n := 28) rfl (by omega) (by omega) (fun c25_1 => ?_) (fun c25_1 => ?_)
        · have c25_1 := c25_1
          exact k77 _ _ fx (fun j hj => by
            by_cases e : j = b
            · subst e; rw [hc, show o = n by omega]
            · exact hf j (by omega))
        · have c25_1 := c25_1
          have hsh := hW o (by omega)
          have hgb := zgl_b (M := M) (own := M 77) (b := b) (o := o) (hB b (by omega)) (hS _ hsh) h0
          have hir := hI q (i + b) hq (by omega)
          have hmz := zmay_b (zgl M (M 77) b) (M (181 + q) (i + b)) o.toNat
          have hst : zmay (zgl M (M 77) b) (M (181 + q) (i + b)) (o + 1).toNat = if zgl M (M 77) b o = M (181 + q) (i + b) then zmay (zgl M (M 77) b) (M (181 + q) (i + b)) o.toNat + zp2 o else zmay (zgl M (M 77) b) (M (181 + q) (i + b)) o.toNat := by
            rw [show (o + 1).toNat = o.toNat + 1 by omega]
            conv => lhs; unfold zmay
            rw [show ((o.toNat : Nat) : Int) = o by omega]
          refine v_aload_1 ok dX0_find_28 (n := 29) rfl ?_
          refine v_iload_6 ok dX0_find_29 (n := 31) rfl ?_
          refine v_aload_2 ok dX0_find_31 (n := 32) rfl ?_
          refine v_iload_7 ok dX0_find_32 (n := 34) rfl ?_
          refine v_iald ok ly_77 rfl (by omega) (by decide) dX0_find_34 (n := 35) rfl ?_
          try simp (disch := omega) only [fx]
          refine v_aload_1 ok dX0_find_35 (n := 36) rfl ?_
          refine v_getR ok fd_X0_21 ly_1 rfl rfl rfl rf_1_0 dX0_find_36 (n := 39) rfl ?_
          refine v_iload_6 ok dX0_find_39 (n := 41) rfl ?_
          refine v_aald ok ly_2 (by decide) rfl (by omega) (by decide) rfl dX0_find_41 (n := 42) rfl ?_
          refine v_iconst ok dX0_find_42 (n := 43) rfl ?_
          refine v_iald ok (lf_bro (by omega)) rfl (by omega) (by decide) dX0_find_43 (n := 44) rfl ?_
          try simp (disch := omega) only [fx]
          refine v_callVI ok (mi := mi_X1_limpOf) mc_X1_limpOf cv_X0_27 ly_1 rfl rfl rfl (by decide) ⟨Nat.zero_le _, Nat.zero_le _⟩ dX0_find_44 (n := 47) rfl rfl rfl (Nat.le_of_ble_eq_true rfl) (by
              have e := t_limpOf (G := G) (ad := ad) (M := Mx) (b := b) (s := M 77 o) (h := M (5 + b) 3) (by omega) (by omega) (by have := (hB b (by omega)).2.2.2; omega) (by rw [fx (5 + b) (by omega)]; exact hB b (by omega)) (by rw [fx (12 + M 77 o) (by omega)]; exact hS _ hsh) (by rw [fx 4 (by omega)]; exact h0)
              rw [fx (5 + b) (by omega), fx (12 + M 77 o) (by omega), fx 4 (by omega)] at e
              exact e) (fun x1 N1 g1 => ?_)
          obtain ⟨g1, w1⟩ := g1
          subst N1
          replace w1 : x1 = zgl M (M 77) b o := w1
          subst w1
          refine v_aload_3 ok dX0_find_47 (n := 48) rfl ?_
          refine v_iload_4 ok dX0_find_48 (n := 50) rfl ?_
          refine v_iload_6 ok dX0_find_50 (n := 52) rfl ?_
          refine v_iadd ok dX0_find_52 (n := 53) rfl ?_
          refine v_iald ok (lf_ite (by omega)) rfl (by omega) (by decide) dX0_find_53 (n := 54) rfl ?_
          try simp (disch := omega) only [fx]
          refine v_icmp_ne ok dX0_find_54 (tgt := 71) (by decide) (n := 57) rfl (by omega) (by omega) (fun c54_2 => ?_) (fun c54_2 => ?_)
          · have c54_2 := c54_2
            rw [if_neg c54_2] at hst
            rw [← hst] at hc
            refine v_iinc_7 ok (by decide) rfl dX0_find_71 (n := 74) rfl ?_
            refine v_goto ok dX0_find_74 (n := 21) (by decide) ?_
            first
            | exact ih _ (by omega) (o + 1) _ rfl (by omega) fx hf hc
            | exact ih _ (by omega) (o + 1) _ rfl (by omega) (fun r hr => by rw [zset_o hr]; exact fx r hr) (fun j hj => by rw [zset_n (by omega)]; exact hf j hj) (by rw [zset_s, hst])
          · have c54_2 := c54_2
            rw [if_pos (by omega)] at hst
            refine v_aload_0 ok dX0_find_57 (n := 58) rfl ?_
            refine v_getR ok fd_X0_9 ly_138 rfl rfl rfl rf_138_0 dX0_find_58 (n := 61) rfl ?_
            refine v_iload_6 ok dX0_find_61 (n := 63) rfl ?_
            refine v_dup2 ok rfl rfl dX0_find_63 (n := 64) rfl ?_
            refine v_iald ok ly_139 rfl (by omega) (by decide) dX0_find_64 (n := 65) rfl ?_
            try simp (disch := omega) only [fx]
            rw [hc]
            refine v_iconst ok dX0_find_65 (n := 66) rfl ?_
            refine v_iload_7 ok dX0_find_66 (n := 68) rfl ?_
            refine v_ishl ok dX0_find_68 (n := 69) rfl ?_
            rw [zshl_1 (by omega)]
            refine v_ior ok dX0_find_69 (n := 70) rfl ?_
            rw [zmay_or _ _ _ (by omega)]
            refine v_iast ok ly_139 rfl (by omega) (by decide) dX0_find_70 (n := 71) rfl ?_
            refine v_iinc_7 ok (by decide) rfl dX0_find_71 (n := 74) rfl ?_
            refine v_goto ok dX0_find_74 (n := 21) (by decide) ?_
            first
            | exact ih _ (by omega) (o + 1) _ rfl (by omega) fx hf hc
            | exact ih _ (by omega) (o + 1) _ rfl (by omega) (fun r hr => by rw [zset_o hr]; exact fx r hr) (fun j hj => by rw [zset_n (by omega)]; exact hf j hj) (by rw [zset_s, hst])
      refine v_aload_0 ok dX0_find_10 (n := 11) rfl ?_
      refine v_getR ok fd_X0_9 ly_138 rfl rfl rfl rf_138_0 dX0_find_11 (n := 14) rfl ?_
      refine v_iload_6 ok dX0_find_14 (n := 16) rfl ?_
      refine v_iconst ok dX0_find_16 (n := 17) rfl ?_
      refine v_iast ok ly_139 rfl (by omega) (by decide) dX0_find_17 (n := 18) rfl ?_
      refine v_iconst ok dX0_find_18 (n := 19) rfl ?_
      refine v_istore_7 ok (by decide) rfl dX0_find_19 (n := 21) rfl ?_
      exact lpb _ 0 _ rfl (by omega) (fun r hr => by rw [zset_o hr]; exact fx r hr) (fun j hj => by rw [zset_n (by omega)]; exact hf j hj) (by rw [zset_s]; rfl)
  refine v_iconst ok dX0_find_0 (n := 1) rfl ?_
  refine v_istore_6 ok (by decide) rfl dX0_find_1 (n := 3) rfl ?_
  exact lpa _ 0 _ M rfl (by omega) (fun r hr => rfl) (fun j hj => by omega)

