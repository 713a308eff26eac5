/-! the model: words, tries -/
set_option maxHeartbeats 4000000 in
set_option maxRecDepth 100000 in
theorem u_ones {G : zG} {ad : Int → Nat} {M : zM} {x : Int} (hx : 0 ≤ x ∧ x < 65536)  : zTI G (zw ad) mi_X8_ones [zi x] M (fun y M' => M' = M ∧ y = zone x) := by
  refine zTI.of (own := RX8) (ls := [some (zi x), none, none]) (by decide +kernel) rfl rfl (Nat.le_of_ble_eq_true rfl) (fun γ ok rt => ?_)
  have lp : ∀ (zn : Nat) (v n : Int), zn = v.toNat → (0 ≤ v ∧ v < 65536) → (0 ≤ n) → (zone x = n + zone v) → zVV G γ (zw ad) (0, 0) 4 [some (zi x), some (zi n), some (zi v)] [] M := by
    refine zrec _ (fun zn ih => ?_)
    intro v n hzn hv2 hn he
    refine v_iload_2 ok dX8_ones_4 (n := 5) rfl ?_
    refine v_if_eq ok dX8_ones_5 (tgt := 20) (by decide) (n := 8) rfl (by omega) (fun c5_1 => ?_) (fun c5_1 => ?_)
    · have c5_1 := c5_1
      refine v_iload_1 ok dX8_ones_20 (n := 21) rfl ?_
      refine v_iret rt dX8_ones_21 ?_
      refine ⟨rfl, ?_⟩
      have h0 : v = 0 := by assumption
      rw [he, h0, show zone 0 = 0 from rfl, Int.add_zero]
    · have c5_1 := c5_1
      refine v_iinc_1 ok (by decide) rfl dX8_ones_8 (n := 11) rfl ?_
      refine v_iload_2 ok dX8_ones_11 (n := 12) rfl ?_
      refine v_iload_2 ok dX8_ones_12 (n := 13) rfl ?_
      refine v_iconst ok dX8_ones_13 (n := 14) rfl ?_
      refine v_isub ok dX8_ones_14 (n := 15) rfl ?_
      refine v_iand ok dX8_ones_15 (n := 16) rfl ?_
      have hc := znes_clr 16 v.toNat (by omega) (by omega)
      have ha := zand_n (x := v) (y := v - 1) (by omega) (by omega)
      rw [show (v - 1).toNat = v.toNat - 1 by omega] at ha
      rw [ha]
      refine v_istore_2 ok (by decide) rfl dX8_ones_16 (n := 17) rfl ?_
      refine v_goto ok dX8_ones_17 (n := 4) (by decide) ?_
      exact ih _ (by omega) _ _ rfl (by omega) (by omega) (by unfold zone at he ⊢; rw [Int.toNat_natCast]; omega)
  refine v_iconst ok dX8_ones_0 (n := 1) rfl ?_
  refine v_istore_1 ok (by decide) rfl dX8_ones_1 (n := 2) rfl ?_
  refine v_iload_0 ok dX8_ones_2 (n := 3) rfl ?_
  refine v_istore_2 ok (by decide) rfl dX8_ones_3 (n := 4) rfl ?_
  exact lp _ x 0 rfl hx (by omega) (by omega)

/-- the model's table of the fewest tries -/
def zMT (M : zM) (a b : Int) : Int := if b ≤ a then 0 else M 218 (41 * (a - 20) + b - 20)
def zMB2 (T : Int → Int → Int) (a b t : Int) : Int := 1 + zmax (T a (t - 1)) (T (t + 1) b)
set_option maxHeartbeats 4000000 in
set_option maxRecDepth 100000 in
theorem u_triesOf {G : zG} {ad : Int → Nat} {M : zM} {a b : Int} (ha : 20 ≤ a ∧ a ≤ 61) (hb : 19 ≤ b ∧ b ≤ 60)  : zTI G (zw ad) mi_X8_triesOf [zr 200, zi a, zi b] M (fun x M' => M' = M ∧ x = zMT M a b) := by
  refine zTI.of (own := RX8) (ls := [some (zr 200), some (zi a), some (zi b)]) (by decide +kernel) rfl rfl (Nat.le_of_ble_eq_true rfl) (fun γ ok rt => ?_)
  refine v_iload_1 ok dX8_triesOf_0 (n := 1) rfl ?_
  refine v_iload_2 ok dX8_triesOf_1 (n := 2) rfl ?_
  refine v_icmp_lt ok dX8_triesOf_2 (tgt := 9) (by decide) (n := 5) rfl (by omega) (by omega) (fun c2_1 => ?_) (fun c2_1 => ?_)
  · have c2_1 := c2_1
    refine v_aload_0 ok dX8_triesOf_9 (n := 10) rfl ?_
    refine v_getR ok fd_X8_45 ly_200 rfl rfl rfl rf_200_17 dX8_triesOf_10 (n := 13) rfl ?_
    refine v_bipush ok (by decide) dX8_triesOf_13 (n := 15) rfl ?_
    refine v_iload_1 ok dX8_triesOf_15 (n := 16) rfl ?_
    refine v_bipush ok (by decide) dX8_triesOf_16 (n := 18) rfl ?_
    refine v_isub ok dX8_triesOf_18 (n := 19) rfl ?_
    refine v_imul ok dX8_triesOf_19 (n := 20) rfl ?_
    refine v_iload_2 ok dX8_triesOf_20 (n := 21) rfl ?_
    refine v_iadd ok dX8_triesOf_21 (n := 22) rfl ?_
    refine v_bipush ok (by decide) dX8_triesOf_22 (n := 24) rfl ?_
    refine v_isub ok dX8_triesOf_24 (n := 25) rfl ?_
    refine v_iald ok ly_218 rfl (by omega) (by decide) dX8_triesOf_25 (n := 26) rfl ?_
    refine v_iret rt dX8_triesOf_26 ?_
    refine ⟨rfl, ?_⟩
    unfold zMT
    first
    | rw [if_pos (by omega)]
    | rw [if_neg (by omega)]
  · have c2_1 := c2_1
    refine v_iconst ok dX8_triesOf_5 (n := 6) rfl ?_
    refine v_goto ok dX8_triesOf_6 (n := 26) (by decide) ?_
    refine v_iret rt dX8_triesOf_26 ?_
    refine ⟨rfl, ?_⟩
    unfold zMT
    first
    | rw [if_pos (by omega)]
    | rw [if_neg (by omega)]

set_option maxHeartbeats 4000000 in
set_option maxRecDepth 100000 in
theorem u_triesBy {G : zG} {ad : Int → Nat} {M : zM} {a b t : Int} (ht : 20 ≤ a ∧ a ≤ t ∧ t ≤ b ∧ b ≤ 60) (h1 : 0 ≤ zMT M a (t - 1) ∧ zMT M a (t - 1) ≤ 1000100) (h2 : 0 ≤ zMT M (t + 1) b ∧ zMT M (t + 1) b ≤ 1000100)  : zTI G (zw ad) mi_X8_triesBy [zr 200, zi a, zi b, zi t] M (fun x M' => M' = M ∧ x = zMB2 (zMT M) a b t) := by
  refine zTI.of (own := RX8) (ls := [some (zr 200), some (zi a), some (zi b), some (zi t), none, none]) (by decide +kernel) rfl rfl (Nat.le_of_ble_eq_true rfl) (fun γ ok rt => ?_)
  refine v_aload_0 ok dX8_triesBy_0 (n := 1) rfl ?_
  refine v_iload_1 ok dX8_triesBy_1 (n := 2) rfl ?_
  refine v_iload_3 ok dX8_triesBy_2 (n := 3) rfl ?_
  refine v_iconst ok dX8_triesBy_3 (n := 4) rfl ?_
  refine v_isub ok dX8_triesBy_4 (n := 5) rfl ?_
  refine v_callVI ok (mi := mi_X8_triesOf) mc_X8_triesOf cv_X8_209 ly_200 rfl rfl rfl (by decide) ⟨Nat.zero_le _, Nat.zero_le _⟩ dX8_triesBy_5 (n := 8) rfl rfl rfl (Nat.le_of_ble_eq_true rfl) (u_triesOf (by omega) (by omega)) (fun x1 M1 w1 => ?_)
  obtain ⟨w1_, rfl⟩ := w1
  subst M1
  refine v_istore_4 ok (by decide) rfl dX8_triesBy_8 (n := 10) rfl ?_
  refine v_aload_0 ok dX8_triesBy_10 (n := 11) rfl ?_
  refine v_iload_3 ok dX8_triesBy_11 (n := 12) rfl ?_
  refine v_iconst ok dX8_triesBy_12 (n := 13) rfl ?_
  refine v_iadd ok dX8_triesBy_13 (n := 14) rfl ?_
  refine v_iload_2 ok dX8_triesBy_14 (n := 15) rfl ?_
  refine v_callVI ok (mi := mi_X8_triesOf) mc_X8_triesOf cv_X8_209 ly_200 rfl rfl rfl (by decide) ⟨Nat.zero_le _, Nat.zero_le _⟩ dX8_triesBy_15 (n := 18) rfl rfl rfl (Nat.le_of_ble_eq_true rfl) (u_triesOf (by omega) (by omega)) (fun x2 M2 w2 => ?_)
  obtain ⟨w2_, rfl⟩ := w2
  subst M2
  refine v_istore_5 ok (by decide) rfl dX8_triesBy_18 (n := 20) rfl ?_
  refine v_iconst ok dX8_triesBy_20 (n := 21) rfl ?_
  refine v_iload_4 ok dX8_triesBy_21 (n := 23) rfl ?_
  refine v_iload_5 ok dX8_triesBy_23 (n := 25) rfl ?_
  refine v_icmp_le ok dX8_triesBy_25 (tgt := 33) (by decide) (n := 28) rfl (by omega) (by omega) (fun c25_1 => ?_) (fun c25_1 => ?_)
  · have c25_1 := c25_1
    refine v_iload_5 ok dX8_triesBy_33 (n := 35) rfl ?_
    refine v_iadd ok dX8_triesBy_35 (n := 36) rfl ?_
    refine v_iret rt dX8_triesBy_36 ?_
    refine ⟨rfl, ?_⟩
    unfold zMB2 zmax
    first
    | rw [if_pos (by omega)]
    | (rw [if_neg (by omega)])
    | (split <;> omega)
  · have c25_1 := c25_1
    refine v_iload_4 ok dX8_triesBy_28 (n := 30) rfl ?_
    refine v_goto ok dX8_triesBy_30 (n := 35) (by decide) ?_
    refine v_iadd ok dX8_triesBy_35 (n := 36) rfl ?_
    refine v_iret rt dX8_triesBy_36 ?_
    refine ⟨rfl, ?_⟩
    unfold zMB2 zmax
    first
    | rw [if_pos (by omega)]
    | (rw [if_neg (by omega)])
    | (split <;> omega)

