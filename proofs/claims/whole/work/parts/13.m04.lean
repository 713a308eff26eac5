/-! the class: rows filled, copied; sheets; images -/
def zfil (M : zM) (R m v : Int) : zM := fun r j => if r = R ∧ 0 ≤ j ∧ j < m then v else M r j
theorem zfil_0 {M : zM} {R v : Int} : zfil M R 0 v = M := by
  funext r j
  unfold zfil
  rw [if_neg (by omega)]
theorem zfil_s {M : zM} {R i v : Int} (hi : 0 ≤ i) : zset (zfil M R i v) R i v = zfil M R (i + 1) v := by
  funext r j
  show (if r = R ∧ j = i then v else (if r = R ∧ 0 ≤ j ∧ j < i then v else M r j)) = (if r = R ∧ 0 ≤ j ∧ j < i + 1 then v else M r j)
  by_cases h2 : r = R ∧ j = i
  · rw [if_pos h2, if_pos (by omega)]
  · rw [if_neg h2]
    by_cases h : r = R ∧ 0 ≤ j ∧ j < i
    · rw [if_pos h, if_pos (by omega)]
    · rw [if_neg h, if_neg (by omega)]
/-- n rows of four from the region src on come to those from dst on -/
def zcpR (M : zM) (src dst n : Int) : zM := fun r j => if dst ≤ r ∧ r < dst + n ∧ 0 ≤ j ∧ j < 4 then M (src + (r - dst)) j else M r j
theorem zcpR_0 {M : zM} {src dst : Int} : zcpR M src dst 0 = M := by
  funext r j
  unfold zcpR
  rw [if_neg (by omega)]
theorem zcpR_s {M : zM} {src dst i : Int} (hi : 0 ≤ i) (h : src + i < dst ∨ dst + i ≤ src) : zcpy (zcpR M src dst i) (src + i) 0 (dst + i) 0 4 = zcpR M src dst (i + 1) := by
  funext r j
  unfold zcpy
  by_cases h1 : r = dst + i ∧ 0 ≤ j ∧ j < 0 + 4
  · rw [if_pos h1]
    obtain ⟨rfl, h2⟩ := h1
    unfold zcpR
    rw [if_neg (by omega), if_pos (by omega)]
    rw [show src + (dst + i - dst) = src + i by omega, show 0 + (j - 0) = j by omega]
  · rw [if_neg h1]
    unfold zcpR
    by_cases h2 : dst ≤ r ∧ r < dst + i ∧ 0 ≤ j ∧ j < 4
    · rw [if_pos h2, if_pos (by omega)]
    · rw [if_neg h2, if_neg (by omega)]
set_option maxHeartbeats 4000000 in
set_option maxRecDepth 100000 in
theorem t_fillI {G : zG} {ad : Int → Nat} {M : zM} {r b v : Int} {m : Nat} (hl : zlay r = (0, m, b)) (hm : m ≤ 65536) : zTV G (zw ad) mi_J7_fill_53178 [zr r, zi v] M (fun M' => M' = zfil M r m v) := by
  refine zTV.of (own := RJ7) (ls := [some (zr r), some (zi v), none, none]) (by decide +kernel) rfl rfl (Nat.le_of_ble_eq_true rfl) (fun γ ok rt => ?_)
  have lp : ∀ (zn : Nat) (i : Int), zn = (65536 - i).toNat → (0 ≤ i ∧ i ≤ m) → zVV G γ (zw ad) (0, 0) 5 [some (zr r), some (zi v), some (zi i), some (zi m)] [] (zfil M r i v) := by
    refine zrec _ (fun zn ih => ?_)
    intro i hzn hi
    refine v_iload_2 ok dJ7_fill_53178_5 (n := 6) rfl ?_
    refine v_iload_3 ok dJ7_fill_53178_6 (n := 7) rfl ?_
    refine v_icmp_ge ok dJ7_fill_53178_7 (tgt := 20) (by decide) (n := 10) rfl (by omega) (by omega) (fun c7_1 => ?_) (fun c7_1 => ?_)
    · have c7_1 := c7_1
      refine v_vret rt dJ7_fill_53178_20 ?_
      rw [show i = (m : Int) by omega]
    · have c7_1 := c7_1
      refine v_aload_0 ok dJ7_fill_53178_10 (n := 11) rfl ?_
      refine v_iload_2 ok dJ7_fill_53178_11 (n := 12) rfl ?_
      refine v_iload_1 ok dJ7_fill_53178_12 (n := 13) rfl ?_
      refine v_iast ok hl rfl (by omega) (by omega) dJ7_fill_53178_13 (n := 14) rfl ?_
      refine v_iinc_2 ok (by decide) rfl dJ7_fill_53178_14 (n := 17) rfl ?_
      refine v_goto ok dJ7_fill_53178_17 (n := 5) (by decide) ?_
      rw [zfil_s hi.1]
      exact ih _ (by omega) _ rfl (by omega)
  refine v_iconst ok dJ7_fill_53178_0 (n := 1) rfl ?_
  refine v_istore_2 ok (by decide) rfl dJ7_fill_53178_1 (n := 2) rfl ?_
  refine v_aload_0 ok dJ7_fill_53178_2 (n := 3) rfl ?_
  refine v_alen ok hl (by decide) rfl rfl dJ7_fill_53178_3 (n := 4) rfl ?_
  refine v_istore_3 ok (by decide) rfl dJ7_fill_53178_4 (n := 5) rfl ?_
  have e := lp _ 0 rfl (by omega)
  rw [zfil_0] at e
  exact e

set_option maxHeartbeats 4000000 in
set_option maxRecDepth 100000 in
theorem t_fillJ {G : zG} {ad : Int → Nat} {M : zM} {r b v : Int} {m : Nat} (hl : zlay r = (2, m, b)) (hm : m ≤ 65536) : zTV G (zw ad) mi_J7_fill_d0a16 [zr r, zj v] M (fun M' => M' = zfil M r m v) := by
  refine zTV.of (own := RJ7) (ls := [some (zr r), some (zj v), none, none, none]) (by decide +kernel) rfl rfl (Nat.le_of_ble_eq_true rfl) (fun γ ok rt => ?_)
  have lp : ∀ (zn : Nat) (i : Int), zn = (65536 - i).toNat → (0 ≤ i ∧ i ≤ m) → zVV G γ (zw ad) (0, 0) 6 [some (zr r), some (zj v), none, some (zi i), some (zi m)] [] (zfil M r i v) := by
    refine zrec _ (fun zn ih => ?_)
    intro i hzn hi
    refine v_iload_3 ok dJ7_fill_d0a16_6 (n := 7) rfl ?_
    refine v_iload_4 ok dJ7_fill_d0a16_7 (n := 9) rfl ?_
    refine v_icmp_ge ok dJ7_fill_d0a16_9 (tgt := 22) (by decide) (n := 12) rfl (by omega) (by omega) (fun c9_1 => ?_) (fun c9_1 => ?_)
    · have c9_1 := c9_1
      refine v_vret rt dJ7_fill_d0a16_22 ?_
      rw [show i = (m : Int) by omega]
    · have c9_1 := c9_1
      refine v_aload_0 ok dJ7_fill_d0a16_12 (n := 13) rfl ?_
      refine v_iload_3 ok dJ7_fill_d0a16_13 (n := 14) rfl ?_
      refine v_lload_1 ok dJ7_fill_d0a16_14 (n := 15) rfl ?_
      refine v_last ok hl rfl (by omega) (by omega) dJ7_fill_d0a16_15 (n := 16) rfl ?_
      refine v_iinc_3 ok (by decide) rfl dJ7_fill_d0a16_16 (n := 19) rfl ?_
      refine v_goto ok dJ7_fill_d0a16_19 (n := 6) (by decide) ?_
      rw [zfil_s hi.1]
      exact ih _ (by omega) _ rfl (by omega)
  refine v_iconst ok dJ7_fill_d0a16_0 (n := 1) rfl ?_
  refine v_istore_3 ok (by decide) rfl dJ7_fill_d0a16_1 (n := 2) rfl ?_
  refine v_aload_0 ok dJ7_fill_d0a16_2 (n := 3) rfl ?_
  refine v_alen ok hl (by decide) rfl rfl dJ7_fill_d0a16_3 (n := 4) rfl ?_
  refine v_istore_4 ok (by decide) rfl dJ7_fill_d0a16_4 (n := 6) rfl ?_
  have e := lp _ 0 rfl (by omega)
  rw [zfil_0] at e
  exact e

set_option maxHeartbeats 4000000 in
set_option maxRecDepth 100000 in
theorem t_renew {G : zG} {ad : Int → Nat} {M : zM} {j a n : Int} (hj : 0 ≤ j ∧ j < 4)  : zTV G (zw ad) mi_X3_renew [zr (177 + j), zi a, zi n] M (fun M' => M' = (zset (zset (zset (zfil M (181 + j) 100 0) (177 + j) 1 (1)) (177 + j) 2 (a)) (177 + j) 3 (n))) := by
  refine zTV.of (own := RX3) (ls := [some (zr (177 + j)), some (zi a), some (zi n)]) (by decide +kernel) rfl rfl (Nat.le_of_ble_eq_true rfl) (fun γ ok rt => ?_)
  refine v_aload_0 ok dX3_renew_0 (n := 1) rfl ?_
  refine v_getR ok fd_X3_9 (lf_she (by omega)) rfl rfl rfl (rf_she (by omega)) dX3_renew_1 (n := 4) rfl ?_
  refine v_iconst ok dX3_renew_4 (n := 5) rfl ?_
  refine v_callSV ok (mi := mi_J7_fill_53178) mc_J7_fill_53178 cs_X3_26 (by decide) ⟨Nat.zero_le _, Nat.zero_le _⟩ dX3_renew_5 (n := 8) rfl rfl rfl (Nat.le_of_ble_eq_true rfl) (t_fillI (lf_ite hj) (by decide)) (fun M8 h8 => ?_)
  subst h8
  refine v_aload_0 ok dX3_renew_8 (n := 9) rfl ?_
  refine v_iconst ok dX3_renew_9 (n := 10) rfl ?_
  refine v_putZ ok fw_X3_15 (by omega) (lf_she (by omega)) rfl rfl (jI := 1) rfl dX3_renew_10 (n := 13) rfl ?_
  refine v_aload_0 ok dX3_renew_13 (n := 14) rfl ?_
  refine v_iload_1 ok dX3_renew_14 (n := 15) rfl ?_
  refine v_putI ok fw_X3_19 (lf_she (by omega)) rfl rfl (jI := 2) rfl dX3_renew_15 (n := 18) rfl ?_
  refine v_aload_0 ok dX3_renew_18 (n := 19) rfl ?_
  refine v_iload_2 ok dX3_renew_19 (n := 20) rfl ?_
  refine v_putI ok fw_X3_23 (lf_she (by omega)) rfl rfl (jI := 3) rfl dX3_renew_20 (n := 23) rfl ?_
  refine v_vret rt dX3_renew_23 ?_
  rfl

/-- what a sheet refuses: is it there, its lane, its length; the lane, place, number asked for -/
def zref (th la ln a i n : Int) : Int := if th = 0 then -11 else if la ≠ a then -12 else if i < 0 ∨ n < 0 ∨ ln - n < i then -13 else 0
set_option maxHeartbeats 4000000 in
set_option maxRecDepth 100000 in
theorem t_refusal {G : zG} {ad : Int → Nat} {M : zM} {j a i n : Int} (hj : 0 ≤ j ∧ j < 4) (hth : M (177 + j) 1 = 0 ∨ M (177 + j) 1 = 1) (hla : 0 ≤ M (177 + j) 2 ∧ M (177 + j) 2 ≤ 2) (hln : 0 ≤ M (177 + j) 3 ∧ M (177 + j) 3 ≤ 100) (ha : -2147483648 ≤ a ∧ a ≤ 2147483647) (hi : -2147483648 ≤ i ∧ i ≤ 2147483647) (hn : -2147483648 ≤ n ∧ n ≤ 2147483647) : zTI G (zw ad) mi_X3_refusal [zr (177 + j), zi a, zi i, zi n] M (fun x M' => M' = M ∧ x = zref (M (177 + j) 1) (M (177 + j) 2) (M (177 + j) 3) a i n) := by
  refine zTI.of (own := RX3) (ls := [some (zr (177 + j)), some (zi a), some (zi i), some (zi n)]) (by decide +kernel) rfl rfl (Nat.le_of_ble_eq_true rfl) (fun γ ok rt => ?_)
  refine v_aload_0 ok dX3_refusal_0 (n := 1) rfl ?_
  refine v_getI ok fd_X3_15 (lf_she (by omega)) rfl rfl (jI := 1) rfl dX3_refusal_1 (n := 4) rfl ?_
  refine v_if_ne ok dX3_refusal_4 (tgt := 10) (by decide) (n := 7) rfl (by omega) (fun c4_1 => ?_) (fun c4_1 => ?_)
  · have c4_1 := c4_1
    refine v_aload_0 ok dX3_refusal_10 (n := 11) rfl ?_
    refine v_getI ok fd_X3_19 (lf_she (by omega)) rfl rfl (jI := 2) rfl dX3_refusal_11 (n := 14) rfl ?_
    refine v_iload_1 ok dX3_refusal_14 (n := 15) rfl ?_
    refine v_icmp_eq ok dX3_refusal_15 (tgt := 21) (by decide) (n := 18) rfl (by omega) (by omega) (fun c15_2 => ?_) (fun c15_2 => ?_)
    · have c15_2 := c15_2
      refine v_iload_2 ok dX3_refusal_21 (n := 22) rfl ?_
      refine v_if_lt ok dX3_refusal_22 (tgt := 39) (by decide) (n := 25) rfl (by omega) (fun c22_3 => ?_) (fun c22_3 => ?_)
      · have c22_3 := c22_3
        refine v_bipush ok (by decide) dX3_refusal_39 (n := 41) rfl ?_
        refine v_goto ok dX3_refusal_41 (n := 45) (by decide) ?_
        refine v_iret rt dX3_refusal_45 ?_
        refine ⟨rfl, ?_⟩
        unfold zref
        first
        | (rw [if_pos (by omega)])
        | (rw [if_neg (by omega), if_pos (by omega)])
        | (rw [if_neg (by omega), if_neg (by omega), if_pos (by omega)])
        | (rw [if_neg (by omega), if_neg (by omega), if_neg (by omega)])
      · have c22_3 := c22_3
        refine v_iload_3 ok dX3_refusal_25 (n := 26) rfl ?_
        refine v_if_lt ok dX3_refusal_26 (tgt := 39) (by decide) (n := 29) rfl (by omega) (fun c26_4 => ?_) (fun c26_4 => ?_)
        · have c26_4 := c26_4
          refine v_bipush ok (by decide) dX3_refusal_39 (n := 41) rfl ?_
          refine v_goto ok dX3_refusal_41 (n := 45) (by decide) ?_
          refine v_iret rt dX3_refusal_45 ?_
          refine ⟨rfl, ?_⟩
          unfold zref
          first
          | (rw [if_pos (by omega)])
          | (rw [if_neg (by omega), if_pos (by omega)])
          | (rw [if_neg (by omega), if_neg (by omega), if_pos (by omega)])
          | (rw [if_neg (by omega), if_neg (by omega), if_neg (by omega)])
        · have c26_4 := c26_4
          refine v_iload_2 ok dX3_refusal_29 (n := 30) rfl ?_
          refine v_aload_0 ok dX3_refusal_30 (n := 31) rfl ?_
          refine v_getI ok fd_X3_23 (lf_she (by omega)) rfl rfl (jI := 3) rfl dX3_refusal_31 (n := 34) rfl ?_
          refine v_iload_3 ok dX3_refusal_34 (n := 35) rfl ?_
          refine v_isub ok dX3_refusal_35 (n := 36) rfl ?_
          refine v_icmp_le ok dX3_refusal_36 (tgt := 44) (by decide) (n := 39) rfl (by omega) (by omega) (fun c36_5 => ?_) (fun c36_5 => ?_)
          · have c36_5 := c36_5
            refine v_iconst ok dX3_refusal_44 (n := 45) rfl ?_
            refine v_iret rt dX3_refusal_45 ?_
            refine ⟨rfl, ?_⟩
            unfold zref
            first
            | (rw [if_pos (by omega)])
            | (rw [if_neg (by omega), if_pos (by omega)])
            | (rw [if_neg (by omega), if_neg (by omega), if_pos (by omega)])
            | (rw [if_neg (by omega), if_neg (by omega), if_neg (by omega)])
          · have c36_5 := c36_5
            refine v_bipush ok (by decide) dX3_refusal_39 (n := 41) rfl ?_
            refine v_goto ok dX3_refusal_41 (n := 45) (by decide) ?_
            refine v_iret rt dX3_refusal_45 ?_
            refine ⟨rfl, ?_⟩
            unfold zref
            first
            | (rw [if_pos (by omega)])
            | (rw [if_neg (by omega), if_pos (by omega)])
            | (rw [if_neg (by omega), if_neg (by omega), if_pos (by omega)])
            | (rw [if_neg (by omega), if_neg (by omega), if_neg (by omega)])
    · have c15_2 := c15_2
      refine v_bipush ok (by decide) dX3_refusal_18 (n := 20) rfl ?_
      refine v_iret rt dX3_refusal_20 ?_
      refine ⟨rfl, ?_⟩
      unfold zref
      first
      | (rw [if_pos (by omega)])
      | (rw [if_neg (by omega), if_pos (by omega)])
      | (rw [if_neg (by omega), if_neg (by omega), if_pos (by omega)])
      | (rw [if_neg (by omega), if_neg (by omega), if_neg (by omega)])
  · have c4_1 := c4_1
    refine v_bipush ok (by decide) dX3_refusal_7 (n := 9) rfl ?_
    refine v_iret rt dX3_refusal_9 ?_
    refine ⟨rfl, ?_⟩
    unfold zref
    first
    | (rw [if_pos (by omega)])
    | (rw [if_neg (by omega), if_pos (by omega)])
    | (rw [if_neg (by omega), if_neg (by omega), if_pos (by omega)])
    | (rw [if_neg (by omega), if_neg (by omega), if_neg (by omega)])

def zcut (a v : Int) : Int := if a = 0 then zi2b v else if a = 1 then zi2s v else v
set_option maxHeartbeats 4000000 in
set_option maxRecDepth 100000 in
theorem t_cut {G : zG} {ad : Int → Nat} {M : zM} {a v : Int} (ha : -2147483648 ≤ a ∧ a ≤ 2147483647) (hv : -2147483648 ≤ v ∧ v ≤ 2147483647) : zTI G (zw ad) mi_X3_cut [zi a, zi v] M (fun x M' => M' = M ∧ x = zcut a v) := by
  refine zTI.of (own := RX3) (ls := [some (zi a), some (zi v)]) (by decide +kernel) rfl rfl (Nat.le_of_ble_eq_true rfl) (fun γ ok rt => ?_)
  refine v_iload_0 ok dX3_cut_0 (n := 1) rfl ?_
  refine v_if_ne ok dX3_cut_1 (tgt := 7) (by decide) (n := 4) rfl (by omega) (fun c1_1 => ?_) (fun c1_1 => ?_)
  · have c1_1 := c1_1
    refine v_iload_0 ok dX3_cut_7 (n := 8) rfl ?_
    refine v_iconst ok dX3_cut_8 (n := 9) rfl ?_
    refine v_icmp_ne ok dX3_cut_9 (tgt := 17) (by decide) (n := 12) rfl (by omega) (by omega) (fun c9_2 => ?_) (fun c9_2 => ?_)
    · have c9_2 := c9_2
      refine v_iload_1 ok dX3_cut_17 (n := 18) rfl ?_
      refine v_iret rt dX3_cut_18 ?_
      refine ⟨rfl, ?_⟩
      unfold zcut
      first
      | (rw [if_pos (by omega)])
      | (rw [if_neg (by omega), if_pos (by omega)])
      | (rw [if_neg (by omega), if_neg (by omega)])
    · have c9_2 := c9_2
      refine v_iload_1 ok dX3_cut_12 (n := 13) rfl ?_
      refine v_i2s ok dX3_cut_13 (n := 14) rfl ?_
      refine v_goto ok dX3_cut_14 (n := 18) (by decide) ?_
      refine v_iret rt dX3_cut_18 ?_
      refine ⟨rfl, ?_⟩
      unfold zcut
      first
      | (rw [if_pos (by omega)])
      | (rw [if_neg (by omega), if_pos (by omega)])
      | (rw [if_neg (by omega), if_neg (by omega)])
  · have c1_1 := c1_1
    refine v_iload_1 ok dX3_cut_4 (n := 5) rfl ?_
    refine v_i2b ok dX3_cut_5 (n := 6) rfl ?_
    refine v_iret rt dX3_cut_6 ?_
    refine ⟨rfl, ?_⟩
    unfold zcut
    first
    | (rw [if_pos (by omega)])
    | (rw [if_neg (by omega), if_pos (by omega)])
    | (rw [if_neg (by omega), if_neg (by omega)])

set_option maxHeartbeats 4000000 in
set_option maxRecDepth 100000 in
theorem t_sheet {G : zG} {ad : Int → Nat} {M : zM} {j a n : Int} (hj : -2147483648 ≤ j ∧ j ≤ 2147483647) (ha : -2147483648 ≤ a ∧ a ≤ 2147483647) (hn : -2147483648 ≤ n ∧ n ≤ 2147483647) : zTI G (zw ad) mi_X7_sheet [zr 0, zi j, zi a, zi n] M (fun x M' => ((¬ ((0 ≤ j ∧ j ≤ 3) ∧ (0 ≤ a ∧ a ≤ 2) ∧ n ≤ 100)) ∧ x = -1 ∧ M' = M) ∨ (((0 ≤ j ∧ j ≤ 3) ∧ (0 ≤ a ∧ a ≤ 2) ∧ n ≤ 100 ∧ n < 0) ∧ x = -14 ∧ M' = M) ∨ (((0 ≤ j ∧ j ≤ 3) ∧ (0 ≤ a ∧ a ≤ 2) ∧ n ≤ 100 ∧ 0 ≤ n) ∧ x = n ∧ M' = (zset (zset (zset (zfil M (181 + j) 100 0) (177 + j) 1 (1)) (177 + j) 2 (a)) (177 + j) 3 (n)))) := by
  refine zTI.of (own := RX7) (ls := [some (zr 0), some (zi j), some (zi a), some (zi n)]) (by decide +kernel) rfl rfl (Nat.le_of_ble_eq_true rfl) (fun γ ok rt => ?_)
  refine v_iload_1 ok dX7_sheet_0 (n := 1) rfl ?_
  refine v_callSI ok (mi := mi_X7_isSheet) mc_X7_isSheet cs_X7_185 (by decide) ⟨Nat.zero_le _, Nat.zero_le _⟩ dX7_sheet_1 (n := 4) rfl rfl rfl (Nat.le_of_ble_eq_true rfl) (t_isSheet hj) (fun x5 M5 h5 => ?_)
  obtain ⟨e5_, h5⟩ := h5
  subst M5
  refine v_if_eq ok dX7_sheet_4 (tgt := 20) (by decide) (n := 7) rfl (by omega) (fun c4_1 => ?_) (fun c4_1 => ?_)
  · have c4_1 := c4_1
    refine v_iconst ok dX7_sheet_20 (n := 21) rfl ?_
    refine v_iret rt dX7_sheet_21 ?_
    exact (Or.inl ⟨by omega, by first | rfl | omega | (simp (disch := omega) only [zset_ne, zset_eq]), by first | rfl | omega | (simp (disch := omega) only [zset_ne, zset_eq])⟩)
  · have c4_1 := c4_1
    refine v_iload_2 ok dX7_sheet_7 (n := 8) rfl ?_
    refine v_callSI ok (mi := mi_X7_isLane) mc_X7_isLane cs_X7_188 (by decide) ⟨Nat.zero_le _, Nat.zero_le _⟩ dX7_sheet_8 (n := 11) rfl rfl rfl (Nat.le_of_ble_eq_true rfl) (t_isLane ha) (fun x6 M6 h6 => ?_)
    obtain ⟨e6_, h6⟩ := h6
    subst M6
    refine v_if_eq ok dX7_sheet_11 (tgt := 20) (by decide) (n := 14) rfl (by omega) (fun c11_2 => ?_) (fun c11_2 => ?_)
    · have c11_2 := c11_2
      refine v_iconst ok dX7_sheet_20 (n := 21) rfl ?_
      refine v_iret rt dX7_sheet_21 ?_
      exact (Or.inl ⟨by omega, by first | rfl | omega | (simp (disch := omega) only [zset_ne, zset_eq]), by first | rfl | omega | (simp (disch := omega) only [zset_ne, zset_eq])⟩)
    · have c11_2 := c11_2
      refine v_iload_3 ok dX7_sheet_14 (n := 15) rfl ?_
      refine v_bipush ok (by decide) dX7_sheet_15 (n := 17) rfl ?_
      refine v_icmp_le ok dX7_sheet_17 (tgt := 22) (by decide) (n := 20) rfl (by omega) (by omega) (fun c17_3 => ?_) (fun c17_3 => ?_)
      · have c17_3 := c17_3
        refine v_iload_3 ok dX7_sheet_22 (n := 23) rfl ?_
        refine v_if_ge ok dX7_sheet_23 (tgt := 29) (by decide) (n := 26) rfl (by omega) (fun c23_4 => ?_) (fun c23_4 => ?_)
        · have c23_4 := c23_4
          refine v_aload_0 ok dX7_sheet_29 (n := 30) rfl ?_
          refine v_getR ok fd_X7_60 ly_0 rfl rfl rfl rf_0_8 dX7_sheet_30 (n := 33) rfl ?_
          refine v_iload_1 ok dX7_sheet_33 (n := 34) rfl ?_
          refine v_aald ok ly_176 (by decide) rfl (by omega) (by decide) rfl dX7_sheet_34 (n := 35) rfl ?_
          refine v_iload_2 ok dX7_sheet_35 (n := 36) rfl ?_
          refine v_iload_3 ok dX7_sheet_36 (n := 37) rfl ?_
          refine v_callVV ok (mi := mi_X3_renew) mc_X3_renew cv_X7_227 (lf_she (by omega)) rfl rfl rfl (by decide) ⟨Nat.zero_le _, Nat.zero_le _⟩ dX7_sheet_37 (n := 40) rfl rfl rfl (Nat.le_of_ble_eq_true rfl) (t_renew (by omega)) (fun M8 h8 => ?_)
          subst h8
          refine v_iload_3 ok dX7_sheet_40 (n := 41) rfl ?_
          refine v_iret rt dX7_sheet_41 ?_
          exact (Or.inr (Or.inr ⟨by omega, by first | rfl | omega | (simp (disch := omega) only [zset_ne, zset_eq]), by first | rfl | omega | (simp (disch := omega) only [zset_ne, zset_eq])⟩))
        · have c23_4 := c23_4
          refine v_bipush ok (by decide) dX7_sheet_26 (n := 28) rfl ?_
          refine v_iret rt dX7_sheet_28 ?_
          exact (Or.inr (Or.inl ⟨by omega, by first | rfl | omega | (simp (disch := omega) only [zset_ne, zset_eq]), by first | rfl | omega | (simp (disch := omega) only [zset_ne, zset_eq])⟩))
      · have c17_3 := c17_3
        refine v_iconst ok dX7_sheet_20 (n := 21) rfl ?_
        refine v_iret rt dX7_sheet_21 ?_
        exact (Or.inl ⟨by omega, by first | rfl | omega | (simp (disch := omega) only [zset_ne, zset_eq]), by first | rfl | omega | (simp (disch := omega) only [zset_ne, zset_eq])⟩)

set_option maxHeartbeats 4000000 in
set_option maxRecDepth 100000 in
theorem t_drop {G : zG} {ad : Int → Nat} {M : zM} {j : Int} (hj : -2147483648 ≤ j ∧ j ≤ 2147483647) (hth : ∀ j, 0 ≤ j ∧ j < 4 → M (177 + j) 1 = 0 ∨ M (177 + j) 1 = 1)  : zTI G (zw ad) mi_X7_drop [zr 0, zi j] M (fun x M' => ((¬ (0 ≤ j ∧ j ≤ 3)) ∧ x = -1 ∧ M' = M) ∨ (((0 ≤ j ∧ j ≤ 3) ∧ M (177 + j) 1 = 0) ∧ x = -11 ∧ M' = M) ∨ (((0 ≤ j ∧ j ≤ 3) ∧ M (177 + j) 1 = 1) ∧ x = M (177 + j) 3 ∧ M' = zset M (177 + j) 1 0)) := by
  refine zTI.of (own := RX7) (ls := [some (zr 0), some (zi j)]) (by decide +kernel) rfl rfl (Nat.le_of_ble_eq_true rfl) (fun γ ok rt => ?_)
  refine v_iload_1 ok dX7_drop_0 (n := 1) rfl ?_
  refine v_callSI ok (mi := mi_X7_isSheet) mc_X7_isSheet cs_X7_185 (by decide) ⟨Nat.zero_le _, Nat.zero_le _⟩ dX7_drop_1 (n := 4) rfl rfl rfl (Nat.le_of_ble_eq_true rfl) (t_isSheet hj) (fun x5 M5 h5 => ?_)
  obtain ⟨e5_, h5⟩ := h5
  subst M5
  refine v_if_ne ok dX7_drop_4 (tgt := 9) (by decide) (n := 7) rfl (by omega) (fun c4_1 => ?_) (fun c4_1 => ?_)
  · have c4_1 := c4_1
    have hq := hth j (by omega)
    refine v_aload_0 ok dX7_drop_9 (n := 10) rfl ?_
    refine v_getR ok fd_X7_60 ly_0 rfl rfl rfl rf_0_8 dX7_drop_10 (n := 13) rfl ?_
    refine v_iload_1 ok dX7_drop_13 (n := 14) rfl ?_
    refine v_aald ok ly_176 (by decide) rfl (by omega) (by decide) rfl dX7_drop_14 (n := 15) rfl ?_
    refine v_getI ok fd_X7_231 (lf_she (by omega)) rfl rfl (jI := 1) rfl dX7_drop_15 (n := 18) rfl ?_
    refine v_if_ne ok dX7_drop_18 (tgt := 24) (by decide) (n := 21) rfl (by omega) (fun c18_2 => ?_) (fun c18_2 => ?_)
    · have c18_2 := c18_2
      refine v_aload_0 ok dX7_drop_24 (n := 25) rfl ?_
      refine v_getR ok fd_X7_60 ly_0 rfl rfl rfl rf_0_8 dX7_drop_25 (n := 28) rfl ?_
      refine v_iload_1 ok dX7_drop_28 (n := 29) rfl ?_
      refine v_aald ok ly_176 (by decide) rfl (by omega) (by decide) rfl dX7_drop_29 (n := 30) rfl ?_
      refine v_iconst ok dX7_drop_30 (n := 31) rfl ?_
      refine v_putZ ok fw_X7_231 (by omega) (lf_she (by omega)) rfl rfl (jI := 1) rfl dX7_drop_31 (n := 34) rfl ?_
      refine v_aload_0 ok dX7_drop_34 (n := 35) rfl ?_
      refine v_getR ok fd_X7_60 ly_0 rfl rfl rfl rf_0_8 dX7_drop_35 (n := 38) rfl ?_
      refine v_iload_1 ok dX7_drop_38 (n := 39) rfl ?_
      refine v_aald ok ly_176 (by decide) rfl (by omega) (by decide) rfl dX7_drop_39 (n := 40) rfl ?_
      refine v_getI ok fd_X7_234 (lf_she (by omega)) rfl rfl (jI := 3) rfl dX7_drop_40 (n := 43) rfl ?_
      refine v_iret rt dX7_drop_43 ?_
      exact (Or.inr (Or.inr ⟨by omega, by first | rfl | omega | (simp (disch := omega) only [zset_ne, zset_eq]), by first | rfl | omega | (simp (disch := omega) only [zset_ne, zset_eq])⟩))
    · have c18_2 := c18_2
      refine v_bipush ok (by decide) dX7_drop_21 (n := 23) rfl ?_
      refine v_iret rt dX7_drop_23 ?_
      exact (Or.inr (Or.inl ⟨by omega, by first | rfl | omega | (simp (disch := omega) only [zset_ne, zset_eq]), by first | rfl | omega | (simp (disch := omega) only [zset_ne, zset_eq])⟩))
  · have c4_1 := c4_1
    refine v_iconst ok dX7_drop_7 (n := 8) rfl ?_
    refine v_iret rt dX7_drop_8 ?_
    exact (Or.inl ⟨by omega, by first | rfl | omega | (simp (disch := omega) only [zset_ne, zset_eq]), by first | rfl | omega | (simp (disch := omega) only [zset_ne, zset_eq])⟩)

theorem zref_0 {th la ln a i n : Int} (h : zref th la ln a i n = 0) : th ≠ 0 ∧ la = a ∧ 0 ≤ i ∧ 0 ≤ n ∧ i ≤ ln - n := by
  unfold zref at h
  split at h
  · omega
  · split at h
    · omega
    · split at h <;> omega
theorem zref_b (th la ln a i n : Int) : -13 ≤ zref th la ln a i n ∧ zref th la ln a i n ≤ 0 := by
  unfold zref
  split
  · omega
  · split
    · omega
    · split <;> omega
set_option maxHeartbeats 4000000 in
set_option maxRecDepth 100000 in
theorem t_item {G : zG} {ad : Int → Nat} {M : zM} {j a i v : Int} (hj : -2147483648 ≤ j ∧ j ≤ 2147483647) (ha : -2147483648 ≤ a ∧ a ≤ 2147483647) (hi : -2147483648 ≤ i ∧ i ≤ 2147483647) (hv : -2147483648 ≤ v ∧ v ≤ 2147483647) (hth : ∀ j, 0 ≤ j ∧ j < 4 → M (177 + j) 1 = 0 ∨ M (177 + j) 1 = 1) (hla : ∀ j, 0 ≤ j ∧ j < 4 → 0 ≤ M (177 + j) 2 ∧ M (177 + j) 2 ≤ 2) (hln : ∀ j, 0 ≤ j ∧ j < 4 → 0 ≤ M (177 + j) 3 ∧ M (177 + j) 3 ≤ 100)  : zTI G (zw ad) mi_X7_item [zr 0, zi j, zi a, zi i, zi v] M (fun x M' => ((¬ ((0 ≤ j ∧ j ≤ 3) ∧ (0 ≤ a ∧ a ≤ 2))) ∧ x = -1 ∧ M' = M) ∨ ((((0 ≤ j ∧ j ≤ 3) ∧ (0 ≤ a ∧ a ≤ 2)) ∧ zref (M (177 + j) 1) (M (177 + j) 2) (M (177 + j) 3) a i 1 ≠ 0) ∧ x = zref (M (177 + j) 1) (M (177 + j) 2) (M (177 + j) 3) a i 1 ∧ M' = M) ∨ ((((0 ≤ j ∧ j ≤ 3) ∧ (0 ≤ a ∧ a ≤ 2)) ∧ zref (M (177 + j) 1) (M (177 + j) 2) (M (177 + j) 3) a i 1 = 0) ∧ x = 1 ∧ M' = zset M (181 + j) i (zcut a v))) := by
  refine zTI.of (own := RX7) (ls := [some (zr 0), some (zi j), some (zi a), some (zi i), some (zi v), none]) (by decide +kernel) rfl rfl (Nat.le_of_ble_eq_true rfl) (fun γ ok rt => ?_)
  refine v_iload_1 ok dX7_item_0 (n := 1) rfl ?_
  refine v_callSI ok (mi := mi_X7_isSheet) mc_X7_isSheet cs_X7_185 (by decide) ⟨Nat.zero_le _, Nat.zero_le _⟩ dX7_item_1 (n := 4) rfl rfl rfl (Nat.le_of_ble_eq_true rfl) (t_isSheet hj) (fun x5 M5 h5 => ?_)
  obtain ⟨e5_, h5⟩ := h5
  subst M5
  refine v_if_eq ok dX7_item_4 (tgt := 14) (by decide) (n := 7) rfl (by omega) (fun c4_1 => ?_) (fun c4_1 => ?_)
  · have c4_1 := c4_1
    refine v_iconst ok dX7_item_14 (n := 15) rfl ?_
    refine v_iret rt dX7_item_15 ?_
    exact (Or.inl ⟨by omega, by first | rfl | omega | (simp (disch := omega) only [zset_ne, zset_eq]), by first | rfl | omega | (simp (disch := omega) only [zset_ne, zset_eq])⟩)
  · have c4_1 := c4_1
    refine v_iload_2 ok dX7_item_7 (n := 8) rfl ?_
    refine v_callSI ok (mi := mi_X7_isLane) mc_X7_isLane cs_X7_188 (by decide) ⟨Nat.zero_le _, Nat.zero_le _⟩ dX7_item_8 (n := 11) rfl rfl rfl (Nat.le_of_ble_eq_true rfl) (t_isLane ha) (fun x6 M6 h6 => ?_)
    obtain ⟨e6_, h6⟩ := h6
    subst M6
    refine v_if_ne ok dX7_item_11 (tgt := 16) (by decide) (n := 14) rfl (by omega) (fun c11_2 => ?_) (fun c11_2 => ?_)
    · have c11_2 := c11_2
      refine v_aload_0 ok dX7_item_16 (n := 17) rfl ?_
      refine v_getR ok fd_X7_60 ly_0 rfl rfl rfl rf_0_8 dX7_item_17 (n := 20) rfl ?_
      refine v_iload_1 ok dX7_item_20 (n := 21) rfl ?_
      refine v_aald ok ly_176 (by decide) rfl (by omega) (by decide) rfl dX7_item_21 (n := 22) rfl ?_
      refine v_iload_2 ok dX7_item_22 (n := 23) rfl ?_
      refine v_iload_3 ok dX7_item_23 (n := 24) rfl ?_
      refine v_iconst ok dX7_item_24 (n := 25) rfl ?_
      refine v_callVI ok (mi := mi_X3_refusal) mc_X3_refusal cv_X7_191 (lf_she (by omega)) rfl rfl rfl (by decide) ⟨Nat.zero_le _, Nat.zero_le _⟩ dX7_item_25 (n := 28) rfl rfl rfl (Nat.le_of_ble_eq_true rfl) (t_refusal (by omega) (hth j (by omega)) (hla j (by omega)) (hln j (by omega)) ha hi (by omega)) (fun x7 M7 h7 => ?_)
      obtain ⟨e7_, e7⟩ := h7
      subst M7
      subst e7
      have hzb := zref_b (M (177 + j) 1) (M (177 + j) 2) (M (177 + j) 3) a i 1
      refine v_istore_5 ok (by decide) rfl dX7_item_28 (n := 30) rfl ?_
      refine v_iload_5 ok dX7_item_30 (n := 32) rfl ?_
      refine v_if_eq ok dX7_item_32 (tgt := 38) (by decide) (n := 35) rfl (by omega) (fun c32_3 => ?_) (fun c32_3 => ?_)
      · have c32_3 := c32_3
        refine v_aload_0 ok dX7_item_38 (n := 39) rfl ?_
        refine v_getR ok fd_X7_60 ly_0 rfl rfl rfl rf_0_8 dX7_item_39 (n := 42) rfl ?_
        refine v_iload_1 ok dX7_item_42 (n := 43) rfl ?_
        refine v_aald ok ly_176 (by decide) rfl (by omega) (by decide) rfl dX7_item_43 (n := 44) rfl ?_
        refine v_getR ok fd_X7_194 (lf_she (by omega)) rfl rfl rfl (rf_she (by omega)) dX7_item_44 (n := 47) rfl ?_
        refine v_iload_3 ok dX7_item_47 (n := 48) rfl ?_
        refine v_iload_2 ok dX7_item_48 (n := 49) rfl ?_
        refine v_iload_4 ok dX7_item_49 (n := 51) rfl ?_
        refine v_callSI ok (mi := mi_X3_cut) mc_X3_cut cs_X7_235 (by decide) ⟨Nat.zero_le _, Nat.zero_le _⟩ dX7_item_51 (n := 54) rfl rfl rfl (Nat.le_of_ble_eq_true rfl) (t_cut ha hv) (fun x8 M8 h8 => ?_)
        obtain ⟨e8_, e8⟩ := h8
        subst M8
        subst e8
        have hz0 := zref_0 (th := M (177 + j) 1) (la := M (177 + j) 2) (ln := M (177 + j) 3) (a := a) (i := i) (n := 1) (by omega)
        have hz1 := hln j (by omega)
        refine v_iast ok (lf_ite (by omega)) rfl (by omega) (by decide) dX7_item_54 (n := 55) rfl ?_
        refine v_iconst ok dX7_item_55 (n := 56) rfl ?_
        refine v_iret rt dX7_item_56 ?_
        exact (Or.inr (Or.inr ⟨by omega, by first | rfl | omega | (simp (disch := omega) only [zset_ne, zset_eq]), by first | rfl | omega | (simp (disch := omega) only [zset_ne, zset_eq])⟩))
      · have c32_3 := c32_3
        refine v_iload_5 ok dX7_item_35 (n := 37) rfl ?_
        refine v_iret rt dX7_item_37 ?_
        exact (Or.inr (Or.inl ⟨by omega, by first | rfl | omega | (simp (disch := omega) only [zset_ne, zset_eq]), by first | rfl | omega | (simp (disch := omega) only [zset_ne, zset_eq])⟩))
    · have c11_2 := c11_2
      refine v_iconst ok dX7_item_14 (n := 15) rfl ?_
      refine v_iret rt dX7_item_15 ?_
      exact (Or.inl ⟨by omega, by first | rfl | omega | (simp (disch := omega) only [zset_ne, zset_eq]), by first | rfl | omega | (simp (disch := omega) only [zset_ne, zset_eq])⟩)

set_option maxHeartbeats 4000000 in
set_option maxRecDepth 100000 in
theorem t_copy {G : zG} {ad : Int → Nat} {M : zM} {a i c j n : Int} (ha : -2147483648 ≤ a ∧ a ≤ 2147483647) (hi : -2147483648 ≤ i ∧ i ≤ 2147483647) (hc : -2147483648 ≤ c ∧ c ≤ 2147483647) (hj : -2147483648 ≤ j ∧ j ≤ 2147483647) (hn : -2147483648 ≤ n ∧ n ≤ 2147483647) (hth : ∀ j, 0 ≤ j ∧ j < 4 → M (177 + j) 1 = 0 ∨ M (177 + j) 1 = 1) (hla : ∀ j, 0 ≤ j ∧ j < 4 → 0 ≤ M (177 + j) 2 ∧ M (177 + j) 2 ≤ 2) (hln : ∀ j, 0 ≤ j ∧ j < 4 → 0 ≤ M (177 + j) 3 ∧ M (177 + j) 3 ≤ 100)  : zTI G (zw ad) mi_X7_copy [zr 0, zi a, zi i, zi c, zi j, zi n] M (fun x M' => ((¬ ((0 ≤ a ∧ a ≤ 3) ∧ (0 ≤ c ∧ c ≤ 3))) ∧ x = -1 ∧ M' = M) ∨ (((0 ≤ a ∧ a ≤ 3) ∧ (0 ≤ c ∧ c ≤ 3) ∧ ¬ (M (177 + a) 1 ≠ 0 ∧ M (177 + c) 1 ≠ 0)) ∧ x = -11 ∧ M' = M) ∨ (((0 ≤ a ∧ a ≤ 3) ∧ (0 ≤ c ∧ c ≤ 3) ∧ (M (177 + a) 1 ≠ 0 ∧ M (177 + c) 1 ≠ 0) ∧ zref (M (177 + a) 1) (M (177 + a) 2) (M (177 + a) 3) (M (177 + c) 2) i n ≠ 0) ∧ x = zref (M (177 + a) 1) (M (177 + a) 2) (M (177 + a) 3) (M (177 + c) 2) i n ∧ M' = M) ∨ (((0 ≤ a ∧ a ≤ 3) ∧ (0 ≤ c ∧ c ≤ 3) ∧ (M (177 + a) 1 ≠ 0 ∧ M (177 + c) 1 ≠ 0) ∧ zref (M (177 + a) 1) (M (177 + a) 2) (M (177 + a) 3) (M (177 + c) 2) i n = 0 ∧ zref (M (177 + c) 1) (M (177 + c) 2) (M (177 + c) 3) (M (177 + c) 2) j n ≠ 0) ∧ x = zref (M (177 + c) 1) (M (177 + c) 2) (M (177 + c) 3) (M (177 + c) 2) j n ∧ M' = M) ∨ (((0 ≤ a ∧ a ≤ 3) ∧ (0 ≤ c ∧ c ≤ 3) ∧ (M (177 + a) 1 ≠ 0 ∧ M (177 + c) 1 ≠ 0) ∧ zref (M (177 + a) 1) (M (177 + a) 2) (M (177 + a) 3) (M (177 + c) 2) i n = 0 ∧ zref (M (177 + c) 1) (M (177 + c) 2) (M (177 + c) 3) (M (177 + c) 2) j n = 0) ∧ x = n ∧ M' = zcpy M (181 + a) i (181 + c) j n)) := by
  refine zTI.of (own := RX7) (ls := [some (zr 0), some (zi a), some (zi i), some (zi c), some (zi j), some (zi n), none]) (by decide +kernel) rfl rfl (Nat.le_of_ble_eq_true rfl) (fun γ ok rt => ?_)
  refine v_iload_1 ok dX7_copy_0 (n := 1) rfl ?_
  refine v_callSI ok (mi := mi_X7_isSheet) mc_X7_isSheet cs_X7_185 (by decide) ⟨Nat.zero_le _, Nat.zero_le _⟩ dX7_copy_1 (n := 4) rfl rfl rfl (Nat.le_of_ble_eq_true rfl) (t_isSheet ha) (fun x5 M5 h5 => ?_)
  obtain ⟨e5_, h5⟩ := h5
  subst M5
  refine v_if_eq ok dX7_copy_4 (tgt := 14) (by decide) (n := 7) rfl (by omega) (fun c4_1 => ?_) (fun c4_1 => ?_)
  · have c4_1 := c4_1
    refine v_iconst ok dX7_copy_14 (n := 15) rfl ?_
    refine v_iret rt dX7_copy_15 ?_
    exact (Or.inl ⟨by omega, by first | rfl | omega | (simp (disch := omega) only [zset_ne, zset_eq]), by first | rfl | omega | (simp (disch := omega) only [zset_ne, zset_eq])⟩)
  · have c4_1 := c4_1
    refine v_iload_3 ok dX7_copy_7 (n := 8) rfl ?_
    refine v_callSI ok (mi := mi_X7_isSheet) mc_X7_isSheet cs_X7_185 (by decide) ⟨Nat.zero_le _, Nat.zero_le _⟩ dX7_copy_8 (n := 11) rfl rfl rfl (Nat.le_of_ble_eq_true rfl) (t_isSheet hc) (fun x6 M6 h6 => ?_)
    obtain ⟨e6_, h6⟩ := h6
    subst M6
    refine v_if_ne ok dX7_copy_11 (tgt := 16) (by decide) (n := 14) rfl (by omega) (fun c11_2 => ?_) (fun c11_2 => ?_)
    · have c11_2 := c11_2
      have q1 := hth a (by omega)
      have q2 := hth c (by omega)
      have q3 := hla a (by omega)
      have q4 := hla c (by omega)
      have q5 := hln a (by omega)
      have q6 := hln c (by omega)
      refine v_aload_0 ok dX7_copy_16 (n := 17) rfl ?_
      refine v_getR ok fd_X7_60 ly_0 rfl rfl rfl rf_0_8 dX7_copy_17 (n := 20) rfl ?_
      refine v_iload_1 ok dX7_copy_20 (n := 21) rfl ?_
      refine v_aald ok ly_176 (by decide) rfl (by omega) (by decide) rfl dX7_copy_21 (n := 22) rfl ?_
      refine v_getI ok fd_X7_231 (lf_she (by omega)) rfl rfl (jI := 1) rfl dX7_copy_22 (n := 25) rfl ?_
      refine v_if_eq ok dX7_copy_25 (tgt := 40) (by decide) (n := 28) rfl (by omega) (fun c25_3 => ?_) (fun c25_3 => ?_)
      · have c25_3 := c25_3
        refine v_bipush ok (by decide) dX7_copy_40 (n := 42) rfl ?_
        refine v_iret rt dX7_copy_42 ?_
        exact (Or.inr (Or.inl ⟨by omega, by first | rfl | omega | (simp (disch := omega) only [zset_ne, zset_eq]), by first | rfl | omega | (simp (disch := omega) only [zset_ne, zset_eq])⟩))
      · have c25_3 := c25_3
        refine v_aload_0 ok dX7_copy_28 (n := 29) rfl ?_
        refine v_getR ok fd_X7_60 ly_0 rfl rfl rfl rf_0_8 dX7_copy_29 (n := 32) rfl ?_
        refine v_iload_3 ok dX7_copy_32 (n := 33) rfl ?_
        refine v_aald ok ly_176 (by decide) rfl (by omega) (by decide) rfl dX7_copy_33 (n := 34) rfl ?_
        refine v_getI ok fd_X7_231 (lf_she (by omega)) rfl rfl (jI := 1) rfl dX7_copy_34 (n := 37) rfl ?_
        refine v_if_ne ok dX7_copy_37 (tgt := 43) (by decide) (n := 40) rfl (by omega) (fun c37_4 => ?_) (fun c37_4 => ?_)
        · have c37_4 := c37_4
          refine v_aload_0 ok dX7_copy_43 (n := 44) rfl ?_
          refine v_getR ok fd_X7_60 ly_0 rfl rfl rfl rf_0_8 dX7_copy_44 (n := 47) rfl ?_
          refine v_iload_1 ok dX7_copy_47 (n := 48) rfl ?_
          refine v_aald ok ly_176 (by decide) rfl (by omega) (by decide) rfl dX7_copy_48 (n := 49) rfl ?_
          refine v_aload_0 ok dX7_copy_49 (n := 50) rfl ?_
          refine v_getR ok fd_X7_60 ly_0 rfl rfl rfl rf_0_8 dX7_copy_50 (n := 53) rfl ?_
          refine v_iload_3 ok dX7_copy_53 (n := 54) rfl ?_
          refine v_aald ok ly_176 (by decide) rfl (by omega) (by decide) rfl dX7_copy_54 (n := 55) rfl ?_
          refine v_getI ok fd_X7_238 (lf_she (by omega)) rfl rfl (jI := 2) rfl dX7_copy_55 (n := 58) rfl ?_
          refine v_iload_2 ok dX7_copy_58 (n := 59) rfl ?_
          refine v_iload_5 ok dX7_copy_59 (n := 61) rfl ?_
          refine v_callVI ok (mi := mi_X3_refusal) mc_X3_refusal cv_X7_191 (lf_she (by omega)) rfl rfl rfl (by decide) ⟨Nat.zero_le _, Nat.zero_le _⟩ dX7_copy_61 (n := 64) rfl rfl rfl (Nat.le_of_ble_eq_true rfl) (t_refusal (by omega) (hth a (by omega)) (hla a (by omega)) (hln a (by omega)) (by omega) hi hn) (fun x7 M7 h7 => ?_)
          obtain ⟨e7_, e7⟩ := h7
          subst M7
          subst e7
          have hzb := zref_b (M (177 + a) 1) (M (177 + a) 2) (M (177 + a) 3) (M (177 + c) 2) i n
          refine v_istore_6 ok (by decide) rfl dX7_copy_64 (n := 66) rfl ?_
          refine v_iload_6 ok dX7_copy_66 (n := 68) rfl ?_
          refine v_if_ne ok dX7_copy_68 (tgt := 95) (by decide) (n := 71) rfl (by omega) (fun c68_5 => ?_) (fun c68_5 => ?_)
          · have c68_5 := c68_5
            refine v_iload_6 ok dX7_copy_95 (n := 97) rfl ?_
            refine v_if_eq ok dX7_copy_97 (tgt := 103) (by decide) (n := 100) rfl (by omega) (fun c97_6 => ?_) (fun c97_6 => ?_)
            · have c97_6 := c97_6
              first
              | (exfalso; omega)
              | skip
                have hz0 := zref_0 (th := M (177 + a) 1) (la := M (177 + a) 2) (ln := M (177 + a) 3) (a := M (177 + c) 2) (i := i) (n := n) (by omega)
                have hz9 := zref_0 (th := M (177 + c) 1) (la := M (177 + c) 2) (ln := M (177 + c) 3) (a := M (177 + c) 2) (i := j) (n := n) (by omega)
                refine v_aload_0 ok dX7_copy_103 (n := 104) rfl ?_
                refine v_getR ok fd_X7_60 ly_0 rfl rfl rfl rf_0_8 dX7_copy_104 (n := 107) rfl ?_
                refine v_iload_1 ok dX7_copy_107 (n := 108) rfl ?_
                refine v_aald ok ly_176 (by decide) rfl (by omega) (by decide) rfl dX7_copy_108 (n := 109) rfl ?_
                refine v_getR ok fd_X7_194 (lf_she (by omega)) rfl rfl rfl (rf_she (by omega)) dX7_copy_109 (n := 112) rfl ?_
                refine v_iload_2 ok dX7_copy_112 (n := 113) rfl ?_
                refine v_aload_0 ok dX7_copy_113 (n := 114) rfl ?_
                refine v_getR ok fd_X7_60 ly_0 rfl rfl rfl rf_0_8 dX7_copy_114 (n := 117) rfl ?_
                refine v_iload_3 ok dX7_copy_117 (n := 118) rfl ?_
                refine v_aald ok ly_176 (by decide) rfl (by omega) (by decide) rfl dX7_copy_118 (n := 119) rfl ?_
                refine v_getR ok fd_X7_194 (lf_she (by omega)) rfl rfl rfl (rf_she (by omega)) dX7_copy_119 (n := 122) rfl ?_
                refine v_iload_4 ok dX7_copy_122 (n := 124) rfl ?_
                refine v_iload_5 ok dX7_copy_124 (n := 126) rfl ?_
                refine v_copy ok ac_X7_241 ⟨by decide, Nat.le_of_ble_eq_true rfl⟩ (lf_ite (by omega)) rfl (lf_ite (by omega)) rfl (by decide) (by omega) (by omega) (by omega) dX7_copy_126 (n := 129) rfl ?_
                refine v_iload_5 ok dX7_copy_129 (n := 131) rfl ?_
                refine v_iret rt dX7_copy_131 ?_
                exact (Or.inr (Or.inr (Or.inr (Or.inr ⟨by omega, by first | rfl | omega | (simp (disch := omega) only [zset_ne, zset_eq]), by first | rfl | omega | (simp (disch := omega) only [zset_ne, zset_eq])⟩))))
            · have c97_6 := c97_6
              first
              | (exfalso; omega)
              | skip
                refine v_iload_6 ok dX7_copy_100 (n := 102) rfl ?_
                refine v_iret rt dX7_copy_102 ?_
                first | exact (Or.inr (Or.inr (Or.inl ⟨by omega, by first | rfl | omega | (simp (disch := omega) only [zset_ne, zset_eq]), by first | rfl | omega | (simp (disch := omega) only [zset_ne, zset_eq])⟩))) | exact (Or.inr (Or.inr (Or.inr (Or.inl ⟨by omega, by first | rfl | omega | (simp (disch := omega) only [zset_ne, zset_eq]), by first | rfl | omega | (simp (disch := omega) only [zset_ne, zset_eq])⟩))))
          · have c68_5 := c68_5
            refine v_aload_0 ok dX7_copy_71 (n := 72) rfl ?_
            refine v_getR ok fd_X7_60 ly_0 rfl rfl rfl rf_0_8 dX7_copy_72 (n := 75) rfl ?_
            refine v_iload_3 ok dX7_copy_75 (n := 76) rfl ?_
            refine v_aald ok ly_176 (by decide) rfl (by omega) (by decide) rfl dX7_copy_76 (n := 77) rfl ?_
            refine v_aload_0 ok dX7_copy_77 (n := 78) rfl ?_
            refine v_getR ok fd_X7_60 ly_0 rfl rfl rfl rf_0_8 dX7_copy_78 (n := 81) rfl ?_
            refine v_iload_3 ok dX7_copy_81 (n := 82) rfl ?_
            refine v_aald ok ly_176 (by decide) rfl (by omega) (by decide) rfl dX7_copy_82 (n := 83) rfl ?_
            refine v_getI ok fd_X7_238 (lf_she (by omega)) rfl rfl (jI := 2) rfl dX7_copy_83 (n := 86) rfl ?_
            refine v_iload_4 ok dX7_copy_86 (n := 88) rfl ?_
            refine v_iload_5 ok dX7_copy_88 (n := 90) rfl ?_
            refine v_callVI ok (mi := mi_X3_refusal) mc_X3_refusal cv_X7_191 (lf_she (by omega)) rfl rfl rfl (by decide) ⟨Nat.zero_le _, Nat.zero_le _⟩ dX7_copy_90 (n := 93) rfl rfl rfl (Nat.le_of_ble_eq_true rfl) (t_refusal (by omega) (hth c (by omega)) (hla c (by omega)) (hln c (by omega)) (by omega) hj hn) (fun x8 M8 h8 => ?_)
            obtain ⟨e8_, e8⟩ := h8
            subst M8
            subst e8
            have hzb2 := zref_b (M (177 + c) 1) (M (177 + c) 2) (M (177 + c) 3) (M (177 + c) 2) j n
            refine v_istore_6 ok (by decide) rfl dX7_copy_93 (n := 95) rfl ?_
            refine v_iload_6 ok dX7_copy_95 (n := 97) rfl ?_
            refine v_if_eq ok dX7_copy_97 (tgt := 103) (by decide) (n := 100) rfl (by omega) (fun c97_7 => ?_) (fun c97_7 => ?_)
            · have c97_7 := c97_7
              first
              | (exfalso; omega)
              | skip
                have hz0 := zref_0 (th := M (177 + a) 1) (la := M (177 + a) 2) (ln := M (177 + a) 3) (a := M (177 + c) 2) (i := i) (n := n) (by omega)
                have hz9 := zref_0 (th := M (177 + c) 1) (la := M (177 + c) 2) (ln := M (177 + c) 3) (a := M (177 + c) 2) (i := j) (n := n) (by omega)
                refine v_aload_0 ok dX7_copy_103 (n := 104) rfl ?_
                refine v_getR ok fd_X7_60 ly_0 rfl rfl rfl rf_0_8 dX7_copy_104 (n := 107) rfl ?_
                refine v_iload_1 ok dX7_copy_107 (n := 108) rfl ?_
                refine v_aald ok ly_176 (by decide) rfl (by omega) (by decide) rfl dX7_copy_108 (n := 109) rfl ?_
                refine v_getR ok fd_X7_194 (lf_she (by omega)) rfl rfl rfl (rf_she (by omega)) dX7_copy_109 (n := 112) rfl ?_
                refine v_iload_2 ok dX7_copy_112 (n := 113) rfl ?_
                refine v_aload_0 ok dX7_copy_113 (n := 114) rfl ?_
                refine v_getR ok fd_X7_60 ly_0 rfl rfl rfl rf_0_8 dX7_copy_114 (n := 117) rfl ?_
                refine v_iload_3 ok dX7_copy_117 (n := 118) rfl ?_
                refine v_aald ok ly_176 (by decide) rfl (by omega) (by decide) rfl dX7_copy_118 (n := 119) rfl ?_
                refine v_getR ok fd_X7_194 (lf_she (by omega)) rfl rfl rfl (rf_she (by omega)) dX7_copy_119 (n := 122) rfl ?_
                refine v_iload_4 ok dX7_copy_122 (n := 124) rfl ?_
                refine v_iload_5 ok dX7_copy_124 (n := 126) rfl ?_
                refine v_copy ok ac_X7_241 ⟨by decide, Nat.le_of_ble_eq_true rfl⟩ (lf_ite (by omega)) rfl (lf_ite (by omega)) rfl (by decide) (by omega) (by omega) (by omega) dX7_copy_126 (n := 129) rfl ?_
                refine v_iload_5 ok dX7_copy_129 (n := 131) rfl ?_
                refine v_iret rt dX7_copy_131 ?_
                exact (Or.inr (Or.inr (Or.inr (Or.inr ⟨by omega, by first | rfl | omega | (simp (disch := omega) only [zset_ne, zset_eq]), by first | rfl | omega | (simp (disch := omega) only [zset_ne, zset_eq])⟩))))
            · have c97_7 := c97_7
              first
              | (exfalso; omega)
              | skip
                refine v_iload_6 ok dX7_copy_100 (n := 102) rfl ?_
                refine v_iret rt dX7_copy_102 ?_
                first | exact (Or.inr (Or.inr (Or.inl ⟨by omega, by first | rfl | omega | (simp (disch := omega) only [zset_ne, zset_eq]), by first | rfl | omega | (simp (disch := omega) only [zset_ne, zset_eq])⟩))) | exact (Or.inr (Or.inr (Or.inr (Or.inl ⟨by omega, by first | rfl | omega | (simp (disch := omega) only [zset_ne, zset_eq]), by first | rfl | omega | (simp (disch := omega) only [zset_ne, zset_eq])⟩))))
        · have c37_4 := c37_4
          refine v_bipush ok (by decide) dX7_copy_40 (n := 42) rfl ?_
          refine v_iret rt dX7_copy_42 ?_
          exact (Or.inr (Or.inl ⟨by omega, by first | rfl | omega | (simp (disch := omega) only [zset_ne, zset_eq]), by first | rfl | omega | (simp (disch := omega) only [zset_ne, zset_eq])⟩))
    · have c11_2 := c11_2
      refine v_iconst ok dX7_copy_14 (n := 15) rfl ?_
      refine v_iret rt dX7_copy_15 ?_
      exact (Or.inl ⟨by omega, by first | rfl | omega | (simp (disch := omega) only [zset_ne, zset_eq]), by first | rfl | omega | (simp (disch := omega) only [zset_ne, zset_eq])⟩)

set_option maxHeartbeats 4000000 in
set_option maxRecDepth 100000 in
theorem t_takeBridesT {G : zG} {ad : Int → Nat} {M : zM} {n : Int} (hn : 0 ≤ n ∧ n ≤ 7) : zTV G (zw ad) mi_X1_takeBrides [zr 1, zr 57, zi n] M (fun M' => M' = zset (zcpR M 58 5 n) 1 3 n) := by
  refine zTV.of (own := RX1) (ls := [some (zr 1), some (zr 57), some (zi n), none]) (by decide +kernel) rfl rfl (Nat.le_of_ble_eq_true rfl) (fun γ ok rt => ?_)
  have lp : ∀ (zn : Nat) (i : Int), zn = (16 - i).toNat → (0 ≤ i ∧ i ≤ n) → zVV G γ (zw ad) (0, 0) 2 [some (zr 1), some (zr 57), some (zi n), some (zi i)] [] (zcpR M 58 5 i) := by
    refine zrec _ (fun zn ih => ?_)
    intro i hzn hi
    refine v_iload_3 ok dX1_takeBrides_2 (n := 3) rfl ?_
    refine v_iload_2 ok dX1_takeBrides_3 (n := 4) rfl ?_
    refine v_icmp_ge ok dX1_takeBrides_4 (tgt := 28) (by decide) (n := 7) rfl (by omega) (by omega) (fun c4_1 => ?_) (fun c4_1 => ?_)
    · have c4_1 := c4_1
      refine v_aload_0 ok dX1_takeBrides_28 (n := 29) rfl ?_
      refine v_iload_2 ok dX1_takeBrides_29 (n := 30) rfl ?_
      refine v_putI ok fw_X1_23 ly_1 rfl rfl (jI := 3) rfl dX1_takeBrides_30 (n := 33) rfl ?_
      refine v_vret rt dX1_takeBrides_33 ?_
      rw [show i = n by omega]
    · have c4_1 := c4_1
      refine v_aload_1 ok dX1_takeBrides_7 (n := 8) rfl ?_
      refine v_iload_3 ok dX1_takeBrides_8 (n := 9) rfl ?_
      refine v_aald ok ly_57 (by decide) rfl (by omega) (by decide) rfl dX1_takeBrides_9 (n := 10) rfl ?_
      refine v_iconst ok dX1_takeBrides_10 (n := 11) rfl ?_
      refine v_aload_0 ok dX1_takeBrides_11 (n := 12) rfl ?_
      refine v_getR ok fd_X1_11 ly_1 rfl rfl rfl rf_1_0 dX1_takeBrides_12 (n := 15) rfl ?_
      refine v_iload_3 ok dX1_takeBrides_15 (n := 16) rfl ?_
      refine v_aald ok ly_2 (by decide) rfl (by omega) (by decide) rfl dX1_takeBrides_16 (n := 17) rfl ?_
      refine v_iconst ok dX1_takeBrides_17 (n := 18) rfl ?_
      refine v_iconst ok dX1_takeBrides_18 (n := 19) rfl ?_
      refine v_copy ok ac_X1_30 ⟨by decide, Nat.le_of_ble_eq_true rfl⟩ (lf_tro (by omega)) rfl (lf_bro (by omega)) rfl (by decide) (by omega) (by omega) (by omega) dX1_takeBrides_19 (n := 22) rfl ?_
      refine v_iinc_3 ok (by decide) rfl dX1_takeBrides_22 (n := 25) rfl ?_
      refine v_goto ok dX1_takeBrides_25 (n := 2) (by decide) ?_
      rw [zcpR_s hi.1 (by omega)]
      exact ih _ (by omega) _ rfl (by omega)
  refine v_iconst ok dX1_takeBrides_0 (n := 1) rfl ?_
  refine v_istore_3 ok (by decide) rfl dX1_takeBrides_1 (n := 2) rfl ?_
  have e := lp _ 0 rfl (by omega)
  rw [zcpR_0] at e
  exact e

set_option maxHeartbeats 4000000 in
set_option maxRecDepth 100000 in
theorem t_takeBridesK {G : zG} {ad : Int → Nat} {M : zM} {n : Int} (hn : 0 ≤ n ∧ n ≤ 7) : zTV G (zw ad) mi_X1_takeBrides [zr 28, zr 2, zi n] M (fun M' => M' = zset (zcpR M 5 32 n) 28 3 n) := by
  refine zTV.of (own := RX1) (ls := [some (zr 28), some (zr 2), some (zi n), none]) (by decide +kernel) rfl rfl (Nat.le_of_ble_eq_true rfl) (fun γ ok rt => ?_)
  have lp : ∀ (zn : Nat) (i : Int), zn = (16 - i).toNat → (0 ≤ i ∧ i ≤ n) → zVV G γ (zw ad) (0, 0) 2 [some (zr 28), some (zr 2), some (zi n), some (zi i)] [] (zcpR M 5 32 i) := by
    refine zrec _ (fun zn ih => ?_)
    intro i hzn hi
    refine v_iload_3 ok dX1_takeBrides_2 (n := 3) rfl ?_
    refine v_iload_2 ok dX1_takeBrides_3 (n := 4) rfl ?_
    refine v_icmp_ge ok dX1_takeBrides_4 (tgt := 28) (by decide) (n := 7) rfl (by omega) (by omega) (fun c4_1 => ?_) (fun c4_1 => ?_)
    · have c4_1 := c4_1
      refine v_aload_0 ok dX1_takeBrides_28 (n := 29) rfl ?_
      refine v_iload_2 ok dX1_takeBrides_29 (n := 30) rfl ?_
      refine v_putI ok fw_X1_23 ly_28 rfl rfl (jI := 3) rfl dX1_takeBrides_30 (n := 33) rfl ?_
      refine v_vret rt dX1_takeBrides_33 ?_
      rw [show i = n by omega]
    · have c4_1 := c4_1
      refine v_aload_1 ok dX1_takeBrides_7 (n := 8) rfl ?_
      refine v_iload_3 ok dX1_takeBrides_8 (n := 9) rfl ?_
      refine v_aald ok ly_2 (by decide) rfl (by omega) (by decide) rfl dX1_takeBrides_9 (n := 10) rfl ?_
      refine v_iconst ok dX1_takeBrides_10 (n := 11) rfl ?_
      refine v_aload_0 ok dX1_takeBrides_11 (n := 12) rfl ?_
      refine v_getR ok fd_X1_11 ly_28 rfl rfl rfl rf_28_0 dX1_takeBrides_12 (n := 15) rfl ?_
      refine v_iload_3 ok dX1_takeBrides_15 (n := 16) rfl ?_
      refine v_aald ok ly_29 (by decide) rfl (by omega) (by decide) rfl dX1_takeBrides_16 (n := 17) rfl ?_
      refine v_iconst ok dX1_takeBrides_17 (n := 18) rfl ?_
      refine v_iconst ok dX1_takeBrides_18 (n := 19) rfl ?_
      refine v_copy ok ac_X1_30 ⟨by decide, Nat.le_of_ble_eq_true rfl⟩ (lf_bro (by omega)) rfl (lf_kbro (by omega)) rfl (by decide) (by omega) (by omega) (by omega) dX1_takeBrides_19 (n := 22) rfl ?_
      refine v_iinc_3 ok (by decide) rfl dX1_takeBrides_22 (n := 25) rfl ?_
      refine v_goto ok dX1_takeBrides_25 (n := 2) (by decide) ?_
      rw [zcpR_s hi.1 (by omega)]
      exact ih _ (by omega) _ rfl (by omega)
  refine v_iconst ok dX1_takeBrides_0 (n := 1) rfl ?_
  refine v_istore_3 ok (by decide) rfl dX1_takeBrides_1 (n := 2) rfl ?_
  have e := lp _ 0 rfl (by omega)
  rw [zcpR_0] at e
  exact e

set_option maxHeartbeats 4000000 in
set_option maxRecDepth 100000 in
theorem t_takeBridesR {G : zG} {ad : Int → Nat} {M : zM} {n : Int} (hn : 0 ≤ n ∧ n ≤ 7) : zTV G (zw ad) mi_X1_takeBrides [zr 1, zr 29, zi n] M (fun M' => M' = zset (zcpR M 32 5 n) 1 3 n) := by
  refine zTV.of (own := RX1) (ls := [some (zr 1), some (zr 29), some (zi n), none]) (by decide +kernel) rfl rfl (Nat.le_of_ble_eq_true rfl) (fun γ ok rt => ?_)
  have lp : ∀ (zn : Nat) (i : Int), zn = (16 - i).toNat → (0 ≤ i ∧ i ≤ n) → zVV G γ (zw ad) (0, 0) 2 [some (zr 1), some (zr 29), some (zi n), some (zi i)] [] (zcpR M 32 5 i) := by
    refine zrec _ (fun zn ih => ?_)
    intro i hzn hi
    refine v_iload_3 ok dX1_takeBrides_2 (n := 3) rfl ?_
    refine v_iload_2 ok dX1_takeBrides_3 (n := 4) rfl ?_
    refine v_icmp_ge ok dX1_takeBrides_4 (tgt := 28) (by decide) (n := 7) rfl (by omega) (by omega) (fun c4_1 => ?_) (fun c4_1 => ?_)
    · have c4_1 := c4_1
      refine v_aload_0 ok dX1_takeBrides_28 (n := 29) rfl ?_
      refine v_iload_2 ok dX1_takeBrides_29 (n := 30) rfl ?_
      refine v_putI ok fw_X1_23 ly_1 rfl rfl (jI := 3) rfl dX1_takeBrides_30 (n := 33) rfl ?_
      refine v_vret rt dX1_takeBrides_33 ?_
      rw [show i = n by omega]
    · have c4_1 := c4_1
      refine v_aload_1 ok dX1_takeBrides_7 (n := 8) rfl ?_
      refine v_iload_3 ok dX1_takeBrides_8 (n := 9) rfl ?_
      refine v_aald ok ly_29 (by decide) rfl (by omega) (by decide) rfl dX1_takeBrides_9 (n := 10) rfl ?_
      refine v_iconst ok dX1_takeBrides_10 (n := 11) rfl ?_
      refine v_aload_0 ok dX1_takeBrides_11 (n := 12) rfl ?_
      refine v_getR ok fd_X1_11 ly_1 rfl rfl rfl rf_1_0 dX1_takeBrides_12 (n := 15) rfl ?_
      refine v_iload_3 ok dX1_takeBrides_15 (n := 16) rfl ?_
      refine v_aald ok ly_2 (by decide) rfl (by omega) (by decide) rfl dX1_takeBrides_16 (n := 17) rfl ?_
      refine v_iconst ok dX1_takeBrides_17 (n := 18) rfl ?_
      refine v_iconst ok dX1_takeBrides_18 (n := 19) rfl ?_
      refine v_copy ok ac_X1_30 ⟨by decide, Nat.le_of_ble_eq_true rfl⟩ (lf_kbro (by omega)) rfl (lf_bro (by omega)) rfl (by decide) (by omega) (by omega) (by omega) dX1_takeBrides_19 (n := 22) rfl ?_
      refine v_iinc_3 ok (by decide) rfl dX1_takeBrides_22 (n := 25) rfl ?_
      refine v_goto ok dX1_takeBrides_25 (n := 2) (by decide) ?_
      rw [zcpR_s hi.1 (by omega)]
      exact ih _ (by omega) _ rfl (by omega)
  refine v_iconst ok dX1_takeBrides_0 (n := 1) rfl ?_
  refine v_istore_3 ok (by decide) rfl dX1_takeBrides_1 (n := 2) rfl ?_
  have e := lp _ 0 rfl (by omega)
  rw [zcpR_0] at e
  exact e

set_option maxHeartbeats 4000000 in
set_option maxRecDepth 100000 in
theorem t_takeShoesT {G : zG} {ad : Int → Nat} {M : zM} {n : Int} (hn : 0 ≤ n ∧ n ≤ 16) : zTV G (zw ad) mi_X1_takeShoes [zr 1, zr 57, zi n] M (fun M' => M' = zset (zcpR M 58 12 n) 1 4 n) := by
  refine zTV.of (own := RX1) (ls := [some (zr 1), some (zr 57), some (zi n), none]) (by decide +kernel) rfl rfl (Nat.le_of_ble_eq_true rfl) (fun γ ok rt => ?_)
  have lp : ∀ (zn : Nat) (i : Int), zn = (16 - i).toNat → (0 ≤ i ∧ i ≤ n) → zVV G γ (zw ad) (0, 0) 2 [some (zr 1), some (zr 57), some (zi n), some (zi i)] [] (zcpR M 58 12 i) := by
    refine zrec _ (fun zn ih => ?_)
    intro i hzn hi
    refine v_iload_3 ok dX1_takeShoes_2 (n := 3) rfl ?_
    refine v_iload_2 ok dX1_takeShoes_3 (n := 4) rfl ?_
    refine v_icmp_ge ok dX1_takeShoes_4 (tgt := 28) (by decide) (n := 7) rfl (by omega) (by omega) (fun c4_1 => ?_) (fun c4_1 => ?_)
    · have c4_1 := c4_1
      refine v_aload_0 ok dX1_takeShoes_28 (n := 29) rfl ?_
      refine v_iload_2 ok dX1_takeShoes_29 (n := 30) rfl ?_
      refine v_putI ok fw_X1_27 ly_1 rfl rfl (jI := 4) rfl dX1_takeShoes_30 (n := 33) rfl ?_
      refine v_vret rt dX1_takeShoes_33 ?_
      rw [show i = n by omega]
    · have c4_1 := c4_1
      refine v_aload_1 ok dX1_takeShoes_7 (n := 8) rfl ?_
      refine v_iload_3 ok dX1_takeShoes_8 (n := 9) rfl ?_
      refine v_aald ok ly_57 (by decide) rfl (by omega) (by decide) rfl dX1_takeShoes_9 (n := 10) rfl ?_
      refine v_iconst ok dX1_takeShoes_10 (n := 11) rfl ?_
      refine v_aload_0 ok dX1_takeShoes_11 (n := 12) rfl ?_
      refine v_getR ok fd_X1_16 ly_1 rfl rfl rfl rf_1_1 dX1_takeShoes_12 (n := 15) rfl ?_
      refine v_iload_3 ok dX1_takeShoes_15 (n := 16) rfl ?_
      refine v_aald ok ly_3 (by decide) rfl (by omega) (by decide) rfl dX1_takeShoes_16 (n := 17) rfl ?_
      refine v_iconst ok dX1_takeShoes_17 (n := 18) rfl ?_
      refine v_iconst ok dX1_takeShoes_18 (n := 19) rfl ?_
      refine v_copy ok ac_X1_30 ⟨by decide, Nat.le_of_ble_eq_true rfl⟩ (lf_tro (by omega)) rfl (lf_sro (by omega)) rfl (by decide) (by omega) (by omega) (by omega) dX1_takeShoes_19 (n := 22) rfl ?_
      refine v_iinc_3 ok (by decide) rfl dX1_takeShoes_22 (n := 25) rfl ?_
      refine v_goto ok dX1_takeShoes_25 (n := 2) (by decide) ?_
      rw [zcpR_s hi.1 (by omega)]
      exact ih _ (by omega) _ rfl (by omega)
  refine v_iconst ok dX1_takeShoes_0 (n := 1) rfl ?_
  refine v_istore_3 ok (by decide) rfl dX1_takeShoes_1 (n := 2) rfl ?_
  have e := lp _ 0 rfl (by omega)
  rw [zcpR_0] at e
  exact e

set_option maxHeartbeats 4000000 in
set_option maxRecDepth 100000 in
theorem t_takeShoesK {G : zG} {ad : Int → Nat} {M : zM} {n : Int} (hn : 0 ≤ n ∧ n ≤ 16) : zTV G (zw ad) mi_X1_takeShoes [zr 28, zr 3, zi n] M (fun M' => M' = zset (zcpR M 12 39 n) 28 4 n) := by
  refine zTV.of (own := RX1) (ls := [some (zr 28), some (zr 3), some (zi n), none]) (by decide +kernel) rfl rfl (Nat.le_of_ble_eq_true rfl) (fun γ ok rt => ?_)
  have lp : ∀ (zn : Nat) (i : Int), zn = (16 - i).toNat → (0 ≤ i ∧ i ≤ n) → zVV G γ (zw ad) (0, 0) 2 [some (zr 28), some (zr 3), some (zi n), some (zi i)] [] (zcpR M 12 39 i) := by
    refine zrec _ (fun zn ih => ?_)
    intro i hzn hi
    refine v_iload_3 ok dX1_takeShoes_2 (n := 3) rfl ?_
    refine v_iload_2 ok dX1_takeShoes_3 (n := 4) rfl ?_
    refine v_icmp_ge ok dX1_takeShoes_4 (tgt := 28) (by decide) (n := 7) rfl (by omega) (by omega) (fun c4_1 => ?_) (fun c4_1 => ?_)
    · have c4_1 := c4_1
      refine v_aload_0 ok dX1_takeShoes_28 (n := 29) rfl ?_
      refine v_iload_2 ok dX1_takeShoes_29 (n := 30) rfl ?_
      refine v_putI ok fw_X1_27 ly_28 rfl rfl (jI := 4) rfl dX1_takeShoes_30 (n := 33) rfl ?_
      refine v_vret rt dX1_takeShoes_33 ?_
      rw [show i = n by omega]
    · have c4_1 := c4_1
      refine v_aload_1 ok dX1_takeShoes_7 (n := 8) rfl ?_
      refine v_iload_3 ok dX1_takeShoes_8 (n := 9) rfl ?_
      refine v_aald ok ly_3 (by decide) rfl (by omega) (by decide) rfl dX1_takeShoes_9 (n := 10) rfl ?_
      refine v_iconst ok dX1_takeShoes_10 (n := 11) rfl ?_
      refine v_aload_0 ok dX1_takeShoes_11 (n := 12) rfl ?_
      refine v_getR ok fd_X1_16 ly_28 rfl rfl rfl rf_28_1 dX1_takeShoes_12 (n := 15) rfl ?_
      refine v_iload_3 ok dX1_takeShoes_15 (n := 16) rfl ?_
      refine v_aald ok ly_30 (by decide) rfl (by omega) (by decide) rfl dX1_takeShoes_16 (n := 17) rfl ?_
      refine v_iconst ok dX1_takeShoes_17 (n := 18) rfl ?_
      refine v_iconst ok dX1_takeShoes_18 (n := 19) rfl ?_
      refine v_copy ok ac_X1_30 ⟨by decide, Nat.le_of_ble_eq_true rfl⟩ (lf_sro (by omega)) rfl (lf_ksro (by omega)) rfl (by decide) (by omega) (by omega) (by omega) dX1_takeShoes_19 (n := 22) rfl ?_
      refine v_iinc_3 ok (by decide) rfl dX1_takeShoes_22 (n := 25) rfl ?_
      refine v_goto ok dX1_takeShoes_25 (n := 2) (by decide) ?_
      rw [zcpR_s hi.1 (by omega)]
      exact ih _ (by omega) _ rfl (by omega)
  refine v_iconst ok dX1_takeShoes_0 (n := 1) rfl ?_
  refine v_istore_3 ok (by decide) rfl dX1_takeShoes_1 (n := 2) rfl ?_
  have e := lp _ 0 rfl (by omega)
  rw [zcpR_0] at e
  exact e

set_option maxHeartbeats 4000000 in
set_option maxRecDepth 100000 in
theorem t_takeShoesR {G : zG} {ad : Int → Nat} {M : zM} {n : Int} (hn : 0 ≤ n ∧ n ≤ 16) : zTV G (zw ad) mi_X1_takeShoes [zr 1, zr 30, zi n] M (fun M' => M' = zset (zcpR M 39 12 n) 1 4 n) := by
  refine zTV.of (own := RX1) (ls := [some (zr 1), some (zr 30), some (zi n), none]) (by decide +kernel) rfl rfl (Nat.le_of_ble_eq_true rfl) (fun γ ok rt => ?_)
  have lp : ∀ (zn : Nat) (i : Int), zn = (16 - i).toNat → (0 ≤ i ∧ i ≤ n) → zVV G γ (zw ad) (0, 0) 2 [some (zr 1), some (zr 30), some (zi n), some (zi i)] [] (zcpR M 39 12 i) := by
    refine zrec _ (fun zn ih => ?_)
    intro i hzn hi
    refine v_iload_3 ok dX1_takeShoes_2 (n := 3) rfl ?_
    refine v_iload_2 ok dX1_takeShoes_3 (n := 4) rfl ?_
    refine v_icmp_ge ok dX1_takeShoes_4 (tgt := 28) (by decide) (n := 7) rfl (by omega) (by omega) (fun c4_1 => ?_) (fun c4_1 => ?_)
    · have c4_1 := c4_1
      refine v_aload_0 ok dX1_takeShoes_28 (n := 29) rfl ?_
      refine v_iload_2 ok dX1_takeShoes_29 (n := 30) rfl ?_
      refine v_putI ok fw_X1_27 ly_1 rfl rfl (jI := 4) rfl dX1_takeShoes_30 (n := 33) rfl ?_
      refine v_vret rt dX1_takeShoes_33 ?_
      rw [show i = n by omega]
    · have c4_1 := c4_1
      refine v_aload_1 ok dX1_takeShoes_7 (n := 8) rfl ?_
      refine v_iload_3 ok dX1_takeShoes_8 (n := 9) rfl ?_
      refine v_aald ok ly_30 (by decide) rfl (by omega) (by decide) rfl dX1_takeShoes_9 (n := 10) rfl ?_
      refine v_iconst ok dX1_takeShoes_10 (n := 11) rfl ?_
      refine v_aload_0 ok dX1_takeShoes_11 (n := 12) rfl ?_
      refine v_getR ok fd_X1_16 ly_1 rfl rfl rfl rf_1_1 dX1_takeShoes_12 (n := 15) rfl ?_
      refine v_iload_3 ok dX1_takeShoes_15 (n := 16) rfl ?_
      refine v_aald ok ly_3 (by decide) rfl (by omega) (by decide) rfl dX1_takeShoes_16 (n := 17) rfl ?_
      refine v_iconst ok dX1_takeShoes_17 (n := 18) rfl ?_
      refine v_iconst ok dX1_takeShoes_18 (n := 19) rfl ?_
      refine v_copy ok ac_X1_30 ⟨by decide, Nat.le_of_ble_eq_true rfl⟩ (lf_ksro (by omega)) rfl (lf_sro (by omega)) rfl (by decide) (by omega) (by omega) (by omega) dX1_takeShoes_19 (n := 22) rfl ?_
      refine v_iinc_3 ok (by decide) rfl dX1_takeShoes_22 (n := 25) rfl ?_
      refine v_goto ok dX1_takeShoes_25 (n := 2) (by decide) ?_
      rw [zcpR_s hi.1 (by omega)]
      exact ih _ (by omega) _ rfl (by omega)
  refine v_iconst ok dX1_takeShoes_0 (n := 1) rfl ?_
  refine v_istore_3 ok (by decide) rfl dX1_takeShoes_1 (n := 2) rfl ?_
  have e := lp _ 0 rfl (by omega)
  rw [zcpR_0] at e
  exact e

set_option maxHeartbeats 4000000 in
set_option maxRecDepth 100000 in
theorem t_takeAllK {G : zG} {ad : Int → Nat} {M : zM} (hb : 0 ≤ M 1 3 ∧ M 1 3 ≤ 7) (hs : 0 ≤ M 1 4 ∧ M 1 4 ≤ 16) : zTV G (zw ad) mi_X1_takeAll [zr 28, zr 1] M (fun M' => M' = zcpy (zset (zcpR (zset (zcpR M 5 32 (M 1 3)) 28 3 (M 1 3)) 12 39 (M 1 4)) 28 4 (M 1 4)) 4 0 31 0 2) := by
  refine zTV.of (own := RX1) (ls := [some (zr 28), some (zr 1)]) (by decide +kernel) rfl rfl (Nat.le_of_ble_eq_true rfl) (fun γ ok rt => ?_)
  refine v_aload_0 ok dX1_takeAll_0 (n := 1) rfl ?_
  refine v_aload_1 ok dX1_takeAll_1 (n := 2) rfl ?_
  refine v_getR ok fd_X1_11 ly_1 rfl rfl rfl rf_1_0 dX1_takeAll_2 (n := 5) rfl ?_
  refine v_aload_1 ok dX1_takeAll_5 (n := 6) rfl ?_
  refine v_getI ok fd_X1_23 ly_1 rfl rfl (jI := 3) rfl dX1_takeAll_6 (n := 9) rfl ?_
  refine v_callVV ok (mi := mi_X1_takeBrides) mc_X1_takeBrides cv_X1_36 ly_28 rfl rfl rfl (by decide) ⟨Nat.zero_le _, Nat.zero_le _⟩ dX1_takeAll_9 (n := 12) rfl rfl rfl (Nat.le_of_ble_eq_true rfl) (t_takeBridesK hb) (fun M5 h5 => ?_)
  subst h5
  have e4 : (zset (zcpR M 5 32 (M 1 3)) 28 3 (M 1 3)) 1 4 = M 1 4 := by
    unfold zset zcpR
    rw [if_neg (by omega), if_neg (by omega)]
  refine v_aload_0 ok dX1_takeAll_12 (n := 13) rfl ?_
  refine v_aload_1 ok dX1_takeAll_13 (n := 14) rfl ?_
  refine v_getR ok fd_X1_16 ly_1 rfl rfl rfl rf_1_1 dX1_takeAll_14 (n := 17) rfl ?_
  refine v_aload_1 ok dX1_takeAll_17 (n := 18) rfl ?_
  refine v_getI ok fd_X1_27 ly_1 rfl rfl (jI := 4) rfl dX1_takeAll_18 (n := 21) rfl ?_
  refine v_callVV ok (mi := mi_X1_takeShoes) mc_X1_takeShoes cv_X1_40 ly_28 rfl rfl rfl (by decide) ⟨Nat.zero_le _, Nat.zero_le _⟩ dX1_takeAll_21 (n := 24) rfl rfl rfl (Nat.le_of_ble_eq_true rfl) (t_takeShoesK (by omega)) (fun M6 h6 => ?_)
  subst h6
  refine v_aload_1 ok dX1_takeAll_24 (n := 25) rfl ?_
  refine v_getR ok fd_X1_19 ly_1 rfl rfl rfl rf_1_2 dX1_takeAll_25 (n := 28) rfl ?_
  refine v_iconst ok dX1_takeAll_28 (n := 29) rfl ?_
  refine v_aload_0 ok dX1_takeAll_29 (n := 30) rfl ?_
  refine v_getR ok fd_X1_19 ly_28 rfl rfl rfl rf_28_2 dX1_takeAll_30 (n := 33) rfl ?_
  refine v_iconst ok dX1_takeAll_33 (n := 34) rfl ?_
  refine v_iconst ok dX1_takeAll_34 (n := 35) rfl ?_
  refine v_copy ok ac_X1_30 ⟨by decide, Nat.le_of_ble_eq_true rfl⟩ ly_4 rfl ly_31 rfl (by decide) (by omega) (by omega) (by omega) dX1_takeAll_35 (n := 38) rfl ?_
  refine v_vret rt dX1_takeAll_38 ?_
  rw [e4]

set_option maxHeartbeats 4000000 in
set_option maxRecDepth 100000 in
theorem t_takeAllR {G : zG} {ad : Int → Nat} {M : zM} (hb : 0 ≤ M 28 3 ∧ M 28 3 ≤ 7) (hs : 0 ≤ M 28 4 ∧ M 28 4 ≤ 16) : zTV G (zw ad) mi_X1_takeAll [zr 1, zr 28] M (fun M' => M' = zcpy (zset (zcpR (zset (zcpR M 32 5 (M 28 3)) 1 3 (M 28 3)) 39 12 (M 28 4)) 1 4 (M 28 4)) 31 0 4 0 2) := by
  refine zTV.of (own := RX1) (ls := [some (zr 1), some (zr 28)]) (by decide +kernel) rfl rfl (Nat.le_of_ble_eq_true rfl) (fun γ ok rt => ?_)
  refine v_aload_0 ok dX1_takeAll_0 (n := 1) rfl ?_
  refine v_aload_1 ok dX1_takeAll_1 (n := 2) rfl ?_
  refine v_getR ok fd_X1_11 ly_28 rfl rfl rfl rf_28_0 dX1_takeAll_2 (n := 5) rfl ?_
  refine v_aload_1 ok dX1_takeAll_5 (n := 6) rfl ?_
  refine v_getI ok fd_X1_23 ly_28 rfl rfl (jI := 3) rfl dX1_takeAll_6 (n := 9) rfl ?_
  refine v_callVV ok (mi := mi_X1_takeBrides) mc_X1_takeBrides cv_X1_36 ly_1 rfl rfl rfl (by decide) ⟨Nat.zero_le _, Nat.zero_le _⟩ dX1_takeAll_9 (n := 12) rfl rfl rfl (Nat.le_of_ble_eq_true rfl) (t_takeBridesR hb) (fun M5 h5 => ?_)
  subst h5
  have e4 : (zset (zcpR M 32 5 (M 28 3)) 1 3 (M 28 3)) 28 4 = M 28 4 := by
    unfold zset zcpR
    rw [if_neg (by omega), if_neg (by omega)]
  refine v_aload_0 ok dX1_takeAll_12 (n := 13) rfl ?_
  refine v_aload_1 ok dX1_takeAll_13 (n := 14) rfl ?_
  refine v_getR ok fd_X1_16 ly_28 rfl rfl rfl rf_28_1 dX1_takeAll_14 (n := 17) rfl ?_
  refine v_aload_1 ok dX1_takeAll_17 (n := 18) rfl ?_
  refine v_getI ok fd_X1_27 ly_28 rfl rfl (jI := 4) rfl dX1_takeAll_18 (n := 21) rfl ?_
  refine v_callVV ok (mi := mi_X1_takeShoes) mc_X1_takeShoes cv_X1_40 ly_1 rfl rfl rfl (by decide) ⟨Nat.zero_le _, Nat.zero_le _⟩ dX1_takeAll_21 (n := 24) rfl rfl rfl (Nat.le_of_ble_eq_true rfl) (t_takeShoesR (by omega)) (fun M6 h6 => ?_)
  subst h6
  refine v_aload_1 ok dX1_takeAll_24 (n := 25) rfl ?_
  refine v_getR ok fd_X1_19 ly_28 rfl rfl rfl rf_28_2 dX1_takeAll_25 (n := 28) rfl ?_
  refine v_iconst ok dX1_takeAll_28 (n := 29) rfl ?_
  refine v_aload_0 ok dX1_takeAll_29 (n := 30) rfl ?_
  refine v_getR ok fd_X1_19 ly_1 rfl rfl rfl rf_1_2 dX1_takeAll_30 (n := 33) rfl ?_
  refine v_iconst ok dX1_takeAll_33 (n := 34) rfl ?_
  refine v_iconst ok dX1_takeAll_34 (n := 35) rfl ?_
  refine v_copy ok ac_X1_30 ⟨by decide, Nat.le_of_ble_eq_true rfl⟩ ly_31 rfl ly_4 rfl (by decide) (by omega) (by omega) (by omega) dX1_takeAll_35 (n := 38) rfl ?_
  refine v_vret rt dX1_takeAll_38 ?_
  rw [e4]

set_option maxHeartbeats 4000000 in
set_option maxRecDepth 100000 in
theorem t_image {G : zG} {ad : Int → Nat} {M : zM} (hb : 0 ≤ M 1 3 ∧ M 1 3 ≤ 7) (hs : 0 ≤ M 1 4 ∧ M 1 4 ≤ 16) : zTI G (zw ad) mi_X7_image [zr 0] M (fun x M' => x = 1 ∧ M' = zset (zcpy (zset (zcpR (zset (zcpR M 5 32 (M 1 3)) 28 3 (M 1 3)) 12 39 (M 1 4)) 28 4 (M 1 4)) 4 0 31 0 2) 0 2 1) := by
  refine zTI.of (own := RX7) (ls := [some (zr 0)]) (by decide +kernel) rfl rfl (Nat.le_of_ble_eq_true rfl) (fun γ ok rt => ?_)
  refine v_aload_0 ok dX7_image_0 (n := 1) rfl ?_
  refine v_getR ok fd_X7_16 ly_0 rfl rfl rfl rf_0_1 dX7_image_1 (n := 4) rfl ?_
  refine v_aload_0 ok dX7_image_4 (n := 5) rfl ?_
  refine v_getR ok fd_X7_10 ly_0 rfl rfl rfl rf_0_0 dX7_image_5 (n := 8) rfl ?_
  refine v_callVV ok (mi := mi_X1_takeAll) mc_X1_takeAll cv_X7_181 ly_28 rfl rfl rfl (by decide) ⟨Nat.zero_le _, Nat.zero_le _⟩ dX7_image_8 (n := 11) rfl rfl rfl (Nat.le_of_ble_eq_true rfl) (t_takeAllK hb hs) (fun M5 h5 => ?_)
  subst h5
  refine v_aload_0 ok dX7_image_11 (n := 12) rfl ?_
  refine v_iconst ok dX7_image_12 (n := 13) rfl ?_
  refine v_putZ ok fw_X7_19 (by omega) ly_0 rfl rfl (jI := 2) rfl dX7_image_13 (n := 16) rfl ?_
  refine v_iconst ok dX7_image_16 (n := 17) rfl ?_
  refine v_iret rt dX7_image_17 ?_
  exact ⟨rfl, rfl⟩

set_option maxHeartbeats 4000000 in
set_option maxRecDepth 100000 in
theorem t_restore {G : zG} {ad : Int → Nat} {M : zM} (hk : M 0 2 = 0 ∨ M 0 2 = 1) (hb : 0 ≤ M 28 3 ∧ M 28 3 ≤ 7) (hs : 0 ≤ M 28 4 ∧ M 28 4 ≤ 16) : zTI G (zw ad) mi_X7_restore [zr 0] M (fun x M' => (M 0 2 = 0 ∧ x = -4 ∧ M' = M) ∨ (M 0 2 = 1 ∧ x = 1 ∧ M' = zcpy (zset (zcpR (zset (zcpR M 32 5 (M 28 3)) 1 3 (M 28 3)) 39 12 (M 28 4)) 1 4 (M 28 4)) 31 0 4 0 2)) := by
  refine zTI.of (own := RX7) (ls := [some (zr 0)]) (by decide +kernel) rfl rfl (Nat.le_of_ble_eq_true rfl) (fun γ ok rt => ?_)
  refine v_aload_0 ok dX7_restore_0 (n := 1) rfl ?_
  refine v_getI ok fd_X7_19 ly_0 rfl rfl (jI := 2) rfl dX7_restore_1 (n := 4) rfl ?_
  refine v_if_ne ok dX7_restore_4 (tgt := 10) (by decide) (n := 7) rfl (by omega) (fun c4_1 => ?_) (fun c4_1 => ?_)
  · have c4_1 := c4_1
    refine v_aload_0 ok dX7_restore_10 (n := 11) rfl ?_
    refine v_getR ok fd_X7_10 ly_0 rfl rfl rfl rf_0_0 dX7_restore_11 (n := 14) rfl ?_
    refine v_aload_0 ok dX7_restore_14 (n := 15) rfl ?_
    refine v_getR ok fd_X7_16 ly_0 rfl rfl rfl rf_0_1 dX7_restore_15 (n := 18) rfl ?_
    refine v_callVV ok (mi := mi_X1_takeAll) mc_X1_takeAll cv_X7_181 ly_1 rfl rfl rfl (by decide) ⟨Nat.zero_le _, Nat.zero_le _⟩ dX7_restore_18 (n := 21) rfl rfl rfl (Nat.le_of_ble_eq_true rfl) (t_takeAllR hb hs) (fun M5 h5 => ?_)
    subst h5
    refine v_iconst ok dX7_restore_21 (n := 22) rfl ?_
    refine v_iret rt dX7_restore_22 ?_
    exact (Or.inr ⟨by omega, by first | rfl | omega | (simp (disch := omega) only [zset_ne, zset_eq]), by first | rfl | omega | (simp (disch := omega) only [zset_ne, zset_eq])⟩)
  · have c4_1 := c4_1
    refine v_bipush ok (by decide) dX7_restore_7 (n := 9) rfl ?_
    refine v_iret rt dX7_restore_9 ?_
    exact (Or.inl ⟨by omega, by first | rfl | omega | (simp (disch := omega) only [zset_ne, zset_eq]), by first | rfl | omega | (simp (disch := omega) only [zset_ne, zset_eq])⟩)

