/-! the model: feet, limps, images, sheets -/
set_option maxHeartbeats 4000000 in
set_option maxRecDepth 100000 in
theorem u_foot {G : zG} {ad : Int → Nat} {M : zM} {b s h : Int} (hb : -2147483648 ≤ b ∧ b ≤ 2147483647) (hs : -2147483648 ≤ s ∧ s ≤ 2147483647) (hh : -2147483648 ≤ h ∧ h ≤ 2147483647) (hnb : 0 ≤ M 200 2 ∧ M 200 2 ≤ 7) (hB : ∀ b, 0 ≤ b ∧ b < M 200 2 → zMB M b)  : zTI G (zw ad) mi_X8_foot [zr 200, zi b, zi s, zi h] M (fun x M' => ((¬ ((0 ≤ b ∧ b < M 200 2) ∧ (0 ≤ s ∧ s ≤ 1) ∧ (0 ≤ h ∧ h ≤ 11))) ∧ x = -1 ∧ M' = M) ∨ (((0 ≤ b ∧ b < M 200 2) ∧ (0 ≤ s ∧ s ≤ 1) ∧ (0 ≤ h ∧ h ≤ 11)) ∧ x = zfo (zQB M b) s h ∧ M' = M)) := by
  refine zTI.of (own := RX8) (ls := [some (zr 200), some (zi b), some (zi s), some (zi h)]) (by decide +kernel) rfl rfl (Nat.le_of_ble_eq_true rfl) (fun γ ok rt => ?_)
  refine v_aload_0 ok dX8_foot_0 (n := 1) rfl ?_
  refine v_iload_1 ok dX8_foot_1 (n := 2) rfl ?_
  refine v_callVI ok (mi := mi_X8_isBride) mc_X8_isBride cv_X8_104 ly_200 rfl rfl rfl (by decide) ⟨Nat.zero_le _, Nat.zero_le _⟩ dX8_foot_2 (n := 5) rfl rfl rfl (Nat.le_of_ble_eq_true rfl) (u_isBride hb (by omega)) (fun x5 M5 h5 => ?_)
  obtain ⟨e5_, h5⟩ := h5
  subst M5
  refine v_if_eq ok dX8_foot_5 (tgt := 35) (by decide) (n := 8) rfl (by omega) (fun c5_1 => ?_) (fun c5_1 => ?_)
  · have c5_1 := c5_1
    refine v_iconst ok dX8_foot_35 (n := 36) rfl ?_
    refine v_iret rt dX8_foot_36 ?_
    first | exact (Or.inl ⟨by omega, by first | rfl | omega | (simp (disch := omega) only [zset_ne, zset_eq]), by first | rfl | omega | (simp (disch := omega) only [zset_ne, zset_eq])⟩) | exact (Or.inr ⟨by omega, by first | rfl | omega | (simp (disch := omega) only [zset_ne, zset_eq]), by first | rfl | omega | (simp (disch := omega) only [zset_ne, zset_eq])⟩)
  · have c5_1 := c5_1
    refine v_iload_2 ok dX8_foot_8 (n := 9) rfl ?_
    refine v_i2l ok (by omega) dX8_foot_9 (n := 10) rfl ?_
    refine v_lconst0 ok dX8_foot_10 (n := 11) rfl ?_
    refine v_lconst1 ok dX8_foot_11 (n := 12) rfl ?_
    refine v_callSI ok (mi := mi_X8_in) mc_X8_in cs_X8_85 (by decide) ⟨Nat.zero_le _, Nat.zero_le _⟩ dX8_foot_12 (n := 15) rfl rfl rfl (Nat.le_of_ble_eq_true rfl) (u_in (by omega) (by omega) (by omega)) (fun x6 M6 h6 => ?_)
    obtain ⟨e6_, h6⟩ := h6
    subst M6
    refine v_if_eq ok dX8_foot_15 (tgt := 35) (by decide) (n := 18) rfl (by omega) (fun c15_2 => ?_) (fun c15_2 => ?_)
    · have c15_2 := c15_2
      refine v_iconst ok dX8_foot_35 (n := 36) rfl ?_
      refine v_iret rt dX8_foot_36 ?_
      first | exact (Or.inl ⟨by omega, by first | rfl | omega | (simp (disch := omega) only [zset_ne, zset_eq]), by first | rfl | omega | (simp (disch := omega) only [zset_ne, zset_eq])⟩) | exact (Or.inr ⟨by omega, by first | rfl | omega | (simp (disch := omega) only [zset_ne, zset_eq]), by first | rfl | omega | (simp (disch := omega) only [zset_ne, zset_eq])⟩)
    · have c15_2 := c15_2
      refine v_iload_3 ok dX8_foot_18 (n := 19) rfl ?_
      refine v_callSI ok (mi := mi_X8_isHour) mc_X8_isHour cs_X8_135 (by decide) ⟨Nat.zero_le _, Nat.zero_le _⟩ dX8_foot_19 (n := 22) rfl rfl rfl (Nat.le_of_ble_eq_true rfl) (u_isHour hh) (fun x7 M7 h7 => ?_)
      obtain ⟨e7_, h7⟩ := h7
      subst M7
      refine v_if_eq ok dX8_foot_22 (tgt := 35) (by decide) (n := 25) rfl (by omega) (fun c22_3 => ?_) (fun c22_3 => ?_)
      · have c22_3 := c22_3
        refine v_iconst ok dX8_foot_35 (n := 36) rfl ?_
        refine v_iret rt dX8_foot_36 ?_
        first | exact (Or.inl ⟨by omega, by first | rfl | omega | (simp (disch := omega) only [zset_ne, zset_eq]), by first | rfl | omega | (simp (disch := omega) only [zset_ne, zset_eq])⟩) | exact (Or.inr ⟨by omega, by first | rfl | omega | (simp (disch := omega) only [zset_ne, zset_eq]), by first | rfl | omega | (simp (disch := omega) only [zset_ne, zset_eq])⟩)
      · have c22_3 := c22_3
        refine v_aload_0 ok dX8_foot_25 (n := 26) rfl ?_
        refine v_iload_1 ok dX8_foot_26 (n := 27) rfl ?_
        refine v_iload_2 ok dX8_foot_27 (n := 28) rfl ?_
        refine v_iload_3 ok dX8_foot_28 (n := 29) rfl ?_
        refine v_callVI ok (mi := mi_X8_footOf) mc_X8_footOf cv_X8_121 ly_200 rfl rfl rfl (by decide) ⟨Nat.zero_le _, Nat.zero_le _⟩ dX8_foot_29 (n := 32) rfl rfl rfl (Nat.le_of_ble_eq_true rfl) (u_footOf (by omega) (by omega) (by omega) (hB _ (by omega))) (fun x8 M8 h8 => ?_)
        obtain ⟨e8_, e8⟩ := h8
        subst M8
        refine v_goto ok dX8_foot_32 (n := 36) (by decide) ?_
        refine v_iret rt dX8_foot_36 ?_
        first | exact (Or.inl ⟨by omega, by first | rfl | omega | (simp (disch := omega) only [zset_ne, zset_eq]), by first | rfl | omega | (simp (disch := omega) only [zset_ne, zset_eq])⟩) | exact (Or.inr ⟨by omega, by first | rfl | omega | (simp (disch := omega) only [zset_ne, zset_eq]), by first | rfl | omega | (simp (disch := omega) only [zset_ne, zset_eq])⟩)

set_option maxHeartbeats 4000000 in
set_option maxRecDepth 100000 in
theorem u_asked {G : zG} {ad : Int → Nat} {M : zM} {s b h : Int} (hs : -2147483648 ≤ s ∧ s ≤ 2147483647) (hb : -2147483648 ≤ b ∧ b ≤ 2147483647) (hh : -2147483648 ≤ h ∧ h ≤ 2147483647) (hnb : 0 ≤ M 200 2 ∧ M 200 2 ≤ 7) (hns : 0 ≤ M 200 3 ∧ M 200 3 ≤ 16) (hB : ∀ b, 0 ≤ b ∧ b < M 200 2 → zMB M b) (hS : ∀ s, 0 ≤ s ∧ s < M 200 3 → zMS M s) (h0 : 0 ≤ M 205 0 ∧ M 205 0 ≤ 6) (h1 : 0 ≤ M 205 1 ∧ M 205 1 ≤ 6)  : zTI G (zw ad) mi_X8_asked [zr 200, zi s, zi b, zi h] M (fun x M' => ((¬ ((0 ≤ s ∧ s < M 200 3) ∧ (0 ≤ b ∧ b < M 200 2) ∧ (0 ≤ h ∧ h ≤ 11))) ∧ x = -1 ∧ M' = M) ∨ (((0 ≤ s ∧ s < M 200 3) ∧ (0 ≤ b ∧ b < M 200 2) ∧ (0 ≤ h ∧ h ≤ 11)) ∧ x = zask (zfo (zQB M b) (M 202 (4 * s)) h) (M 202 (4 * s + 1)) (M 202 (4 * s + 2)) (M 205 0) (M 205 1) ∧ M' = M)) := by
  refine zTI.of (own := RX8) (ls := [some (zr 200), some (zi s), some (zi b), some (zi h)]) (by decide +kernel) rfl rfl (Nat.le_of_ble_eq_true rfl) (fun γ ok rt => ?_)
  refine v_aload_0 ok dX8_asked_0 (n := 1) rfl ?_
  refine v_iload_1 ok dX8_asked_1 (n := 2) rfl ?_
  refine v_callVI ok (mi := mi_X8_isShoe) mc_X8_isShoe cv_X8_116 ly_200 rfl rfl rfl (by decide) ⟨Nat.zero_le _, Nat.zero_le _⟩ dX8_asked_2 (n := 5) rfl rfl rfl (Nat.le_of_ble_eq_true rfl) (u_isShoe hs (by omega)) (fun x5 M5 h5 => ?_)
  obtain ⟨e5_, h5⟩ := h5
  subst M5
  refine v_if_eq ok dX8_asked_5 (tgt := 33) (by decide) (n := 8) rfl (by omega) (fun c5_1 => ?_) (fun c5_1 => ?_)
  · have c5_1 := c5_1
    refine v_iconst ok dX8_asked_33 (n := 34) rfl ?_
    refine v_iret rt dX8_asked_34 ?_
    first | exact (Or.inl ⟨by omega, by first | rfl | omega | (simp (disch := omega) only [zset_ne, zset_eq]), by first | rfl | omega | (simp (disch := omega) only [zset_ne, zset_eq])⟩) | exact (Or.inr ⟨by omega, by first | rfl | omega | (simp (disch := omega) only [zset_ne, zset_eq]), by first | rfl | omega | (simp (disch := omega) only [zset_ne, zset_eq])⟩)
  · have c5_1 := c5_1
    refine v_aload_0 ok dX8_asked_8 (n := 9) rfl ?_
    refine v_iload_2 ok dX8_asked_9 (n := 10) rfl ?_
    refine v_callVI ok (mi := mi_X8_isBride) mc_X8_isBride cv_X8_104 ly_200 rfl rfl rfl (by decide) ⟨Nat.zero_le _, Nat.zero_le _⟩ dX8_asked_10 (n := 13) rfl rfl rfl (Nat.le_of_ble_eq_true rfl) (u_isBride hb (by omega)) (fun x6 M6 h6 => ?_)
    obtain ⟨e6_, h6⟩ := h6
    subst M6
    refine v_if_eq ok dX8_asked_13 (tgt := 33) (by decide) (n := 16) rfl (by omega) (fun c13_2 => ?_) (fun c13_2 => ?_)
    · have c13_2 := c13_2
      refine v_iconst ok dX8_asked_33 (n := 34) rfl ?_
      refine v_iret rt dX8_asked_34 ?_
      first | exact (Or.inl ⟨by omega, by first | rfl | omega | (simp (disch := omega) only [zset_ne, zset_eq]), by first | rfl | omega | (simp (disch := omega) only [zset_ne, zset_eq])⟩) | exact (Or.inr ⟨by omega, by first | rfl | omega | (simp (disch := omega) only [zset_ne, zset_eq]), by first | rfl | omega | (simp (disch := omega) only [zset_ne, zset_eq])⟩)
    · have c13_2 := c13_2
      refine v_iload_3 ok dX8_asked_16 (n := 17) rfl ?_
      refine v_callSI ok (mi := mi_X8_isHour) mc_X8_isHour cs_X8_135 (by decide) ⟨Nat.zero_le _, Nat.zero_le _⟩ dX8_asked_17 (n := 20) rfl rfl rfl (Nat.le_of_ble_eq_true rfl) (u_isHour hh) (fun x7 M7 h7 => ?_)
      obtain ⟨e7_, h7⟩ := h7
      subst M7
      refine v_if_eq ok dX8_asked_20 (tgt := 33) (by decide) (n := 23) rfl (by omega) (fun c20_3 => ?_) (fun c20_3 => ?_)
      · have c20_3 := c20_3
        refine v_iconst ok dX8_asked_33 (n := 34) rfl ?_
        refine v_iret rt dX8_asked_34 ?_
        first | exact (Or.inl ⟨by omega, by first | rfl | omega | (simp (disch := omega) only [zset_ne, zset_eq]), by first | rfl | omega | (simp (disch := omega) only [zset_ne, zset_eq])⟩) | exact (Or.inr ⟨by omega, by first | rfl | omega | (simp (disch := omega) only [zset_ne, zset_eq]), by first | rfl | omega | (simp (disch := omega) only [zset_ne, zset_eq])⟩)
      · have c20_3 := c20_3
        refine v_aload_0 ok dX8_asked_23 (n := 24) rfl ?_
        refine v_iload_1 ok dX8_asked_24 (n := 25) rfl ?_
        refine v_iload_2 ok dX8_asked_25 (n := 26) rfl ?_
        refine v_iload_3 ok dX8_asked_26 (n := 27) rfl ?_
        refine v_callVI ok (mi := mi_X8_askedOf) mc_X8_askedOf cv_X8_138 ly_200 rfl rfl rfl (by decide) ⟨Nat.zero_le _, Nat.zero_le _⟩ dX8_asked_27 (n := 30) rfl rfl rfl (Nat.le_of_ble_eq_true rfl) (u_askedOf (by omega) (by omega) (by omega) (hB _ (by omega)) (hS _ (by omega)) h0 h1) (fun x8 M8 h8 => ?_)
        obtain ⟨e8_, e8⟩ := h8
        subst M8
        refine v_goto ok dX8_asked_30 (n := 34) (by decide) ?_
        refine v_iret rt dX8_asked_34 ?_
        first | exact (Or.inl ⟨by omega, by first | rfl | omega | (simp (disch := omega) only [zset_ne, zset_eq]), by first | rfl | omega | (simp (disch := omega) only [zset_ne, zset_eq])⟩) | exact (Or.inr ⟨by omega, by first | rfl | omega | (simp (disch := omega) only [zset_ne, zset_eq]), by first | rfl | omega | (simp (disch := omega) only [zset_ne, zset_eq])⟩)

set_option maxHeartbeats 4000000 in
set_option maxRecDepth 100000 in
theorem u_limpsOf {G : zG} {ad : Int → Nat} {M : zM} {s b h : Int} (hs : 0 ≤ s ∧ s < 16) (hb : 0 ≤ b ∧ b < 7) (hh : 0 ≤ h ∧ h ≤ 11) (hB : zMB M b) (hS : zMS M s) (h0 : 0 ≤ M 205 0 ∧ M 205 0 ≤ 6)  : zTI G (zw ad) mi_X8_limpsOf [zr 200, zi b, zi s, zi h] M (fun x M' => M' = M ∧ x = zlim (zfo (zQB M b) (M 202 (4 * s)) h) (M 202 (4 * s + 1)) (M 202 (4 * s + 2)) (M 205 0)) := by
  refine zTI.of (own := RX8) (ls := [some (zr 200), some (zi b), some (zi s), some (zi h), none, none, none, none]) (by decide +kernel) rfl rfl (Nat.le_of_ble_eq_true rfl) (fun γ ok rt => ?_)
  obtain ⟨s0, s1, s2, s3⟩ := id hS
  have bf := zfo_b (zMB_r hB) (side := M 202 (4 * s)) (h := h) (by omega) hh
  have bg := zgiv_b (M 202 (4 * s + 2))
  have bl := zloo_b (k := M 202 (4 * s + 2)) h0
  refine v_aload_0 ok dX8_limpsOf_0 (n := 1) rfl ?_
  refine v_iload_1 ok dX8_limpsOf_1 (n := 2) rfl ?_
  refine v_aload_0 ok dX8_limpsOf_2 (n := 3) rfl ?_
  refine v_getR ok fd_X8_13 ly_200 rfl rfl rfl rf_200_1 dX8_limpsOf_3 (n := 6) rfl ?_
  refine v_iconst ok dX8_limpsOf_6 (n := 7) rfl ?_
  refine v_iload_2 ok dX8_limpsOf_7 (n := 8) rfl ?_
  refine v_imul ok dX8_limpsOf_8 (n := 9) rfl ?_
  refine v_iald ok ly_202 rfl (by omega) (by decide) dX8_limpsOf_9 (n := 10) rfl ?_
  refine v_iload_3 ok dX8_limpsOf_10 (n := 11) rfl ?_
  refine v_callVI ok (mi := mi_X8_footOf) mc_X8_footOf cv_X8_121 ly_200 rfl rfl rfl (by decide) ⟨Nat.zero_le _, Nat.zero_le _⟩ dX8_limpsOf_11 (n := 14) rfl rfl rfl (Nat.le_of_ble_eq_true rfl) (u_footOf hb s0 hh hB) (fun x1 M1 w1 => ?_)
  obtain ⟨w1_, rfl⟩ := w1
  subst M1
  refine v_istore_4 ok (by decide) rfl dX8_limpsOf_14 (n := 16) rfl ?_
  refine v_aload_0 ok dX8_limpsOf_16 (n := 17) rfl ?_
  refine v_getR ok fd_X8_13 ly_200 rfl rfl rfl rf_200_1 dX8_limpsOf_17 (n := 20) rfl ?_
  refine v_iconst ok dX8_limpsOf_20 (n := 21) rfl ?_
  refine v_iload_2 ok dX8_limpsOf_21 (n := 22) rfl ?_
  refine v_imul ok dX8_limpsOf_22 (n := 23) rfl ?_
  refine v_iconst ok dX8_limpsOf_23 (n := 24) rfl ?_
  refine v_iadd ok dX8_limpsOf_24 (n := 25) rfl ?_
  refine v_iald ok ly_202 rfl (by omega) (by decide) dX8_limpsOf_25 (n := 26) rfl ?_
  refine v_istore_5 ok (by decide) rfl dX8_limpsOf_26 (n := 28) rfl ?_
  refine v_iload_4 ok dX8_limpsOf_28 (n := 30) rfl ?_
  refine v_aload_0 ok dX8_limpsOf_30 (n := 31) rfl ?_
  refine v_iload_2 ok dX8_limpsOf_31 (n := 32) rfl ?_
  refine v_callVI ok (mi := mi_X8_looseOf) mc_X8_looseOf cv_X8_132 ly_200 rfl rfl rfl (by decide) ⟨Nat.zero_le _, Nat.zero_le _⟩ dX8_limpsOf_32 (n := 35) rfl rfl rfl (Nat.le_of_ble_eq_true rfl) (u_looseOf hs hS) (fun x2 M2 w2 => ?_)
  obtain ⟨w2_, rfl⟩ := w2
  subst M2
  refine v_iadd ok dX8_limpsOf_35 (n := 36) rfl ?_
  refine v_istore_6 ok (by decide) rfl dX8_limpsOf_36 (n := 38) rfl ?_
  refine v_iload_4 ok dX8_limpsOf_38 (n := 40) rfl ?_
  refine v_aload_0 ok dX8_limpsOf_40 (n := 41) rfl ?_
  refine v_iload_2 ok dX8_limpsOf_41 (n := 42) rfl ?_
  refine v_callVI ok (mi := mi_X8_givesOf) mc_X8_givesOf cv_X8_129 ly_200 rfl rfl rfl (by decide) ⟨Nat.zero_le _, Nat.zero_le _⟩ dX8_limpsOf_42 (n := 45) rfl rfl rfl (Nat.le_of_ble_eq_true rfl) (u_givesOf hs hS) (fun x3 M3 w3 => ?_)
  obtain ⟨w3_, rfl⟩ := w3
  subst M3
  refine v_isub ok dX8_limpsOf_45 (n := 46) rfl ?_
  refine v_istore_7 ok (by decide) rfl dX8_limpsOf_46 (n := 48) rfl ?_
  refine v_iload_5 ok dX8_limpsOf_48 (n := 50) rfl ?_
  refine v_iload_6 ok dX8_limpsOf_50 (n := 52) rfl ?_
  refine v_icmp_le ok dX8_limpsOf_52 (tgt := 63) (by decide) (n := 55) rfl (by omega) (by omega) (fun c52_1 => ?_) (fun c52_1 => ?_)
  · have c52_1 := c52_1
    refine v_iload_5 ok dX8_limpsOf_63 (n := 65) rfl ?_
    refine v_iload_7 ok dX8_limpsOf_65 (n := 67) rfl ?_
    refine v_icmp_ge ok dX8_limpsOf_67 (tgt := 78) (by decide) (n := 70) rfl (by omega) (by omega) (fun c67_2 => ?_) (fun c67_2 => ?_)
    · have c67_2 := c67_2
      refine v_iconst ok dX8_limpsOf_78 (n := 79) rfl ?_
      refine v_iret rt dX8_limpsOf_79 ?_
      refine ⟨rfl, ?_⟩
      unfold zlim
      first
      | rw [if_pos (by omega)]
      | rw [if_neg (by omega), if_pos (by omega)]
      | rw [if_neg (by omega), if_neg (by omega)]
    · have c67_2 := c67_2
      refine v_iload_5 ok dX8_limpsOf_70 (n := 72) rfl ?_
      refine v_iload_7 ok dX8_limpsOf_72 (n := 74) rfl ?_
      refine v_isub ok dX8_limpsOf_74 (n := 75) rfl ?_
      refine v_goto ok dX8_limpsOf_75 (n := 79) (by decide) ?_
      refine v_iret rt dX8_limpsOf_79 ?_
      refine ⟨rfl, ?_⟩
      unfold zlim
      first
      | rw [if_pos (by omega)]
      | rw [if_neg (by omega), if_pos (by omega)]
      | rw [if_neg (by omega), if_neg (by omega)]
  · have c52_1 := c52_1
    refine v_iload_5 ok dX8_limpsOf_55 (n := 57) rfl ?_
    refine v_iload_6 ok dX8_limpsOf_57 (n := 59) rfl ?_
    refine v_isub ok dX8_limpsOf_59 (n := 60) rfl ?_
    refine v_goto ok dX8_limpsOf_60 (n := 79) (by decide) ?_
    refine v_iret rt dX8_limpsOf_79 ?_
    refine ⟨rfl, ?_⟩
    unfold zlim
    first
    | rw [if_pos (by omega)]
    | rw [if_neg (by omega), if_pos (by omega)]
    | rw [if_neg (by omega), if_neg (by omega)]

set_option maxHeartbeats 4000000 in
set_option maxRecDepth 100000 in
theorem u_limps {G : zG} {ad : Int → Nat} {M : zM} {s b h : Int} (hb : -2147483648 ≤ b ∧ b ≤ 2147483647) (hs : -2147483648 ≤ s ∧ s ≤ 2147483647) (hh : -2147483648 ≤ h ∧ h ≤ 2147483647) (hnb : 0 ≤ M 200 2 ∧ M 200 2 ≤ 7) (hns : 0 ≤ M 200 3 ∧ M 200 3 ≤ 16) (hB : ∀ b, 0 ≤ b ∧ b < M 200 2 → zMB M b) (hS : ∀ s, 0 ≤ s ∧ s < M 200 3 → zMS M s) (h0 : 0 ≤ M 205 0 ∧ M 205 0 ≤ 6)  : zTI G (zw ad) mi_X8_limps [zr 200, zi b, zi s, zi h] M (fun x M' => ((¬ ((0 ≤ b ∧ b < M 200 2) ∧ (0 ≤ s ∧ s < M 200 3) ∧ (0 ≤ h ∧ h ≤ 11))) ∧ x = -100001 ∧ M' = M) ∨ (((0 ≤ b ∧ b < M 200 2) ∧ (0 ≤ s ∧ s < M 200 3) ∧ (0 ≤ h ∧ h ≤ 11)) ∧ x = zlim (zfo (zQB M b) (M 202 (4 * s)) h) (M 202 (4 * s + 1)) (M 202 (4 * s + 2)) (M 205 0) ∧ M' = M)) := by
  refine zTI.of (own := RX8) (ls := [some (zr 200), some (zi b), some (zi s), some (zi h)]) (by decide +kernel) rfl rfl (Nat.le_of_ble_eq_true rfl) (fun γ ok rt => ?_)
  refine v_aload_0 ok dX8_limps_0 (n := 1) rfl ?_
  refine v_iload_1 ok dX8_limps_1 (n := 2) rfl ?_
  refine v_callVI ok (mi := mi_X8_isBride) mc_X8_isBride cv_X8_104 ly_200 rfl rfl rfl (by decide) ⟨Nat.zero_le _, Nat.zero_le _⟩ dX8_limps_2 (n := 5) rfl rfl rfl (Nat.le_of_ble_eq_true rfl) (u_isBride hb (by omega)) (fun x5 M5 h5 => ?_)
  obtain ⟨e5_, h5⟩ := h5
  subst M5
  refine v_if_eq ok dX8_limps_5 (tgt := 33) (by decide) (n := 8) rfl (by omega) (fun c5_1 => ?_) (fun c5_1 => ?_)
  · have c5_1 := c5_1
    refine v_ldc ok (c := -100001) kc_X8_208 (by decide) dX8_limps_33 (n := 35) rfl ?_
    refine v_iret rt dX8_limps_35 ?_
    first | exact (Or.inl ⟨by omega, by first | rfl | omega | (simp (disch := omega) only [zset_ne, zset_eq]), by first | rfl | omega | (simp (disch := omega) only [zset_ne, zset_eq])⟩) | exact (Or.inr ⟨by omega, by first | rfl | omega | (simp (disch := omega) only [zset_ne, zset_eq]), by first | rfl | omega | (simp (disch := omega) only [zset_ne, zset_eq])⟩)
  · have c5_1 := c5_1
    refine v_aload_0 ok dX8_limps_8 (n := 9) rfl ?_
    refine v_iload_2 ok dX8_limps_9 (n := 10) rfl ?_
    refine v_callVI ok (mi := mi_X8_isShoe) mc_X8_isShoe cv_X8_116 ly_200 rfl rfl rfl (by decide) ⟨Nat.zero_le _, Nat.zero_le _⟩ dX8_limps_10 (n := 13) rfl rfl rfl (Nat.le_of_ble_eq_true rfl) (u_isShoe hs (by omega)) (fun x6 M6 h6 => ?_)
    obtain ⟨e6_, h6⟩ := h6
    subst M6
    refine v_if_eq ok dX8_limps_13 (tgt := 33) (by decide) (n := 16) rfl (by omega) (fun c13_2 => ?_) (fun c13_2 => ?_)
    · have c13_2 := c13_2
      refine v_ldc ok (c := -100001) kc_X8_208 (by decide) dX8_limps_33 (n := 35) rfl ?_
      refine v_iret rt dX8_limps_35 ?_
      first | exact (Or.inl ⟨by omega, by first | rfl | omega | (simp (disch := omega) only [zset_ne, zset_eq]), by first | rfl | omega | (simp (disch := omega) only [zset_ne, zset_eq])⟩) | exact (Or.inr ⟨by omega, by first | rfl | omega | (simp (disch := omega) only [zset_ne, zset_eq]), by first | rfl | omega | (simp (disch := omega) only [zset_ne, zset_eq])⟩)
    · have c13_2 := c13_2
      refine v_iload_3 ok dX8_limps_16 (n := 17) rfl ?_
      refine v_callSI ok (mi := mi_X8_isHour) mc_X8_isHour cs_X8_135 (by decide) ⟨Nat.zero_le _, Nat.zero_le _⟩ dX8_limps_17 (n := 20) rfl rfl rfl (Nat.le_of_ble_eq_true rfl) (u_isHour hh) (fun x7 M7 h7 => ?_)
      obtain ⟨e7_, h7⟩ := h7
      subst M7
      refine v_if_eq ok dX8_limps_20 (tgt := 33) (by decide) (n := 23) rfl (by omega) (fun c20_3 => ?_) (fun c20_3 => ?_)
      · have c20_3 := c20_3
        refine v_ldc ok (c := -100001) kc_X8_208 (by decide) dX8_limps_33 (n := 35) rfl ?_
        refine v_iret rt dX8_limps_35 ?_
        first | exact (Or.inl ⟨by omega, by first | rfl | omega | (simp (disch := omega) only [zset_ne, zset_eq]), by first | rfl | omega | (simp (disch := omega) only [zset_ne, zset_eq])⟩) | exact (Or.inr ⟨by omega, by first | rfl | omega | (simp (disch := omega) only [zset_ne, zset_eq]), by first | rfl | omega | (simp (disch := omega) only [zset_ne, zset_eq])⟩)
      · have c20_3 := c20_3
        refine v_aload_0 ok dX8_limps_23 (n := 24) rfl ?_
        refine v_iload_1 ok dX8_limps_24 (n := 25) rfl ?_
        refine v_iload_2 ok dX8_limps_25 (n := 26) rfl ?_
        refine v_iload_3 ok dX8_limps_26 (n := 27) rfl ?_
        refine v_callVI ok (mi := mi_X8_limpsOf) mc_X8_limpsOf cv_X8_205 ly_200 rfl rfl rfl (by decide) ⟨Nat.zero_le _, Nat.zero_le _⟩ dX8_limps_27 (n := 30) rfl rfl rfl (Nat.le_of_ble_eq_true rfl) (u_limpsOf (by omega) (by omega) (by omega) (hB _ (by omega)) (hS _ (by omega)) h0) (fun x8 M8 h8 => ?_)
        obtain ⟨e8_, e8⟩ := h8
        subst M8
        refine v_goto ok dX8_limps_30 (n := 35) (by decide) ?_
        refine v_iret rt dX8_limps_35 ?_
        first | exact (Or.inl ⟨by omega, by first | rfl | omega | (simp (disch := omega) only [zset_ne, zset_eq]), by first | rfl | omega | (simp (disch := omega) only [zset_ne, zset_eq])⟩) | exact (Or.inr ⟨by omega, by first | rfl | omega | (simp (disch := omega) only [zset_ne, zset_eq]), by first | rfl | omega | (simp (disch := omega) only [zset_ne, zset_eq])⟩)

theorem zor_0 {a : Int} (h : 0 ≤ a ∧ a ≤ 2147483647) : zor a 0 = a := by
  rw [zor_n h (by omega), show (0 : Int).toNat = 0 from rfl, Nat.or_zero]
  omega
theorem zwho_b (f : Int → Int) (n : Nat) (hn : n ≤ 7) : 0 ≤ zwho f n ∧ zwho f n < 128 := by
  induction n with
  | zero => exact ⟨Int.le_refl 0, show (0 : Int) < 128 by omega⟩
  | succ n ih =>
    have ih := ih (by omega)
    have e7 : zp2 7 = 128 := by decide
    unfold zwho
    split
    · rw [zshl_1 (by omega)]
      have := zor_l7 (h := zwho f n) (t := n) (n := 7) (by omega) (by omega) (by omega)
      omega
    · exact ih
set_option maxHeartbeats 4000000 in
set_option maxRecDepth 100000 in
theorem u_whose {G : zG} {ad : Int → Nat} {M : zM} {s h : Int} (hs : -2147483648 ≤ s ∧ s ≤ 2147483647) (hh : -2147483648 ≤ h ∧ h ≤ 2147483647) (hnb : 0 ≤ M 200 2 ∧ M 200 2 ≤ 7) (hns : 0 ≤ M 200 3 ∧ M 200 3 ≤ 16) (hB : ∀ b, 0 ≤ b ∧ b < M 200 2 → zMB M b) (hS : ∀ s, 0 ≤ s ∧ s < M 200 3 → zMS M s) (h0 : 0 ≤ M 205 0 ∧ M 205 0 ≤ 6) (h1 : 0 ≤ M 205 1 ∧ M 205 1 ≤ 6)  : zTI G (zw ad) mi_X8_whose [zr 200, zi s, zi h] M (fun x M' => ((¬ ((0 ≤ s ∧ s < M 200 3) ∧ (0 ≤ h ∧ h ≤ 11))) ∧ x = -1 ∧ M' = M) ∨ (((0 ≤ s ∧ s < M 200 3) ∧ (0 ≤ h ∧ h ≤ 11)) ∧ x = zwho (fun i => zask (zfo (zQB M i) (M 202 (4 * s)) h) (M 202 (4 * s + 1)) (M 202 (4 * s + 2)) (M 205 0) (M 205 1)) (M 200 2).toNat ∧ M' = M)) := by
  refine zTI.of (own := RX8) (ls := [some (zr 200), some (zi s), some (zi h), none, none]) (by decide +kernel) rfl rfl (Nat.le_of_ble_eq_true rfl) (fun γ ok rt => ?_)
  refine v_aload_0 ok dX8_whose_0 (n := 1) rfl ?_
  refine v_iload_1 ok dX8_whose_1 (n := 2) rfl ?_
  refine v_callVI ok (mi := mi_X8_isShoe) mc_X8_isShoe cv_X8_116 ly_200 rfl rfl rfl (by decide) ⟨Nat.zero_le _, Nat.zero_le _⟩ dX8_whose_2 (n := 5) rfl rfl rfl (Nat.le_of_ble_eq_true rfl) (u_isShoe hs (by omega)) (fun x5 M5 h5 => ?_)
  obtain ⟨e5_, h5⟩ := h5
  subst M5
  refine v_if_eq ok dX8_whose_5 (tgt := 15) (by decide) (n := 8) rfl (by omega) (fun c5_1 => ?_) (fun c5_1 => ?_)
  · have c5_1 := c5_1
    refine v_iconst ok dX8_whose_15 (n := 16) rfl ?_
    refine v_iret rt dX8_whose_16 ?_
    exact (Or.inl ⟨by omega, by first | rfl | omega | (simp (disch := omega) only [zset_ne, zset_eq]), by first | rfl | omega | (simp (disch := omega) only [zset_ne, zset_eq])⟩)
  · have c5_1 := c5_1
    refine v_iload_2 ok dX8_whose_8 (n := 9) rfl ?_
    refine v_callSI ok (mi := mi_X8_isHour) mc_X8_isHour cs_X8_135 (by decide) ⟨Nat.zero_le _, Nat.zero_le _⟩ dX8_whose_9 (n := 12) rfl rfl rfl (Nat.le_of_ble_eq_true rfl) (u_isHour hh) (fun x6 M6 h6 => ?_)
    obtain ⟨e6_, h6⟩ := h6
    subst M6
    refine v_if_ne ok dX8_whose_12 (tgt := 17) (by decide) (n := 15) rfl (by omega) (fun c12_2 => ?_) (fun c12_2 => ?_)
    · have c12_2 := c12_2
      have lp : ∀ (zn : Nat) (i : Int), zn = (16 - i).toNat → (0 ≤ i ∧ i ≤ M 200 2) → zVV G γ (zw ad) (0, 0) 22 [some (zr 200), some (zi s), some (zi h), some (zi (zwho (fun i => zask (zfo (zQB M i) (M 202 (4 * s)) h) (M 202 (4 * s + 1)) (M 202 (4 * s + 2)) (M 205 0) (M 205 1)) i.toNat)), some (zi i)] [] M := by
        refine zrec _ (fun zn ih => ?_)
        intro i hzn hi
        refine v_iload_4 ok dX8_whose_22 (n := 24) rfl ?_
        refine v_aload_0 ok dX8_whose_24 (n := 25) rfl ?_
        refine v_getI ok fd_X8_81 ly_200 rfl rfl (jI := 2) rfl dX8_whose_25 (n := 28) rfl ?_
        refine v_icmp_ge ok dX8_whose_28 (tgt := 59) (by decide) (n := 31) rfl (by omega) (by omega) (fun c28_1 => ?_) (fun c28_1 => ?_)
        · have c28_1 := c28_1
          refine v_iload_3 ok dX8_whose_59 (n := 60) rfl ?_
          refine v_iret rt dX8_whose_60 ?_
          rw [show i = M 200 2 by omega]
          exact (Or.inr ⟨by omega, by first | rfl | omega | (simp (disch := omega) only [zset_ne, zset_eq]), by first | rfl | omega | (simp (disch := omega) only [zset_ne, zset_eq])⟩)
        · have c28_1 := c28_1
          refine v_iload_3 ok dX8_whose_31 (n := 32) rfl ?_
          refine v_aload_0 ok dX8_whose_32 (n := 33) rfl ?_
          refine v_iload_1 ok dX8_whose_33 (n := 34) rfl ?_
          refine v_iload_4 ok dX8_whose_34 (n := 36) rfl ?_
          refine v_iload_2 ok dX8_whose_36 (n := 37) rfl ?_
          refine v_callVI ok (mi := mi_X8_askedOf) mc_X8_askedOf cv_X8_138 ly_200 rfl rfl rfl (by decide) ⟨Nat.zero_le _, Nat.zero_le _⟩ dX8_whose_37 (n := 40) rfl rfl rfl (Nat.le_of_ble_eq_true rfl) (u_askedOf (by omega) (by omega) (by omega) (hB _ (by omega)) (hS _ (by omega)) h0 h1) (fun x8 M8 h8 => ?_)
          obtain ⟨e8_, e8⟩ := h8
          subst M8
          have e9 := zask_b (foot := zfo (zQB M i) (M 202 (4 * s)) h) (size := M 202 (4 * s + 1)) (kind := M 202 (4 * s + 2)) (loose := M 205 0) h1
          rw [← e8] at e9
          have hw := zwho_b (fun i => zask (zfo (zQB M i) (M 202 (4 * s)) h) (M 202 (4 * s + 1)) (M 202 (4 * s + 2)) (M 205 0) (M 205 1)) i.toNat (by omega)
          have hst : zwho (fun i => zask (zfo (zQB M i) (M 202 (4 * s)) h) (M 202 (4 * s + 1)) (M 202 (4 * s + 2)) (M 205 0) (M 205 1)) (i + 1).toNat = if 0 ≤ x8 then zor (zwho (fun i => zask (zfo (zQB M i) (M 202 (4 * s)) h) (M 202 (4 * s + 1)) (M 202 (4 * s + 2)) (M 205 0) (M 205 1)) i.toNat) (zshl 1 i) else zwho (fun i => zask (zfo (zQB M i) (M 202 (4 * s)) h) (M 202 (4 * s + 1)) (M 202 (4 * s + 2)) (M 205 0) (M 205 1)) i.toNat := by
            rw [show (i + 1).toNat = i.toNat + 1 by omega]
            conv => lhs; unfold zwho
            rw [show ((i.toNat : Nat) : Int) = i by omega, ← e8]
          refine v_if_lt ok dX8_whose_40 (tgt := 50) (by decide) (n := 43) rfl (by omega) (fun c40_2 => ?_) (fun c40_2 => ?_)
          · have c40_2 := c40_2
            rw [if_neg (by omega)] at hst
            refine v_iconst ok dX8_whose_50 (n := 51) rfl ?_
            refine v_ior ok dX8_whose_51 (n := 52) rfl ?_
            first
            | rw [zor_0 (by omega), ← hst]
            | rw [← hst]
            refine v_istore_3 ok (by decide) rfl dX8_whose_52 (n := 53) rfl ?_
            refine v_iinc_4 ok (by decide) rfl dX8_whose_53 (n := 56) rfl ?_
            refine v_goto ok dX8_whose_56 (n := 22) (by decide) ?_
            exact ih _ (by omega) _ rfl (by omega)
          · have c40_2 := c40_2
            rw [if_pos (by omega)] at hst
            refine v_iconst ok dX8_whose_43 (n := 44) rfl ?_
            refine v_iload_4 ok dX8_whose_44 (n := 46) rfl ?_
            refine v_ishl ok dX8_whose_46 (n := 47) rfl ?_
            refine v_goto ok dX8_whose_47 (n := 51) (by decide) ?_
            refine v_ior ok dX8_whose_51 (n := 52) rfl ?_
            first
            | rw [zor_0 (by omega), ← hst]
            | rw [← hst]
            refine v_istore_3 ok (by decide) rfl dX8_whose_52 (n := 53) rfl ?_
            refine v_iinc_4 ok (by decide) rfl dX8_whose_53 (n := 56) rfl ?_
            refine v_goto ok dX8_whose_56 (n := 22) (by decide) ?_
            exact ih _ (by omega) _ rfl (by omega)
      refine v_iconst ok dX8_whose_17 (n := 18) rfl ?_
      refine v_istore_3 ok (by decide) rfl dX8_whose_18 (n := 19) rfl ?_
      refine v_iconst ok dX8_whose_19 (n := 20) rfl ?_
      refine v_istore_4 ok (by decide) rfl dX8_whose_20 (n := 22) rfl ?_
      exact lp _ 0 rfl (by omega)
    · have c12_2 := c12_2
      refine v_iconst ok dX8_whose_15 (n := 16) rfl ?_
      refine v_iret rt dX8_whose_16 ?_
      exact (Or.inl ⟨by omega, by first | rfl | omega | (simp (disch := omega) only [zset_ne, zset_eq]), by first | rfl | omega | (simp (disch := omega) only [zset_ne, zset_eq])⟩)

/-- the model's word on a row of a sheet: 0 there is, else why not -/
def zlak (th ln a i n : Int) : Int := if th ≠ a then (if th < 0 then -11 else -12) else if 0 ≤ i ∧ i ≤ ln - n then 0 else -13
theorem zlak_b (th ln a i n : Int) : -13 ≤ zlak th ln a i n ∧ zlak th ln a i n ≤ 0 := by
  unfold zlak
  split
  · split <;> omega
  · split <;> omega
set_option maxHeartbeats 4000000 in
set_option maxRecDepth 100000 in
theorem u_isSheet {G : zG} {ad : Int → Nat} {M : zM} {v a : Int} (hv : -2147483648 ≤ v ∧ v ≤ 2147483647) (ha : -2147483648 ≤ a ∧ a ≤ 2147483647) : zTI G (zw ad) mi_X8_isSheet [zi v, zi a] M (fun x M' => M' = M ∧ ((x = 1 ∧ ((0 ≤ v ∧ v ≤ 3) ∧ (0 ≤ a ∧ a ≤ 2))) ∨ (x = 0 ∧ ¬ ((0 ≤ v ∧ v ≤ 3) ∧ (0 ≤ a ∧ a ≤ 2))))) := by
  refine zTI.ofZ (own := RX8) (ls := [some (zi v), some (zi a)]) (by decide +kernel) rfl rfl (Nat.le_of_ble_eq_true rfl) (fun γ ok rt => ?_)
  refine v_iload_0 ok dX8_isSheet_0 (n := 1) rfl ?_
  refine v_i2l ok (by omega) dX8_isSheet_1 (n := 2) rfl ?_
  refine v_lconst0 ok dX8_isSheet_2 (n := 3) rfl ?_
  refine v_ldc2 ok (c := 3) kc_X8_108 (by decide) dX8_isSheet_3 (n := 6) rfl ?_
  refine v_callSI ok (mi := mi_X8_in) mc_X8_in cs_X8_85 (by decide) ⟨Nat.zero_le _, Nat.zero_le _⟩ dX8_isSheet_6 (n := 9) rfl rfl rfl (Nat.le_of_ble_eq_true rfl) (u_in (by omega) (by omega) (by omega)) (fun x1 M1 h1 => ?_)
  obtain ⟨e1_, h1⟩ := h1
  subst M1
  refine v_if_eq ok dX8_isSheet_9 (tgt := 28) (by decide) (n := 12) rfl (by omega) (fun c9_1 => ?_) (fun c9_1 => ?_)
  · have c9_1 := c9_1
    refine v_iconst ok dX8_isSheet_28 (n := 29) rfl ?_
    refine v_zret rt dX8_isSheet_29 (by omega) ?_
    exact ⟨rfl, by omega⟩
  · have c9_1 := c9_1
    refine v_iload_1 ok dX8_isSheet_12 (n := 13) rfl ?_
    refine v_i2l ok (by omega) dX8_isSheet_13 (n := 14) rfl ?_
    refine v_lconst0 ok dX8_isSheet_14 (n := 15) rfl ?_
    refine v_ldc2 ok (c := 2) kc_X8_228 (by decide) dX8_isSheet_15 (n := 18) rfl ?_
    refine v_callSI ok (mi := mi_X8_in) mc_X8_in cs_X8_85 (by decide) ⟨Nat.zero_le _, Nat.zero_le _⟩ dX8_isSheet_18 (n := 21) rfl rfl rfl (Nat.le_of_ble_eq_true rfl) (u_in (by omega) (by omega) (by omega)) (fun x1 M1 h1 => ?_)
    obtain ⟨e1_, h1⟩ := h1
    subst M1
    refine v_if_eq ok dX8_isSheet_21 (tgt := 28) (by decide) (n := 24) rfl (by omega) (fun c21_2 => ?_) (fun c21_2 => ?_)
    · have c21_2 := c21_2
      refine v_iconst ok dX8_isSheet_28 (n := 29) rfl ?_
      refine v_zret rt dX8_isSheet_29 (by omega) ?_
      exact ⟨rfl, by omega⟩
    · have c21_2 := c21_2
      refine v_iconst ok dX8_isSheet_24 (n := 25) rfl ?_
      refine v_goto ok dX8_isSheet_25 (n := 29) (by decide) ?_
      refine v_zret rt dX8_isSheet_29 (by omega) ?_
      exact ⟨rfl, by omega⟩

set_option maxHeartbeats 4000000 in
set_option maxRecDepth 100000 in
theorem u_lacksRow {G : zG} {ad : Int → Nat} {M : zM} {j a i n : Int} (hj : 0 ≤ j ∧ j < 4) (hn : 0 ≤ n ∧ n ≤ 1000) (ha : -2147483648 ≤ a ∧ a ≤ 2147483647) (hi : -2147483648 ≤ i ∧ i ≤ 2147483647) (hla : ∀ j, 0 ≤ j ∧ j < 4 → -1 ≤ M 223 j ∧ M 223 j ≤ 2) (hln : ∀ j, 0 ≤ j ∧ j < 4 → 0 ≤ M 224 j ∧ M 224 j ≤ 100)  : zTI G (zw ad) mi_X8_lacksRow [zr 200, zi j, zi a, zi i, zi n] M (fun x M' => M' = M ∧ x = zlak (M 223 j) (M 224 j) a i n) := by
  refine zTI.of (own := RX8) (ls := [some (zr 200), some (zi j), some (zi a), some (zi i), some (zi n)]) (by decide +kernel) rfl rfl (Nat.le_of_ble_eq_true rfl) (fun γ ok rt => ?_)
  have q1 := hla j hj
  have q2 := hln j hj
  refine v_aload_0 ok dX8_lacksRow_0 (n := 1) rfl ?_
  refine v_getR ok fd_X8_51 ly_200 rfl rfl rfl rf_200_22 dX8_lacksRow_1 (n := 4) rfl ?_
  refine v_iload_1 ok dX8_lacksRow_4 (n := 5) rfl ?_
  refine v_iald ok ly_223 rfl (by omega) (by decide) dX8_lacksRow_5 (n := 6) rfl ?_
  refine v_iload_2 ok dX8_lacksRow_6 (n := 7) rfl ?_
  refine v_icmp_eq ok dX8_lacksRow_7 (tgt := 27) (by decide) (n := 10) rfl (by omega) (by omega) (fun c7_1 => ?_) (fun c7_1 => ?_)
  · have c7_1 := c7_1
    refine v_iload_3 ok dX8_lacksRow_27 (n := 28) rfl ?_
    refine v_i2l ok (by omega) dX8_lacksRow_28 (n := 29) rfl ?_
    refine v_lconst0 ok dX8_lacksRow_29 (n := 30) rfl ?_
    refine v_aload_0 ok dX8_lacksRow_30 (n := 31) rfl ?_
    refine v_getR ok fd_X8_54 ly_200 rfl rfl rfl rf_200_23 dX8_lacksRow_31 (n := 34) rfl ?_
    refine v_iload_1 ok dX8_lacksRow_34 (n := 35) rfl ?_
    refine v_iald ok ly_224 rfl (by omega) (by decide) dX8_lacksRow_35 (n := 36) rfl ?_
    refine v_iload_4 ok dX8_lacksRow_36 (n := 38) rfl ?_
    refine v_isub ok dX8_lacksRow_38 (n := 39) rfl ?_
    refine v_i2l ok (by omega) dX8_lacksRow_39 (n := 40) rfl ?_
    refine v_callSI ok (mi := mi_X8_in) mc_X8_in cs_X8_85 (by decide) ⟨Nat.zero_le _, Nat.zero_le _⟩ dX8_lacksRow_40 (n := 43) rfl rfl rfl (Nat.le_of_ble_eq_true rfl) (u_in (by omega) (by omega) (by omega)) (fun x1 M1 h1 => ?_)
    obtain ⟨e1_, h1⟩ := h1
    subst M1
    refine v_if_eq ok dX8_lacksRow_43 (tgt := 50) (by decide) (n := 46) rfl (by omega) (fun c43_2 => ?_) (fun c43_2 => ?_)
    · have c43_2 := c43_2
      refine v_bipush ok (by decide) dX8_lacksRow_50 (n := 52) rfl ?_
      refine v_iret rt dX8_lacksRow_52 ?_
      refine ⟨rfl, ?_⟩
      unfold zlak
      first
      | rw [if_pos (by omega), if_pos (by omega)]
      | rw [if_pos (by omega), if_neg (by omega)]
      | rw [if_neg (by omega), if_pos (by omega)]
      | rw [if_neg (by omega), if_neg (by omega)]
    · have c43_2 := c43_2
      refine v_iconst ok dX8_lacksRow_46 (n := 47) rfl ?_
      refine v_goto ok dX8_lacksRow_47 (n := 52) (by decide) ?_
      refine v_iret rt dX8_lacksRow_52 ?_
      refine ⟨rfl, ?_⟩
      unfold zlak
      first
      | rw [if_pos (by omega), if_pos (by omega)]
      | rw [if_pos (by omega), if_neg (by omega)]
      | rw [if_neg (by omega), if_pos (by omega)]
      | rw [if_neg (by omega), if_neg (by omega)]
  · have c7_1 := c7_1
    refine v_aload_0 ok dX8_lacksRow_10 (n := 11) rfl ?_
    refine v_getR ok fd_X8_51 ly_200 rfl rfl rfl rf_200_22 dX8_lacksRow_11 (n := 14) rfl ?_
    refine v_iload_1 ok dX8_lacksRow_14 (n := 15) rfl ?_
    refine v_iald ok ly_223 rfl (by omega) (by decide) dX8_lacksRow_15 (n := 16) rfl ?_
    refine v_if_ge ok dX8_lacksRow_16 (tgt := 24) (by decide) (n := 19) rfl (by omega) (fun c16_3 => ?_) (fun c16_3 => ?_)
    · have c16_3 := c16_3
      refine v_bipush ok (by decide) dX8_lacksRow_24 (n := 26) rfl ?_
      refine v_iret rt dX8_lacksRow_26 ?_
      refine ⟨rfl, ?_⟩
      unfold zlak
      first
      | rw [if_pos (by omega), if_pos (by omega)]
      | rw [if_pos (by omega), if_neg (by omega)]
      | rw [if_neg (by omega), if_pos (by omega)]
      | rw [if_neg (by omega), if_neg (by omega)]
    · have c16_3 := c16_3
      refine v_bipush ok (by decide) dX8_lacksRow_19 (n := 21) rfl ?_
      refine v_goto ok dX8_lacksRow_21 (n := 26) (by decide) ?_
      refine v_iret rt dX8_lacksRow_26 ?_
      refine ⟨rfl, ?_⟩
      unfold zlak
      first
      | rw [if_pos (by omega), if_pos (by omega)]
      | rw [if_pos (by omega), if_neg (by omega)]
      | rw [if_neg (by omega), if_pos (by omega)]
      | rw [if_neg (by omega), if_neg (by omega)]

/-- a piece of a row is filled -/
def zfip (M : zM) (R a k v : Int) : zM := fun r t => if r = R ∧ a ≤ t ∧ t < a + k then v else M r t
theorem zfip_0 {M : zM} {R a v : Int} : zfip M R a 0 v = M := by
  funext r t
  exact if_neg (by omega)
theorem zfip_s {M : zM} {R a k v : Int} (hk : 0 ≤ k) : zset (zfip M R a k v) R (a + k) v = zfip M R a (k + 1) v := by
  funext r t
  unfold zset zfip
  by_cases h : r = R ∧ t = a + k
  · rw [if_pos h, if_pos (by omega)]
  · rw [if_neg h]
    by_cases h2 : r = R ∧ a ≤ t ∧ t < a + k
    · rw [if_pos h2, if_pos (by omega)]
    · rw [if_neg h2, if_neg (by omega)]
theorem zcpy_0 {M : zM} {rs sp rd dp : Int} : zcpy M rs sp rd dp 0 = M := by
  funext r t
  exact if_neg (by omega)
theorem zcpy_o {M : zM} {rs sp rd dp n r : Int} (h : r ≠ rd) : zcpy M rs sp rd dp n r = M r := by
  funext t
  exact if_neg fun q => h q.1
theorem zcpy_s {M : zM} {rs sp rd dp k : Int} (hk : 0 ≤ k) : zset (zcpy M rs sp rd dp k) rd (dp + k) (M rs (sp + k)) = zcpy M rs sp rd dp (k + 1) := by
  funext r t
  unfold zset zcpy
  by_cases h : r = rd ∧ t = dp + k
  · rw [if_pos h, if_pos (by omega), h.2, show dp + k - dp = k by omega]
  · rw [if_neg h]
    by_cases h2 : r = rd ∧ dp ≤ t ∧ t < dp + k
    · rw [if_pos h2, if_pos (by omega)]
    · rw [if_neg h2, if_neg (by omega)]
set_option maxHeartbeats 4000000 in
set_option maxRecDepth 100000 in
theorem u_sheet {G : zG} {ad : Int → Nat} {M : zM} {j a n : Int} (hj : -2147483648 ≤ j ∧ j ≤ 2147483647) (ha : -2147483648 ≤ a ∧ a ≤ 2147483647) (hn : -2147483648 ≤ n ∧ n ≤ 2147483647) : zTI G (zw ad) mi_X8_sheet [zr 200, zi j, zi a, zi n] M (fun x M' => ((¬ ((0 ≤ j ∧ j ≤ 3) ∧ (0 ≤ a ∧ a ≤ 2) ∧ n ≤ 100)) ∧ x = -1 ∧ M' = M) ∨ (((0 ≤ j ∧ j ≤ 3) ∧ (0 ≤ a ∧ a ≤ 2) ∧ n ≤ 100 ∧ n < 0) ∧ x = -14 ∧ M' = M) ∨ (((0 ≤ j ∧ j ≤ 3) ∧ (0 ≤ a ∧ a ≤ 2) ∧ n ≤ 100 ∧ 0 ≤ n) ∧ x = n ∧ M' = zfip (zset (zset M 223 j a) 224 j n) 225 (100 * j) 100 0)) := by
  refine zTI.of (own := RX8) (ls := [some (zr 200), some (zi j), some (zi a), some (zi n), none]) (by decide +kernel) rfl rfl (Nat.le_of_ble_eq_true rfl) (fun γ ok rt => ?_)
  refine v_iload_1 ok dX8_sheet_0 (n := 1) rfl ?_
  refine v_iload_2 ok dX8_sheet_1 (n := 2) rfl ?_
  refine v_callSI ok (mi := mi_X8_isSheet) mc_X8_isSheet cs_X8_230 (by decide) ⟨Nat.zero_le _, Nat.zero_le _⟩ dX8_sheet_2 (n := 5) rfl rfl rfl (Nat.le_of_ble_eq_true rfl) (u_isSheet hj ha) (fun x5 M5 h5 => ?_)
  obtain ⟨e5_, h5⟩ := h5
  subst M5
  refine v_if_eq ok dX8_sheet_5 (tgt := 14) (by decide) (n := 8) rfl (by omega) (fun c5_1 => ?_) (fun c5_1 => ?_)
  · have c5_1 := c5_1
    refine v_iconst ok dX8_sheet_14 (n := 15) rfl ?_
    refine v_iret rt dX8_sheet_15 ?_
    exact (Or.inl ⟨by omega, by first | rfl | omega | (simp (disch := omega) only [zset_ne, zset_eq]), by first | rfl | omega | (simp (disch := omega) only [zset_ne, zset_eq])⟩)
  · have c5_1 := c5_1
    refine v_iload_3 ok dX8_sheet_8 (n := 9) rfl ?_
    refine v_bipush ok (by decide) dX8_sheet_9 (n := 11) rfl ?_
    refine v_icmp_le ok dX8_sheet_11 (tgt := 16) (by decide) (n := 14) rfl (by omega) (by omega) (fun c11_2 => ?_) (fun c11_2 => ?_)
    · have c11_2 := c11_2
      refine v_iload_3 ok dX8_sheet_16 (n := 17) rfl ?_
      refine v_if_ge ok dX8_sheet_17 (tgt := 23) (by decide) (n := 20) rfl (by omega) (fun c17_3 => ?_) (fun c17_3 => ?_)
      · have c17_3 := c17_3
        have lp : ∀ (zn : Nat) (k : Int), zn = (100 - k).toNat → (0 ≤ k ∧ k ≤ 100) → zVV G γ (zw ad) (0, 0) 40 [some (zr 200), some (zi j), some (zi a), some (zi n), some (zi k)] [] (zfip (zset (zset M 223 j a) 224 j n) 225 (100 * j) k 0) := by
          refine zrec _ (fun zn ih => ?_)
          intro k hzn hk
          refine v_iload_4 ok dX8_sheet_40 (n := 42) rfl ?_
          refine v_bipush ok (by decide) dX8_sheet_42 (n := 44) rfl ?_
          refine v_icmp_ge ok dX8_sheet_44 (tgt := 66) (by decide) (n := 47) rfl (by omega) (by omega) (fun c44_1 => ?_) (fun c44_1 => ?_)
          · have c44_1 := c44_1
            refine v_iload_3 ok dX8_sheet_66 (n := 67) rfl ?_
            refine v_iret rt dX8_sheet_67 ?_
            rw [show k = 100 by omega]
            exact (Or.inr (Or.inr ⟨by omega, by first | rfl | omega | (simp (disch := omega) only [zset_ne, zset_eq]), by first | rfl | omega | (simp (disch := omega) only [zset_ne, zset_eq])⟩))
          · have c44_1 := c44_1
            refine v_aload_0 ok dX8_sheet_47 (n := 48) rfl ?_
            refine v_getR ok fd_X8_57 ly_200 rfl rfl rfl rf_200_24 dX8_sheet_48 (n := 51) rfl ?_
            refine v_bipush ok (by decide) dX8_sheet_51 (n := 53) rfl ?_
            refine v_iload_1 ok dX8_sheet_53 (n := 54) rfl ?_
            refine v_imul ok dX8_sheet_54 (n := 55) rfl ?_
            refine v_iload_4 ok dX8_sheet_55 (n := 57) rfl ?_
            refine v_iadd ok dX8_sheet_57 (n := 58) rfl ?_
            refine v_iconst ok dX8_sheet_58 (n := 59) rfl ?_
            refine v_iast ok ly_225 rfl (by omega) (by decide) dX8_sheet_59 (n := 60) rfl ?_
            rw [zfip_s (by omega)]
            refine v_iinc_4 ok (by decide) rfl dX8_sheet_60 (n := 63) rfl ?_
            refine v_goto ok dX8_sheet_63 (n := 40) (by decide) ?_
            exact ih _ (by omega) _ rfl (by omega)
        refine v_aload_0 ok dX8_sheet_23 (n := 24) rfl ?_
        refine v_getR ok fd_X8_51 ly_200 rfl rfl rfl rf_200_22 dX8_sheet_24 (n := 27) rfl ?_
        refine v_iload_1 ok dX8_sheet_27 (n := 28) rfl ?_
        refine v_iload_2 ok dX8_sheet_28 (n := 29) rfl ?_
        refine v_iast ok ly_223 rfl (by omega) (by decide) dX8_sheet_29 (n := 30) rfl ?_
        refine v_aload_0 ok dX8_sheet_30 (n := 31) rfl ?_
        refine v_getR ok fd_X8_54 ly_200 rfl rfl rfl rf_200_23 dX8_sheet_31 (n := 34) rfl ?_
        refine v_iload_1 ok dX8_sheet_34 (n := 35) rfl ?_
        refine v_iload_3 ok dX8_sheet_35 (n := 36) rfl ?_
        refine v_iast ok ly_224 rfl (by omega) (by decide) dX8_sheet_36 (n := 37) rfl ?_
        refine v_iconst ok dX8_sheet_37 (n := 38) rfl ?_
        refine v_istore_4 ok (by decide) rfl dX8_sheet_38 (n := 40) rfl ?_
        have e := lp _ 0 rfl (by omega)
        rw [zfip_0] at e
        exact e
      · have c17_3 := c17_3
        refine v_bipush ok (by decide) dX8_sheet_20 (n := 22) rfl ?_
        refine v_iret rt dX8_sheet_22 ?_
        exact (Or.inr (Or.inl ⟨by omega, by first | rfl | omega | (simp (disch := omega) only [zset_ne, zset_eq]), by first | rfl | omega | (simp (disch := omega) only [zset_ne, zset_eq])⟩))
    · have c11_2 := c11_2
      refine v_iconst ok dX8_sheet_14 (n := 15) rfl ?_
      refine v_iret rt dX8_sheet_15 ?_
      exact (Or.inl ⟨by omega, by first | rfl | omega | (simp (disch := omega) only [zset_ne, zset_eq]), by first | rfl | omega | (simp (disch := omega) only [zset_ne, zset_eq])⟩)

set_option maxHeartbeats 4000000 in
set_option maxRecDepth 100000 in
theorem u_drop {G : zG} {ad : Int → Nat} {M : zM} {j : Int} (hj : -2147483648 ≤ j ∧ j ≤ 2147483647) (hla : ∀ j, 0 ≤ j ∧ j < 4 → -1 ≤ M 223 j ∧ M 223 j ≤ 2)  : zTI G (zw ad) mi_X8_drop [zr 200, zi j] M (fun x M' => ((¬ (0 ≤ j ∧ j ≤ 3)) ∧ x = -1 ∧ M' = M) ∨ (((0 ≤ j ∧ j ≤ 3) ∧ M 223 j < 0) ∧ x = -11 ∧ M' = M) ∨ (((0 ≤ j ∧ j ≤ 3) ∧ 0 ≤ M 223 j) ∧ x = M 224 j ∧ M' = zset M 223 j (-1))) := by
  refine zTI.of (own := RX8) (ls := [some (zr 200), some (zi j)]) (by decide +kernel) rfl rfl (Nat.le_of_ble_eq_true rfl) (fun γ ok rt => ?_)
  refine v_iload_1 ok dX8_drop_0 (n := 1) rfl ?_
  refine v_i2l ok (by omega) dX8_drop_1 (n := 2) rfl ?_
  refine v_lconst0 ok dX8_drop_2 (n := 3) rfl ?_
  refine v_ldc2 ok (c := 3) kc_X8_108 (by decide) dX8_drop_3 (n := 6) rfl ?_
  refine v_callSI ok (mi := mi_X8_in) mc_X8_in cs_X8_85 (by decide) ⟨Nat.zero_le _, Nat.zero_le _⟩ dX8_drop_6 (n := 9) rfl rfl rfl (Nat.le_of_ble_eq_true rfl) (u_in (by omega) (by omega) (by omega)) (fun x5 M5 h5 => ?_)
  obtain ⟨e5_, h5⟩ := h5
  subst M5
  refine v_if_ne ok dX8_drop_9 (tgt := 14) (by decide) (n := 12) rfl (by omega) (fun c9_1 => ?_) (fun c9_1 => ?_)
  · have c9_1 := c9_1
    have q1 := hla j (by omega)
    refine v_aload_0 ok dX8_drop_14 (n := 15) rfl ?_
    refine v_getR ok fd_X8_51 ly_200 rfl rfl rfl rf_200_22 dX8_drop_15 (n := 18) rfl ?_
    refine v_iload_1 ok dX8_drop_18 (n := 19) rfl ?_
    refine v_iald ok ly_223 rfl (by omega) (by decide) dX8_drop_19 (n := 20) rfl ?_
    refine v_if_ge ok dX8_drop_20 (tgt := 26) (by decide) (n := 23) rfl (by omega) (fun c20_2 => ?_) (fun c20_2 => ?_)
    · have c20_2 := c20_2
      refine v_aload_0 ok dX8_drop_26 (n := 27) rfl ?_
      refine v_getR ok fd_X8_51 ly_200 rfl rfl rfl rf_200_22 dX8_drop_27 (n := 30) rfl ?_
      refine v_iload_1 ok dX8_drop_30 (n := 31) rfl ?_
      refine v_iconst ok dX8_drop_31 (n := 32) rfl ?_
      refine v_iast ok ly_223 rfl (by omega) (by decide) dX8_drop_32 (n := 33) rfl ?_
      refine v_aload_0 ok dX8_drop_33 (n := 34) rfl ?_
      refine v_getR ok fd_X8_54 ly_200 rfl rfl rfl rf_200_23 dX8_drop_34 (n := 37) rfl ?_
      refine v_iload_1 ok dX8_drop_37 (n := 38) rfl ?_
      refine v_iald ok ly_224 rfl (by omega) (by decide) dX8_drop_38 (n := 39) rfl ?_
      refine v_iret rt dX8_drop_39 ?_
      exact (Or.inr (Or.inr ⟨by omega, by first | rfl | omega | (simp (disch := omega) only [zset_ne, zset_eq]), by first | rfl | omega | (simp (disch := omega) only [zset_ne, zset_eq])⟩))
    · have c20_2 := c20_2
      refine v_bipush ok (by decide) dX8_drop_23 (n := 25) rfl ?_
      refine v_iret rt dX8_drop_25 ?_
      exact (Or.inr (Or.inl ⟨by omega, by first | rfl | omega | (simp (disch := omega) only [zset_ne, zset_eq]), by first | rfl | omega | (simp (disch := omega) only [zset_ne, zset_eq])⟩))
  · have c9_1 := c9_1
    refine v_iconst ok dX8_drop_12 (n := 13) rfl ?_
    refine v_iret rt dX8_drop_13 ?_
    exact (Or.inl ⟨by omega, by first | rfl | omega | (simp (disch := omega) only [zset_ne, zset_eq]), by first | rfl | omega | (simp (disch := omega) only [zset_ne, zset_eq])⟩)

def zcuM (a v : Int) : Int := if a = 0 then zshr (zshl v 24) 24 else if a = 1 then zshr (zshl v 16) 16 else v
theorem zcuM_0 {a v : Int} (h : a = 0) : zcuM a v = zshr (zshl v 24) 24 := if_pos h
theorem zcuM_1 {a v : Int} (h : a = 1) : zcuM a v = zshr (zshl v 16) 16 := by
  unfold zcuM
  rw [if_neg (by omega), if_pos h]
theorem zcuM_2 {a v : Int} (h : a ≠ 0 ∧ a ≠ 1) : zcuM a v = v := by
  unfold zcuM
  rw [if_neg h.1, if_neg h.2]
set_option maxHeartbeats 4000000 in
set_option maxRecDepth 100000 in
theorem u_item {G : zG} {ad : Int → Nat} {M : zM} {j a i v : Int} (hj : -2147483648 ≤ j ∧ j ≤ 2147483647) (ha : -2147483648 ≤ a ∧ a ≤ 2147483647) (hi : -2147483648 ≤ i ∧ i ≤ 2147483647) (hv : -2147483648 ≤ v ∧ v ≤ 2147483647) (hla : ∀ j, 0 ≤ j ∧ j < 4 → -1 ≤ M 223 j ∧ M 223 j ≤ 2) (hln : ∀ j, 0 ≤ j ∧ j < 4 → 0 ≤ M 224 j ∧ M 224 j ≤ 100)  : zTI G (zw ad) mi_X8_item [zr 200, zi j, zi a, zi i, zi v] M (fun x M' => ((¬ ((0 ≤ j ∧ j ≤ 3) ∧ (0 ≤ a ∧ a ≤ 2))) ∧ x = -1 ∧ M' = M) ∨ ((((0 ≤ j ∧ j ≤ 3) ∧ (0 ≤ a ∧ a ≤ 2)) ∧ zlak (M 223 j) (M 224 j) a i 1 ≠ 0) ∧ x = zlak (M 223 j) (M 224 j) a i 1 ∧ M' = M) ∨ ((((0 ≤ j ∧ j ≤ 3) ∧ (0 ≤ a ∧ a ≤ 2)) ∧ zlak (M 223 j) (M 224 j) a i 1 = 0) ∧ x = 1 ∧ M' = zset M 225 (100 * j + i) (zcuM a v))) := by
  refine zTI.of (own := RX8) (ls := [some (zr 200), some (zi j), some (zi a), some (zi i), some (zi v), none]) (by decide +kernel) rfl rfl (Nat.le_of_ble_eq_true rfl) (fun γ ok rt => ?_)
  refine v_iload_1 ok dX8_item_0 (n := 1) rfl ?_
  refine v_iload_2 ok dX8_item_1 (n := 2) rfl ?_
  refine v_callSI ok (mi := mi_X8_isSheet) mc_X8_isSheet cs_X8_230 (by decide) ⟨Nat.zero_le _, Nat.zero_le _⟩ dX8_item_2 (n := 5) rfl rfl rfl (Nat.le_of_ble_eq_true rfl) (u_isSheet hj ha) (fun x5 M5 h5 => ?_)
  obtain ⟨e5_, h5⟩ := h5
  subst M5
  refine v_if_ne ok dX8_item_5 (tgt := 10) (by decide) (n := 8) rfl (by omega) (fun c5_1 => ?_) (fun c5_1 => ?_)
  · have c5_1 := c5_1
    refine v_aload_0 ok dX8_item_10 (n := 11) rfl ?_
    refine v_iload_1 ok dX8_item_11 (n := 12) rfl ?_
    refine v_iload_2 ok dX8_item_12 (n := 13) rfl ?_
    refine v_iload_3 ok dX8_item_13 (n := 14) rfl ?_
    refine v_iconst ok dX8_item_14 (n := 15) rfl ?_
    refine v_callVI ok (mi := mi_X8_lacksRow) mc_X8_lacksRow cv_X8_233 ly_200 rfl rfl rfl (by decide) ⟨Nat.zero_le _, Nat.zero_le _⟩ dX8_item_15 (n := 18) rfl rfl rfl (Nat.le_of_ble_eq_true rfl) (u_lacksRow (by omega) (by omega) ha hi hla hln) (fun x7 M7 h7 => ?_)
    obtain ⟨e7_, e7⟩ := h7
    subst M7
    subst e7
    have hzb := zlak_b (M 223 j) (M 224 j) a i 1
    refine v_istore_5 ok (by decide) rfl dX8_item_18 (n := 20) rfl ?_
    refine v_iload_5 ok dX8_item_20 (n := 22) rfl ?_
    refine v_if_ge ok dX8_item_22 (tgt := 28) (by decide) (n := 25) rfl (by omega) (fun c22_2 => ?_) (fun c22_2 => ?_)
    · have c22_2 := c22_2
      have hz0 : 0 ≤ i ∧ i ≤ M 224 j - 1 := by
        have e : zlak (M 223 j) (M 224 j) a i 1 = 0 := by omega
        unfold zlak at e
        split at e
        · split at e <;> omega
        · split at e <;> omega
      have q2 := hln j (by omega)
      refine v_aload_0 ok dX8_item_28 (n := 29) rfl ?_
      refine v_getR ok fd_X8_57 ly_200 rfl rfl rfl rf_200_24 dX8_item_29 (n := 32) rfl ?_
      refine v_bipush ok (by decide) dX8_item_32 (n := 34) rfl ?_
      refine v_iload_1 ok dX8_item_34 (n := 35) rfl ?_
      refine v_imul ok dX8_item_35 (n := 36) rfl ?_
      refine v_iload_3 ok dX8_item_36 (n := 37) rfl ?_
      refine v_iadd ok dX8_item_37 (n := 38) rfl ?_
      refine v_iload_2 ok dX8_item_38 (n := 39) rfl ?_
      refine v_if_ne ok dX8_item_39 (tgt := 53) (by decide) (n := 42) rfl (by omega) (fun c39_3 => ?_) (fun c39_3 => ?_)
      · have c39_3 := c39_3
        refine v_iload_2 ok dX8_item_53 (n := 54) rfl ?_
        refine v_iconst ok dX8_item_54 (n := 55) rfl ?_
        refine v_icmp_ne ok dX8_item_55 (tgt := 69) (by decide) (n := 58) rfl (by omega) (by omega) (fun c55_4 => ?_) (fun c55_4 => ?_)
        · have c55_4 := c55_4
          refine v_iload_4 ok dX8_item_69 (n := 71) rfl ?_
          refine v_iast ok ly_225 rfl (by omega) (by decide) dX8_item_71 (n := 72) rfl ?_
          refine v_iconst ok dX8_item_72 (n := 73) rfl ?_
          refine v_iret rt dX8_item_73 ?_
          refine Or.inr (Or.inr ⟨by omega, rfl, ?_⟩)
          first
          | rw [zcuM_0 (by omega)]
          | rw [zcuM_1 (by omega)]
          | rw [zcuM_2 (by omega)]
        · have c55_4 := c55_4
          refine v_iload_4 ok dX8_item_58 (n := 60) rfl ?_
          refine v_bipush ok (by decide) dX8_item_60 (n := 62) rfl ?_
          refine v_ishl ok dX8_item_62 (n := 63) rfl ?_
          refine v_bipush ok (by decide) dX8_item_63 (n := 65) rfl ?_
          refine v_ishr ok dX8_item_65 (n := 66) rfl ?_
          refine v_goto ok dX8_item_66 (n := 71) (by decide) ?_
          refine v_iast ok ly_225 rfl (by omega) (by decide) dX8_item_71 (n := 72) rfl ?_
          refine v_iconst ok dX8_item_72 (n := 73) rfl ?_
          refine v_iret rt dX8_item_73 ?_
          refine Or.inr (Or.inr ⟨by omega, rfl, ?_⟩)
          first
          | rw [zcuM_0 (by omega)]
          | rw [zcuM_1 (by omega)]
          | rw [zcuM_2 (by omega)]
      · have c39_3 := c39_3
        refine v_iload_4 ok dX8_item_42 (n := 44) rfl ?_
        refine v_bipush ok (by decide) dX8_item_44 (n := 46) rfl ?_
        refine v_ishl ok dX8_item_46 (n := 47) rfl ?_
        refine v_bipush ok (by decide) dX8_item_47 (n := 49) rfl ?_
        refine v_ishr ok dX8_item_49 (n := 50) rfl ?_
        refine v_goto ok dX8_item_50 (n := 71) (by decide) ?_
        refine v_iast ok ly_225 rfl (by omega) (by decide) dX8_item_71 (n := 72) rfl ?_
        refine v_iconst ok dX8_item_72 (n := 73) rfl ?_
        refine v_iret rt dX8_item_73 ?_
        refine Or.inr (Or.inr ⟨by omega, rfl, ?_⟩)
        first
        | rw [zcuM_0 (by omega)]
        | rw [zcuM_1 (by omega)]
        | rw [zcuM_2 (by omega)]
    · have c22_2 := c22_2
      refine v_iload_5 ok dX8_item_25 (n := 27) rfl ?_
      refine v_iret rt dX8_item_27 ?_
      exact (Or.inr (Or.inl ⟨by omega, by first | rfl | omega | (simp (disch := omega) only [zset_ne, zset_eq]), by first | rfl | omega | (simp (disch := omega) only [zset_ne, zset_eq])⟩))
  · have c5_1 := c5_1
    refine v_iconst ok dX8_item_8 (n := 9) rfl ?_
    refine v_iret rt dX8_item_9 ?_
    exact (Or.inl ⟨by omega, by first | rfl | omega | (simp (disch := omega) only [zset_ne, zset_eq]), by first | rfl | omega | (simp (disch := omega) only [zset_ne, zset_eq])⟩)

