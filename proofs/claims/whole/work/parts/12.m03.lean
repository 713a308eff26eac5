/-! the class: its plain calls -/
set_option maxHeartbeats 4000000 in
set_option maxRecDepth 100000 in
theorem t_bride {G : zG} {ad : Int → Nat} {M : zM} {a b c d : Int} (ha : -2147483648 ≤ a ∧ a ≤ 2147483647) (hb : -2147483648 ≤ b ∧ b ≤ 2147483647) (hc : -2147483648 ≤ c ∧ c ≤ 2147483647) (hd : -2147483648 ≤ d ∧ d ≤ 2147483647) (hnb : 0 ≤ M 1 3 ∧ M 1 3 ≤ 7)  : zTI G (zw ad) mi_X7_bride [zr 0, zi a, zi b, zi c, zi d] M (fun x M' => ((¬ ((20 ≤ a ∧ a ≤ 60) ∧ (20 ≤ b ∧ b ≤ 60) ∧ (0 ≤ c ∧ c ≤ 4) ∧ (0 ≤ d ∧ d ≤ 11))) ∧ x = -1 ∧ M' = M) ∨ ((((20 ≤ a ∧ a ≤ 60) ∧ (20 ≤ b ∧ b ≤ 60) ∧ (0 ≤ c ∧ c ≤ 4) ∧ (0 ≤ d ∧ d ≤ 11)) ∧ M 1 3 = 7) ∧ x = -3 ∧ M' = M) ∨ ((((20 ≤ a ∧ a ≤ 60) ∧ (20 ≤ b ∧ b ≤ 60) ∧ (0 ≤ c ∧ c ≤ 4) ∧ (0 ≤ d ∧ d ≤ 11)) ∧ M 1 3 < 7) ∧ x = M 1 3 ∧ M' = (zset (zset (zset (zset (zset M (5 + M 1 3) 0 (a)) (5 + M 1 3) 1 (b)) (5 + M 1 3) 2 (c)) (5 + M 1 3) 3 (d)) (1) 3 (M 1 3 + 1)))) := by
  refine zTI.of (own := RX7) (ls := [some (zr 0), some (zi a), some (zi b), some (zi c), some (zi d), none]) (by decide +kernel) rfl rfl (Nat.le_of_ble_eq_true rfl) (fun γ ok rt => ?_)
  refine v_iconst ok dX7_bride_0 (n := 1) rfl ?_
  refine v_iload_1 ok dX7_bride_1 (n := 2) rfl ?_
  refine v_callSI ok (mi := mi_X7_isOfBride) mc_X7_isOfBride cs_X7_65 (by decide) ⟨Nat.zero_le _, Nat.zero_le _⟩ dX7_bride_2 (n := 5) rfl rfl rfl (Nat.le_of_ble_eq_true rfl) (t_isOfBride (by omega) ha) (fun x5 M5 h5 => ?_)
  obtain ⟨e5_, h5⟩ := h5
  subst M5
  refine v_if_eq ok dX7_bride_5 (tgt := 16) (by decide) (n := 8) rfl (by omega) (fun c5_1 => ?_) (fun c5_1 => ?_)
  · have c5_1 := c5_1
    refine v_iconst ok dX7_bride_16 (n := 17) rfl ?_
    refine v_iret rt dX7_bride_17 ?_
    exact (Or.inl ⟨by omega, by first | rfl | omega | (simp (disch := omega) only [zset_ne, zset_eq]), by first | rfl | omega | (simp (disch := omega) only [zset_ne, zset_eq])⟩)
  · have c5_1 := c5_1
    refine v_iconst ok dX7_bride_8 (n := 9) rfl ?_
    refine v_iload_2 ok dX7_bride_9 (n := 10) rfl ?_
    refine v_callSI ok (mi := mi_X7_isOfBride) mc_X7_isOfBride cs_X7_65 (by decide) ⟨Nat.zero_le _, Nat.zero_le _⟩ dX7_bride_10 (n := 13) rfl rfl rfl (Nat.le_of_ble_eq_true rfl) (t_isOfBride (by omega) hb) (fun x6 M6 h6 => ?_)
    obtain ⟨e6_, h6⟩ := h6
    subst M6
    refine v_if_ne ok dX7_bride_13 (tgt := 18) (by decide) (n := 16) rfl (by omega) (fun c13_2 => ?_) (fun c13_2 => ?_)
    · have c13_2 := c13_2
      refine v_iconst ok dX7_bride_18 (n := 19) rfl ?_
      refine v_iload_3 ok dX7_bride_19 (n := 20) rfl ?_
      refine v_callSI ok (mi := mi_X7_isOfBride) mc_X7_isOfBride cs_X7_65 (by decide) ⟨Nat.zero_le _, Nat.zero_le _⟩ dX7_bride_20 (n := 23) rfl rfl rfl (Nat.le_of_ble_eq_true rfl) (t_isOfBride (by omega) hc) (fun x7 M7 h7 => ?_)
      obtain ⟨e7_, h7⟩ := h7
      subst M7
      refine v_if_eq ok dX7_bride_23 (tgt := 35) (by decide) (n := 26) rfl (by omega) (fun c23_3 => ?_) (fun c23_3 => ?_)
      · have c23_3 := c23_3
        refine v_iconst ok dX7_bride_35 (n := 36) rfl ?_
        refine v_iret rt dX7_bride_36 ?_
        exact (Or.inl ⟨by omega, by first | rfl | omega | (simp (disch := omega) only [zset_ne, zset_eq]), by first | rfl | omega | (simp (disch := omega) only [zset_ne, zset_eq])⟩)
      · have c23_3 := c23_3
        refine v_iconst ok dX7_bride_26 (n := 27) rfl ?_
        refine v_iload_4 ok dX7_bride_27 (n := 29) rfl ?_
        refine v_callSI ok (mi := mi_X7_isOfBride) mc_X7_isOfBride cs_X7_65 (by decide) ⟨Nat.zero_le _, Nat.zero_le _⟩ dX7_bride_29 (n := 32) rfl rfl rfl (Nat.le_of_ble_eq_true rfl) (t_isOfBride (by omega) hd) (fun x8 M8 h8 => ?_)
        obtain ⟨e8_, h8⟩ := h8
        subst M8
        refine v_if_ne ok dX7_bride_32 (tgt := 37) (by decide) (n := 35) rfl (by omega) (fun c32_4 => ?_) (fun c32_4 => ?_)
        · have c32_4 := c32_4
          refine v_aload_0 ok dX7_bride_37 (n := 38) rfl ?_
          refine v_getR ok fd_X7_10 ly_0 rfl rfl rfl rf_0_0 dX7_bride_38 (n := 41) rfl ?_
          refine v_getI ok fd_X7_69 ly_1 rfl rfl (jI := 3) rfl dX7_bride_41 (n := 44) rfl ?_
          refine v_bipush ok (by decide) dX7_bride_44 (n := 46) rfl ?_
          refine v_icmp_lt ok dX7_bride_46 (tgt := 52) (by decide) (n := 49) rfl (by omega) (by omega) (fun c46_5 => ?_) (fun c46_5 => ?_)
          · have c46_5 := c46_5
            refine v_aload_0 ok dX7_bride_52 (n := 53) rfl ?_
            refine v_getR ok fd_X7_10 ly_0 rfl rfl rfl rf_0_0 dX7_bride_53 (n := 56) rfl ?_
            refine v_getR ok fd_X7_73 ly_1 rfl rfl rfl rf_1_0 dX7_bride_56 (n := 59) rfl ?_
            refine v_aload_0 ok dX7_bride_59 (n := 60) rfl ?_
            refine v_getR ok fd_X7_10 ly_0 rfl rfl rfl rf_0_0 dX7_bride_60 (n := 63) rfl ?_
            refine v_getI ok fd_X7_69 ly_1 rfl rfl (jI := 3) rfl dX7_bride_63 (n := 66) rfl ?_
            refine v_aald ok ly_2 (by decide) rfl (by omega) (by decide) rfl dX7_bride_66 (n := 67) rfl ?_
            refine v_astore_5 ok (by decide) rfl dX7_bride_67 (n := 69) rfl ?_
            refine v_aload_5 ok dX7_bride_69 (n := 71) rfl ?_
            refine v_iconst ok dX7_bride_71 (n := 72) rfl ?_
            refine v_iload_1 ok dX7_bride_72 (n := 73) rfl ?_
            refine v_iast ok (lf_bro (by omega)) rfl (by omega) (by decide) dX7_bride_73 (n := 74) rfl ?_
            refine v_aload_5 ok dX7_bride_74 (n := 76) rfl ?_
            refine v_iconst ok dX7_bride_76 (n := 77) rfl ?_
            refine v_iload_2 ok dX7_bride_77 (n := 78) rfl ?_
            refine v_iast ok (lf_bro (by omega)) rfl (by omega) (by decide) dX7_bride_78 (n := 79) rfl ?_
            refine v_aload_5 ok dX7_bride_79 (n := 81) rfl ?_
            refine v_iconst ok dX7_bride_81 (n := 82) rfl ?_
            refine v_iload_3 ok dX7_bride_82 (n := 83) rfl ?_
            refine v_iast ok (lf_bro (by omega)) rfl (by omega) (by decide) dX7_bride_83 (n := 84) rfl ?_
            refine v_aload_5 ok dX7_bride_84 (n := 86) rfl ?_
            refine v_iconst ok dX7_bride_86 (n := 87) rfl ?_
            refine v_iload_4 ok dX7_bride_87 (n := 89) rfl ?_
            refine v_iast ok (lf_bro (by omega)) rfl (by omega) (by decide) dX7_bride_89 (n := 90) rfl ?_
            refine v_aload_0 ok dX7_bride_90 (n := 91) rfl ?_
            refine v_getR ok fd_X7_10 ly_0 rfl rfl rfl rf_0_0 dX7_bride_91 (n := 94) rfl ?_
            refine v_dup ok rfl dX7_bride_94 (n := 95) rfl ?_
            refine v_getI ok fd_X7_69 ly_1 rfl rfl (jI := 3) rfl dX7_bride_95 (n := 98) rfl ?_
            refine v_dup_x1 ok rfl rfl dX7_bride_98 (n := 99) rfl ?_
            refine v_iconst ok dX7_bride_99 (n := 100) rfl ?_
            refine v_iadd ok dX7_bride_100 (n := 101) rfl ?_
            refine v_putI ok fw_X7_69 ly_1 rfl rfl (jI := 3) rfl dX7_bride_101 (n := 104) rfl ?_
            refine v_iret rt dX7_bride_104 ?_
            exact (Or.inr (Or.inr ⟨by omega, by first | rfl | omega | (simp (disch := omega) only [zset_ne, zset_eq]), by first | rfl | omega | (simp (disch := omega) only [zset_ne, zset_eq])⟩))
          · have c46_5 := c46_5
            refine v_bipush ok (by decide) dX7_bride_49 (n := 51) rfl ?_
            refine v_iret rt dX7_bride_51 ?_
            exact (Or.inr (Or.inl ⟨by omega, by first | rfl | omega | (simp (disch := omega) only [zset_ne, zset_eq]), by first | rfl | omega | (simp (disch := omega) only [zset_ne, zset_eq])⟩))
        · have c32_4 := c32_4
          refine v_iconst ok dX7_bride_35 (n := 36) rfl ?_
          refine v_iret rt dX7_bride_36 ?_
          exact (Or.inl ⟨by omega, by first | rfl | omega | (simp (disch := omega) only [zset_ne, zset_eq]), by first | rfl | omega | (simp (disch := omega) only [zset_ne, zset_eq])⟩)
    · have c13_2 := c13_2
      refine v_iconst ok dX7_bride_16 (n := 17) rfl ?_
      refine v_iret rt dX7_bride_17 ?_
      exact (Or.inl ⟨by omega, by first | rfl | omega | (simp (disch := omega) only [zset_ne, zset_eq]), by first | rfl | omega | (simp (disch := omega) only [zset_ne, zset_eq])⟩)

set_option maxHeartbeats 4000000 in
set_option maxRecDepth 100000 in
theorem t_make {G : zG} {ad : Int → Nat} {M : zM} {b q v : Int} (hb : -2147483648 ≤ b ∧ b ≤ 2147483647) (hq : -2147483648 ≤ q ∧ q ≤ 2147483647) (hv : -2147483648 ≤ v ∧ v ≤ 2147483647) (hnb : 0 ≤ M 1 3 ∧ M 1 3 ≤ 7)  : zTI G (zw ad) mi_X7_make [zr 0, zi b, zi q, zi v] M (fun x M' => ((¬ ((0 ≤ b ∧ b < M 1 3) ∧ (0 ≤ q ∧ q ≤ 3) ∧ ((q < 2 ∧ 20 ≤ v ∧ v ≤ 60) ∨ (q = 2 ∧ 0 ≤ v ∧ v ≤ 4) ∨ (q = 3 ∧ 0 ≤ v ∧ v ≤ 11)))) ∧ x = -1 ∧ M' = M) ∨ (((0 ≤ b ∧ b < M 1 3) ∧ (0 ≤ q ∧ q ≤ 3) ∧ ((q < 2 ∧ 20 ≤ v ∧ v ≤ 60) ∨ (q = 2 ∧ 0 ≤ v ∧ v ≤ 4) ∨ (q = 3 ∧ 0 ≤ v ∧ v ≤ 11))) ∧ x = M (5 + b) q ∧ M' = zset M (5 + b) q v)) := by
  refine zTI.of (own := RX7) (ls := [some (zr 0), some (zi b), some (zi q), some (zi v), none]) (by decide +kernel) rfl rfl (Nat.le_of_ble_eq_true rfl) (fun γ ok rt => ?_)
  refine v_aload_0 ok dX7_make_0 (n := 1) rfl ?_
  refine v_iload_1 ok dX7_make_1 (n := 2) rfl ?_
  refine v_callVI ok (mi := mi_X7_isBride) mc_X7_isBride cv_X7_77 ly_0 rfl rfl rfl (by decide) ⟨Nat.zero_le _, Nat.zero_le _⟩ dX7_make_2 (n := 5) rfl rfl rfl (Nat.le_of_ble_eq_true rfl) (t_isBride hb (by omega)) (fun x5 M5 h5 => ?_)
  obtain ⟨e5_, h5⟩ := h5
  subst M5
  refine v_if_eq ok dX7_make_5 (tgt := 25) (by decide) (n := 8) rfl (by omega) (fun c5_1 => ?_) (fun c5_1 => ?_)
  · have c5_1 := c5_1
    refine v_iconst ok dX7_make_25 (n := 26) rfl ?_
    refine v_iret rt dX7_make_26 ?_
    exact (Or.inl ⟨by omega, by first | rfl | omega | (simp (disch := omega) only [zset_ne, zset_eq]), by first | rfl | omega | (simp (disch := omega) only [zset_ne, zset_eq])⟩)
  · have c5_1 := c5_1
    refine v_iload_2 ok dX7_make_8 (n := 9) rfl ?_
    refine v_iconst ok dX7_make_9 (n := 10) rfl ?_
    refine v_iconst ok dX7_make_10 (n := 11) rfl ?_
    refine v_callSI ok (mi := mi_X7_isFrom) mc_X7_isFrom cs_X7_81 (by decide) ⟨Nat.zero_le _, Nat.zero_le _⟩ dX7_make_11 (n := 14) rfl rfl rfl (Nat.le_of_ble_eq_true rfl) (t_isFrom hq (by omega) (by omega)) (fun x6 M6 h6 => ?_)
    obtain ⟨e6_, h6⟩ := h6
    subst M6
    refine v_if_eq ok dX7_make_14 (tgt := 25) (by decide) (n := 17) rfl (by omega) (fun c14_2 => ?_) (fun c14_2 => ?_)
    · have c14_2 := c14_2
      refine v_iconst ok dX7_make_25 (n := 26) rfl ?_
      refine v_iret rt dX7_make_26 ?_
      exact (Or.inl ⟨by omega, by first | rfl | omega | (simp (disch := omega) only [zset_ne, zset_eq]), by first | rfl | omega | (simp (disch := omega) only [zset_ne, zset_eq])⟩)
    · have c14_2 := c14_2
      refine v_iload_2 ok dX7_make_17 (n := 18) rfl ?_
      refine v_iload_3 ok dX7_make_18 (n := 19) rfl ?_
      refine v_callSI ok (mi := mi_X7_isOfBride) mc_X7_isOfBride cs_X7_65 (by decide) ⟨Nat.zero_le _, Nat.zero_le _⟩ dX7_make_19 (n := 22) rfl rfl rfl (Nat.le_of_ble_eq_true rfl) (t_isOfBride (by omega) hv) (fun x7 M7 h7 => ?_)
      obtain ⟨e7_, h7⟩ := h7
      subst M7
      refine v_if_ne ok dX7_make_22 (tgt := 27) (by decide) (n := 25) rfl (by omega) (fun c22_3 => ?_) (fun c22_3 => ?_)
      · have c22_3 := c22_3
        refine v_aload_0 ok dX7_make_27 (n := 28) rfl ?_
        refine v_getR ok fd_X7_10 ly_0 rfl rfl rfl rf_0_0 dX7_make_28 (n := 31) rfl ?_
        refine v_getR ok fd_X7_73 ly_1 rfl rfl rfl rf_1_0 dX7_make_31 (n := 34) rfl ?_
        refine v_iload_1 ok dX7_make_34 (n := 35) rfl ?_
        refine v_aald ok ly_2 (by decide) rfl (by omega) (by decide) rfl dX7_make_35 (n := 36) rfl ?_
        refine v_iload_2 ok dX7_make_36 (n := 37) rfl ?_
        refine v_iald ok (lf_bro (by omega)) rfl (by omega) (by decide) dX7_make_37 (n := 38) rfl ?_
        refine v_istore_4 ok (by decide) rfl dX7_make_38 (n := 40) rfl ?_
        refine v_aload_0 ok dX7_make_40 (n := 41) rfl ?_
        refine v_getR ok fd_X7_10 ly_0 rfl rfl rfl rf_0_0 dX7_make_41 (n := 44) rfl ?_
        refine v_getR ok fd_X7_73 ly_1 rfl rfl rfl rf_1_0 dX7_make_44 (n := 47) rfl ?_
        refine v_iload_1 ok dX7_make_47 (n := 48) rfl ?_
        refine v_aald ok ly_2 (by decide) rfl (by omega) (by decide) rfl dX7_make_48 (n := 49) rfl ?_
        refine v_iload_2 ok dX7_make_49 (n := 50) rfl ?_
        refine v_iload_3 ok dX7_make_50 (n := 51) rfl ?_
        refine v_iast ok (lf_bro (by omega)) rfl (by omega) (by decide) dX7_make_51 (n := 52) rfl ?_
        refine v_iload_4 ok dX7_make_52 (n := 54) rfl ?_
        refine v_iret rt dX7_make_54 ?_
        exact (Or.inr ⟨by omega, by first | rfl | omega | (simp (disch := omega) only [zset_ne, zset_eq]), by first | rfl | omega | (simp (disch := omega) only [zset_ne, zset_eq])⟩)
      · have c22_3 := c22_3
        refine v_iconst ok dX7_make_25 (n := 26) rfl ?_
        refine v_iret rt dX7_make_26 ?_
        exact (Or.inl ⟨by omega, by first | rfl | omega | (simp (disch := omega) only [zset_ne, zset_eq]), by first | rfl | omega | (simp (disch := omega) only [zset_ne, zset_eq])⟩)

set_option maxHeartbeats 4000000 in
set_option maxRecDepth 100000 in
theorem t_shoe {G : zG} {ad : Int → Nat} {M : zM} {a b c : Int} (ha : -2147483648 ≤ a ∧ a ≤ 2147483647) (hb : -2147483648 ≤ b ∧ b ≤ 2147483647) (hc : -2147483648 ≤ c ∧ c ≤ 2147483647) (hns : 0 ≤ M 1 4 ∧ M 1 4 ≤ 16)  : zTI G (zw ad) mi_X7_shoe [zr 0, zi a, zi b, zi c] M (fun x M' => ((¬ ((0 ≤ a ∧ a ≤ 1) ∧ (20 ≤ b ∧ b ≤ 70) ∧ (0 ≤ c ∧ c ≤ 3))) ∧ x = -1 ∧ M' = M) ∨ ((((0 ≤ a ∧ a ≤ 1) ∧ (20 ≤ b ∧ b ≤ 70) ∧ (0 ≤ c ∧ c ≤ 3)) ∧ M 1 4 = 16) ∧ x = -3 ∧ M' = M) ∨ ((((0 ≤ a ∧ a ≤ 1) ∧ (20 ≤ b ∧ b ≤ 70) ∧ (0 ≤ c ∧ c ≤ 3)) ∧ M 1 4 < 16) ∧ x = M 1 4 ∧ M' = (zset (zset (zset (zset (zset M (12 + M 1 4) 0 (a)) (12 + M 1 4) 1 (b)) (12 + M 1 4) 2 (c)) (12 + M 1 4) 3 (0)) (1) 4 (M 1 4 + 1)))) := by
  refine zTI.of (own := RX7) (ls := [some (zr 0), some (zi a), some (zi b), some (zi c), none]) (by decide +kernel) rfl rfl (Nat.le_of_ble_eq_true rfl) (fun γ ok rt => ?_)
  refine v_iconst ok dX7_shoe_0 (n := 1) rfl ?_
  refine v_iload_1 ok dX7_shoe_1 (n := 2) rfl ?_
  refine v_callSI ok (mi := mi_X7_isOfShoe) mc_X7_isOfShoe cs_X7_85 (by decide) ⟨Nat.zero_le _, Nat.zero_le _⟩ dX7_shoe_2 (n := 5) rfl rfl rfl (Nat.le_of_ble_eq_true rfl) (t_isOfShoe (by omega) ha) (fun x5 M5 h5 => ?_)
  obtain ⟨e5_, h5⟩ := h5
  subst M5
  refine v_if_eq ok dX7_shoe_5 (tgt := 24) (by decide) (n := 8) rfl (by omega) (fun c5_1 => ?_) (fun c5_1 => ?_)
  · have c5_1 := c5_1
    refine v_iconst ok dX7_shoe_24 (n := 25) rfl ?_
    refine v_iret rt dX7_shoe_25 ?_
    exact (Or.inl ⟨by omega, by first | rfl | omega | (simp (disch := omega) only [zset_ne, zset_eq]), by first | rfl | omega | (simp (disch := omega) only [zset_ne, zset_eq])⟩)
  · have c5_1 := c5_1
    refine v_iconst ok dX7_shoe_8 (n := 9) rfl ?_
    refine v_iload_2 ok dX7_shoe_9 (n := 10) rfl ?_
    refine v_callSI ok (mi := mi_X7_isOfShoe) mc_X7_isOfShoe cs_X7_85 (by decide) ⟨Nat.zero_le _, Nat.zero_le _⟩ dX7_shoe_10 (n := 13) rfl rfl rfl (Nat.le_of_ble_eq_true rfl) (t_isOfShoe (by omega) hb) (fun x6 M6 h6 => ?_)
    obtain ⟨e6_, h6⟩ := h6
    subst M6
    refine v_if_eq ok dX7_shoe_13 (tgt := 24) (by decide) (n := 16) rfl (by omega) (fun c13_2 => ?_) (fun c13_2 => ?_)
    · have c13_2 := c13_2
      refine v_iconst ok dX7_shoe_24 (n := 25) rfl ?_
      refine v_iret rt dX7_shoe_25 ?_
      exact (Or.inl ⟨by omega, by first | rfl | omega | (simp (disch := omega) only [zset_ne, zset_eq]), by first | rfl | omega | (simp (disch := omega) only [zset_ne, zset_eq])⟩)
    · have c13_2 := c13_2
      refine v_iconst ok dX7_shoe_16 (n := 17) rfl ?_
      refine v_iload_3 ok dX7_shoe_17 (n := 18) rfl ?_
      refine v_callSI ok (mi := mi_X7_isOfShoe) mc_X7_isOfShoe cs_X7_85 (by decide) ⟨Nat.zero_le _, Nat.zero_le _⟩ dX7_shoe_18 (n := 21) rfl rfl rfl (Nat.le_of_ble_eq_true rfl) (t_isOfShoe (by omega) hc) (fun x7 M7 h7 => ?_)
      obtain ⟨e7_, h7⟩ := h7
      subst M7
      refine v_if_ne ok dX7_shoe_21 (tgt := 26) (by decide) (n := 24) rfl (by omega) (fun c21_3 => ?_) (fun c21_3 => ?_)
      · have c21_3 := c21_3
        refine v_aload_0 ok dX7_shoe_26 (n := 27) rfl ?_
        refine v_getR ok fd_X7_10 ly_0 rfl rfl rfl rf_0_0 dX7_shoe_27 (n := 30) rfl ?_
        refine v_getI ok fd_X7_88 ly_1 rfl rfl (jI := 4) rfl dX7_shoe_30 (n := 33) rfl ?_
        refine v_bipush ok (by decide) dX7_shoe_33 (n := 35) rfl ?_
        refine v_icmp_lt ok dX7_shoe_35 (tgt := 41) (by decide) (n := 38) rfl (by omega) (by omega) (fun c35_4 => ?_) (fun c35_4 => ?_)
        · have c35_4 := c35_4
          refine v_aload_0 ok dX7_shoe_41 (n := 42) rfl ?_
          refine v_getR ok fd_X7_10 ly_0 rfl rfl rfl rf_0_0 dX7_shoe_42 (n := 45) rfl ?_
          refine v_getR ok fd_X7_91 ly_1 rfl rfl rfl rf_1_1 dX7_shoe_45 (n := 48) rfl ?_
          refine v_aload_0 ok dX7_shoe_48 (n := 49) rfl ?_
          refine v_getR ok fd_X7_10 ly_0 rfl rfl rfl rf_0_0 dX7_shoe_49 (n := 52) rfl ?_
          refine v_getI ok fd_X7_88 ly_1 rfl rfl (jI := 4) rfl dX7_shoe_52 (n := 55) rfl ?_
          refine v_aald ok ly_3 (by decide) rfl (by omega) (by decide) rfl dX7_shoe_55 (n := 56) rfl ?_
          refine v_astore_4 ok (by decide) rfl dX7_shoe_56 (n := 58) rfl ?_
          refine v_aload_4 ok dX7_shoe_58 (n := 60) rfl ?_
          refine v_iconst ok dX7_shoe_60 (n := 61) rfl ?_
          refine v_iload_1 ok dX7_shoe_61 (n := 62) rfl ?_
          refine v_iast ok (lf_sro (by omega)) rfl (by omega) (by decide) dX7_shoe_62 (n := 63) rfl ?_
          refine v_aload_4 ok dX7_shoe_63 (n := 65) rfl ?_
          refine v_iconst ok dX7_shoe_65 (n := 66) rfl ?_
          refine v_iload_2 ok dX7_shoe_66 (n := 67) rfl ?_
          refine v_iast ok (lf_sro (by omega)) rfl (by omega) (by decide) dX7_shoe_67 (n := 68) rfl ?_
          refine v_aload_4 ok dX7_shoe_68 (n := 70) rfl ?_
          refine v_iconst ok dX7_shoe_70 (n := 71) rfl ?_
          refine v_iload_3 ok dX7_shoe_71 (n := 72) rfl ?_
          refine v_iast ok (lf_sro (by omega)) rfl (by omega) (by decide) dX7_shoe_72 (n := 73) rfl ?_
          refine v_aload_4 ok dX7_shoe_73 (n := 75) rfl ?_
          refine v_iconst ok dX7_shoe_75 (n := 76) rfl ?_
          refine v_iconst ok dX7_shoe_76 (n := 77) rfl ?_
          refine v_iast ok (lf_sro (by omega)) rfl (by omega) (by decide) dX7_shoe_77 (n := 78) rfl ?_
          refine v_aload_0 ok dX7_shoe_78 (n := 79) rfl ?_
          refine v_getR ok fd_X7_10 ly_0 rfl rfl rfl rf_0_0 dX7_shoe_79 (n := 82) rfl ?_
          refine v_dup ok rfl dX7_shoe_82 (n := 83) rfl ?_
          refine v_getI ok fd_X7_88 ly_1 rfl rfl (jI := 4) rfl dX7_shoe_83 (n := 86) rfl ?_
          refine v_dup_x1 ok rfl rfl dX7_shoe_86 (n := 87) rfl ?_
          refine v_iconst ok dX7_shoe_87 (n := 88) rfl ?_
          refine v_iadd ok dX7_shoe_88 (n := 89) rfl ?_
          refine v_putI ok fw_X7_88 ly_1 rfl rfl (jI := 4) rfl dX7_shoe_89 (n := 92) rfl ?_
          refine v_iret rt dX7_shoe_92 ?_
          exact (Or.inr (Or.inr ⟨by omega, by first | rfl | omega | (simp (disch := omega) only [zset_ne, zset_eq]), by first | rfl | omega | (simp (disch := omega) only [zset_ne, zset_eq])⟩))
        · have c35_4 := c35_4
          refine v_bipush ok (by decide) dX7_shoe_38 (n := 40) rfl ?_
          refine v_iret rt dX7_shoe_40 ?_
          exact (Or.inr (Or.inl ⟨by omega, by first | rfl | omega | (simp (disch := omega) only [zset_ne, zset_eq]), by first | rfl | omega | (simp (disch := omega) only [zset_ne, zset_eq])⟩))
      · have c21_3 := c21_3
        refine v_iconst ok dX7_shoe_24 (n := 25) rfl ?_
        refine v_iret rt dX7_shoe_25 ?_
        exact (Or.inl ⟨by omega, by first | rfl | omega | (simp (disch := omega) only [zset_ne, zset_eq]), by first | rfl | omega | (simp (disch := omega) only [zset_ne, zset_eq])⟩)

set_option maxHeartbeats 4000000 in
set_option maxRecDepth 100000 in
theorem t_told {G : zG} {ad : Int → Nat} {M : zM} {s q : Int} (hs : -2147483648 ≤ s ∧ s ≤ 2147483647) (hq : -2147483648 ≤ q ∧ q ≤ 2147483647) (hns : 0 ≤ M 1 4 ∧ M 1 4 ≤ 16)  : zTI G (zw ad) mi_X7_told [zr 0, zi s, zi q] M (fun x M' => ((¬ ((0 ≤ s ∧ s < M 1 4) ∧ (0 ≤ q ∧ q ≤ 3))) ∧ x = -1 ∧ M' = M) ∨ (((0 ≤ s ∧ s < M 1 4) ∧ (0 ≤ q ∧ q ≤ 3)) ∧ x = M (12 + s) q ∧ M' = M)) := by
  refine zTI.of (own := RX7) (ls := [some (zr 0), some (zi s), some (zi q)]) (by decide +kernel) rfl rfl (Nat.le_of_ble_eq_true rfl) (fun γ ok rt => ?_)
  refine v_aload_0 ok dX7_told_0 (n := 1) rfl ?_
  refine v_iload_1 ok dX7_told_1 (n := 2) rfl ?_
  refine v_callVI ok (mi := mi_X7_isShoe) mc_X7_isShoe cv_X7_94 ly_0 rfl rfl rfl (by decide) ⟨Nat.zero_le _, Nat.zero_le _⟩ dX7_told_2 (n := 5) rfl rfl rfl (Nat.le_of_ble_eq_true rfl) (t_isShoe hs (by omega)) (fun x5 M5 h5 => ?_)
  obtain ⟨e5_, h5⟩ := h5
  subst M5
  refine v_if_eq ok dX7_told_5 (tgt := 17) (by decide) (n := 8) rfl (by omega) (fun c5_1 => ?_) (fun c5_1 => ?_)
  · have c5_1 := c5_1
    refine v_iconst ok dX7_told_17 (n := 18) rfl ?_
    refine v_iret rt dX7_told_18 ?_
    exact (Or.inl ⟨by omega, by first | rfl | omega | (simp (disch := omega) only [zset_ne, zset_eq]), by first | rfl | omega | (simp (disch := omega) only [zset_ne, zset_eq])⟩)
  · have c5_1 := c5_1
    refine v_iload_2 ok dX7_told_8 (n := 9) rfl ?_
    refine v_iconst ok dX7_told_9 (n := 10) rfl ?_
    refine v_iconst ok dX7_told_10 (n := 11) rfl ?_
    refine v_callSI ok (mi := mi_X7_isFrom) mc_X7_isFrom cs_X7_81 (by decide) ⟨Nat.zero_le _, Nat.zero_le _⟩ dX7_told_11 (n := 14) rfl rfl rfl (Nat.le_of_ble_eq_true rfl) (t_isFrom hq (by omega) (by omega)) (fun x6 M6 h6 => ?_)
    obtain ⟨e6_, h6⟩ := h6
    subst M6
    refine v_if_ne ok dX7_told_14 (tgt := 19) (by decide) (n := 17) rfl (by omega) (fun c14_2 => ?_) (fun c14_2 => ?_)
    · have c14_2 := c14_2
      refine v_aload_0 ok dX7_told_19 (n := 20) rfl ?_
      refine v_getR ok fd_X7_10 ly_0 rfl rfl rfl rf_0_0 dX7_told_20 (n := 23) rfl ?_
      refine v_getR ok fd_X7_91 ly_1 rfl rfl rfl rf_1_1 dX7_told_23 (n := 26) rfl ?_
      refine v_iload_1 ok dX7_told_26 (n := 27) rfl ?_
      refine v_aald ok ly_3 (by decide) rfl (by omega) (by decide) rfl dX7_told_27 (n := 28) rfl ?_
      refine v_iload_2 ok dX7_told_28 (n := 29) rfl ?_
      refine v_iald ok (lf_sro (by omega)) rfl (by omega) (by decide) dX7_told_29 (n := 30) rfl ?_
      refine v_iret rt dX7_told_30 ?_
      exact (Or.inr ⟨by omega, by first | rfl | omega | (simp (disch := omega) only [zset_ne, zset_eq]), by first | rfl | omega | (simp (disch := omega) only [zset_ne, zset_eq])⟩)
    · have c14_2 := c14_2
      refine v_iconst ok dX7_told_17 (n := 18) rfl ?_
      refine v_iret rt dX7_told_18 ?_
      exact (Or.inl ⟨by omega, by first | rfl | omega | (simp (disch := omega) only [zset_ne, zset_eq]), by first | rfl | omega | (simp (disch := omega) only [zset_ne, zset_eq])⟩)

set_option maxHeartbeats 4000000 in
set_option maxRecDepth 100000 in
theorem t_lose {G : zG} {ad : Int → Nat} {M : zM} {s v : Int} (hs : -2147483648 ≤ s ∧ s ≤ 2147483647) (hv : -2147483648 ≤ v ∧ v ≤ 2147483647) (hns : 0 ≤ M 1 4 ∧ M 1 4 ≤ 16)  : zTI G (zw ad) mi_X7_lose [zr 0, zi s, zi v] M (fun x M' => ((¬ (0 ≤ s ∧ s < M 1 4)) ∧ x = -1 ∧ M' = M) ∨ ((0 ≤ s ∧ s < M 1 4 ∧ v ≠ 0) ∧ x = M (12 + s) 3 ∧ M' = zset M (12 + s) 3 1) ∨ ((0 ≤ s ∧ s < M 1 4 ∧ v = 0) ∧ x = M (12 + s) 3 ∧ M' = zset M (12 + s) 3 0)) := by
  refine zTI.of (own := RX7) (ls := [some (zr 0), some (zi s), some (zi v), none]) (by decide +kernel) rfl rfl (Nat.le_of_ble_eq_true rfl) (fun γ ok rt => ?_)
  refine v_aload_0 ok dX7_lose_0 (n := 1) rfl ?_
  refine v_iload_1 ok dX7_lose_1 (n := 2) rfl ?_
  refine v_callVI ok (mi := mi_X7_isShoe) mc_X7_isShoe cv_X7_94 ly_0 rfl rfl rfl (by decide) ⟨Nat.zero_le _, Nat.zero_le _⟩ dX7_lose_2 (n := 5) rfl rfl rfl (Nat.le_of_ble_eq_true rfl) (t_isShoe hs (by omega)) (fun x5 M5 h5 => ?_)
  obtain ⟨e5_, h5⟩ := h5
  subst M5
  refine v_if_ne ok dX7_lose_5 (tgt := 10) (by decide) (n := 8) rfl (by omega) (fun c5_1 => ?_) (fun c5_1 => ?_)
  · have c5_1 := c5_1
    refine v_aload_0 ok dX7_lose_10 (n := 11) rfl ?_
    refine v_getR ok fd_X7_10 ly_0 rfl rfl rfl rf_0_0 dX7_lose_11 (n := 14) rfl ?_
    refine v_getR ok fd_X7_91 ly_1 rfl rfl rfl rf_1_1 dX7_lose_14 (n := 17) rfl ?_
    refine v_iload_1 ok dX7_lose_17 (n := 18) rfl ?_
    refine v_aald ok ly_3 (by decide) rfl (by omega) (by decide) rfl dX7_lose_18 (n := 19) rfl ?_
    refine v_iconst ok dX7_lose_19 (n := 20) rfl ?_
    refine v_iald ok (lf_sro (by omega)) rfl (by omega) (by decide) dX7_lose_20 (n := 21) rfl ?_
    refine v_istore_3 ok (by decide) rfl dX7_lose_21 (n := 22) rfl ?_
    refine v_aload_0 ok dX7_lose_22 (n := 23) rfl ?_
    refine v_getR ok fd_X7_10 ly_0 rfl rfl rfl rf_0_0 dX7_lose_23 (n := 26) rfl ?_
    refine v_getR ok fd_X7_91 ly_1 rfl rfl rfl rf_1_1 dX7_lose_26 (n := 29) rfl ?_
    refine v_iload_1 ok dX7_lose_29 (n := 30) rfl ?_
    refine v_aald ok ly_3 (by decide) rfl (by omega) (by decide) rfl dX7_lose_30 (n := 31) rfl ?_
    refine v_iconst ok dX7_lose_31 (n := 32) rfl ?_
    refine v_iload_2 ok dX7_lose_32 (n := 33) rfl ?_
    refine v_if_eq ok dX7_lose_33 (tgt := 40) (by decide) (n := 36) rfl (by omega) (fun c33_2 => ?_) (fun c33_2 => ?_)
    · have c33_2 := c33_2
      refine v_iconst ok dX7_lose_40 (n := 41) rfl ?_
      refine v_iast ok (lf_sro (by omega)) rfl (by omega) (by decide) dX7_lose_41 (n := 42) rfl ?_
      refine v_iload_3 ok dX7_lose_42 (n := 43) rfl ?_
      refine v_iret rt dX7_lose_43 ?_
      first | exact (Or.inr (Or.inl ⟨by omega, by first | rfl | omega | (simp (disch := omega) only [zset_ne, zset_eq]), by first | rfl | omega | (simp (disch := omega) only [zset_ne, zset_eq])⟩)) | exact (Or.inr (Or.inr ⟨by omega, by first | rfl | omega | (simp (disch := omega) only [zset_ne, zset_eq]), by first | rfl | omega | (simp (disch := omega) only [zset_ne, zset_eq])⟩))
    · have c33_2 := c33_2
      refine v_iconst ok dX7_lose_36 (n := 37) rfl ?_
      refine v_goto ok dX7_lose_37 (n := 41) (by decide) ?_
      refine v_iast ok (lf_sro (by omega)) rfl (by omega) (by decide) dX7_lose_41 (n := 42) rfl ?_
      refine v_iload_3 ok dX7_lose_42 (n := 43) rfl ?_
      refine v_iret rt dX7_lose_43 ?_
      first | exact (Or.inr (Or.inl ⟨by omega, by first | rfl | omega | (simp (disch := omega) only [zset_ne, zset_eq]), by first | rfl | omega | (simp (disch := omega) only [zset_ne, zset_eq])⟩)) | exact (Or.inr (Or.inr ⟨by omega, by first | rfl | omega | (simp (disch := omega) only [zset_ne, zset_eq]), by first | rfl | omega | (simp (disch := omega) only [zset_ne, zset_eq])⟩))
  · have c5_1 := c5_1
    refine v_iconst ok dX7_lose_8 (n := 9) rfl ?_
    refine v_iret rt dX7_lose_9 ?_
    exact (Or.inl ⟨by omega, by first | rfl | omega | (simp (disch := omega) only [zset_ne, zset_eq]), by first | rfl | omega | (simp (disch := omega) only [zset_ne, zset_eq])⟩)

set_option maxHeartbeats 4000000 in
set_option maxRecDepth 100000 in
theorem t_setg {G : zG} {ad : Int → Nat} {M : zM} {q v : Int} (hq : -2147483648 ≤ q ∧ q ≤ 2147483647) (hv : -2147483648 ≤ v ∧ v ≤ 2147483647) : zTI G (zw ad) mi_X7_set [zr 0, zi q, zi v] M (fun x M' => ((¬ ((0 ≤ q ∧ q ≤ 1) ∧ (0 ≤ v ∧ v ≤ 6))) ∧ x = -1 ∧ M' = M) ∨ (((0 ≤ q ∧ q ≤ 1) ∧ (0 ≤ v ∧ v ≤ 6)) ∧ x = M 4 q ∧ M' = zset M 4 q v)) := by
  refine zTI.of (own := RX7) (ls := [some (zr 0), some (zi q), some (zi v), none]) (by decide +kernel) rfl rfl (Nat.le_of_ble_eq_true rfl) (fun γ ok rt => ?_)
  refine v_iload_1 ok dX7_set_0 (n := 1) rfl ?_
  refine v_iconst ok dX7_set_1 (n := 2) rfl ?_
  refine v_iconst ok dX7_set_2 (n := 3) rfl ?_
  refine v_callSI ok (mi := mi_X7_isFrom) mc_X7_isFrom cs_X7_81 (by decide) ⟨Nat.zero_le _, Nat.zero_le _⟩ dX7_set_3 (n := 6) rfl rfl rfl (Nat.le_of_ble_eq_true rfl) (t_isFrom hq (by omega) (by omega)) (fun x5 M5 h5 => ?_)
  obtain ⟨e5_, h5⟩ := h5
  subst M5
  refine v_if_eq ok dX7_set_6 (tgt := 19) (by decide) (n := 9) rfl (by omega) (fun c6_1 => ?_) (fun c6_1 => ?_)
  · have c6_1 := c6_1
    refine v_iconst ok dX7_set_19 (n := 20) rfl ?_
    refine v_iret rt dX7_set_20 ?_
    exact (Or.inl ⟨by omega, by first | rfl | omega | (simp (disch := omega) only [zset_ne, zset_eq]), by first | rfl | omega | (simp (disch := omega) only [zset_ne, zset_eq])⟩)
  · have c6_1 := c6_1
    refine v_iload_2 ok dX7_set_9 (n := 10) rfl ?_
    refine v_iconst ok dX7_set_10 (n := 11) rfl ?_
    refine v_bipush ok (by decide) dX7_set_11 (n := 13) rfl ?_
    refine v_callSI ok (mi := mi_X7_isFrom) mc_X7_isFrom cs_X7_81 (by decide) ⟨Nat.zero_le _, Nat.zero_le _⟩ dX7_set_13 (n := 16) rfl rfl rfl (Nat.le_of_ble_eq_true rfl) (t_isFrom hv (by omega) (by omega)) (fun x6 M6 h6 => ?_)
    obtain ⟨e6_, h6⟩ := h6
    subst M6
    refine v_if_ne ok dX7_set_16 (tgt := 21) (by decide) (n := 19) rfl (by omega) (fun c16_2 => ?_) (fun c16_2 => ?_)
    · have c16_2 := c16_2
      refine v_aload_0 ok dX7_set_21 (n := 22) rfl ?_
      refine v_getR ok fd_X7_10 ly_0 rfl rfl rfl rf_0_0 dX7_set_22 (n := 25) rfl ?_
      refine v_getR ok fd_X7_97 ly_1 rfl rfl rfl rf_1_2 dX7_set_25 (n := 28) rfl ?_
      refine v_iload_1 ok dX7_set_28 (n := 29) rfl ?_
      refine v_iald ok ly_4 rfl (by omega) (by decide) dX7_set_29 (n := 30) rfl ?_
      refine v_istore_3 ok (by decide) rfl dX7_set_30 (n := 31) rfl ?_
      refine v_aload_0 ok dX7_set_31 (n := 32) rfl ?_
      refine v_getR ok fd_X7_10 ly_0 rfl rfl rfl rf_0_0 dX7_set_32 (n := 35) rfl ?_
      refine v_getR ok fd_X7_97 ly_1 rfl rfl rfl rf_1_2 dX7_set_35 (n := 38) rfl ?_
      refine v_iload_1 ok dX7_set_38 (n := 39) rfl ?_
      refine v_iload_2 ok dX7_set_39 (n := 40) rfl ?_
      refine v_iast ok ly_4 rfl (by omega) (by decide) dX7_set_40 (n := 41) rfl ?_
      refine v_iload_3 ok dX7_set_41 (n := 42) rfl ?_
      refine v_iret rt dX7_set_42 ?_
      exact (Or.inr ⟨by omega, by first | rfl | omega | (simp (disch := omega) only [zset_ne, zset_eq]), by first | rfl | omega | (simp (disch := omega) only [zset_ne, zset_eq])⟩)
    · have c16_2 := c16_2
      refine v_iconst ok dX7_set_19 (n := 20) rfl ?_
      refine v_iret rt dX7_set_20 ?_
      exact (Or.inl ⟨by omega, by first | rfl | omega | (simp (disch := omega) only [zset_ne, zset_eq]), by first | rfl | omega | (simp (disch := omega) only [zset_ne, zset_eq])⟩)

set_option maxHeartbeats 4000000 in
set_option maxRecDepth 100000 in
theorem t_foot {G : zG} {ad : Int → Nat} {M : zM} {b s h : Int} (hb : -2147483648 ≤ b ∧ b ≤ 2147483647) (hs : -2147483648 ≤ s ∧ s ≤ 2147483647) (hh : -2147483648 ≤ h ∧ h ≤ 2147483647) (hnb : 0 ≤ M 1 3 ∧ M 1 3 ≤ 7) (hB : ∀ b, 0 ≤ b ∧ b < M 1 3 → zBR (M (5 + b)))  : zTI G (zw ad) mi_X7_foot [zr 0, zi b, zi s, zi h] M (fun x M' => ((¬ ((0 ≤ b ∧ b < M 1 3) ∧ (0 ≤ s ∧ s ≤ 1) ∧ (0 ≤ h ∧ h ≤ 11))) ∧ x = -1 ∧ M' = M) ∨ (((0 ≤ b ∧ b < M 1 3) ∧ (0 ≤ s ∧ s ≤ 1) ∧ (0 ≤ h ∧ h ≤ 11)) ∧ x = zfo (M (5 + b)) s h ∧ M' = M)) := by
  refine zTI.of (own := RX7) (ls := [some (zr 0), some (zi b), some (zi s), some (zi h)]) (by decide +kernel) rfl rfl (Nat.le_of_ble_eq_true rfl) (fun γ ok rt => ?_)
  refine v_aload_0 ok dX7_foot_0 (n := 1) rfl ?_
  refine v_iload_1 ok dX7_foot_1 (n := 2) rfl ?_
  refine v_callVI ok (mi := mi_X7_isBride) mc_X7_isBride cv_X7_77 ly_0 rfl rfl rfl (by decide) ⟨Nat.zero_le _, Nat.zero_le _⟩ dX7_foot_2 (n := 5) rfl rfl rfl (Nat.le_of_ble_eq_true rfl) (t_isBride hb (by omega)) (fun x5 M5 h5 => ?_)
  obtain ⟨e5_, h5⟩ := h5
  subst M5
  refine v_if_eq ok dX7_foot_5 (tgt := 22) (by decide) (n := 8) rfl (by omega) (fun c5_1 => ?_) (fun c5_1 => ?_)
  · have c5_1 := c5_1
    refine v_iconst ok dX7_foot_22 (n := 23) rfl ?_
    refine v_iret rt dX7_foot_23 ?_
    exact (Or.inl ⟨by omega, by first | rfl | omega | (simp (disch := omega) only [zset_ne, zset_eq]), by first | rfl | omega | (simp (disch := omega) only [zset_ne, zset_eq])⟩)
  · have c5_1 := c5_1
    refine v_iload_2 ok dX7_foot_8 (n := 9) rfl ?_
    refine v_callSI ok (mi := mi_X7_isSide) mc_X7_isSide cs_X7_101 (by decide) ⟨Nat.zero_le _, Nat.zero_le _⟩ dX7_foot_9 (n := 12) rfl rfl rfl (Nat.le_of_ble_eq_true rfl) (t_isSide hs) (fun x6 M6 h6 => ?_)
    obtain ⟨e6_, h6⟩ := h6
    subst M6
    refine v_if_eq ok dX7_foot_12 (tgt := 22) (by decide) (n := 15) rfl (by omega) (fun c12_2 => ?_) (fun c12_2 => ?_)
    · have c12_2 := c12_2
      refine v_iconst ok dX7_foot_22 (n := 23) rfl ?_
      refine v_iret rt dX7_foot_23 ?_
      exact (Or.inl ⟨by omega, by first | rfl | omega | (simp (disch := omega) only [zset_ne, zset_eq]), by first | rfl | omega | (simp (disch := omega) only [zset_ne, zset_eq])⟩)
    · have c12_2 := c12_2
      refine v_iload_3 ok dX7_foot_15 (n := 16) rfl ?_
      refine v_callSI ok (mi := mi_X7_isHour) mc_X7_isHour cs_X7_104 (by decide) ⟨Nat.zero_le _, Nat.zero_le _⟩ dX7_foot_16 (n := 19) rfl rfl rfl (Nat.le_of_ble_eq_true rfl) (t_isHour hh) (fun x7 M7 h7 => ?_)
      obtain ⟨e7_, h7⟩ := h7
      subst M7
      refine v_if_ne ok dX7_foot_19 (tgt := 24) (by decide) (n := 22) rfl (by omega) (fun c19_3 => ?_) (fun c19_3 => ?_)
      · have c19_3 := c19_3
        refine v_aload_0 ok dX7_foot_24 (n := 25) rfl ?_
        refine v_getR ok fd_X7_10 ly_0 rfl rfl rfl rf_0_0 dX7_foot_25 (n := 28) rfl ?_
        refine v_iload_1 ok dX7_foot_28 (n := 29) rfl ?_
        refine v_iload_2 ok dX7_foot_29 (n := 30) rfl ?_
        refine v_iload_3 ok dX7_foot_30 (n := 31) rfl ?_
        refine v_callVI ok (mi := mi_X1_footAt) mc_X1_footAt cv_X7_107 ly_1 rfl rfl rfl (by decide) ⟨Nat.zero_le _, Nat.zero_le _⟩ dX7_foot_31 (n := 34) rfl rfl rfl (Nat.le_of_ble_eq_true rfl) (t_footAt (by omega) (by omega) (by omega) (hB _ (by omega))) (fun x8 M8 h8 => ?_)
        obtain ⟨e8_, e8⟩ := h8
        subst M8
        refine v_iret rt dX7_foot_34 ?_
        exact (Or.inr ⟨by omega, by first | rfl | omega | (simp (disch := omega) only [zset_ne, zset_eq]), by first | rfl | omega | (simp (disch := omega) only [zset_ne, zset_eq])⟩)
      · have c19_3 := c19_3
        refine v_iconst ok dX7_foot_22 (n := 23) rfl ?_
        refine v_iret rt dX7_foot_23 ?_
        exact (Or.inl ⟨by omega, by first | rfl | omega | (simp (disch := omega) only [zset_ne, zset_eq]), by first | rfl | omega | (simp (disch := omega) only [zset_ne, zset_eq])⟩)

set_option maxHeartbeats 4000000 in
set_option maxRecDepth 100000 in
theorem t_asked {G : zG} {ad : Int → Nat} {M : zM} {s b h : Int} (hs : -2147483648 ≤ s ∧ s ≤ 2147483647) (hb : -2147483648 ≤ b ∧ b ≤ 2147483647) (hh : -2147483648 ≤ h ∧ h ≤ 2147483647) (hnb : 0 ≤ M 1 3 ∧ M 1 3 ≤ 7) (hns : 0 ≤ M 1 4 ∧ M 1 4 ≤ 16) (hB : ∀ b, 0 ≤ b ∧ b < M 1 3 → zBR (M (5 + b))) (hS : ∀ s, 0 ≤ s ∧ s < M 1 4 → zSR (M (12 + s))) (h0 : 0 ≤ M 4 0 ∧ M 4 0 ≤ 6) (h1 : 0 ≤ M 4 1 ∧ M 4 1 ≤ 6)  : zTI G (zw ad) mi_X7_asked [zr 0, zi s, zi b, zi h] M (fun x M' => ((¬ ((0 ≤ s ∧ s < M 1 4) ∧ (0 ≤ b ∧ b < M 1 3) ∧ (0 ≤ h ∧ h ≤ 11))) ∧ x = -1 ∧ M' = M) ∨ (((0 ≤ s ∧ s < M 1 4) ∧ (0 ≤ b ∧ b < M 1 3) ∧ (0 ≤ h ∧ h ≤ 11)) ∧ x = zask (zfo (M (5 + b)) (M (12 + s) 0) h) (M (12 + s) 1) (M (12 + s) 2) (M 4 0) (M 4 1) ∧ M' = M)) := by
  refine zTI.of (own := RX7) (ls := [some (zr 0), some (zi s), some (zi b), some (zi h)]) (by decide +kernel) rfl rfl (Nat.le_of_ble_eq_true rfl) (fun γ ok rt => ?_)
  refine v_aload_0 ok dX7_asked_0 (n := 1) rfl ?_
  refine v_iload_1 ok dX7_asked_1 (n := 2) rfl ?_
  refine v_callVI ok (mi := mi_X7_isShoe) mc_X7_isShoe cv_X7_94 ly_0 rfl rfl rfl (by decide) ⟨Nat.zero_le _, Nat.zero_le _⟩ dX7_asked_2 (n := 5) rfl rfl rfl (Nat.le_of_ble_eq_true rfl) (t_isShoe hs (by omega)) (fun x5 M5 h5 => ?_)
  obtain ⟨e5_, h5⟩ := h5
  subst M5
  refine v_if_eq ok dX7_asked_5 (tgt := 23) (by decide) (n := 8) rfl (by omega) (fun c5_1 => ?_) (fun c5_1 => ?_)
  · have c5_1 := c5_1
    refine v_iconst ok dX7_asked_23 (n := 24) rfl ?_
    refine v_iret rt dX7_asked_24 ?_
    exact (Or.inl ⟨by omega, by first | rfl | omega | (simp (disch := omega) only [zset_ne, zset_eq]), by first | rfl | omega | (simp (disch := omega) only [zset_ne, zset_eq])⟩)
  · have c5_1 := c5_1
    refine v_aload_0 ok dX7_asked_8 (n := 9) rfl ?_
    refine v_iload_2 ok dX7_asked_9 (n := 10) rfl ?_
    refine v_callVI ok (mi := mi_X7_isBride) mc_X7_isBride cv_X7_77 ly_0 rfl rfl rfl (by decide) ⟨Nat.zero_le _, Nat.zero_le _⟩ dX7_asked_10 (n := 13) rfl rfl rfl (Nat.le_of_ble_eq_true rfl) (t_isBride hb (by omega)) (fun x6 M6 h6 => ?_)
    obtain ⟨e6_, h6⟩ := h6
    subst M6
    refine v_if_eq ok dX7_asked_13 (tgt := 23) (by decide) (n := 16) rfl (by omega) (fun c13_2 => ?_) (fun c13_2 => ?_)
    · have c13_2 := c13_2
      refine v_iconst ok dX7_asked_23 (n := 24) rfl ?_
      refine v_iret rt dX7_asked_24 ?_
      exact (Or.inl ⟨by omega, by first | rfl | omega | (simp (disch := omega) only [zset_ne, zset_eq]), by first | rfl | omega | (simp (disch := omega) only [zset_ne, zset_eq])⟩)
    · have c13_2 := c13_2
      refine v_iload_3 ok dX7_asked_16 (n := 17) rfl ?_
      refine v_callSI ok (mi := mi_X7_isHour) mc_X7_isHour cs_X7_104 (by decide) ⟨Nat.zero_le _, Nat.zero_le _⟩ dX7_asked_17 (n := 20) rfl rfl rfl (Nat.le_of_ble_eq_true rfl) (t_isHour hh) (fun x7 M7 h7 => ?_)
      obtain ⟨e7_, h7⟩ := h7
      subst M7
      refine v_if_ne ok dX7_asked_20 (tgt := 25) (by decide) (n := 23) rfl (by omega) (fun c20_3 => ?_) (fun c20_3 => ?_)
      · have c20_3 := c20_3
        refine v_aload_0 ok dX7_asked_25 (n := 26) rfl ?_
        refine v_getR ok fd_X7_10 ly_0 rfl rfl rfl rf_0_0 dX7_asked_26 (n := 29) rfl ?_
        refine v_iload_1 ok dX7_asked_29 (n := 30) rfl ?_
        refine v_iload_2 ok dX7_asked_30 (n := 31) rfl ?_
        refine v_iload_3 ok dX7_asked_31 (n := 32) rfl ?_
        refine v_callVI ok (mi := mi_X1_leastOut) mc_X1_leastOut cv_X7_111 ly_1 rfl rfl rfl (by decide) ⟨Nat.zero_le _, Nat.zero_le _⟩ dX7_asked_32 (n := 35) rfl rfl rfl (Nat.le_of_ble_eq_true rfl) (t_leastOut (by omega) (by omega) (by omega) (hB _ (by omega)) (hS _ (by omega)) h0 h1) (fun x8 M8 h8 => ?_)
        obtain ⟨e8_, e8⟩ := h8
        subst M8
        refine v_iret rt dX7_asked_35 ?_
        exact (Or.inr ⟨by omega, by first | rfl | omega | (simp (disch := omega) only [zset_ne, zset_eq]), by first | rfl | omega | (simp (disch := omega) only [zset_ne, zset_eq])⟩)
      · have c20_3 := c20_3
        refine v_iconst ok dX7_asked_23 (n := 24) rfl ?_
        refine v_iret rt dX7_asked_24 ?_
        exact (Or.inl ⟨by omega, by first | rfl | omega | (simp (disch := omega) only [zset_ne, zset_eq]), by first | rfl | omega | (simp (disch := omega) only [zset_ne, zset_eq])⟩)

set_option maxHeartbeats 4000000 in
set_option maxRecDepth 100000 in
theorem t_limps {G : zG} {ad : Int → Nat} {M : zM} {b s h : Int} (hb : -2147483648 ≤ b ∧ b ≤ 2147483647) (hs : -2147483648 ≤ s ∧ s ≤ 2147483647) (hh : -2147483648 ≤ h ∧ h ≤ 2147483647) (hnb : 0 ≤ M 1 3 ∧ M 1 3 ≤ 7) (hns : 0 ≤ M 1 4 ∧ M 1 4 ≤ 16) (hB : ∀ b, 0 ≤ b ∧ b < M 1 3 → zBR (M (5 + b))) (hS : ∀ s, 0 ≤ s ∧ s < M 1 4 → zSR (M (12 + s))) (h0 : 0 ≤ M 4 0 ∧ M 4 0 ≤ 6)  : zTI G (zw ad) mi_X7_limps [zr 0, zi b, zi s, zi h] M (fun x M' => ((¬ ((0 ≤ s ∧ s < M 1 4) ∧ (0 ≤ b ∧ b < M 1 3) ∧ (0 ≤ h ∧ h ≤ 11))) ∧ x = -100001 ∧ M' = M) ∨ (((0 ≤ s ∧ s < M 1 4) ∧ (0 ≤ b ∧ b < M 1 3) ∧ (0 ≤ h ∧ h ≤ 11)) ∧ x = zlim (zfo (M (5 + b)) (M (12 + s) 0) h) (M (12 + s) 1) (M (12 + s) 2) (M 4 0) ∧ M' = M)) := by
  refine zTI.of (own := RX7) (ls := [some (zr 0), some (zi b), some (zi s), some (zi h)]) (by decide +kernel) rfl rfl (Nat.le_of_ble_eq_true rfl) (fun γ ok rt => ?_)
  refine v_aload_0 ok dX7_limps_0 (n := 1) rfl ?_
  refine v_iload_1 ok dX7_limps_1 (n := 2) rfl ?_
  refine v_callVI ok (mi := mi_X7_isBride) mc_X7_isBride cv_X7_77 ly_0 rfl rfl rfl (by decide) ⟨Nat.zero_le _, Nat.zero_le _⟩ dX7_limps_2 (n := 5) rfl rfl rfl (Nat.le_of_ble_eq_true rfl) (t_isBride hb (by omega)) (fun x5 M5 h5 => ?_)
  obtain ⟨e5_, h5⟩ := h5
  subst M5
  refine v_if_eq ok dX7_limps_5 (tgt := 23) (by decide) (n := 8) rfl (by omega) (fun c5_1 => ?_) (fun c5_1 => ?_)
  · have c5_1 := c5_1
    refine v_ldc ok (c := -100001) kc_X7_166 (by decide) dX7_limps_23 (n := 25) rfl ?_
    refine v_iret rt dX7_limps_25 ?_
    exact (Or.inl ⟨by omega, by first | rfl | omega | (simp (disch := omega) only [zset_ne, zset_eq]), by first | rfl | omega | (simp (disch := omega) only [zset_ne, zset_eq])⟩)
  · have c5_1 := c5_1
    refine v_aload_0 ok dX7_limps_8 (n := 9) rfl ?_
    refine v_iload_2 ok dX7_limps_9 (n := 10) rfl ?_
    refine v_callVI ok (mi := mi_X7_isShoe) mc_X7_isShoe cv_X7_94 ly_0 rfl rfl rfl (by decide) ⟨Nat.zero_le _, Nat.zero_le _⟩ dX7_limps_10 (n := 13) rfl rfl rfl (Nat.le_of_ble_eq_true rfl) (t_isShoe hs (by omega)) (fun x6 M6 h6 => ?_)
    obtain ⟨e6_, h6⟩ := h6
    subst M6
    refine v_if_eq ok dX7_limps_13 (tgt := 23) (by decide) (n := 16) rfl (by omega) (fun c13_2 => ?_) (fun c13_2 => ?_)
    · have c13_2 := c13_2
      refine v_ldc ok (c := -100001) kc_X7_166 (by decide) dX7_limps_23 (n := 25) rfl ?_
      refine v_iret rt dX7_limps_25 ?_
      exact (Or.inl ⟨by omega, by first | rfl | omega | (simp (disch := omega) only [zset_ne, zset_eq]), by first | rfl | omega | (simp (disch := omega) only [zset_ne, zset_eq])⟩)
    · have c13_2 := c13_2
      refine v_iload_3 ok dX7_limps_16 (n := 17) rfl ?_
      refine v_callSI ok (mi := mi_X7_isHour) mc_X7_isHour cs_X7_104 (by decide) ⟨Nat.zero_le _, Nat.zero_le _⟩ dX7_limps_17 (n := 20) rfl rfl rfl (Nat.le_of_ble_eq_true rfl) (t_isHour hh) (fun x7 M7 h7 => ?_)
      obtain ⟨e7_, h7⟩ := h7
      subst M7
      refine v_if_ne ok dX7_limps_20 (tgt := 26) (by decide) (n := 23) rfl (by omega) (fun c20_3 => ?_) (fun c20_3 => ?_)
      · have c20_3 := c20_3
        refine v_aload_0 ok dX7_limps_26 (n := 27) rfl ?_
        refine v_getR ok fd_X7_10 ly_0 rfl rfl rfl rf_0_0 dX7_limps_27 (n := 30) rfl ?_
        refine v_iload_1 ok dX7_limps_30 (n := 31) rfl ?_
        refine v_iload_2 ok dX7_limps_31 (n := 32) rfl ?_
        refine v_iload_3 ok dX7_limps_32 (n := 33) rfl ?_
        refine v_callVI ok (mi := mi_X1_limpOf) mc_X1_limpOf cv_X7_167 ly_1 rfl rfl rfl (by decide) ⟨Nat.zero_le _, Nat.zero_le _⟩ dX7_limps_33 (n := 36) rfl rfl rfl (Nat.le_of_ble_eq_true rfl) (t_limpOf (by omega) (by omega) (by omega) (hB _ (by omega)) (hS _ (by omega)) h0) (fun x8 M8 h8 => ?_)
        obtain ⟨e8_, e8⟩ := h8
        subst M8
        refine v_iret rt dX7_limps_36 ?_
        exact (Or.inr ⟨by omega, by first | rfl | omega | (simp (disch := omega) only [zset_ne, zset_eq]), by first | rfl | omega | (simp (disch := omega) only [zset_ne, zset_eq])⟩)
      · have c20_3 := c20_3
        refine v_ldc ok (c := -100001) kc_X7_166 (by decide) dX7_limps_23 (n := 25) rfl ?_
        refine v_iret rt dX7_limps_25 ?_
        exact (Or.inl ⟨by omega, by first | rfl | omega | (simp (disch := omega) only [zset_ne, zset_eq]), by first | rfl | omega | (simp (disch := omega) only [zset_ne, zset_eq])⟩)

/-- the set of those of the first n of whom f isn't below 0 -/
def zwho (f : Int → Int) : Nat → Int
  | 0 => 0
  | n + 1 => if 0 ≤ f n then zor (zwho f n) (zshl 1 n) else zwho f n
set_option maxHeartbeats 4000000 in
set_option maxRecDepth 100000 in
theorem t_whose {G : zG} {ad : Int → Nat} {M : zM} {s h : Int} (hs : -2147483648 ≤ s ∧ s ≤ 2147483647) (hh : -2147483648 ≤ h ∧ h ≤ 2147483647) (hnb : 0 ≤ M 1 3 ∧ M 1 3 ≤ 7) (hns : 0 ≤ M 1 4 ∧ M 1 4 ≤ 16) (hB : ∀ b, 0 ≤ b ∧ b < M 1 3 → zBR (M (5 + b))) (hS : ∀ s, 0 ≤ s ∧ s < M 1 4 → zSR (M (12 + s))) (h0 : 0 ≤ M 4 0 ∧ M 4 0 ≤ 6) (h1 : 0 ≤ M 4 1 ∧ M 4 1 ≤ 6)  : zTI G (zw ad) mi_X7_whose [zr 0, zi s, zi h] M (fun x M' => ((¬ ((0 ≤ s ∧ s < M 1 4) ∧ (0 ≤ h ∧ h ≤ 11))) ∧ x = -1 ∧ M' = M) ∨ (((0 ≤ s ∧ s < M 1 4) ∧ (0 ≤ h ∧ h ≤ 11)) ∧ x = zwho (fun i => zask (zfo (M (5 + i)) (M (12 + s) 0) h) (M (12 + s) 1) (M (12 + s) 2) (M 4 0) (M 4 1)) (M 1 3).toNat ∧ M' = M)) := by
  refine zTI.of (own := RX7) (ls := [some (zr 0), some (zi s), some (zi h), none, none]) (by decide +kernel) rfl rfl (Nat.le_of_ble_eq_true rfl) (fun γ ok rt => ?_)
  refine v_aload_0 ok dX7_whose_0 (n := 1) rfl ?_
  refine v_iload_1 ok dX7_whose_1 (n := 2) rfl ?_
  refine v_callVI ok (mi := mi_X7_isShoe) mc_X7_isShoe cv_X7_94 ly_0 rfl rfl rfl (by decide) ⟨Nat.zero_le _, Nat.zero_le _⟩ dX7_whose_2 (n := 5) rfl rfl rfl (Nat.le_of_ble_eq_true rfl) (t_isShoe hs (by omega)) (fun x5 M5 h5 => ?_)
  obtain ⟨e5_, h5⟩ := h5
  subst M5
  refine v_if_eq ok dX7_whose_5 (tgt := 15) (by decide) (n := 8) rfl (by omega) (fun c5_1 => ?_) (fun c5_1 => ?_)
  · have c5_1 := c5_1
    refine v_iconst ok dX7_whose_15 (n := 16) rfl ?_
    refine v_iret rt dX7_whose_16 ?_
    exact (Or.inl ⟨by omega, by first | rfl | omega | (simp (disch := omega) only [zset_ne, zset_eq]), by first | rfl | omega | (simp (disch := omega) only [zset_ne, zset_eq])⟩)
  · have c5_1 := c5_1
    refine v_iload_2 ok dX7_whose_8 (n := 9) rfl ?_
    refine v_callSI ok (mi := mi_X7_isHour) mc_X7_isHour cs_X7_104 (by decide) ⟨Nat.zero_le _, Nat.zero_le _⟩ dX7_whose_9 (n := 12) rfl rfl rfl (Nat.le_of_ble_eq_true rfl) (t_isHour hh) (fun x6 M6 h6 => ?_)
    obtain ⟨e6_, h6⟩ := h6
    subst M6
    refine v_if_ne ok dX7_whose_12 (tgt := 17) (by decide) (n := 15) rfl (by omega) (fun c12_2 => ?_) (fun c12_2 => ?_)
    · have c12_2 := c12_2
      have lp : ∀ (zn : Nat) (i a : Int), zn = (16 - i).toNat → (0 ≤ i ∧ i ≤ M 1 3) → (a = zwho (fun i => zask (zfo (M (5 + i)) (M (12 + s) 0) h) (M (12 + s) 1) (M (12 + s) 2) (M 4 0) (M 4 1)) i.toNat) → zVV G γ (zw ad) (0, 0) 22 [some (zr 0), some (zi s), some (zi h), some (zi a), some (zi i)] [] M := by
        refine zrec _ (fun zn ih => ?_)
        intro i a hzn hi ha
        refine v_iload_4 ok dX7_whose_22 (n := 24) rfl ?_
        refine v_aload_0 ok dX7_whose_24 (n := 25) rfl ?_
        refine v_getR ok fd_X7_10 ly_0 rfl rfl rfl rf_0_0 dX7_whose_25 (n := 28) rfl ?_
        refine v_getI ok fd_X7_69 ly_1 rfl rfl (jI := 3) rfl dX7_whose_28 (n := 31) rfl ?_
        refine v_icmp_ge ok dX7_whose_31 (tgt := 63) (by decide) (n := 34) rfl (by omega) (by omega) (fun c31_1 => ?_) (fun c31_1 => ?_)
        · have c31_1 := c31_1
          refine v_iload_3 ok dX7_whose_63 (n := 64) rfl ?_
          refine v_iret rt dX7_whose_64 ?_
          have e9 : i = M 1 3 := by omega
          subst ha
          rw [e9]
          exact (Or.inr ⟨by omega, by first | rfl | omega | (simp (disch := omega) only [zset_ne, zset_eq]), by first | rfl | omega | (simp (disch := omega) only [zset_ne, zset_eq])⟩)
        · have c31_1 := c31_1
          refine v_aload_0 ok dX7_whose_34 (n := 35) rfl ?_
          refine v_getR ok fd_X7_10 ly_0 rfl rfl rfl rf_0_0 dX7_whose_35 (n := 38) rfl ?_
          refine v_iload_1 ok dX7_whose_38 (n := 39) rfl ?_
          refine v_iload_4 ok dX7_whose_39 (n := 41) rfl ?_
          refine v_iload_2 ok dX7_whose_41 (n := 42) rfl ?_
          refine v_callVI ok (mi := mi_X1_leastOut) mc_X1_leastOut cv_X7_111 ly_1 rfl rfl rfl (by decide) ⟨Nat.zero_le _, Nat.zero_le _⟩ dX7_whose_42 (n := 45) rfl rfl rfl (Nat.le_of_ble_eq_true rfl) (t_leastOut (by omega) (by omega) (by omega) (hB _ (by omega)) (hS _ (by omega)) h0 h1) (fun x8 M8 h8 => ?_)
          obtain ⟨e8_, e8⟩ := h8
          subst M8
          have e9 := zask_b (foot := zfo (M (5 + i)) (M (12 + s) 0) h) (size := M (12 + s) 1) (kind := M (12 + s) 2) (loose := M 4 0) h1
          refine v_bipush ok (by decide) dX7_whose_45 (n := 47) rfl ?_
          refine v_icmp_eq ok dX7_whose_47 (tgt := 57) (by decide) (n := 50) rfl (by omega) (by omega) (fun c47_2 => ?_) (fun c47_2 => ?_)
          · have c47_2 := c47_2
            refine v_iinc_4 ok (by decide) rfl dX7_whose_57 (n := 60) rfl ?_
            refine v_goto ok dX7_whose_60 (n := 22) (by decide) ?_
            refine ih _ (by omega) _ _ rfl (by omega) ?_
            rw [show (i + 1).toNat = i.toNat + 1 by omega]
            unfold zwho
            rw [show ((i.toNat : Nat) : Int) = i by omega]
            subst e8
            first
            | (rw [if_pos (by omega), ha])
            | (rw [if_neg (by omega), ha])
          · have c47_2 := c47_2
            refine v_iload_3 ok dX7_whose_50 (n := 51) rfl ?_
            refine v_iconst ok dX7_whose_51 (n := 52) rfl ?_
            refine v_iload_4 ok dX7_whose_52 (n := 54) rfl ?_
            refine v_ishl ok dX7_whose_54 (n := 55) rfl ?_
            refine v_ior ok dX7_whose_55 (n := 56) rfl ?_
            refine v_istore_3 ok (by decide) rfl dX7_whose_56 (n := 57) rfl ?_
            refine v_iinc_4 ok (by decide) rfl dX7_whose_57 (n := 60) rfl ?_
            refine v_goto ok dX7_whose_60 (n := 22) (by decide) ?_
            refine ih _ (by omega) _ _ rfl (by omega) ?_
            rw [show (i + 1).toNat = i.toNat + 1 by omega]
            unfold zwho
            rw [show ((i.toNat : Nat) : Int) = i by omega]
            subst e8
            first
            | (rw [if_pos (by omega), ha])
            | (rw [if_neg (by omega), ha])
      refine v_iconst ok dX7_whose_17 (n := 18) rfl ?_
      refine v_istore_3 ok (by decide) rfl dX7_whose_18 (n := 19) rfl ?_
      refine v_iconst ok dX7_whose_19 (n := 20) rfl ?_
      refine v_istore_4 ok (by decide) rfl dX7_whose_20 (n := 22) rfl ?_
      exact lp _ _ _ rfl (by omega) rfl
    · have c12_2 := c12_2
      refine v_iconst ok dX7_whose_15 (n := 16) rfl ?_
      refine v_iret rt dX7_whose_16 ?_
      exact (Or.inl ⟨by omega, by first | rfl | omega | (simp (disch := omega) only [zset_ne, zset_eq]), by first | rfl | omega | (simp (disch := omega) only [zset_ne, zset_eq])⟩)

set_option maxHeartbeats 4000000 in
set_option maxRecDepth 100000 in
theorem t_count {G : zG} {ad : Int → Nat} {M : zM} {v : Int} (hv : -2147483648 ≤ v ∧ v ≤ 2147483647) (hns : 0 ≤ M 1 4 ∧ M 1 4 ≤ 16) (hS : ∀ s, 0 ≤ s ∧ s < M 1 4 → zSR (M (12 + s))) : zTI G (zw ad) mi_X7_count [zr 0, zi v] M (fun x M' => ((v = 0) ∧ x = M 1 3 ∧ M' = M) ∨ ((v = 1) ∧ x = M 1 4 ∧ M' = M) ∨ ((v = 2) ∧ x = zcnt (fun s => M (12 + s) 0 = 0 ∧ M (12 + s) 3 = 0) (M 1 4).toNat ∧ M' = M) ∨ ((v = 3) ∧ x = zcnt (fun s => M (12 + s) 0 = 1 ∧ M (12 + s) 3 = 0) (M 1 4).toNat ∧ M' = M) ∨ ((v = 4) ∧ x = M 1 4 - zcnt (fun s => M (12 + s) 0 = 0 ∧ M (12 + s) 3 = 0) (M 1 4).toNat - zcnt (fun s => M (12 + s) 0 = 1 ∧ M (12 + s) 3 = 0) (M 1 4).toNat ∧ M' = M) ∨ ((v < 0 ∨ 4 < v) ∧ x = -1 ∧ M' = M)) := by
  refine zTI.of (own := RX7) (ls := [some (zr 0), some (zi v)]) (by decide +kernel) rfl rfl (Nat.le_of_ble_eq_true rfl) (fun γ ok rt => ?_)
  refine v_iload_1 ok dX7_count_0 (n := 1) rfl ?_
  by_cases hv2 : v < 0 ∨ 4 < v
  · refine v_swOut ok dX7_count_1 hv hv2 (n := 96) (by decide) ?_
    refine v_iconst ok dX7_count_96 (n := 97) rfl ?_
    refine v_iret rt dX7_count_97 ?_
    subst_vars
    exact Or.inr (Or.inr (Or.inr (Or.inr (Or.inr ⟨by omega, rfl, rfl⟩))))
  · obtain rfl | rfl | rfl | rfl | rfl : v = 0 ∨ v = 1 ∨ v = 2 ∨ v = 3 ∨ v = 4 := by omega
    · refine v_swIn ok dX7_count_1 hv (by decide) (by decide) (off := 35) rfl (n := 36) (by decide) ?_
      refine v_aload_0 ok dX7_count_36 (n := 37) rfl ?_
      refine v_getR ok fd_X7_10 ly_0 rfl rfl rfl rf_0_0 dX7_count_37 (n := 40) rfl ?_
      refine v_getI ok fd_X7_69 ly_1 rfl rfl (jI := 3) rfl dX7_count_40 (n := 43) rfl ?_
      refine v_iret rt dX7_count_43 ?_
      subst_vars
      exact (Or.inl ⟨rfl, rfl, rfl⟩)
    · refine v_swIn ok dX7_count_1 hv (by decide) (by decide) (off := 43) rfl (n := 44) (by decide) ?_
      refine v_aload_0 ok dX7_count_44 (n := 45) rfl ?_
      refine v_getR ok fd_X7_10 ly_0 rfl rfl rfl rf_0_0 dX7_count_45 (n := 48) rfl ?_
      refine v_getI ok fd_X7_88 ly_1 rfl rfl (jI := 4) rfl dX7_count_48 (n := 51) rfl ?_
      refine v_iret rt dX7_count_51 ?_
      subst_vars
      exact (Or.inr (Or.inl ⟨rfl, rfl, rfl⟩))
    · refine v_swIn ok dX7_count_1 hv (by decide) (by decide) (off := 51) rfl (n := 52) (by decide) ?_
      refine v_aload_0 ok dX7_count_52 (n := 53) rfl ?_
      refine v_getR ok fd_X7_10 ly_0 rfl rfl rfl rf_0_0 dX7_count_53 (n := 56) rfl ?_
      refine v_iconst ok dX7_count_56 (n := 57) rfl ?_
      refine v_callVI ok (mi := mi_X1_shoesThere) mc_X1_shoesThere cv_X7_142 ly_1 rfl rfl rfl (by decide) ⟨Nat.zero_le _, Nat.zero_le _⟩ dX7_count_57 (n := 60) rfl rfl rfl (Nat.le_of_ble_eq_true rfl) (t_shoesThere (by omega) hns hS) (fun x8 M8 h8 => ?_)
      obtain ⟨e8_, e8⟩ := h8
      subst M8
      refine v_iret rt dX7_count_60 ?_
      subst_vars
      exact (Or.inr (Or.inr (Or.inl ⟨rfl, rfl, rfl⟩)))
    · refine v_swIn ok dX7_count_1 hv (by decide) (by decide) (off := 60) rfl (n := 61) (by decide) ?_
      refine v_aload_0 ok dX7_count_61 (n := 62) rfl ?_
      refine v_getR ok fd_X7_10 ly_0 rfl rfl rfl rf_0_0 dX7_count_62 (n := 65) rfl ?_
      refine v_iconst ok dX7_count_65 (n := 66) rfl ?_
      refine v_callVI ok (mi := mi_X1_shoesThere) mc_X1_shoesThere cv_X7_142 ly_1 rfl rfl rfl (by decide) ⟨Nat.zero_le _, Nat.zero_le _⟩ dX7_count_66 (n := 69) rfl rfl rfl (Nat.le_of_ble_eq_true rfl) (t_shoesThere (by omega) hns hS) (fun x8 M8 h8 => ?_)
      obtain ⟨e8_, e8⟩ := h8
      subst M8
      refine v_iret rt dX7_count_69 ?_
      subst_vars
      exact (Or.inr (Or.inr (Or.inr (Or.inl ⟨rfl, rfl, rfl⟩))))
    · refine v_swIn ok dX7_count_1 hv (by decide) (by decide) (off := 69) rfl (n := 70) (by decide) ?_
      refine v_aload_0 ok dX7_count_70 (n := 71) rfl ?_
      refine v_getR ok fd_X7_10 ly_0 rfl rfl rfl rf_0_0 dX7_count_71 (n := 74) rfl ?_
      refine v_getI ok fd_X7_88 ly_1 rfl rfl (jI := 4) rfl dX7_count_74 (n := 77) rfl ?_
      refine v_aload_0 ok dX7_count_77 (n := 78) rfl ?_
      refine v_getR ok fd_X7_10 ly_0 rfl rfl rfl rf_0_0 dX7_count_78 (n := 81) rfl ?_
      refine v_iconst ok dX7_count_81 (n := 82) rfl ?_
      refine v_callVI ok (mi := mi_X1_shoesThere) mc_X1_shoesThere cv_X7_142 ly_1 rfl rfl rfl (by decide) ⟨Nat.zero_le _, Nat.zero_le _⟩ dX7_count_82 (n := 85) rfl rfl rfl (Nat.le_of_ble_eq_true rfl) (t_shoesThere (by omega) hns hS) (fun x8 M8 h8 => ?_)
      obtain ⟨e8_, e8⟩ := h8
      subst M8
      refine v_isub ok dX7_count_85 (n := 86) rfl ?_
      refine v_aload_0 ok dX7_count_86 (n := 87) rfl ?_
      refine v_getR ok fd_X7_10 ly_0 rfl rfl rfl rf_0_0 dX7_count_87 (n := 90) rfl ?_
      refine v_iconst ok dX7_count_90 (n := 91) rfl ?_
      refine v_callVI ok (mi := mi_X1_shoesThere) mc_X1_shoesThere cv_X7_142 ly_1 rfl rfl rfl (by decide) ⟨Nat.zero_le _, Nat.zero_le _⟩ dX7_count_91 (n := 94) rfl rfl rfl (Nat.le_of_ble_eq_true rfl) (t_shoesThere (by omega) hns hS) (fun x8 M8 h8 => ?_)
      obtain ⟨e8_, e8⟩ := h8
      subst M8
      refine v_isub ok dX7_count_94 (n := 95) rfl ?_
      refine v_iret rt dX7_count_95 ?_
      subst_vars
      exact (Or.inr (Or.inr (Or.inr (Or.inr (Or.inl ⟨rfl, rfl, rfl⟩)))))

