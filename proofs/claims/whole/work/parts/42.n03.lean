/-! the model: images, copies, counts -/
set_option maxHeartbeats 4000000 in
set_option maxRecDepth 100000 in
theorem u_image {G : zG} {ad : Int → Nat} {M : zM}  : zTI G (zw ad) mi_X8_image [zr 200] M (fun x M' => x = 1 ∧ M' = zset (zset (zset (zset (zset (zcpy (zcpy M 201 0 220 0 28) 202 0 220 28 64) 220 92 (M 205 0)) 220 93 (M 205 1)) 200 20 (M 200 2)) 200 21 (M 200 3)) 200 18 1) := by
  refine zTI.of (own := RX8) (ls := [some (zr 200), none]) (by decide +kernel) rfl rfl (Nat.le_of_ble_eq_true rfl) (fun γ ok rt => ?_)
  have lp2 : ∀ (zn : Nat) (k : Int), zn = (64 - k).toNat → (0 ≤ k ∧ k ≤ 64) → zVV G γ (zw ad) (0, 0) 28 [some (zr 200), some (zi k)] [] (zcpy (zcpy M 201 0 220 0 28) 202 0 220 28 k) := by
    refine zrec _ (fun zn ih => ?_)
    intro k hzn hk
    refine v_iload_1 ok dX8_image_28 (n := 29) rfl ?_
    refine v_bipush ok (by decide) dX8_image_29 (n := 31) rfl ?_
    refine v_icmp_ge ok dX8_image_31 (tgt := 55) (by decide) (n := 34) rfl (by omega) (by omega) (fun c31_1 => ?_) (fun c31_1 => ?_)
    · have c31_1 := c31_1
      refine v_aload_0 ok dX8_image_55 (n := 56) rfl ?_
      refine v_getR ok fd_X8_48 ly_200 rfl rfl rfl rf_200_19 dX8_image_56 (n := 59) rfl ?_
      refine v_bipush ok (by decide) dX8_image_59 (n := 61) rfl ?_
      refine v_aload_0 ok dX8_image_61 (n := 62) rfl ?_
      refine v_getR ok fd_X8_16 ly_200 rfl rfl rfl rf_200_4 dX8_image_62 (n := 65) rfl ?_
      refine v_iconst ok dX8_image_65 (n := 66) rfl ?_
      refine v_iald ok ly_205 rfl (by omega) (by decide) dX8_image_66 (n := 67) rfl ?_
      try simp (disch := omega) only [zset_o, zcpy_o]
      refine v_iast ok ly_220 rfl (by omega) (by decide) dX8_image_67 (n := 68) rfl ?_
      refine v_aload_0 ok dX8_image_68 (n := 69) rfl ?_
      refine v_getR ok fd_X8_48 ly_200 rfl rfl rfl rf_200_19 dX8_image_69 (n := 72) rfl ?_
      refine v_bipush ok (by decide) dX8_image_72 (n := 74) rfl ?_
      refine v_aload_0 ok dX8_image_74 (n := 75) rfl ?_
      refine v_getR ok fd_X8_16 ly_200 rfl rfl rfl rf_200_4 dX8_image_75 (n := 78) rfl ?_
      refine v_iconst ok dX8_image_78 (n := 79) rfl ?_
      refine v_iald ok ly_205 rfl (by omega) (by decide) dX8_image_79 (n := 80) rfl ?_
      try simp (disch := omega) only [zset_o, zcpy_o]
      refine v_iast ok ly_220 rfl (by omega) (by decide) dX8_image_80 (n := 81) rfl ?_
      refine v_aload_0 ok dX8_image_81 (n := 82) rfl ?_
      refine v_aload_0 ok dX8_image_82 (n := 83) rfl ?_
      refine v_getI ok fd_X8_81 ly_200 rfl rfl (jI := 2) rfl dX8_image_83 (n := 86) rfl ?_
      try simp (disch := omega) only [zset_o, zcpy_o]
      refine v_putI ok fw_X8_218 ly_200 rfl rfl (jI := 20) rfl dX8_image_86 (n := 89) rfl ?_
      refine v_aload_0 ok dX8_image_89 (n := 90) rfl ?_
      refine v_aload_0 ok dX8_image_90 (n := 91) rfl ?_
      refine v_getI ok fd_X8_89 ly_200 rfl rfl (jI := 3) rfl dX8_image_91 (n := 94) rfl ?_
      try simp (disch := omega) only [zset_o, zcpy_o]
      refine v_putI ok fw_X8_221 ly_200 rfl rfl (jI := 21) rfl dX8_image_94 (n := 97) rfl ?_
      refine v_aload_0 ok dX8_image_97 (n := 98) rfl ?_
      refine v_iconst ok dX8_image_98 (n := 99) rfl ?_
      refine v_putZ ok fw_X8_224 (by omega) ly_200 rfl rfl (jI := 18) rfl dX8_image_99 (n := 102) rfl ?_
      refine v_iconst ok dX8_image_102 (n := 103) rfl ?_
      refine v_iret rt dX8_image_103 ?_
      rw [show k = 64 by omega]
      exact ⟨rfl, rfl⟩
    · have c31_1 := c31_1
      refine v_aload_0 ok dX8_image_34 (n := 35) rfl ?_
      refine v_getR ok fd_X8_48 ly_200 rfl rfl rfl rf_200_19 dX8_image_35 (n := 38) rfl ?_
      refine v_bipush ok (by decide) dX8_image_38 (n := 40) rfl ?_
      refine v_iload_1 ok dX8_image_40 (n := 41) rfl ?_
      refine v_iadd ok dX8_image_41 (n := 42) rfl ?_
      refine v_aload_0 ok dX8_image_42 (n := 43) rfl ?_
      refine v_getR ok fd_X8_13 ly_200 rfl rfl rfl rf_200_1 dX8_image_43 (n := 46) rfl ?_
      refine v_iload_1 ok dX8_image_46 (n := 47) rfl ?_
      refine v_iald ok ly_202 rfl (by omega) (by decide) dX8_image_47 (n := 48) rfl ?_
      try simp (disch := omega) only [zset_o, zcpy_o]
      refine v_iast ok ly_220 rfl (by omega) (by decide) dX8_image_48 (n := 49) rfl ?_
      rw [show M 202 k = (zcpy M 201 0 220 0 28) 202 (0 + k) by rw [zcpy_o (by omega), Int.zero_add], zcpy_s (by omega)]
      refine v_iinc_1 ok (by decide) rfl dX8_image_49 (n := 52) rfl ?_
      refine v_goto ok dX8_image_52 (n := 28) (by decide) ?_
      exact ih _ (by omega) _ rfl (by omega)
  have lp1 : ∀ (zn : Nat) (k : Int), zn = (28 - k).toNat → (0 ≤ k ∧ k ≤ 28) → zVV G γ (zw ad) (0, 0) 2 [some (zr 200), some (zi k)] [] (zcpy M 201 0 220 0 k) := by
    refine zrec _ (fun zn ih => ?_)
    intro k hzn hk
    refine v_iload_1 ok dX8_image_2 (n := 3) rfl ?_
    refine v_bipush ok (by decide) dX8_image_3 (n := 5) rfl ?_
    refine v_icmp_ge ok dX8_image_5 (tgt := 26) (by decide) (n := 8) rfl (by omega) (by omega) (fun c5_1 => ?_) (fun c5_1 => ?_)
    · have c5_1 := c5_1
      refine v_iconst ok dX8_image_26 (n := 27) rfl ?_
      refine v_istore_1 ok (by decide) rfl dX8_image_27 (n := 28) rfl ?_
      rw [show k = 28 by omega]
      have e := lp2 _ 0 rfl (by omega)
      rw [zcpy_0] at e
      exact e
    · have c5_1 := c5_1
      refine v_aload_0 ok dX8_image_8 (n := 9) rfl ?_
      refine v_getR ok fd_X8_48 ly_200 rfl rfl rfl rf_200_19 dX8_image_9 (n := 12) rfl ?_
      refine v_iload_1 ok dX8_image_12 (n := 13) rfl ?_
      refine v_aload_0 ok dX8_image_13 (n := 14) rfl ?_
      refine v_getR ok fd_X8_7 ly_200 rfl rfl rfl rf_200_0 dX8_image_14 (n := 17) rfl ?_
      refine v_iload_1 ok dX8_image_17 (n := 18) rfl ?_
      refine v_iald ok ly_201 rfl (by omega) (by decide) dX8_image_18 (n := 19) rfl ?_
      try simp (disch := omega) only [zset_o, zcpy_o]
      refine v_iast ok ly_220 rfl (by omega) (by decide) dX8_image_19 (n := 20) rfl ?_
      rw [show M 201 k = M 201 (0 + k) by rw [Int.zero_add], show zset (zcpy M 201 0 220 0 k) 220 k (M 201 (0 + k)) = zcpy M 201 0 220 0 (k + 1) by have e := zcpy_s (M := M) (rs := 201) (sp := 0) (rd := 220) (dp := 0) hk.1; rw [show (0 : Int) + k = k by omega] at e ⊢; exact e]
      refine v_iinc_1 ok (by decide) rfl dX8_image_20 (n := 23) rfl ?_
      refine v_goto ok dX8_image_23 (n := 2) (by decide) ?_
      exact ih _ (by omega) _ rfl (by omega)
  refine v_iconst ok dX8_image_0 (n := 1) rfl ?_
  refine v_istore_1 ok (by decide) rfl dX8_image_1 (n := 2) rfl ?_
  have e := lp1 _ 0 rfl (by omega)
  rw [zcpy_0] at e
  exact e

set_option maxHeartbeats 4000000 in
set_option maxRecDepth 100000 in
theorem u_restore {G : zG} {ad : Int → Nat} {M : zM} (hk : M 200 18 = 0 ∨ M 200 18 = 1)  : zTI G (zw ad) mi_X8_restore [zr 200] M (fun x M' => (M 200 18 = 0 ∧ x = -4 ∧ M' = M) ∨ (M 200 18 = 1 ∧ x = 1 ∧ M' = zset (zset (zset (zset (zcpy (zcpy M 220 0 201 0 28) 220 28 202 0 64) 205 0 (M 220 92)) 205 1 (M 220 93)) 200 2 (M 200 20)) 200 3 (M 200 21))) := by
  refine zTI.of (own := RX8) (ls := [some (zr 200), none]) (by decide +kernel) rfl rfl (Nat.le_of_ble_eq_true rfl) (fun γ ok rt => ?_)
  refine v_aload_0 ok dX8_restore_0 (n := 1) rfl ?_
  refine v_getI ok fd_X8_224 ly_200 rfl rfl (jI := 18) rfl dX8_restore_1 (n := 4) rfl ?_
  refine v_if_ne ok dX8_restore_4 (tgt := 10) (by decide) (n := 7) rfl (by omega) (fun c4_1 => ?_) (fun c4_1 => ?_)
  · have c4_1 := c4_1
    have hk1 : M 200 18 = 1 := by omega
    have lp2 : ∀ (zn : Nat) (k : Int), zn = (64 - k).toNat → (0 ≤ k ∧ k ≤ 64) → zVV G γ (zw ad) (0, 0) 38 [some (zr 200), some (zi k)] [] (zcpy (zcpy M 220 0 201 0 28) 220 28 202 0 k) := by
      refine zrec _ (fun zn ih => ?_)
      intro k hzn hk
      refine v_iload_1 ok dX8_restore_38 (n := 39) rfl ?_
      refine v_bipush ok (by decide) dX8_restore_39 (n := 41) rfl ?_
      refine v_icmp_ge ok dX8_restore_41 (tgt := 65) (by decide) (n := 44) rfl (by omega) (by omega) (fun c41_1 => ?_) (fun c41_1 => ?_)
      · have c41_1 := c41_1
        refine v_aload_0 ok dX8_restore_65 (n := 66) rfl ?_
        refine v_getR ok fd_X8_16 ly_200 rfl rfl rfl rf_200_4 dX8_restore_66 (n := 69) rfl ?_
        refine v_iconst ok dX8_restore_69 (n := 70) rfl ?_
        refine v_aload_0 ok dX8_restore_70 (n := 71) rfl ?_
        refine v_getR ok fd_X8_48 ly_200 rfl rfl rfl rf_200_19 dX8_restore_71 (n := 74) rfl ?_
        refine v_bipush ok (by decide) dX8_restore_74 (n := 76) rfl ?_
        refine v_iald ok ly_220 rfl (by omega) (by decide) dX8_restore_76 (n := 77) rfl ?_
        try simp (disch := omega) only [zset_o, zset_ne, zcpy_o]
        refine v_iast ok ly_205 rfl (by omega) (by decide) dX8_restore_77 (n := 78) rfl ?_
        refine v_aload_0 ok dX8_restore_78 (n := 79) rfl ?_
        refine v_getR ok fd_X8_16 ly_200 rfl rfl rfl rf_200_4 dX8_restore_79 (n := 82) rfl ?_
        refine v_iconst ok dX8_restore_82 (n := 83) rfl ?_
        refine v_aload_0 ok dX8_restore_83 (n := 84) rfl ?_
        refine v_getR ok fd_X8_48 ly_200 rfl rfl rfl rf_200_19 dX8_restore_84 (n := 87) rfl ?_
        refine v_bipush ok (by decide) dX8_restore_87 (n := 89) rfl ?_
        refine v_iald ok ly_220 rfl (by omega) (by decide) dX8_restore_89 (n := 90) rfl ?_
        try simp (disch := omega) only [zset_o, zset_ne, zcpy_o]
        refine v_iast ok ly_205 rfl (by omega) (by decide) dX8_restore_90 (n := 91) rfl ?_
        refine v_aload_0 ok dX8_restore_91 (n := 92) rfl ?_
        refine v_aload_0 ok dX8_restore_92 (n := 93) rfl ?_
        refine v_getI ok fd_X8_218 ly_200 rfl rfl (jI := 20) rfl dX8_restore_93 (n := 96) rfl ?_
        try simp (disch := omega) only [zset_o, zset_ne, zcpy_o]
        refine v_putI ok fw_X8_81 ly_200 rfl rfl (jI := 2) rfl dX8_restore_96 (n := 99) rfl ?_
        refine v_aload_0 ok dX8_restore_99 (n := 100) rfl ?_
        refine v_aload_0 ok dX8_restore_100 (n := 101) rfl ?_
        refine v_getI ok fd_X8_221 ly_200 rfl rfl (jI := 21) rfl dX8_restore_101 (n := 104) rfl ?_
        try simp (disch := omega) only [zset_o, zset_ne, zcpy_o]
        refine v_putI ok fw_X8_89 ly_200 rfl rfl (jI := 3) rfl dX8_restore_104 (n := 107) rfl ?_
        refine v_iconst ok dX8_restore_107 (n := 108) rfl ?_
        refine v_iret rt dX8_restore_108 ?_
        rw [show k = 64 by omega]
        exact Or.inr ⟨by omega, rfl, rfl⟩
      · have c41_1 := c41_1
        refine v_aload_0 ok dX8_restore_44 (n := 45) rfl ?_
        refine v_getR ok fd_X8_13 ly_200 rfl rfl rfl rf_200_1 dX8_restore_45 (n := 48) rfl ?_
        refine v_iload_1 ok dX8_restore_48 (n := 49) rfl ?_
        refine v_aload_0 ok dX8_restore_49 (n := 50) rfl ?_
        refine v_getR ok fd_X8_48 ly_200 rfl rfl rfl rf_200_19 dX8_restore_50 (n := 53) rfl ?_
        refine v_bipush ok (by decide) dX8_restore_53 (n := 55) rfl ?_
        refine v_iload_1 ok dX8_restore_55 (n := 56) rfl ?_
        refine v_iadd ok dX8_restore_56 (n := 57) rfl ?_
        refine v_iald ok ly_220 rfl (by omega) (by decide) dX8_restore_57 (n := 58) rfl ?_
        try simp (disch := omega) only [zset_o, zset_ne, zcpy_o]
        refine v_iast ok ly_202 rfl (by omega) (by decide) dX8_restore_58 (n := 59) rfl ?_
        rw [show M 220 (28 + k) = (zcpy M 220 0 201 0 28) 220 (28 + k) by rw [zcpy_o (by omega)], show zset (zcpy (zcpy M 220 0 201 0 28) 220 28 202 0 k) 202 k ((zcpy M 220 0 201 0 28) 220 (28 + k)) = zcpy (zcpy M 220 0 201 0 28) 220 28 202 0 (k + 1) by have e := zcpy_s (M := (zcpy M 220 0 201 0 28)) (rs := 220) (sp := 28) (rd := 202) (dp := 0) hk.1; rw [show (0 : Int) + k = k by omega] at e; exact e]
        refine v_iinc_1 ok (by decide) rfl dX8_restore_59 (n := 62) rfl ?_
        refine v_goto ok dX8_restore_62 (n := 38) (by decide) ?_
        exact ih _ (by omega) _ rfl (by omega)
    have lp1 : ∀ (zn : Nat) (k : Int), zn = (28 - k).toNat → (0 ≤ k ∧ k ≤ 28) → zVV G γ (zw ad) (0, 0) 12 [some (zr 200), some (zi k)] [] (zcpy M 220 0 201 0 k) := by
      refine zrec _ (fun zn ih => ?_)
      intro k hzn hk
      refine v_iload_1 ok dX8_restore_12 (n := 13) rfl ?_
      refine v_bipush ok (by decide) dX8_restore_13 (n := 15) rfl ?_
      refine v_icmp_ge ok dX8_restore_15 (tgt := 36) (by decide) (n := 18) rfl (by omega) (by omega) (fun c15_1 => ?_) (fun c15_1 => ?_)
      · have c15_1 := c15_1
        refine v_iconst ok dX8_restore_36 (n := 37) rfl ?_
        refine v_istore_1 ok (by decide) rfl dX8_restore_37 (n := 38) rfl ?_
        rw [show k = 28 by omega]
        have e := lp2 _ 0 rfl (by omega)
        rw [zcpy_0] at e
        exact e
      · have c15_1 := c15_1
        refine v_aload_0 ok dX8_restore_18 (n := 19) rfl ?_
        refine v_getR ok fd_X8_7 ly_200 rfl rfl rfl rf_200_0 dX8_restore_19 (n := 22) rfl ?_
        refine v_iload_1 ok dX8_restore_22 (n := 23) rfl ?_
        refine v_aload_0 ok dX8_restore_23 (n := 24) rfl ?_
        refine v_getR ok fd_X8_48 ly_200 rfl rfl rfl rf_200_19 dX8_restore_24 (n := 27) rfl ?_
        refine v_iload_1 ok dX8_restore_27 (n := 28) rfl ?_
        refine v_iald ok ly_220 rfl (by omega) (by decide) dX8_restore_28 (n := 29) rfl ?_
        try simp (disch := omega) only [zset_o, zcpy_o]
        refine v_iast ok ly_201 rfl (by omega) (by decide) dX8_restore_29 (n := 30) rfl ?_
        rw [show M 220 k = M 220 (0 + k) by rw [Int.zero_add], show zset (zcpy M 220 0 201 0 k) 201 k (M 220 (0 + k)) = zcpy M 220 0 201 0 (k + 1) by have e := zcpy_s (M := M) (rs := 220) (sp := 0) (rd := 201) (dp := 0) hk.1; rw [show (0 : Int) + k = k by omega] at e ⊢; exact e]
        refine v_iinc_1 ok (by decide) rfl dX8_restore_30 (n := 33) rfl ?_
        refine v_goto ok dX8_restore_33 (n := 12) (by decide) ?_
        exact ih _ (by omega) _ rfl (by omega)
    refine v_iconst ok dX8_restore_10 (n := 11) rfl ?_
    refine v_istore_1 ok (by decide) rfl dX8_restore_11 (n := 12) rfl ?_
    have e := lp1 _ 0 rfl (by omega)
    rw [zcpy_0] at e
    exact e
  · have c4_1 := c4_1
    refine v_bipush ok (by decide) dX8_restore_7 (n := 9) rfl ?_
    refine v_iret rt dX8_restore_9 ?_
    exact Or.inl ⟨by omega, rfl, rfl⟩

set_option maxHeartbeats 4000000 in
set_option maxRecDepth 100000 in
theorem u_copy {G : zG} {ad : Int → Nat} {M : zM} {a i c j n : Int} (ha : -2147483648 ≤ a ∧ a ≤ 2147483647) (hi : -2147483648 ≤ i ∧ i ≤ 2147483647) (hc : -2147483648 ≤ c ∧ c ≤ 2147483647) (hj : -2147483648 ≤ j ∧ j ≤ 2147483647) (hn : -2147483648 ≤ n ∧ n ≤ 2147483647) (hla : ∀ j, 0 ≤ j ∧ j < 4 → -1 ≤ M 223 j ∧ M 223 j ≤ 2) (hln : ∀ j, 0 ≤ j ∧ j < 4 → 0 ≤ M 224 j ∧ M 224 j ≤ 100)  : zTI G (zw ad) mi_X8_copy [zr 200, zi a, zi i, zi c, zi j, zi n] M (fun x M' => ((¬ ((0 ≤ a ∧ a ≤ 3) ∧ (0 ≤ c ∧ c ≤ 3))) ∧ x = -1 ∧ M' = M) ∨ ((((0 ≤ a ∧ a ≤ 3) ∧ (0 ≤ c ∧ c ≤ 3)) ∧ (M 223 a < 0 ∨ M 223 c < 0)) ∧ x = -11 ∧ M' = M) ∨ ((((0 ≤ a ∧ a ≤ 3) ∧ (0 ≤ c ∧ c ≤ 3)) ∧ (0 ≤ M 223 a ∧ 0 ≤ M 223 c) ∧ M 223 a ≠ M 223 c) ∧ x = -12 ∧ M' = M) ∨ ((((0 ≤ a ∧ a ≤ 3) ∧ (0 ≤ c ∧ c ≤ 3)) ∧ (0 ≤ M 223 a ∧ M 223 a = M 223 c) ∧ ¬ (0 ≤ n ∧ (0 ≤ i ∧ i ≤ M 224 a - n) ∧ (0 ≤ j ∧ j ≤ M 224 c - n))) ∧ x = -13 ∧ M' = M) ∨ ((((0 ≤ a ∧ a ≤ 3) ∧ (0 ≤ c ∧ c ≤ 3)) ∧ (0 ≤ M 223 a ∧ M 223 a = M 223 c) ∧ (0 ≤ n ∧ (0 ≤ i ∧ i ≤ M 224 a - n) ∧ (0 ≤ j ∧ j ≤ M 224 c - n))) ∧ x = n ∧ M' = (zcpy (zcpy M 225 (100 * a + i) 226 0 n) 226 0 225 (100 * c + j) n))) := by
  refine zTI.of (own := RX8) (ls := [some (zr 200), some (zi a), some (zi i), some (zi c), some (zi j), some (zi n), none]) (by decide +kernel) rfl rfl (Nat.le_of_ble_eq_true rfl) (fun γ ok rt => ?_)
  refine v_iload_1 ok dX8_copy_0 (n := 1) rfl ?_
  refine v_i2l ok (by omega) dX8_copy_1 (n := 2) rfl ?_
  refine v_lconst0 ok dX8_copy_2 (n := 3) rfl ?_
  refine v_ldc2 ok (c := 3) kc_X8_108 (by decide) dX8_copy_3 (n := 6) rfl ?_
  refine v_callSI ok (mi := mi_X8_in) mc_X8_in cs_X8_85 (by decide) ⟨Nat.zero_le _, Nat.zero_le _⟩ dX8_copy_6 (n := 9) rfl rfl rfl (Nat.le_of_ble_eq_true rfl) (u_in (by omega) (by omega) (by omega)) (fun x5 M5 h5 => ?_)
  obtain ⟨e5_, h5⟩ := h5
  subst M5
  refine v_if_eq ok dX8_copy_9 (tgt := 24) (by decide) (n := 12) rfl (by omega) (fun c9_1 => ?_) (fun c9_1 => ?_)
  · have c9_1 := c9_1
    refine v_iconst ok dX8_copy_24 (n := 25) rfl ?_
    refine v_iret rt dX8_copy_25 ?_
    exact (Or.inl ⟨by omega, by first | rfl | omega | (simp (disch := omega) only [zset_ne, zset_eq]), by first | rfl | omega | (simp (disch := omega) only [zset_ne, zset_eq])⟩)
  · have c9_1 := c9_1
    refine v_iload_3 ok dX8_copy_12 (n := 13) rfl ?_
    refine v_i2l ok (by omega) dX8_copy_13 (n := 14) rfl ?_
    refine v_lconst0 ok dX8_copy_14 (n := 15) rfl ?_
    refine v_ldc2 ok (c := 3) kc_X8_108 (by decide) dX8_copy_15 (n := 18) rfl ?_
    refine v_callSI ok (mi := mi_X8_in) mc_X8_in cs_X8_85 (by decide) ⟨Nat.zero_le _, Nat.zero_le _⟩ dX8_copy_18 (n := 21) rfl rfl rfl (Nat.le_of_ble_eq_true rfl) (u_in (by omega) (by omega) (by omega)) (fun x6 M6 h6 => ?_)
    obtain ⟨e6_, h6⟩ := h6
    subst M6
    refine v_if_ne ok dX8_copy_21 (tgt := 26) (by decide) (n := 24) rfl (by omega) (fun c21_2 => ?_) (fun c21_2 => ?_)
    · have c21_2 := c21_2
      have q1 := hla a (by omega)
      have q2 := hla c (by omega)
      have q3 := hln a (by omega)
      have q4 := hln c (by omega)
      refine v_aload_0 ok dX8_copy_26 (n := 27) rfl ?_
      refine v_getR ok fd_X8_51 ly_200 rfl rfl rfl rf_200_22 dX8_copy_27 (n := 30) rfl ?_
      refine v_iload_1 ok dX8_copy_30 (n := 31) rfl ?_
      refine v_iald ok ly_223 rfl (by omega) (by decide) dX8_copy_31 (n := 32) rfl ?_
      refine v_if_lt ok dX8_copy_32 (tgt := 44) (by decide) (n := 35) rfl (by omega) (fun c32_3 => ?_) (fun c32_3 => ?_)
      · have c32_3 := c32_3
        refine v_bipush ok (by decide) dX8_copy_44 (n := 46) rfl ?_
        refine v_iret rt dX8_copy_46 ?_
        exact (Or.inr (Or.inl ⟨by omega, by first | rfl | omega | (simp (disch := omega) only [zset_ne, zset_eq]), by first | rfl | omega | (simp (disch := omega) only [zset_ne, zset_eq])⟩))
      · have c32_3 := c32_3
        refine v_aload_0 ok dX8_copy_35 (n := 36) rfl ?_
        refine v_getR ok fd_X8_51 ly_200 rfl rfl rfl rf_200_22 dX8_copy_36 (n := 39) rfl ?_
        refine v_iload_3 ok dX8_copy_39 (n := 40) rfl ?_
        refine v_iald ok ly_223 rfl (by omega) (by decide) dX8_copy_40 (n := 41) rfl ?_
        refine v_if_ge ok dX8_copy_41 (tgt := 47) (by decide) (n := 44) rfl (by omega) (fun c41_4 => ?_) (fun c41_4 => ?_)
        · have c41_4 := c41_4
          refine v_aload_0 ok dX8_copy_47 (n := 48) rfl ?_
          refine v_getR ok fd_X8_51 ly_200 rfl rfl rfl rf_200_22 dX8_copy_48 (n := 51) rfl ?_
          refine v_iload_1 ok dX8_copy_51 (n := 52) rfl ?_
          refine v_iald ok ly_223 rfl (by omega) (by decide) dX8_copy_52 (n := 53) rfl ?_
          refine v_aload_0 ok dX8_copy_53 (n := 54) rfl ?_
          refine v_getR ok fd_X8_51 ly_200 rfl rfl rfl rf_200_22 dX8_copy_54 (n := 57) rfl ?_
          refine v_iload_3 ok dX8_copy_57 (n := 58) rfl ?_
          refine v_iald ok ly_223 rfl (by omega) (by decide) dX8_copy_58 (n := 59) rfl ?_
          refine v_icmp_eq ok dX8_copy_59 (tgt := 65) (by decide) (n := 62) rfl (by omega) (by omega) (fun c59_5 => ?_) (fun c59_5 => ?_)
          · have c59_5 := c59_5
            refine v_iload_5 ok dX8_copy_65 (n := 67) rfl ?_
            refine v_if_lt ok dX8_copy_67 (tgt := 111) (by decide) (n := 70) rfl (by omega) (fun c67_6 => ?_) (fun c67_6 => ?_)
            · have c67_6 := c67_6
              refine v_bipush ok (by decide) dX8_copy_111 (n := 113) rfl ?_
              refine v_iret rt dX8_copy_113 ?_
              exact (Or.inr (Or.inr (Or.inr (Or.inl ⟨by omega, by first | rfl | omega | (simp (disch := omega) only [zset_ne, zset_eq]), by first | rfl | omega | (simp (disch := omega) only [zset_ne, zset_eq])⟩))))
            · have c67_6 := c67_6
              refine v_iload_2 ok dX8_copy_70 (n := 71) rfl ?_
              refine v_i2l ok (by omega) dX8_copy_71 (n := 72) rfl ?_
              refine v_lconst0 ok dX8_copy_72 (n := 73) rfl ?_
              refine v_aload_0 ok dX8_copy_73 (n := 74) rfl ?_
              refine v_getR ok fd_X8_54 ly_200 rfl rfl rfl rf_200_23 dX8_copy_74 (n := 77) rfl ?_
              refine v_iload_1 ok dX8_copy_77 (n := 78) rfl ?_
              refine v_iald ok ly_224 rfl (by omega) (by decide) dX8_copy_78 (n := 79) rfl ?_
              refine v_i2l ok (by omega) dX8_copy_79 (n := 80) rfl ?_
              refine v_iload_5 ok dX8_copy_80 (n := 82) rfl ?_
              refine v_i2l ok (by omega) dX8_copy_82 (n := 83) rfl ?_
              refine v_lsub ok dX8_copy_83 (n := 84) rfl ?_
              refine v_callSI ok (mi := mi_X8_in) mc_X8_in cs_X8_85 (by decide) ⟨Nat.zero_le _, Nat.zero_le _⟩ dX8_copy_84 (n := 87) rfl rfl rfl (Nat.le_of_ble_eq_true rfl) (u_in (by omega) (by omega) (by omega)) (fun x7 M7 h7 => ?_)
              obtain ⟨e7_, h7⟩ := h7
              subst M7
              refine v_if_eq ok dX8_copy_87 (tgt := 111) (by decide) (n := 90) rfl (by omega) (fun c87_7 => ?_) (fun c87_7 => ?_)
              · have c87_7 := c87_7
                refine v_bipush ok (by decide) dX8_copy_111 (n := 113) rfl ?_
                refine v_iret rt dX8_copy_113 ?_
                exact (Or.inr (Or.inr (Or.inr (Or.inl ⟨by omega, by first | rfl | omega | (simp (disch := omega) only [zset_ne, zset_eq]), by first | rfl | omega | (simp (disch := omega) only [zset_ne, zset_eq])⟩))))
              · have c87_7 := c87_7
                refine v_iload_4 ok dX8_copy_90 (n := 92) rfl ?_
                refine v_i2l ok (by omega) dX8_copy_92 (n := 93) rfl ?_
                refine v_lconst0 ok dX8_copy_93 (n := 94) rfl ?_
                refine v_aload_0 ok dX8_copy_94 (n := 95) rfl ?_
                refine v_getR ok fd_X8_54 ly_200 rfl rfl rfl rf_200_23 dX8_copy_95 (n := 98) rfl ?_
                refine v_iload_3 ok dX8_copy_98 (n := 99) rfl ?_
                refine v_iald ok ly_224 rfl (by omega) (by decide) dX8_copy_99 (n := 100) rfl ?_
                refine v_i2l ok (by omega) dX8_copy_100 (n := 101) rfl ?_
                refine v_iload_5 ok dX8_copy_101 (n := 103) rfl ?_
                refine v_i2l ok (by omega) dX8_copy_103 (n := 104) rfl ?_
                refine v_lsub ok dX8_copy_104 (n := 105) rfl ?_
                refine v_callSI ok (mi := mi_X8_in) mc_X8_in cs_X8_85 (by decide) ⟨Nat.zero_le _, Nat.zero_le _⟩ dX8_copy_105 (n := 108) rfl rfl rfl (Nat.le_of_ble_eq_true rfl) (u_in (by omega) (by omega) (by omega)) (fun x8 M8 h8 => ?_)
                obtain ⟨e8_, h8⟩ := h8
                subst M8
                refine v_if_ne ok dX8_copy_108 (tgt := 114) (by decide) (n := 111) rfl (by omega) (fun c108_8 => ?_) (fun c108_8 => ?_)
                · have c108_8 := c108_8
                  have lp2 : ∀ (zn : Nat) (k : Int), zn = (100 - k).toNat → (0 ≤ k ∧ k ≤ n) → zVV G γ (zw ad) (0, 0) 154 [some (zr 200), some (zi a), some (zi i), some (zi c), some (zi j), some (zi n), some (zi k)] [] (zcpy (zcpy M 225 (100 * a + i) 226 0 n) 226 0 225 (100 * c + j) k) := by
                    refine zrec _ (fun zn ih => ?_)
                    intro k hzn hk
                    refine v_iload_6 ok dX8_copy_154 (n := 156) rfl ?_
                    refine v_iload_5 ok dX8_copy_156 (n := 158) rfl ?_
                    refine v_icmp_ge ok dX8_copy_158 (tgt := 189) (by decide) (n := 161) rfl (by omega) (by omega) (fun c158_1 => ?_) (fun c158_1 => ?_)
                    · have c158_1 := c158_1
                      refine v_iload_5 ok dX8_copy_189 (n := 191) rfl ?_
                      refine v_iret rt dX8_copy_191 ?_
                      rw [show k = n by omega]
                      exact Or.inr (Or.inr (Or.inr (Or.inr ⟨by omega, rfl, rfl⟩)))
                    · have c158_1 := c158_1
                      refine v_aload_0 ok dX8_copy_161 (n := 162) rfl ?_
                      refine v_getR ok fd_X8_57 ly_200 rfl rfl rfl rf_200_24 dX8_copy_162 (n := 165) rfl ?_
                      refine v_bipush ok (by decide) dX8_copy_165 (n := 167) rfl ?_
                      refine v_iload_3 ok dX8_copy_167 (n := 168) rfl ?_
                      refine v_imul ok dX8_copy_168 (n := 169) rfl ?_
                      refine v_iload_4 ok dX8_copy_169 (n := 171) rfl ?_
                      refine v_iadd ok dX8_copy_171 (n := 172) rfl ?_
                      refine v_iload_6 ok dX8_copy_172 (n := 174) rfl ?_
                      refine v_iadd ok dX8_copy_174 (n := 175) rfl ?_
                      refine v_aload_0 ok dX8_copy_175 (n := 176) rfl ?_
                      refine v_getR ok fd_X8_60 ly_200 rfl rfl rfl rf_200_25 dX8_copy_176 (n := 179) rfl ?_
                      refine v_iload_6 ok dX8_copy_179 (n := 181) rfl ?_
                      refine v_iald ok ly_226 rfl (by omega) (by decide) dX8_copy_181 (n := 182) rfl ?_
                      rw [show zcpy (zcpy M 225 (100 * a + i) 226 0 n) 226 0 225 (100 * c + j) k 226 k = (zcpy M 225 (100 * a + i) 226 0 n) 226 (0 + k) by rw [zcpy_o (by omega), Int.zero_add]]
                      refine v_iast ok ly_225 rfl (by omega) (by decide) dX8_copy_182 (n := 183) rfl ?_
                      rw [zcpy_s (by omega)]
                      refine v_iinc_6 ok (by decide) rfl dX8_copy_183 (n := 186) rfl ?_
                      refine v_goto ok dX8_copy_186 (n := 154) (by decide) ?_
                      exact ih _ (by omega) _ rfl (by omega)
                  have lp1 : ∀ (zn : Nat) (k : Int), zn = (100 - k).toNat → (0 ≤ k ∧ k ≤ n) → zVV G γ (zw ad) (0, 0) 117 [some (zr 200), some (zi a), some (zi i), some (zi c), some (zi j), some (zi n), some (zi k)] [] (zcpy M 225 (100 * a + i) 226 0 k) := by
                    refine zrec _ (fun zn ih => ?_)
                    intro k hzn hk
                    refine v_iload_6 ok dX8_copy_117 (n := 119) rfl ?_
                    refine v_iload_5 ok dX8_copy_119 (n := 121) rfl ?_
                    refine v_icmp_ge ok dX8_copy_121 (tgt := 151) (by decide) (n := 124) rfl (by omega) (by omega) (fun c121_1 => ?_) (fun c121_1 => ?_)
                    · have c121_1 := c121_1
                      refine v_iconst ok dX8_copy_151 (n := 152) rfl ?_
                      refine v_istore_6 ok (by decide) rfl dX8_copy_152 (n := 154) rfl ?_
                      rw [show k = n by omega]
                      have e := lp2 _ 0 rfl (by omega)
                      rw [zcpy_0] at e
                      exact e
                    · have c121_1 := c121_1
                      refine v_aload_0 ok dX8_copy_124 (n := 125) rfl ?_
                      refine v_getR ok fd_X8_60 ly_200 rfl rfl rfl rf_200_25 dX8_copy_125 (n := 128) rfl ?_
                      refine v_iload_6 ok dX8_copy_128 (n := 130) rfl ?_
                      refine v_aload_0 ok dX8_copy_130 (n := 131) rfl ?_
                      refine v_getR ok fd_X8_57 ly_200 rfl rfl rfl rf_200_24 dX8_copy_131 (n := 134) rfl ?_
                      refine v_bipush ok (by decide) dX8_copy_134 (n := 136) rfl ?_
                      refine v_iload_1 ok dX8_copy_136 (n := 137) rfl ?_
                      refine v_imul ok dX8_copy_137 (n := 138) rfl ?_
                      refine v_iload_2 ok dX8_copy_138 (n := 139) rfl ?_
                      refine v_iadd ok dX8_copy_139 (n := 140) rfl ?_
                      refine v_iload_6 ok dX8_copy_140 (n := 142) rfl ?_
                      refine v_iadd ok dX8_copy_142 (n := 143) rfl ?_
                      refine v_iald ok ly_225 rfl (by omega) (by decide) dX8_copy_143 (n := 144) rfl ?_
                      try simp (disch := omega) only [zcpy_o]
                      refine v_iast ok ly_226 rfl (by omega) (by decide) dX8_copy_144 (n := 145) rfl ?_
                      rw [show zset (zcpy M 225 (100 * a + i) 226 0 k) 226 k (M 225 (100 * a + i + k)) = zcpy M 225 (100 * a + i) 226 0 (k + 1) by have e := zcpy_s (M := M) (rs := 225) (sp := 100 * a + i) (rd := 226) (dp := 0) hk.1; rw [show (0 : Int) + k = k by omega] at e; exact e]
                      refine v_iinc_6 ok (by decide) rfl dX8_copy_145 (n := 148) rfl ?_
                      refine v_goto ok dX8_copy_148 (n := 117) (by decide) ?_
                      exact ih _ (by omega) _ rfl (by omega)
                  refine v_iconst ok dX8_copy_114 (n := 115) rfl ?_
                  refine v_istore_6 ok (by decide) rfl dX8_copy_115 (n := 117) rfl ?_
                  have e := lp1 _ 0 rfl (by omega)
                  rw [zcpy_0] at e
                  exact e
                · have c108_8 := c108_8
                  refine v_bipush ok (by decide) dX8_copy_111 (n := 113) rfl ?_
                  refine v_iret rt dX8_copy_113 ?_
                  exact (Or.inr (Or.inr (Or.inr (Or.inl ⟨by omega, by first | rfl | omega | (simp (disch := omega) only [zset_ne, zset_eq]), by first | rfl | omega | (simp (disch := omega) only [zset_ne, zset_eq])⟩))))
          · have c59_5 := c59_5
            refine v_bipush ok (by decide) dX8_copy_62 (n := 64) rfl ?_
            refine v_iret rt dX8_copy_64 ?_
            exact (Or.inr (Or.inr (Or.inl ⟨by omega, by first | rfl | omega | (simp (disch := omega) only [zset_ne, zset_eq]), by first | rfl | omega | (simp (disch := omega) only [zset_ne, zset_eq])⟩)))
        · have c41_4 := c41_4
          refine v_bipush ok (by decide) dX8_copy_44 (n := 46) rfl ?_
          refine v_iret rt dX8_copy_46 ?_
          exact (Or.inr (Or.inl ⟨by omega, by first | rfl | omega | (simp (disch := omega) only [zset_ne, zset_eq]), by first | rfl | omega | (simp (disch := omega) only [zset_ne, zset_eq])⟩))
    · have c21_2 := c21_2
      refine v_iconst ok dX8_copy_24 (n := 25) rfl ?_
      refine v_iret rt dX8_copy_25 ?_
      exact (Or.inl ⟨by omega, by first | rfl | omega | (simp (disch := omega) only [zset_ne, zset_eq]), by first | rfl | omega | (simp (disch := omega) only [zset_ne, zset_eq])⟩)

set_option maxHeartbeats 4000000 in
set_option maxRecDepth 100000 in
theorem u_count {G : zG} {ad : Int → Nat} {M : zM} {v : Int} (hv : -2147483648 ≤ v ∧ v ≤ 2147483647) (hns : 0 ≤ M 200 3 ∧ M 200 3 ≤ 16) (hS : ∀ s, 0 ≤ s ∧ s < M 200 3 → zMS M s)  : zTI G (zw ad) mi_X8_count [zr 200, zi v] M (fun x M' => ((v = 0) ∧ x = M 200 2 ∧ M' = M) ∨ ((v = 1) ∧ x = M 200 3 ∧ M' = M) ∨ ((v = 2) ∧ x = zcnt (fun s => M 202 (4 * s) = 0 ∧ M 202 (4 * s + 3) = 0)  (M 200 3).toNat ∧ M' = M) ∨ ((v = 3) ∧ x = zcnt (fun s => M 202 (4 * s) = 1 ∧ M 202 (4 * s + 3) = 0)  (M 200 3).toNat ∧ M' = M) ∨ ((v = 4) ∧ x = M 200 3 - zcnt (fun s => M 202 (4 * s) = 0 ∧ M 202 (4 * s + 3) = 0)  (M 200 3).toNat - zcnt (fun s => M 202 (4 * s) = 1 ∧ M 202 (4 * s + 3) = 0)  (M 200 3).toNat ∧ M' = M) ∨ ((v < 0 ∨ 4 < v) ∧ x = -1 ∧ M' = M)) := by
  refine zTI.of (own := RX8) (ls := [some (zr 200), some (zi v), none, none, none, none]) (by decide +kernel) rfl rfl (Nat.le_of_ble_eq_true rfl) (fun γ ok rt => ?_)
  have lp : ∀ (zn : Nat) (s : Int), zn = (16 - s).toNat → (0 ≤ s ∧ s ≤ M 200 3) → zVV G γ (zw ad) (0, 0) 10 [some (zr 200), some (zi v), some (zi (zcnt (fun s => M 202 (4 * s) = 0 ∧ M 202 (4 * s + 3) = 0)  s.toNat)), some (zi (zcnt (fun s => M 202 (4 * s) = 1 ∧ M 202 (4 * s + 3) = 0)  s.toNat)), some (zi (s - zcnt (fun s => M 202 (4 * s) = 0 ∧ M 202 (4 * s + 3) = 0)  s.toNat - zcnt (fun s => M 202 (4 * s) = 1 ∧ M 202 (4 * s + 3) = 0)  s.toNat)), some (zi s)] [] M := by
    refine zrec _ (fun zn ih => ?_)
    intro s hzn hs
    refine v_iload_5 ok dX8_count_10 (n := 12) rfl ?_
    refine v_aload_0 ok dX8_count_12 (n := 13) rfl ?_
    refine v_getI ok fd_X8_89 ly_200 rfl rfl (jI := 3) rfl dX8_count_13 (n := 16) rfl ?_
    refine v_icmp_ge ok dX8_count_16 (tgt := 106) (by decide) (n := 19) rfl (by omega) (by omega) (fun c16_1 => ?_) (fun c16_1 => ?_)
    · have c16_1 := c16_1
      rw [show s = M 200 3 by omega]
      refine v_iload_1 ok dX8_count_106 (n := 107) rfl ?_
      refine v_if_ne ok dX8_count_107 (tgt := 117) (by decide) (n := 110) rfl (by omega) (fun c107_2 => ?_) (fun c107_2 => ?_)
      · have c107_2 := c107_2
        refine v_iload_1 ok dX8_count_117 (n := 118) rfl ?_
        refine v_iconst ok dX8_count_118 (n := 119) rfl ?_
        refine v_icmp_ne ok dX8_count_119 (tgt := 129) (by decide) (n := 122) rfl (by omega) (by omega) (fun c119_3 => ?_) (fun c119_3 => ?_)
        · have c119_3 := c119_3
          refine v_iload_1 ok dX8_count_129 (n := 130) rfl ?_
          refine v_iconst ok dX8_count_130 (n := 131) rfl ?_
          refine v_icmp_ne ok dX8_count_131 (tgt := 138) (by decide) (n := 134) rfl (by omega) (by omega) (fun c131_4 => ?_) (fun c131_4 => ?_)
          · have c131_4 := c131_4
            refine v_iload_1 ok dX8_count_138 (n := 139) rfl ?_
            refine v_iconst ok dX8_count_139 (n := 140) rfl ?_
            refine v_icmp_ne ok dX8_count_140 (tgt := 147) (by decide) (n := 143) rfl (by omega) (by omega) (fun c140_5 => ?_) (fun c140_5 => ?_)
            · have c140_5 := c140_5
              refine v_iload_1 ok dX8_count_147 (n := 148) rfl ?_
              refine v_iconst ok dX8_count_148 (n := 149) rfl ?_
              refine v_icmp_ne ok dX8_count_149 (tgt := 157) (by decide) (n := 152) rfl (by omega) (by omega) (fun c149_6 => ?_) (fun c149_6 => ?_)
              · have c149_6 := c149_6
                refine v_iconst ok dX8_count_157 (n := 158) rfl ?_
                refine v_iret rt dX8_count_158 ?_
                first
                | exact Or.inl ⟨by omega, rfl, rfl⟩
                | exact Or.inr (Or.inl ⟨by omega, rfl, rfl⟩)
                | exact Or.inr (Or.inr (Or.inl ⟨by omega, rfl, rfl⟩))
                | exact Or.inr (Or.inr (Or.inr (Or.inl ⟨by omega, rfl, rfl⟩)))
                | exact Or.inr (Or.inr (Or.inr (Or.inr (Or.inl ⟨by omega, rfl, rfl⟩))))
                | exact Or.inr (Or.inr (Or.inr (Or.inr (Or.inr ⟨by omega, rfl, rfl⟩))))
              · have c149_6 := c149_6
                refine v_iload_4 ok dX8_count_152 (n := 154) rfl ?_
                refine v_goto ok dX8_count_154 (n := 158) (by decide) ?_
                refine v_iret rt dX8_count_158 ?_
                first
                | exact Or.inl ⟨by omega, rfl, rfl⟩
                | exact Or.inr (Or.inl ⟨by omega, rfl, rfl⟩)
                | exact Or.inr (Or.inr (Or.inl ⟨by omega, rfl, rfl⟩))
                | exact Or.inr (Or.inr (Or.inr (Or.inl ⟨by omega, rfl, rfl⟩)))
                | exact Or.inr (Or.inr (Or.inr (Or.inr (Or.inl ⟨by omega, rfl, rfl⟩))))
                | exact Or.inr (Or.inr (Or.inr (Or.inr (Or.inr ⟨by omega, rfl, rfl⟩))))
            · have c140_5 := c140_5
              refine v_iload_3 ok dX8_count_143 (n := 144) rfl ?_
              refine v_goto ok dX8_count_144 (n := 158) (by decide) ?_
              refine v_iret rt dX8_count_158 ?_
              first
              | exact Or.inl ⟨by omega, rfl, rfl⟩
              | exact Or.inr (Or.inl ⟨by omega, rfl, rfl⟩)
              | exact Or.inr (Or.inr (Or.inl ⟨by omega, rfl, rfl⟩))
              | exact Or.inr (Or.inr (Or.inr (Or.inl ⟨by omega, rfl, rfl⟩)))
              | exact Or.inr (Or.inr (Or.inr (Or.inr (Or.inl ⟨by omega, rfl, rfl⟩))))
              | exact Or.inr (Or.inr (Or.inr (Or.inr (Or.inr ⟨by omega, rfl, rfl⟩))))
          · have c131_4 := c131_4
            refine v_iload_2 ok dX8_count_134 (n := 135) rfl ?_
            refine v_goto ok dX8_count_135 (n := 158) (by decide) ?_
            refine v_iret rt dX8_count_158 ?_
            first
            | exact Or.inl ⟨by omega, rfl, rfl⟩
            | exact Or.inr (Or.inl ⟨by omega, rfl, rfl⟩)
            | exact Or.inr (Or.inr (Or.inl ⟨by omega, rfl, rfl⟩))
            | exact Or.inr (Or.inr (Or.inr (Or.inl ⟨by omega, rfl, rfl⟩)))
            | exact Or.inr (Or.inr (Or.inr (Or.inr (Or.inl ⟨by omega, rfl, rfl⟩))))
            | exact Or.inr (Or.inr (Or.inr (Or.inr (Or.inr ⟨by omega, rfl, rfl⟩))))
        · have c119_3 := c119_3
          refine v_aload_0 ok dX8_count_122 (n := 123) rfl ?_
          refine v_getI ok fd_X8_89 ly_200 rfl rfl (jI := 3) rfl dX8_count_123 (n := 126) rfl ?_
          refine v_goto ok dX8_count_126 (n := 158) (by decide) ?_
          refine v_iret rt dX8_count_158 ?_
          first
          | exact Or.inl ⟨by omega, rfl, rfl⟩
          | exact Or.inr (Or.inl ⟨by omega, rfl, rfl⟩)
          | exact Or.inr (Or.inr (Or.inl ⟨by omega, rfl, rfl⟩))
          | exact Or.inr (Or.inr (Or.inr (Or.inl ⟨by omega, rfl, rfl⟩)))
          | exact Or.inr (Or.inr (Or.inr (Or.inr (Or.inl ⟨by omega, rfl, rfl⟩))))
          | exact Or.inr (Or.inr (Or.inr (Or.inr (Or.inr ⟨by omega, rfl, rfl⟩))))
      · have c107_2 := c107_2
        refine v_aload_0 ok dX8_count_110 (n := 111) rfl ?_
        refine v_getI ok fd_X8_81 ly_200 rfl rfl (jI := 2) rfl dX8_count_111 (n := 114) rfl ?_
        refine v_goto ok dX8_count_114 (n := 158) (by decide) ?_
        refine v_iret rt dX8_count_158 ?_
        first
        | exact Or.inl ⟨by omega, rfl, rfl⟩
        | exact Or.inr (Or.inl ⟨by omega, rfl, rfl⟩)
        | exact Or.inr (Or.inr (Or.inl ⟨by omega, rfl, rfl⟩))
        | exact Or.inr (Or.inr (Or.inr (Or.inl ⟨by omega, rfl, rfl⟩)))
        | exact Or.inr (Or.inr (Or.inr (Or.inr (Or.inl ⟨by omega, rfl, rfl⟩))))
        | exact Or.inr (Or.inr (Or.inr (Or.inr (Or.inr ⟨by omega, rfl, rfl⟩))))
    · have c16_1 := c16_1
      obtain ⟨s0, s1, s2, s3⟩ := hS s (by omega)
      have c0 : zcnt (fun s => M 202 (4 * s) = 0 ∧ M 202 (4 * s + 3) = 0)  (s + 1).toNat = zcnt (fun s => M 202 (4 * s) = 0 ∧ M 202 (4 * s + 3) = 0)  s.toNat + (if M 202 (4 * s) = 0 ∧ M 202 (4 * s + 3) = 0 then 1 else 0) := by
        rw [show (s + 1).toNat = s.toNat + 1 by omega]
        conv => lhs; unfold zcnt
        rw [show ((s.toNat : Nat) : Int) = s by omega]
      have c1 : zcnt (fun s => M 202 (4 * s) = 1 ∧ M 202 (4 * s + 3) = 0)  (s + 1).toNat = zcnt (fun s => M 202 (4 * s) = 1 ∧ M 202 (4 * s + 3) = 0)  s.toNat + (if M 202 (4 * s) = 1 ∧ M 202 (4 * s + 3) = 0 then 1 else 0) := by
        rw [show (s + 1).toNat = s.toNat + 1 by omega]
        conv => lhs; unfold zcnt
        rw [show ((s.toNat : Nat) : Int) = s by omega]
      have ih3 := fun (x y z : Int) (hx : x = zcnt (fun s => M 202 (4 * s) = 0 ∧ M 202 (4 * s + 3) = 0)  (s + 1).toNat) (hy : y = zcnt (fun s => M 202 (4 * s) = 1 ∧ M 202 (4 * s + 3) = 0)  (s + 1).toNat) (hz : z = s + 1 - zcnt (fun s => M 202 (4 * s) = 0 ∧ M 202 (4 * s + 3) = 0)  (s + 1).toNat - zcnt (fun s => M 202 (4 * s) = 1 ∧ M 202 (4 * s + 3) = 0)  (s + 1).toNat) => (show zVV G γ (zw ad) (0, 0) 10 [some (zr 200), some (zi v), some (zi x), some (zi y), some (zi z), some (zi (s + 1))] [] M by rw [hx, hy, hz]; exact ih _ (by omega) (s + 1) rfl (by omega))
      refine v_iload_4 ok dX8_count_19 (n := 21) rfl ?_
      refine v_aload_0 ok dX8_count_21 (n := 22) rfl ?_
      refine v_getR ok fd_X8_13 ly_200 rfl rfl rfl rf_200_1 dX8_count_22 (n := 25) rfl ?_
      refine v_iconst ok dX8_count_25 (n := 26) rfl ?_
      refine v_iload_5 ok dX8_count_26 (n := 28) rfl ?_
      refine v_imul ok dX8_count_28 (n := 29) rfl ?_
      refine v_iconst ok dX8_count_29 (n := 30) rfl ?_
      refine v_iadd ok dX8_count_30 (n := 31) rfl ?_
      refine v_iald ok ly_202 rfl (by omega) (by decide) dX8_count_31 (n := 32) rfl ?_
      refine v_iadd ok dX8_count_32 (n := 33) rfl ?_
      refine v_istore_4 ok (by decide) rfl dX8_count_33 (n := 35) rfl ?_
      refine v_iload_2 ok dX8_count_35 (n := 36) rfl ?_
      refine v_aload_0 ok dX8_count_36 (n := 37) rfl ?_
      refine v_getR ok fd_X8_13 ly_200 rfl rfl rfl rf_200_1 dX8_count_37 (n := 40) rfl ?_
      refine v_iconst ok dX8_count_40 (n := 41) rfl ?_
      refine v_iload_5 ok dX8_count_41 (n := 43) rfl ?_
      refine v_imul ok dX8_count_43 (n := 44) rfl ?_
      refine v_iald ok ly_202 rfl (by omega) (by decide) dX8_count_44 (n := 45) rfl ?_
      refine v_if_ne ok dX8_count_45 (tgt := 64) (by decide) (n := 48) rfl (by omega) (fun c45_7 => ?_) (fun c45_7 => ?_)
      · have c45_7 := c45_7
        refine v_iconst ok dX8_count_64 (n := 65) rfl ?_
        refine v_iadd ok dX8_count_65 (n := 66) rfl ?_
        refine v_istore_2 ok (by decide) rfl dX8_count_66 (n := 67) rfl ?_
        refine v_iload_3 ok dX8_count_67 (n := 68) rfl ?_
        refine v_aload_0 ok dX8_count_68 (n := 69) rfl ?_
        refine v_getR ok fd_X8_13 ly_200 rfl rfl rfl rf_200_1 dX8_count_69 (n := 72) rfl ?_
        refine v_iconst ok dX8_count_72 (n := 73) rfl ?_
        refine v_iload_5 ok dX8_count_73 (n := 75) rfl ?_
        refine v_imul ok dX8_count_75 (n := 76) rfl ?_
        refine v_iald ok ly_202 rfl (by omega) (by decide) dX8_count_76 (n := 77) rfl ?_
        refine v_iconst ok dX8_count_77 (n := 78) rfl ?_
        refine v_icmp_ne ok dX8_count_78 (tgt := 97) (by decide) (n := 81) rfl (by omega) (by omega) (fun c78_8 => ?_) (fun c78_8 => ?_)
        · have c78_8 := c78_8
          first
          | (exfalso; omega)
          | skip
            refine v_iconst ok dX8_count_97 (n := 98) rfl ?_
            refine v_iadd ok dX8_count_98 (n := 99) rfl ?_
            refine v_istore_3 ok (by decide) rfl dX8_count_99 (n := 100) rfl ?_
            refine v_iinc_5 ok (by decide) rfl dX8_count_100 (n := 103) rfl ?_
            refine v_goto ok dX8_count_103 (n := 10) (by decide) ?_
            refine ih3 _ _ _ ?_ ?_ ?_
            · rw [c0]
              by_cases e0 : M 202 (4 * s) = 0 ∧ M 202 (4 * s + 3) = 0
              · rw [if_pos e0]; try omega
              · rw [if_neg e0]; try omega
            · rw [c1]
              by_cases e1 : M 202 (4 * s) = 1 ∧ M 202 (4 * s + 3) = 0
              · rw [if_pos e1]; try omega
              · rw [if_neg e1]; try omega
            · rw [c0, c1]
              by_cases e0 : M 202 (4 * s) = 0 ∧ M 202 (4 * s + 3) = 0
              · rw [if_pos e0, if_neg (by omega)]; omega
              · rw [if_neg e0]
                by_cases e1 : M 202 (4 * s) = 1 ∧ M 202 (4 * s + 3) = 0
                · rw [if_pos e1]; omega
                · rw [if_neg e1]; omega
        · have c78_8 := c78_8
          first
          | (exfalso; omega)
          | skip
            refine v_iconst ok dX8_count_81 (n := 82) rfl ?_
            refine v_aload_0 ok dX8_count_82 (n := 83) rfl ?_
            refine v_getR ok fd_X8_13 ly_200 rfl rfl rfl rf_200_1 dX8_count_83 (n := 86) rfl ?_
            refine v_iconst ok dX8_count_86 (n := 87) rfl ?_
            refine v_iload_5 ok dX8_count_87 (n := 89) rfl ?_
            refine v_imul ok dX8_count_89 (n := 90) rfl ?_
            refine v_iconst ok dX8_count_90 (n := 91) rfl ?_
            refine v_iadd ok dX8_count_91 (n := 92) rfl ?_
            refine v_iald ok ly_202 rfl (by omega) (by decide) dX8_count_92 (n := 93) rfl ?_
            refine v_isub ok dX8_count_93 (n := 94) rfl ?_
            refine v_goto ok dX8_count_94 (n := 98) (by decide) ?_
            refine v_iadd ok dX8_count_98 (n := 99) rfl ?_
            refine v_istore_3 ok (by decide) rfl dX8_count_99 (n := 100) rfl ?_
            refine v_iinc_5 ok (by decide) rfl dX8_count_100 (n := 103) rfl ?_
            refine v_goto ok dX8_count_103 (n := 10) (by decide) ?_
            refine ih3 _ _ _ ?_ ?_ ?_
            · rw [c0]
              by_cases e0 : M 202 (4 * s) = 0 ∧ M 202 (4 * s + 3) = 0
              · rw [if_pos e0]; try omega
              · rw [if_neg e0]; try omega
            · rw [c1]
              by_cases e1 : M 202 (4 * s) = 1 ∧ M 202 (4 * s + 3) = 0
              · rw [if_pos e1]; try omega
              · rw [if_neg e1]; try omega
            · rw [c0, c1]
              by_cases e0 : M 202 (4 * s) = 0 ∧ M 202 (4 * s + 3) = 0
              · rw [if_pos e0, if_neg (by omega)]; omega
              · rw [if_neg e0]
                by_cases e1 : M 202 (4 * s) = 1 ∧ M 202 (4 * s + 3) = 0
                · rw [if_pos e1]; omega
                · rw [if_neg e1]; omega
      · have c45_7 := c45_7
        refine v_iconst ok dX8_count_48 (n := 49) rfl ?_
        refine v_aload_0 ok dX8_count_49 (n := 50) rfl ?_
        refine v_getR ok fd_X8_13 ly_200 rfl rfl rfl rf_200_1 dX8_count_50 (n := 53) rfl ?_
        refine v_iconst ok dX8_count_53 (n := 54) rfl ?_
        refine v_iload_5 ok dX8_count_54 (n := 56) rfl ?_
        refine v_imul ok dX8_count_56 (n := 57) rfl ?_
        refine v_iconst ok dX8_count_57 (n := 58) rfl ?_
        refine v_iadd ok dX8_count_58 (n := 59) rfl ?_
        refine v_iald ok ly_202 rfl (by omega) (by decide) dX8_count_59 (n := 60) rfl ?_
        refine v_isub ok dX8_count_60 (n := 61) rfl ?_
        refine v_goto ok dX8_count_61 (n := 65) (by decide) ?_
        refine v_iadd ok dX8_count_65 (n := 66) rfl ?_
        refine v_istore_2 ok (by decide) rfl dX8_count_66 (n := 67) rfl ?_
        refine v_iload_3 ok dX8_count_67 (n := 68) rfl ?_
        refine v_aload_0 ok dX8_count_68 (n := 69) rfl ?_
        refine v_getR ok fd_X8_13 ly_200 rfl rfl rfl rf_200_1 dX8_count_69 (n := 72) rfl ?_
        refine v_iconst ok dX8_count_72 (n := 73) rfl ?_
        refine v_iload_5 ok dX8_count_73 (n := 75) rfl ?_
        refine v_imul ok dX8_count_75 (n := 76) rfl ?_
        refine v_iald ok ly_202 rfl (by omega) (by decide) dX8_count_76 (n := 77) rfl ?_
        refine v_iconst ok dX8_count_77 (n := 78) rfl ?_
        refine v_icmp_ne ok dX8_count_78 (tgt := 97) (by decide) (n := 81) rfl (by omega) (by omega) (fun c78_9 => ?_) (fun c78_9 => ?_)
        · have c78_9 := c78_9
          first
          | (exfalso; omega)
          | skip
            refine v_iconst ok dX8_count_97 (n := 98) rfl ?_
            refine v_iadd ok dX8_count_98 (n := 99) rfl ?_
            refine v_istore_3 ok (by decide) rfl dX8_count_99 (n := 100) rfl ?_
            refine v_iinc_5 ok (by decide) rfl dX8_count_100 (n := 103) rfl ?_
            refine v_goto ok dX8_count_103 (n := 10) (by decide) ?_
            refine ih3 _ _ _ ?_ ?_ ?_
            · rw [c0]
              by_cases e0 : M 202 (4 * s) = 0 ∧ M 202 (4 * s + 3) = 0
              · rw [if_pos e0]; try omega
              · rw [if_neg e0]; try omega
            · rw [c1]
              by_cases e1 : M 202 (4 * s) = 1 ∧ M 202 (4 * s + 3) = 0
              · rw [if_pos e1]; try omega
              · rw [if_neg e1]; try omega
            · rw [c0, c1]
              by_cases e0 : M 202 (4 * s) = 0 ∧ M 202 (4 * s + 3) = 0
              · rw [if_pos e0, if_neg (by omega)]; omega
              · rw [if_neg e0]
                by_cases e1 : M 202 (4 * s) = 1 ∧ M 202 (4 * s + 3) = 0
                · rw [if_pos e1]; omega
                · rw [if_neg e1]; omega
        · have c78_9 := c78_9
          first
          | (exfalso; omega)
          | skip
            refine v_iconst ok dX8_count_81 (n := 82) rfl ?_
            refine v_aload_0 ok dX8_count_82 (n := 83) rfl ?_
            refine v_getR ok fd_X8_13 ly_200 rfl rfl rfl rf_200_1 dX8_count_83 (n := 86) rfl ?_
            refine v_iconst ok dX8_count_86 (n := 87) rfl ?_
            refine v_iload_5 ok dX8_count_87 (n := 89) rfl ?_
            refine v_imul ok dX8_count_89 (n := 90) rfl ?_
            refine v_iconst ok dX8_count_90 (n := 91) rfl ?_
            refine v_iadd ok dX8_count_91 (n := 92) rfl ?_
            refine v_iald ok ly_202 rfl (by omega) (by decide) dX8_count_92 (n := 93) rfl ?_
            refine v_isub ok dX8_count_93 (n := 94) rfl ?_
            refine v_goto ok dX8_count_94 (n := 98) (by decide) ?_
            refine v_iadd ok dX8_count_98 (n := 99) rfl ?_
            refine v_istore_3 ok (by decide) rfl dX8_count_99 (n := 100) rfl ?_
            refine v_iinc_5 ok (by decide) rfl dX8_count_100 (n := 103) rfl ?_
            refine v_goto ok dX8_count_103 (n := 10) (by decide) ?_
            refine ih3 _ _ _ ?_ ?_ ?_
            · rw [c0]
              by_cases e0 : M 202 (4 * s) = 0 ∧ M 202 (4 * s + 3) = 0
              · rw [if_pos e0]; try omega
              · rw [if_neg e0]; try omega
            · rw [c1]
              by_cases e1 : M 202 (4 * s) = 1 ∧ M 202 (4 * s + 3) = 0
              · rw [if_pos e1]; try omega
              · rw [if_neg e1]; try omega
            · rw [c0, c1]
              by_cases e0 : M 202 (4 * s) = 0 ∧ M 202 (4 * s + 3) = 0
              · rw [if_pos e0, if_neg (by omega)]; omega
              · rw [if_neg e0]
                by_cases e1 : M 202 (4 * s) = 1 ∧ M 202 (4 * s + 3) = 0
                · rw [if_pos e1]; omega
                · rw [if_neg e1]; omega
  refine v_iconst ok dX8_count_0 (n := 1) rfl ?_
  refine v_istore_2 ok (by decide) rfl dX8_count_1 (n := 2) rfl ?_
  refine v_iconst ok dX8_count_2 (n := 3) rfl ?_
  refine v_istore_3 ok (by decide) rfl dX8_count_3 (n := 4) rfl ?_
  refine v_iconst ok dX8_count_4 (n := 5) rfl ?_
  refine v_istore_4 ok (by decide) rfl dX8_count_5 (n := 7) rfl ?_
  refine v_iconst ok dX8_count_7 (n := 8) rfl ?_
  refine v_istore_5 ok (by decide) rfl dX8_count_8 (n := 10) rfl ?_
  exact lp _ 0 rfl (by omega)

