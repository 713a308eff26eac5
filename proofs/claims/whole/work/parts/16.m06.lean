/-! the class: texts read -/
set_option maxHeartbeats 4000000 in
set_option maxRecDepth 100000 in
theorem t_readNumber0 {G : zG} {ad : Int → Nat} {M : zM} {r c a b : Int} (hl : zlay r = (0, 4, 0)) (hr : 58 ≤ r ∧ r ≤ 73) (hc : 0 ≤ c ∧ c < 4) (ha : 0 ≤ a ∧ a ≤ 100) (hb : 0 ≤ b ∧ b ≤ 100) (hln : 0 ≤ M 55 2 ∧ M 55 2 ≤ 120) (hp : 0 ≤ M 55 3 ∧ M 55 3 ≤ M 55 2) (hT : ∀ i, 0 ≤ i ∧ i < M 55 2 → 32 ≤ M 56 i ∧ M 56 i ≤ 126)  : zTI G (zw ad) mi_X4_readNumber [zr 55, zr r, zi c, zi a, zi b] M (fun x M' => (x = 0 ∧ (zrn (M 56) (M 55 2) (M 55 3) a b).1 < 0 ∧ M' = zset M 55 3 (zrn (M 56) (M 55 2) (M 55 3) a b).2) ∨ (x = 1 ∧ 0 ≤ (zrn (M 56) (M 55 2) (M 55 3) a b).1 ∧ M' = zset (zset M 55 3 (zrn (M 56) (M 55 2) (M 55 3) a b).2) r c (zrn (M 56) (M 55 2) (M 55 3) a b).1)) := by
  refine zTI.ofZ (own := RX4) (ls := [some (zr 55), some (zr r), some (zi c), some (zi a), some (zi b), none, none]) (by decide +kernel) rfl rfl (Nat.le_of_ble_eq_true rfl) (fun γ ok rt => ?_)
  obtain ⟨q0, hq⟩ : ∃ q, zsk (M 56) (M 55 2) (M 55 3) = q := ⟨_, rfl⟩
  have hqb := zsk_bd (T := M 56) hp.2
  rw [hq] at hqb
  have lp : ∀ (zn : Nat) (p v : Int), zn = (120 - p).toNat → (q0 ≤ p ∧ p ≤ M 55 2) → (0 ≤ v ∧ v ≤ 1000) → (znu (M 56) (M 55 2) p v = znu (M 56) (M 55 2) q0 0) → zVV G γ (zw ad) (0, 0) 14 [some (zr 55), some (zr r), some (zi c), some (zi a), some (zi b), some (zi q0), some (zi v)] [] (zset M 55 3 p) := by
    refine zrec _ (fun zn ih => ?_)
    intro p v hzn hi hv he
    refine v_aload_0 ok dX4_readNumber_14 (n := 15) rfl ?_
    refine v_getI ok fd_X4_24 ly_55 rfl rfl (jI := 3) rfl dX4_readNumber_15 (n := 18) rfl ?_
    try simp (disch := omega) only [zset_s, zset_ne, zset_o]
    refine v_aload_0 ok dX4_readNumber_18 (n := 19) rfl ?_
    refine v_getI ok fd_X4_20 ly_55 rfl rfl (jI := 2) rfl dX4_readNumber_19 (n := 22) rfl ?_
    try simp (disch := omega) only [zset_s, zset_ne, zset_o]
    refine v_icmp_ge ok dX4_readNumber_22 (tgt := 83) (by decide) (n := 25) rfl (by omega) (by omega) (fun c22_1 => ?_) (fun c22_1 => ?_)
    · have c22_1 := c22_1
      have hz : znu (M 56) (M 55 2) q0 0 = (v, p) := by rw [← he]; exact znu_n (by omega)
      refine v_aload_0 ok dX4_readNumber_83 (n := 84) rfl ?_
      refine v_getI ok fd_X4_24 ly_55 rfl rfl (jI := 3) rfl dX4_readNumber_84 (n := 87) rfl ?_
      try simp (disch := omega) only [zset_s, zset_ne, zset_o]
      refine v_iload_5 ok dX4_readNumber_87 (n := 89) rfl ?_
      refine v_icmp_eq ok dX4_readNumber_89 (tgt := 103) (by decide) (n := 92) rfl (by omega) (by omega) (fun c89_2 => ?_) (fun c89_2 => ?_)
      · have c89_2 := c89_2
        refine v_aload_0 ok dX4_readNumber_103 (n := 104) rfl ?_
        refine v_iload_5 ok dX4_readNumber_104 (n := 106) rfl ?_
        refine v_putI ok fw_X4_24 ly_55 rfl rfl (jI := 3) rfl dX4_readNumber_106 (n := 109) rfl ?_
        refine v_iconst ok dX4_readNumber_109 (n := 110) rfl ?_
        refine v_zret rt dX4_readNumber_110 (by omega) ?_
        have ez : zrn (M 56) (M 55 2) (M 55 3) a b = (-1, q0) := by
          unfold zrn
          rw [hq, hz]
          exact if_pos (by show p = q0 ∨ v < a ∨ b < v; omega)
        rw [ez, zset_zset]
        exact Or.inl ⟨rfl, (by decide : (-1 : Int) < 0), rfl⟩
      · have c89_2 := c89_2
        refine v_iload_6 ok dX4_readNumber_92 (n := 94) rfl ?_
        refine v_iload_3 ok dX4_readNumber_94 (n := 95) rfl ?_
        refine v_iload_4 ok dX4_readNumber_95 (n := 97) rfl ?_
        refine v_callSI ok (mi := mi_X7_isFrom) mc_X7_isFrom cs_X4_27 (by decide) ⟨Nat.zero_le _, Nat.zero_le _⟩ dX4_readNumber_97 (n := 100) rfl rfl rfl (Nat.le_of_ble_eq_true rfl) (t_isFrom (by omega) (by omega) (by omega)) (fun x9 M9 h9 => ?_)
        obtain ⟨e9_, h9⟩ := h9
        subst M9
        refine v_if_ne ok dX4_readNumber_100 (tgt := 111) (by decide) (n := 103) rfl (by omega) (fun c100_3 => ?_) (fun c100_3 => ?_)
        · have c100_3 := c100_3
          refine v_aload_1 ok dX4_readNumber_111 (n := 112) rfl ?_
          refine v_iload_2 ok dX4_readNumber_112 (n := 113) rfl ?_
          refine v_iload_6 ok dX4_readNumber_113 (n := 115) rfl ?_
          refine v_iast ok hl rfl (by omega) (by decide) dX4_readNumber_115 (n := 116) rfl ?_
          refine v_iconst ok dX4_readNumber_116 (n := 117) rfl ?_
          refine v_zret rt dX4_readNumber_117 (by omega) ?_
          have ez : zrn (M 56) (M 55 2) (M 55 3) a b = (v, p) := by
            unfold zrn
            rw [hq, hz]
            exact if_neg (by show ¬ (p = q0 ∨ v < a ∨ b < v); omega)
          rw [ez]
          exact Or.inr ⟨rfl, hv.1, rfl⟩
        · have c100_3 := c100_3
          refine v_aload_0 ok dX4_readNumber_103 (n := 104) rfl ?_
          refine v_iload_5 ok dX4_readNumber_104 (n := 106) rfl ?_
          refine v_putI ok fw_X4_24 ly_55 rfl rfl (jI := 3) rfl dX4_readNumber_106 (n := 109) rfl ?_
          refine v_iconst ok dX4_readNumber_109 (n := 110) rfl ?_
          refine v_zret rt dX4_readNumber_110 (by omega) ?_
          have ez : zrn (M 56) (M 55 2) (M 55 3) a b = (-1, q0) := by
            unfold zrn
            rw [hq, hz]
            exact if_pos (by show p = q0 ∨ v < a ∨ b < v; omega)
          rw [ez, zset_zset]
          exact Or.inl ⟨rfl, (by decide : (-1 : Int) < 0), rfl⟩
    · have c22_1 := c22_1
      have hTp := hT p (by omega)
      refine v_aload_0 ok dX4_readNumber_25 (n := 26) rfl ?_
      refine v_getR ok fd_X4_9 ly_55 rfl rfl rfl rf_55_0 dX4_readNumber_26 (n := 29) rfl ?_
      refine v_aload_0 ok dX4_readNumber_29 (n := 30) rfl ?_
      refine v_getI ok fd_X4_24 ly_55 rfl rfl (jI := 3) rfl dX4_readNumber_30 (n := 33) rfl ?_
      try simp (disch := omega) only [zset_s, zset_ne, zset_o]
      refine v_iald ok ly_56 rfl (by omega) (by decide) dX4_readNumber_33 (n := 34) rfl ?_
      try simp (disch := omega) only [zset_s, zset_ne, zset_o]
      refine v_bipush ok (by decide) dX4_readNumber_34 (n := 36) rfl ?_
      refine v_bipush ok (by decide) dX4_readNumber_36 (n := 38) rfl ?_
      refine v_callSI ok (mi := mi_X7_isFrom) mc_X7_isFrom cs_X4_27 (by decide) ⟨Nat.zero_le _, Nat.zero_le _⟩ dX4_readNumber_38 (n := 41) rfl rfl rfl (Nat.le_of_ble_eq_true rfl) (t_isFrom (by omega) (by omega) (by omega)) (fun x8 M8 h8 => ?_)
      obtain ⟨e8_, h8⟩ := h8
      subst M8
      refine v_if_eq ok dX4_readNumber_41 (tgt := 83) (by decide) (n := 44) rfl (by omega) (fun c41_4 => ?_) (fun c41_4 => ?_)
      · have c41_4 := c41_4
        have hz : znu (M 56) (M 55 2) q0 0 = (v, p) := by rw [← he]; exact znu_n (by omega)
        refine v_aload_0 ok dX4_readNumber_83 (n := 84) rfl ?_
        refine v_getI ok fd_X4_24 ly_55 rfl rfl (jI := 3) rfl dX4_readNumber_84 (n := 87) rfl ?_
        try simp (disch := omega) only [zset_s, zset_ne, zset_o]
        refine v_iload_5 ok dX4_readNumber_87 (n := 89) rfl ?_
        refine v_icmp_eq ok dX4_readNumber_89 (tgt := 103) (by decide) (n := 92) rfl (by omega) (by omega) (fun c89_5 => ?_) (fun c89_5 => ?_)
        · have c89_5 := c89_5
          refine v_aload_0 ok dX4_readNumber_103 (n := 104) rfl ?_
          refine v_iload_5 ok dX4_readNumber_104 (n := 106) rfl ?_
          refine v_putI ok fw_X4_24 ly_55 rfl rfl (jI := 3) rfl dX4_readNumber_106 (n := 109) rfl ?_
          refine v_iconst ok dX4_readNumber_109 (n := 110) rfl ?_
          refine v_zret rt dX4_readNumber_110 (by omega) ?_
          have ez : zrn (M 56) (M 55 2) (M 55 3) a b = (-1, q0) := by
            unfold zrn
            rw [hq, hz]
            exact if_pos (by show p = q0 ∨ v < a ∨ b < v; omega)
          rw [ez, zset_zset]
          exact Or.inl ⟨rfl, (by decide : (-1 : Int) < 0), rfl⟩
        · have c89_5 := c89_5
          refine v_iload_6 ok dX4_readNumber_92 (n := 94) rfl ?_
          refine v_iload_3 ok dX4_readNumber_94 (n := 95) rfl ?_
          refine v_iload_4 ok dX4_readNumber_95 (n := 97) rfl ?_
          refine v_callSI ok (mi := mi_X7_isFrom) mc_X7_isFrom cs_X4_27 (by decide) ⟨Nat.zero_le _, Nat.zero_le _⟩ dX4_readNumber_97 (n := 100) rfl rfl rfl (Nat.le_of_ble_eq_true rfl) (t_isFrom (by omega) (by omega) (by omega)) (fun x9 M9 h9 => ?_)
          obtain ⟨e9_, h9⟩ := h9
          subst M9
          refine v_if_ne ok dX4_readNumber_100 (tgt := 111) (by decide) (n := 103) rfl (by omega) (fun c100_6 => ?_) (fun c100_6 => ?_)
          · have c100_6 := c100_6
            refine v_aload_1 ok dX4_readNumber_111 (n := 112) rfl ?_
            refine v_iload_2 ok dX4_readNumber_112 (n := 113) rfl ?_
            refine v_iload_6 ok dX4_readNumber_113 (n := 115) rfl ?_
            refine v_iast ok hl rfl (by omega) (by decide) dX4_readNumber_115 (n := 116) rfl ?_
            refine v_iconst ok dX4_readNumber_116 (n := 117) rfl ?_
            refine v_zret rt dX4_readNumber_117 (by omega) ?_
            have ez : zrn (M 56) (M 55 2) (M 55 3) a b = (v, p) := by
              unfold zrn
              rw [hq, hz]
              exact if_neg (by show ¬ (p = q0 ∨ v < a ∨ b < v); omega)
            rw [ez]
            exact Or.inr ⟨rfl, hv.1, rfl⟩
          · have c100_6 := c100_6
            refine v_aload_0 ok dX4_readNumber_103 (n := 104) rfl ?_
            refine v_iload_5 ok dX4_readNumber_104 (n := 106) rfl ?_
            refine v_putI ok fw_X4_24 ly_55 rfl rfl (jI := 3) rfl dX4_readNumber_106 (n := 109) rfl ?_
            refine v_iconst ok dX4_readNumber_109 (n := 110) rfl ?_
            refine v_zret rt dX4_readNumber_110 (by omega) ?_
            have ez : zrn (M 56) (M 55 2) (M 55 3) a b = (-1, q0) := by
              unfold zrn
              rw [hq, hz]
              exact if_pos (by show p = q0 ∨ v < a ∨ b < v; omega)
            rw [ez, zset_zset]
            exact Or.inl ⟨rfl, (by decide : (-1 : Int) < 0), rfl⟩
      · have c41_4 := c41_4
        refine v_sipush ok (by decide) dX4_readNumber_44 (n := 47) rfl ?_
        have hmn := zmin_b 1000 (10 * v + M 56 p - 48)
        refine v_bipush ok (by decide) dX4_readNumber_47 (n := 49) rfl ?_
        refine v_iload_6 ok dX4_readNumber_49 (n := 51) rfl ?_
        refine v_imul ok dX4_readNumber_51 (n := 52) rfl ?_
        refine v_aload_0 ok dX4_readNumber_52 (n := 53) rfl ?_
        refine v_getR ok fd_X4_9 ly_55 rfl rfl rfl rf_55_0 dX4_readNumber_53 (n := 56) rfl ?_
        refine v_aload_0 ok dX4_readNumber_56 (n := 57) rfl ?_
        refine v_getI ok fd_X4_24 ly_55 rfl rfl (jI := 3) rfl dX4_readNumber_57 (n := 60) rfl ?_
        try simp (disch := omega) only [zset_s, zset_ne, zset_o]
        refine v_iald ok ly_56 rfl (by omega) (by decide) dX4_readNumber_60 (n := 61) rfl ?_
        try simp (disch := omega) only [zset_s, zset_ne, zset_o]
        refine v_iadd ok dX4_readNumber_61 (n := 62) rfl ?_
        refine v_bipush ok (by decide) dX4_readNumber_62 (n := 64) rfl ?_
        refine v_isub ok dX4_readNumber_64 (n := 65) rfl ?_
        refine v_min ok mm_X4_73 ⟨by decide, Nat.le_of_ble_eq_true rfl⟩ ⟨Nat.zero_le _, Nat.zero_le _⟩ (by omega) (by omega) dX4_readNumber_65 (n := 68) rfl ?_
        refine v_istore_6 ok (by decide) rfl dX4_readNumber_68 (n := 70) rfl ?_
        refine v_aload_0 ok dX4_readNumber_70 (n := 71) rfl ?_
        refine v_dup ok rfl dX4_readNumber_71 (n := 72) rfl ?_
        refine v_getI ok fd_X4_24 ly_55 rfl rfl (jI := 3) rfl dX4_readNumber_72 (n := 75) rfl ?_
        try simp (disch := omega) only [zset_s, zset_ne, zset_o]
        refine v_iconst ok dX4_readNumber_75 (n := 76) rfl ?_
        refine v_iadd ok dX4_readNumber_76 (n := 77) rfl ?_
        refine v_putI ok fw_X4_24 ly_55 rfl rfl (jI := 3) rfl dX4_readNumber_77 (n := 80) rfl ?_
        refine v_goto ok dX4_readNumber_80 (n := 14) (by decide) ?_
        rw [zset_zset]
        exact ih _ (by omega) _ _ rfl (by omega) (by omega) (by rw [← he]; exact (znu_y (by omega)).symm)
  refine v_aload_0 ok dX4_readNumber_0 (n := 1) rfl ?_
  refine v_callVI ok (mi := mi_X4_next) mc_X4_next cv_X4_42 ly_55 rfl rfl rfl (by decide) ⟨Nat.zero_le _, Nat.zero_le _⟩ dX4_readNumber_1 (n := 4) rfl rfl rfl (Nat.le_of_ble_eq_true rfl) (t_next hln hp hT) (fun x5 M5 h5 => ?_)
  obtain ⟨e5, e6⟩ := h5
  rw [hq] at e5
  subst e5
  refine v_pop ok rfl dX4_readNumber_4 (n := 5) rfl ?_
  refine v_aload_0 ok dX4_readNumber_5 (n := 6) rfl ?_
  refine v_getI ok fd_X4_24 ly_55 rfl rfl (jI := 3) rfl dX4_readNumber_6 (n := 9) rfl ?_
  try simp (disch := omega) only [zset_s, zset_ne, zset_o]
  refine v_istore_5 ok (by decide) rfl dX4_readNumber_9 (n := 11) rfl ?_
  refine v_iconst ok dX4_readNumber_11 (n := 12) rfl ?_
  refine v_istore_6 ok (by decide) rfl dX4_readNumber_12 (n := 14) rfl ?_
  exact lp _ q0 0 rfl (by omega) (by omega) rfl

theorem zset_3 {M : zM} {r i x y d : Int} (h : r ≠ 55) : zset (zset (zset M 55 3 x) r i d) 55 3 y = zset (zset M 55 3 y) r i d := by
  funext r' j
  unfold zset
  by_cases h1 : r' = 55 ∧ j = 3
  · rw [if_pos h1, if_neg (by omega), if_pos h1]
  · rw [if_neg h1]
    by_cases h2 : r' = r ∧ j = i
    · rw [if_pos h2, if_pos h2]
    · rw [if_neg h2, if_neg h2, if_neg h1, if_neg h1]
set_option maxHeartbeats 4000000 in
set_option maxRecDepth 100000 in
theorem t_readSwell0 {G : zG} {ad : Int → Nat} {M : zM} {r : Int} (hl : zlay r = (0, 4, 0)) (hr : 58 ≤ r ∧ r ≤ 73) (hln : 0 ≤ M 55 2 ∧ M 55 2 ≤ 120) (hp : 0 ≤ M 55 3 ∧ M 55 3 ≤ M 55 2) (hT : ∀ i, 0 ≤ i ∧ i < M 55 2 → 32 ≤ M 56 i ∧ M 56 i ≤ 126)  : zTI G (zw ad) mi_X4_readSwell [zr 55, zr r] M (fun x M' => (x = 0 ∧ (zdg (M 56) (M 55 2) (M 55 3)).1 < 0 ∧ M' = zset M 55 3 (zdg (M 56) (M 55 2) (M 55 3)).2) ∨ (x = 1 ∧ 0 ≤ (zdg (M 56) (M 55 2) (M 55 3)).1 ∧ M' = zset (zset M 55 3 (zdg (M 56) (M 55 2) (M 55 3)).2) r 2 (zdg (M 56) (M 55 2) (M 55 3)).1)) := by
  refine zTI.ofZ (own := RX4) (ls := [some (zr 55), some (zr r), none]) (by decide +kernel) rfl rfl (Nat.le_of_ble_eq_true rfl) (fun γ ok rt => ?_)
  refine v_aload_0 ok dX4_readSwell_0 (n := 1) rfl ?_
  refine v_callVI ok (mi := mi_X4_next) mc_X4_next cv_X4_42 ly_55 rfl rfl rfl (by decide) ⟨Nat.zero_le _, Nat.zero_le _⟩ dX4_readSwell_1 (n := 4) rfl rfl rfl (Nat.le_of_ble_eq_true rfl) (t_next hln hp hT) (fun x5 M5 h5 => ?_)
  obtain ⟨e5, e6⟩ := h5
  subst e5
  have hb := zsk_bd (T := M 56) hp.2
  have hx5 : (zsk (M 56) (M 55 2) (M 55 3) < M 55 2 ∧ x5 = M 56 (zsk (M 56) (M 55 2) (M 55 3))) ∨ (¬ zsk (M 56) (M 55 2) (M 55 3) < M 55 2 ∧ x5 = 0) := by
    rw [e6]
    split
    · next h => exact Or.inl ⟨h, rfl⟩
    · next h => exact Or.inr ⟨h, rfl⟩
  have hTq := hT (zsk (M 56) (M 55 2) (M 55 3))
  refine v_bipush ok (by decide) dX4_readSwell_4 (n := 6) rfl ?_
  refine v_isub ok dX4_readSwell_6 (n := 7) rfl ?_
  refine v_istore_2 ok (by decide) rfl dX4_readSwell_7 (n := 8) rfl ?_
  refine v_iconst ok dX4_readSwell_8 (n := 9) rfl ?_
  refine v_iload_2 ok dX4_readSwell_9 (n := 10) rfl ?_
  refine v_callSI ok (mi := mi_X7_isOfBride) mc_X7_isOfBride cs_X4_63 (by decide) ⟨Nat.zero_le _, Nat.zero_le _⟩ dX4_readSwell_10 (n := 13) rfl rfl rfl (Nat.le_of_ble_eq_true rfl) (t_isOfBride (by omega) (by omega)) (fun x8 M8 h8 => ?_)
  obtain ⟨e8_, h8⟩ := h8
  subst M8
  refine v_if_ne ok dX4_readSwell_13 (tgt := 18) (by decide) (n := 16) rfl (by omega) (fun c13_1 => ?_) (fun c13_1 => ?_)
  · have c13_1 := c13_1
    refine v_aload_1 ok dX4_readSwell_18 (n := 19) rfl ?_
    refine v_iconst ok dX4_readSwell_19 (n := 20) rfl ?_
    refine v_iload_2 ok dX4_readSwell_20 (n := 21) rfl ?_
    refine v_iast ok hl rfl (by omega) (by decide) dX4_readSwell_21 (n := 22) rfl ?_
    refine v_aload_0 ok dX4_readSwell_22 (n := 23) rfl ?_
    refine v_dup ok rfl dX4_readSwell_23 (n := 24) rfl ?_
    refine v_getI ok fd_X4_24 ly_55 rfl rfl (jI := 3) rfl dX4_readSwell_24 (n := 27) rfl ?_
    try simp (disch := omega) only [zset_s, zset_ne, zset_o]
    refine v_iconst ok dX4_readSwell_27 (n := 28) rfl ?_
    refine v_iadd ok dX4_readSwell_28 (n := 29) rfl ?_
    refine v_putI ok fw_X4_24 ly_55 rfl rfl (jI := 3) rfl dX4_readSwell_29 (n := 32) rfl ?_
    refine v_iconst ok dX4_readSwell_32 (n := 33) rfl ?_
    refine v_zret rt dX4_readSwell_33 (by omega) ?_
    have ez : zdg (M 56) (M 55 2) (M 55 3) = (M 56 (zsk (M 56) (M 55 2) (M 55 3)) - 48, zsk (M 56) (M 55 2) (M 55 3) + 1) := if_pos (by omega)
    have e9 : x5 = M 56 (zsk (M 56) (M 55 2) (M 55 3)) := by omega
    subst e9
    rw [ez, zset_3 (by omega)]
    exact Or.inr ⟨rfl, by show 0 ≤ M 56 (zsk (M 56) (M 55 2) (M 55 3)) - 48; omega, rfl⟩
  · have c13_1 := c13_1
    refine v_iconst ok dX4_readSwell_16 (n := 17) rfl ?_
    refine v_zret rt dX4_readSwell_17 (by omega) ?_
    have ez : zdg (M 56) (M 55 2) (M 55 3) = (-1, zsk (M 56) (M 55 2) (M 55 3)) := if_neg (by omega)
    rw [ez]
    exact Or.inl ⟨rfl, (by decide : (-1 : Int) < 0), rfl⟩

/-- the tape's place moves, and the row r is written; all else stays -/
def zTm (M : zM) (r : Int) (M' : zM) (p : Int) : Prop := (∀ q, q ≠ r → q ≠ 55 → M' q = M q) ∧ (∀ j, j ≠ 3 → M' 55 j = M 55 j) ∧ M' 55 3 = p
section ZTM
variable {G : zG} {ad : Int → Nat} {M M1 : zM} {r p : Int}
theorem zTm_T (hr : 58 ≤ r ∧ r ≤ 73) (h : zTm M r M1 p) : M1 56 = M 56 ∧ M1 55 2 = M 55 2 ∧ M1 55 3 = p := ⟨h.1 56 (by omega) (by omega), h.2.1 2 (by omega), h.2.2⟩
theorem zTm_set (hr : 58 ≤ r ∧ r ≤ 73) (h : zTm M r M1 p) (p2 : Int) : zTm M r (zset M1 55 3 p2) p2 ∧ (zset M1 55 3 p2) r = M1 r := by
  refine ⟨⟨fun q h1 h2 => ?_, fun j hj => ?_, zset_s⟩, zset_o (by omega)⟩
  · rw [zset_o h2]
    exact h.1 q h1 h2
  · rw [zset_ne (Or.inr hj)]
    exact h.2.1 j hj
theorem zTm_row (hr : 58 ≤ r ∧ r ≤ 73) (h : zTm M r M1 p) (c x : Int) : zTm M r (zset M1 r c x) p ∧ (∀ j, j ≠ c → (zset M1 r c x) r j = M1 r j) ∧ (zset M1 r c x) r c = x := by
  refine ⟨⟨fun q h1 h2 => ?_, fun j hj => ?_, ?_⟩, fun j hj => zset_n hj, zset_s⟩
  · rw [zset_o h1]
    exact h.1 q h1 h2
  · rw [zset_ne (Or.inl (by omega))]
    exact h.2.1 j hj
  · rw [zset_ne (Or.inl (by omega))]
    exact h.2.2
theorem t_readNumber (hl : zlay r = (0, 4, 0)) (hr : 58 ≤ r ∧ r ≤ 73) {c a b : Int} (hc : 0 ≤ c ∧ c < 4) (ha : 0 ≤ a ∧ a ≤ 100) (hb : 0 ≤ b ∧ b ≤ 100) (hln : 0 ≤ M 55 2 ∧ M 55 2 ≤ 120) (hT : ∀ i, 0 ≤ i ∧ i < M 55 2 → 32 ≤ M 56 i ∧ M 56 i ≤ 126) (hp : 0 ≤ p ∧ p ≤ M 55 2) (h : zTm M r M1 p) :
    zTI G (zw ad) mi_X4_readNumber [zr 55, zr r, zi c, zi a, zi b] M1 (fun x M' => zTm M r M' (zrn (M 56) (M 55 2) p a b).2 ∧ (∀ j, j ≠ c → M' r j = M1 r j) ∧ ((x = 0 ∧ (zrn (M 56) (M 55 2) p a b).1 < 0) ∨ (x = 1 ∧ 0 ≤ (zrn (M 56) (M 55 2) p a b).1 ∧ M' r c = (zrn (M 56) (M 55 2) p a b).1))) := by
  obtain ⟨e1, e2, e3⟩ := zTm_T hr h
  have t := t_readNumber0 (G := G) (ad := ad) (M := M1) hl hr hc ha hb (by rw [e2]; exact hln) (by rw [e2, e3]; exact hp) (by rw [e2, e1]; exact hT)
  rw [e1, e2, e3] at t
  refine t.weaken fun x u hq => ?_
  rcases hq with ⟨q1, q2, rfl⟩ | ⟨q1, q2, rfl⟩
  · have := zTm_set hr h (zrn (M 56) (M 55 2) p a b).2
    exact ⟨this.1, fun j _ => by rw [this.2], Or.inl ⟨q1, q2⟩⟩
  · have h1 := zTm_set hr h (zrn (M 56) (M 55 2) p a b).2
    have h2 := zTm_row hr h1.1 c (zrn (M 56) (M 55 2) p a b).1
    exact ⟨h2.1, fun j hj => by rw [h2.2.1 j hj, h1.2], Or.inr ⟨q1, q2, h2.2.2⟩⟩
theorem t_readSwell (hl : zlay r = (0, 4, 0)) (hr : 58 ≤ r ∧ r ≤ 73) (hln : 0 ≤ M 55 2 ∧ M 55 2 ≤ 120) (hT : ∀ i, 0 ≤ i ∧ i < M 55 2 → 32 ≤ M 56 i ∧ M 56 i ≤ 126) (hp : 0 ≤ p ∧ p ≤ M 55 2) (h : zTm M r M1 p) :
    zTI G (zw ad) mi_X4_readSwell [zr 55, zr r] M1 (fun x M' => zTm M r M' (zdg (M 56) (M 55 2) p).2 ∧ (∀ j, j ≠ 2 → M' r j = M1 r j) ∧ ((x = 0 ∧ (zdg (M 56) (M 55 2) p).1 < 0) ∨ (x = 1 ∧ 0 ≤ (zdg (M 56) (M 55 2) p).1 ∧ M' r 2 = (zdg (M 56) (M 55 2) p).1))) := by
  obtain ⟨e1, e2, e3⟩ := zTm_T hr h
  have t := t_readSwell0 (G := G) (ad := ad) (M := M1) hl hr (by rw [e2]; exact hln) (by rw [e2, e3]; exact hp) (by rw [e2, e1]; exact hT)
  rw [e1, e2, e3] at t
  refine t.weaken fun x u hq => ?_
  rcases hq with ⟨q1, q2, rfl⟩ | ⟨q1, q2, rfl⟩
  · have := zTm_set hr h (zdg (M 56) (M 55 2) p).2
    exact ⟨this.1, fun j _ => by rw [this.2], Or.inl ⟨q1, q2⟩⟩
  · have h1 := zTm_set hr h (zdg (M 56) (M 55 2) p).2
    have h2 := zTm_row hr h1.1 2 (zdg (M 56) (M 55 2) p).1
    exact ⟨h2.1, fun j hj => by rw [h2.2.1 j hj, h1.2], Or.inr ⟨q1, q2, h2.2.2⟩⟩
theorem t_isPassedR (hr : 58 ≤ r ∧ r ≤ 73) {c : Int} (hc : 1 ≤ c ∧ c ≤ 126) (hln : 0 ≤ M 55 2 ∧ M 55 2 ≤ 120) (hT : ∀ i, 0 ≤ i ∧ i < M 55 2 → 32 ≤ M 56 i ∧ M 56 i ≤ 126) (hp : 0 ≤ p ∧ p ≤ M 55 2) (h : zTm M r M1 p) :
    zTI G (zw ad) mi_X4_isPassed [zr 55, zi c] M1 (fun x M' => zTm M r M' (zps (M 56) (M 55 2) p c).2 ∧ M' r = M1 r ∧ x = (zps (M 56) (M 55 2) p c).1) := by
  obtain ⟨e1, e2, e3⟩ := zTm_T hr h
  have t := t_isPassed (G := G) (ad := ad) (M := M1) hc (by rw [e2]; exact hln) (by rw [e2, e3]; exact hp) (by rw [e2, e1]; exact hT)
  rw [e1, e2, e3] at t
  refine t.weaken fun x u hq => ?_
  obtain ⟨q1, rfl⟩ := hq
  have := zTm_set hr h (zps (M 56) (M 55 2) p c).2
  exact ⟨this.1, this.2, q1⟩
theorem t_nextR (hr : 58 ≤ r ∧ r ≤ 73) (hln : 0 ≤ M 55 2 ∧ M 55 2 ≤ 120) (hT : ∀ i, 0 ≤ i ∧ i < M 55 2 → 32 ≤ M 56 i ∧ M 56 i ≤ 126) (hp : 0 ≤ p ∧ p ≤ M 55 2) (h : zTm M r M1 p) :
    zTI G (zw ad) mi_X4_next [zr 55] M1 (fun x M' => zTm M r M' (zsk (M 56) (M 55 2) p) ∧ M' r = M1 r ∧ ((zsk (M 56) (M 55 2) p < M 55 2 ∧ x = M 56 (zsk (M 56) (M 55 2) p) ∧ 32 ≤ x ∧ x ≤ 126) ∨ (¬ zsk (M 56) (M 55 2) p < M 55 2 ∧ x = 0))) := by
  obtain ⟨e1, e2, e3⟩ := zTm_T hr h
  have t := t_next (G := G) (ad := ad) (M := M1) (by rw [e2]; exact hln) (by rw [e2, e3]; exact hp) (by rw [e2, e1]; exact hT)
  rw [e1, e2, e3] at t
  refine t.weaken fun x u hq => ?_
  obtain ⟨rfl, q1⟩ := hq
  have := zTm_set hr h (zsk (M 56) (M 55 2) p)
  refine ⟨this.1, this.2, ?_⟩
  have hb := zsk_bd (T := M 56) hp.2
  rw [q1]
  split
  · next h => exact Or.inl ⟨h, rfl, hT _ (by omega)⟩
  · next h => exact Or.inr ⟨h, rfl⟩
end ZTM
