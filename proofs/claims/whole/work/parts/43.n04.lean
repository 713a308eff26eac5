/-! the model: reading -/
set_option maxHeartbeats 4000000 in
set_option maxRecDepth 100000 in
theorem u_nextByte {G : zG} {ad : Int → Nat} {M : zM} (hl : 0 ≤ M 200 6 ∧ M 200 6 ≤ 120) (hp : 0 ≤ M 200 7 ∧ M 200 7 ≤ M 200 6) (hT : ∀ i, 0 ≤ i ∧ i < 120 → 0 ≤ M 206 i ∧ M 206 i ≤ 255)  : zTI G (zw ad) mi_X8_nextByte [zr 200] M (fun x M' => M' = zset M 200 7 (zsk (M 206) (M 200 6) (M 200 7)) ∧ (((zsk (M 206) (M 200 6) (M 200 7)) < M 200 6 ∧ x = M 206 (zsk (M 206) (M 200 6) (M 200 7))) ∨ (¬ (zsk (M 206) (M 200 6) (M 200 7)) < M 200 6 ∧ x = -1))) := by
  refine zTI.of (own := RX8) (ls := [some (zr 200)]) (by decide +kernel) rfl rfl (Nat.le_of_ble_eq_true rfl) (fun γ ok rt => ?_)
  have lp : ∀ (zn : Nat) (p : Int), zn = (120 - p).toNat → (0 ≤ p ∧ p ≤ M 200 6) → (zsk (M 206) (M 200 6) (M 200 7) = zsk (M 206) (M 200 6) p) → zVV G γ (zw ad) (0, 0) 0 [some (zr 200)] [] (zset M 200 7 p) := by
    refine zrec _ (fun zn ih => ?_)
    intro p hzn hp2 he
    refine v_aload_0 ok dX8_nextByte_0 (n := 1) rfl ?_
    refine v_getI ok fd_X8_152 ly_200 rfl rfl (jI := 7) rfl dX8_nextByte_1 (n := 4) rfl ?_
    try simp (disch := omega) only [zset_s, zset_o, zset_ne, zset_n]
    refine v_aload_0 ok dX8_nextByte_4 (n := 5) rfl ?_
    refine v_getI ok fd_X8_149 ly_200 rfl rfl (jI := 6) rfl dX8_nextByte_5 (n := 8) rfl ?_
    try simp (disch := omega) only [zset_s, zset_o, zset_ne, zset_n]
    refine v_icmp_ge ok dX8_nextByte_8 (tgt := 38) (by decide) (n := 11) rfl (by omega) (by omega) (fun c8_1 => ?_) (fun c8_1 => ?_)
    · have c8_1 := c8_1
      have he2 : (zsk (M 206) (M 200 6) (M 200 7)) = p := by rw [he]; exact zsk_n (by omega)
      refine v_aload_0 ok dX8_nextByte_38 (n := 39) rfl ?_
      refine v_getI ok fd_X8_152 ly_200 rfl rfl (jI := 7) rfl dX8_nextByte_39 (n := 42) rfl ?_
      try simp (disch := omega) only [zset_s, zset_o, zset_ne, zset_n]
      refine v_aload_0 ok dX8_nextByte_42 (n := 43) rfl ?_
      refine v_getI ok fd_X8_149 ly_200 rfl rfl (jI := 6) rfl dX8_nextByte_43 (n := 46) rfl ?_
      try simp (disch := omega) only [zset_s, zset_o, zset_ne, zset_n]
      refine v_icmp_ge ok dX8_nextByte_46 (tgt := 61) (by decide) (n := 49) rfl (by omega) (by omega) (fun c46_2 => ?_) (fun c46_2 => ?_)
      · have c46_2 := c46_2
        refine v_iconst ok dX8_nextByte_61 (n := 62) rfl ?_
        refine v_iret rt dX8_nextByte_62 ?_
        rw [he2]
        first
        | exact ⟨rfl, Or.inl ⟨by omega, rfl⟩⟩
        | exact ⟨rfl, Or.inr ⟨by omega, rfl⟩⟩
      · have c46_2 := c46_2
        have hb := hT p (by omega)
        refine v_aload_0 ok dX8_nextByte_49 (n := 50) rfl ?_
        refine v_getR ok fd_X8_19 ly_200 rfl rfl rfl rf_200_5 dX8_nextByte_50 (n := 53) rfl ?_
        refine v_aload_0 ok dX8_nextByte_53 (n := 54) rfl ?_
        refine v_getI ok fd_X8_152 ly_200 rfl rfl (jI := 7) rfl dX8_nextByte_54 (n := 57) rfl ?_
        try simp (disch := omega) only [zset_s, zset_o, zset_ne, zset_n]
        refine v_iald ok ly_206 rfl (by omega) (by decide) dX8_nextByte_57 (n := 58) rfl ?_
        try simp (disch := omega) only [zset_s, zset_o, zset_ne, zset_n]
        refine v_goto ok dX8_nextByte_58 (n := 62) (by decide) ?_
        refine v_iret rt dX8_nextByte_62 ?_
        rw [he2]
        first
        | exact ⟨rfl, Or.inl ⟨by omega, rfl⟩⟩
        | exact ⟨rfl, Or.inr ⟨by omega, rfl⟩⟩
    · have c8_1 := c8_1
      have hb := hT p (by omega)
      have hbb := hT p (by omega)
      refine v_aload_0 ok dX8_nextByte_11 (n := 12) rfl ?_
      refine v_getR ok fd_X8_19 ly_200 rfl rfl rfl rf_200_5 dX8_nextByte_12 (n := 15) rfl ?_
      refine v_aload_0 ok dX8_nextByte_15 (n := 16) rfl ?_
      refine v_getI ok fd_X8_152 ly_200 rfl rfl (jI := 7) rfl dX8_nextByte_16 (n := 19) rfl ?_
      try simp (disch := omega) only [zset_s, zset_o, zset_ne, zset_n]
      refine v_iald ok ly_206 rfl (by omega) (by decide) dX8_nextByte_19 (n := 20) rfl ?_
      try simp (disch := omega) only [zset_s, zset_o, zset_ne, zset_n]
      refine v_bipush ok (by decide) dX8_nextByte_20 (n := 22) rfl ?_
      refine v_icmp_ne ok dX8_nextByte_22 (tgt := 38) (by decide) (n := 25) rfl (by omega) (by omega) (fun c22_3 => ?_) (fun c22_3 => ?_)
      · have c22_3 := c22_3
        have he2 : (zsk (M 206) (M 200 6) (M 200 7)) = p := by rw [he]; exact zsk_n (by omega)
        refine v_aload_0 ok dX8_nextByte_38 (n := 39) rfl ?_
        refine v_getI ok fd_X8_152 ly_200 rfl rfl (jI := 7) rfl dX8_nextByte_39 (n := 42) rfl ?_
        try simp (disch := omega) only [zset_s, zset_o, zset_ne, zset_n]
        refine v_aload_0 ok dX8_nextByte_42 (n := 43) rfl ?_
        refine v_getI ok fd_X8_149 ly_200 rfl rfl (jI := 6) rfl dX8_nextByte_43 (n := 46) rfl ?_
        try simp (disch := omega) only [zset_s, zset_o, zset_ne, zset_n]
        refine v_icmp_ge ok dX8_nextByte_46 (tgt := 61) (by decide) (n := 49) rfl (by omega) (by omega) (fun c46_4 => ?_) (fun c46_4 => ?_)
        · have c46_4 := c46_4
          refine v_iconst ok dX8_nextByte_61 (n := 62) rfl ?_
          refine v_iret rt dX8_nextByte_62 ?_
          rw [he2]
          first
          | exact ⟨rfl, Or.inl ⟨by omega, rfl⟩⟩
          | exact ⟨rfl, Or.inr ⟨by omega, rfl⟩⟩
        · have c46_4 := c46_4
          have hb := hT p (by omega)
          refine v_aload_0 ok dX8_nextByte_49 (n := 50) rfl ?_
          refine v_getR ok fd_X8_19 ly_200 rfl rfl rfl rf_200_5 dX8_nextByte_50 (n := 53) rfl ?_
          refine v_aload_0 ok dX8_nextByte_53 (n := 54) rfl ?_
          refine v_getI ok fd_X8_152 ly_200 rfl rfl (jI := 7) rfl dX8_nextByte_54 (n := 57) rfl ?_
          try simp (disch := omega) only [zset_s, zset_o, zset_ne, zset_n]
          refine v_iald ok ly_206 rfl (by omega) (by decide) dX8_nextByte_57 (n := 58) rfl ?_
          try simp (disch := omega) only [zset_s, zset_o, zset_ne, zset_n]
          refine v_goto ok dX8_nextByte_58 (n := 62) (by decide) ?_
          refine v_iret rt dX8_nextByte_62 ?_
          rw [he2]
          first
          | exact ⟨rfl, Or.inl ⟨by omega, rfl⟩⟩
          | exact ⟨rfl, Or.inr ⟨by omega, rfl⟩⟩
      · have c22_3 := c22_3
        refine v_aload_0 ok dX8_nextByte_25 (n := 26) rfl ?_
        refine v_dup ok rfl dX8_nextByte_26 (n := 27) rfl ?_
        refine v_getI ok fd_X8_152 ly_200 rfl rfl (jI := 7) rfl dX8_nextByte_27 (n := 30) rfl ?_
        try simp (disch := omega) only [zset_s, zset_o, zset_ne, zset_n]
        refine v_iconst ok dX8_nextByte_30 (n := 31) rfl ?_
        refine v_iadd ok dX8_nextByte_31 (n := 32) rfl ?_
        refine v_putI ok fw_X8_152 ly_200 rfl rfl (jI := 7) rfl dX8_nextByte_32 (n := 35) rfl ?_
        rw [zset_ww]
        refine v_goto ok dX8_nextByte_35 (n := 0) (by decide) ?_
        exact ih _ (by omega) (p + 1) rfl (by omega) (by rw [he]; exact zsk_y ⟨by omega, by assumption⟩)
  have e := lp _ (M 200 7) rfl hp rfl
  rw [zset_id] at e
  exact e

set_option maxHeartbeats 4000000 in
set_option maxRecDepth 100000 in
theorem u_takes {G : zG} {ad : Int → Nat} {M : zM} {c : Int} (hc : 33 ≤ c ∧ c ≤ 126) (hl : 0 ≤ M 200 6 ∧ M 200 6 ≤ 120) (hp : 0 ≤ M 200 7 ∧ M 200 7 ≤ M 200 6) (hT : ∀ i, 0 ≤ i ∧ i < 120 → 0 ≤ M 206 i ∧ M 206 i ≤ 255)  : zTI G (zw ad) mi_X8_takes [zr 200, zi c] M (fun x M' => M' = zset M 200 7 (zps (M 206) (M 200 6) (M 200 7) c).2 ∧ x = (zps (M 206) (M 200 6) (M 200 7) c).1) := by
  refine zTI.ofZ (own := RX8) (ls := [some (zr 200), some (zi c), none]) (by decide +kernel) rfl rfl (Nat.le_of_ble_eq_true rfl) (fun γ ok rt => ?_)
  refine v_aload_0 ok dX8_takes_0 (n := 1) rfl ?_
  refine v_callVI ok (mi := mi_X8_nextByte) mc_X8_nextByte cv_X8_155 ly_200 rfl rfl rfl (by decide) ⟨Nat.zero_le _, Nat.zero_le _⟩ dX8_takes_1 (n := 4) rfl rfl rfl (Nat.le_of_ble_eq_true rfl) (u_nextByte hl hp hT) (fun x1 M1 g1 => ?_)
  obtain ⟨rfl, g1⟩ := g1
  have kb := zsk_bd (T := M 206) hp.2
  have hx1 : -1 ≤ x1 ∧ x1 ≤ 255 := by
    rcases g1 with ⟨h1, rfl⟩ | ⟨_, rfl⟩
    · have := hT _ (show 0 ≤ (zsk (M 206) (M 200 6) (M 200 7)) ∧ (zsk (M 206) (M 200 6) (M 200 7)) < 120 by omega)
      omega
    · omega
  refine v_iload_1 ok dX8_takes_4 (n := 5) rfl ?_
  refine v_icmp_ne ok dX8_takes_5 (tgt := 12) (by decide) (n := 8) rfl (by omega) (by omega) (fun c5_1 => ?_) (fun c5_1 => ?_)
  · have c5_1 := c5_1
    refine v_iconst ok dX8_takes_12 (n := 13) rfl ?_
    refine v_istore_2 ok (by decide) rfl dX8_takes_13 (n := 14) rfl ?_
    refine v_aload_0 ok dX8_takes_14 (n := 15) rfl ?_
    refine v_dup ok rfl dX8_takes_15 (n := 16) rfl ?_
    refine v_getI ok fd_X8_152 ly_200 rfl rfl (jI := 7) rfl dX8_takes_16 (n := 19) rfl ?_
    try simp (disch := omega) only [zset_s, zset_o, zset_ne, zset_n]
    refine v_iload_2 ok dX8_takes_19 (n := 20) rfl ?_
    refine v_if_eq ok dX8_takes_20 (tgt := 27) (by decide) (n := 23) rfl (by omega) (fun c20_2 => ?_) (fun c20_2 => ?_)
    · have c20_2 := c20_2
      first
      | (exfalso; omega)
      | skip
        refine v_iconst ok dX8_takes_27 (n := 28) rfl ?_
        refine v_iadd ok dX8_takes_28 (n := 29) rfl ?_
        refine v_putI ok fw_X8_152 ly_200 rfl rfl (jI := 7) rfl dX8_takes_29 (n := 32) rfl ?_
        rw [zset_ww]
        refine v_iload_2 ok dX8_takes_32 (n := 33) rfl ?_
        refine v_zret rt dX8_takes_33 (by omega) ?_
        unfold zps
        rcases g1 with ⟨h1, g1⟩ | ⟨h1, g1⟩
        · first
          | (rw [if_pos ⟨h1, by rw [← g1]; assumption⟩]; exact ⟨rfl, rfl⟩)
          | (rw [if_neg (fun q => absurd (g1.trans q.2) (by assumption)), Int.add_zero]; exact ⟨rfl, rfl⟩)
        · first
          | (exfalso; omega)
          | (rw [if_neg (fun q => h1 q.1), Int.add_zero]; exact ⟨rfl, rfl⟩)
    · have c20_2 := c20_2
      first
      | (exfalso; omega)
      | skip
        refine v_iconst ok dX8_takes_23 (n := 24) rfl ?_
        refine v_goto ok dX8_takes_24 (n := 28) (by decide) ?_
        refine v_iadd ok dX8_takes_28 (n := 29) rfl ?_
        refine v_putI ok fw_X8_152 ly_200 rfl rfl (jI := 7) rfl dX8_takes_29 (n := 32) rfl ?_
        rw [zset_ww]
        refine v_iload_2 ok dX8_takes_32 (n := 33) rfl ?_
        refine v_zret rt dX8_takes_33 (by omega) ?_
        unfold zps
        rcases g1 with ⟨h1, g1⟩ | ⟨h1, g1⟩
        · first
          | (rw [if_pos ⟨h1, by rw [← g1]; assumption⟩]; exact ⟨rfl, rfl⟩)
          | (rw [if_neg (fun q => absurd (g1.trans q.2) (by assumption)), Int.add_zero]; exact ⟨rfl, rfl⟩)
        · first
          | (exfalso; omega)
          | (rw [if_neg (fun q => h1 q.1), Int.add_zero]; exact ⟨rfl, rfl⟩)
  · have c5_1 := c5_1
    refine v_iconst ok dX8_takes_8 (n := 9) rfl ?_
    refine v_goto ok dX8_takes_9 (n := 13) (by decide) ?_
    refine v_istore_2 ok (by decide) rfl dX8_takes_13 (n := 14) rfl ?_
    refine v_aload_0 ok dX8_takes_14 (n := 15) rfl ?_
    refine v_dup ok rfl dX8_takes_15 (n := 16) rfl ?_
    refine v_getI ok fd_X8_152 ly_200 rfl rfl (jI := 7) rfl dX8_takes_16 (n := 19) rfl ?_
    try simp (disch := omega) only [zset_s, zset_o, zset_ne, zset_n]
    refine v_iload_2 ok dX8_takes_19 (n := 20) rfl ?_
    refine v_if_eq ok dX8_takes_20 (tgt := 27) (by decide) (n := 23) rfl (by omega) (fun c20_3 => ?_) (fun c20_3 => ?_)
    · have c20_3 := c20_3
      first
      | (exfalso; omega)
      | skip
        refine v_iconst ok dX8_takes_27 (n := 28) rfl ?_
        refine v_iadd ok dX8_takes_28 (n := 29) rfl ?_
        refine v_putI ok fw_X8_152 ly_200 rfl rfl (jI := 7) rfl dX8_takes_29 (n := 32) rfl ?_
        rw [zset_ww]
        refine v_iload_2 ok dX8_takes_32 (n := 33) rfl ?_
        refine v_zret rt dX8_takes_33 (by omega) ?_
        unfold zps
        rcases g1 with ⟨h1, g1⟩ | ⟨h1, g1⟩
        · first
          | (rw [if_pos ⟨h1, by rw [← g1]; assumption⟩]; exact ⟨rfl, rfl⟩)
          | (rw [if_neg (fun q => absurd (g1.trans q.2) (by assumption)), Int.add_zero]; exact ⟨rfl, rfl⟩)
        · first
          | (exfalso; omega)
          | (rw [if_neg (fun q => h1 q.1), Int.add_zero]; exact ⟨rfl, rfl⟩)
    · have c20_3 := c20_3
      first
      | (exfalso; omega)
      | skip
        refine v_iconst ok dX8_takes_23 (n := 24) rfl ?_
        refine v_goto ok dX8_takes_24 (n := 28) (by decide) ?_
        refine v_iadd ok dX8_takes_28 (n := 29) rfl ?_
        refine v_putI ok fw_X8_152 ly_200 rfl rfl (jI := 7) rfl dX8_takes_29 (n := 32) rfl ?_
        rw [zset_ww]
        refine v_iload_2 ok dX8_takes_32 (n := 33) rfl ?_
        refine v_zret rt dX8_takes_33 (by omega) ?_
        unfold zps
        rcases g1 with ⟨h1, g1⟩ | ⟨h1, g1⟩
        · first
          | (rw [if_pos ⟨h1, by rw [← g1]; assumption⟩]; exact ⟨rfl, rfl⟩)
          | (rw [if_neg (fun q => absurd (g1.trans q.2) (by assumption)), Int.add_zero]; exact ⟨rfl, rfl⟩)
        · first
          | (exfalso; omega)
          | (rw [if_neg (fun q => h1 q.1), Int.add_zero]; exact ⟨rfl, rfl⟩)

set_option maxHeartbeats 4000000 in
set_option maxRecDepth 100000 in
theorem u_readDigit {G : zG} {ad : Int → Nat} {M : zM} (hl : 0 ≤ M 200 6 ∧ M 200 6 ≤ 120) (hp : 0 ≤ M 200 7 ∧ M 200 7 ≤ M 200 6) (hT : ∀ i, 0 ≤ i ∧ i < 120 → 0 ≤ M 206 i ∧ M 206 i ≤ 255)  : zTI G (zw ad) mi_X8_readDigit [zr 200, zi 4] M (fun x M' => M' = zset M 200 7 (zdg (M 206) (M 200 6) (M 200 7)).2 ∧ x = (zdg (M 206) (M 200 6) (M 200 7)).1) := by
  refine zTI.of (own := RX8) (ls := [some (zr 200), some (zi 4), none]) (by decide +kernel) rfl rfl (Nat.le_of_ble_eq_true rfl) (fun γ ok rt => ?_)
  refine v_aload_0 ok dX8_readDigit_0 (n := 1) rfl ?_
  refine v_callVI ok (mi := mi_X8_nextByte) mc_X8_nextByte cv_X8_155 ly_200 rfl rfl rfl (by decide) ⟨Nat.zero_le _, Nat.zero_le _⟩ dX8_readDigit_1 (n := 4) rfl rfl rfl (Nat.le_of_ble_eq_true rfl) (u_nextByte hl hp hT) (fun x1 M1 g1 => ?_)
  obtain ⟨rfl, g1⟩ := g1
  have kb := zsk_bd (T := M 206) hp.2
  have hx1 : -1 ≤ x1 ∧ x1 ≤ 255 := by
    rcases g1 with ⟨h1, rfl⟩ | ⟨_, rfl⟩
    · have := hT _ (show 0 ≤ (zsk (M 206) (M 200 6) (M 200 7)) ∧ (zsk (M 206) (M 200 6) (M 200 7)) < 120 by omega)
      omega
    · omega
  refine v_bipush ok (by decide) dX8_readDigit_4 (n := 6) rfl ?_
  refine v_isub ok dX8_readDigit_6 (n := 7) rfl ?_
  refine v_istore_2 ok (by decide) rfl dX8_readDigit_7 (n := 8) rfl ?_
  refine v_iload_2 ok dX8_readDigit_8 (n := 9) rfl ?_
  refine v_i2l ok (by omega) dX8_readDigit_9 (n := 10) rfl ?_
  refine v_lconst0 ok dX8_readDigit_10 (n := 11) rfl ?_
  refine v_iload_1 ok dX8_readDigit_11 (n := 12) rfl ?_
  refine v_i2l ok (by omega) dX8_readDigit_12 (n := 13) rfl ?_
  refine v_callSI ok (mi := mi_X8_in) mc_X8_in cs_X8_85 (by decide) ⟨Nat.zero_le _, Nat.zero_le _⟩ dX8_readDigit_13 (n := 16) rfl rfl rfl (Nat.le_of_ble_eq_true rfl) (u_in (by omega) (by omega) (by omega)) (fun x2 M2 h2 => ?_)
  obtain ⟨e2_, h2⟩ := h2
  subst M2
  refine v_if_ne ok dX8_readDigit_16 (tgt := 21) (by decide) (n := 19) rfl (by omega) (fun c16_1 => ?_) (fun c16_1 => ?_)
  · have c16_1 := c16_1
    refine v_aload_0 ok dX8_readDigit_21 (n := 22) rfl ?_
    refine v_dup ok rfl dX8_readDigit_22 (n := 23) rfl ?_
    refine v_getI ok fd_X8_152 ly_200 rfl rfl (jI := 7) rfl dX8_readDigit_23 (n := 26) rfl ?_
    try simp (disch := omega) only [zset_s, zset_o, zset_ne, zset_n]
    refine v_iconst ok dX8_readDigit_26 (n := 27) rfl ?_
    refine v_iadd ok dX8_readDigit_27 (n := 28) rfl ?_
    refine v_putI ok fw_X8_152 ly_200 rfl rfl (jI := 7) rfl dX8_readDigit_28 (n := 31) rfl ?_
    rw [zset_ww]
    refine v_iload_2 ok dX8_readDigit_31 (n := 32) rfl ?_
    refine v_iret rt dX8_readDigit_32 ?_
    unfold zdg
    rcases g1 with ⟨h1, g1⟩ | ⟨h1, g1⟩
    · first
      | (rw [if_pos ⟨h1, by omega, by omega⟩, g1]; exact ⟨rfl, rfl⟩)
      | (rw [if_neg (fun q => by omega)]; exact ⟨rfl, rfl⟩)
    · first
      | (exfalso; omega)
      | (rw [if_neg (fun q => h1 q.1)]; exact ⟨rfl, rfl⟩)
  · have c16_1 := c16_1
    refine v_iconst ok dX8_readDigit_19 (n := 20) rfl ?_
    refine v_iret rt dX8_readDigit_20 ?_
    unfold zdg
    rcases g1 with ⟨h1, g1⟩ | ⟨h1, g1⟩
    · first
      | (rw [if_pos ⟨h1, by omega, by omega⟩, g1]; exact ⟨rfl, rfl⟩)
      | (rw [if_neg (fun q => by omega)]; exact ⟨rfl, rfl⟩)
    · first
      | (exfalso; omega)
      | (rw [if_neg (fun q => h1 q.1)]; exact ⟨rfl, rfl⟩)

set_option maxHeartbeats 4000000 in
set_option maxRecDepth 100000 in
theorem u_readNumber {G : zG} {ad : Int → Nat} {M : zM} {a b : Int} (hab : 0 ≤ a ∧ a ≤ b ∧ b ≤ 100) (hl : 0 ≤ M 200 6 ∧ M 200 6 ≤ 120) (hp : 0 ≤ M 200 7 ∧ M 200 7 ≤ M 200 6) (hT : ∀ i, 0 ≤ i ∧ i < 120 → 0 ≤ M 206 i ∧ M 206 i ≤ 255)  : zTI G (zw ad) mi_X8_readNumber [zr 200, zi a, zi b] M (fun x M' => M' = zset M 200 7 (zrn (M 206) (M 200 6) (M 200 7) a b).2 ∧ x = (zrn (M 206) (M 200 6) (M 200 7) a b).1) := by
  refine zTI.of (own := RX8) (ls := [some (zr 200), some (zi a), some (zi b), none, none]) (by decide +kernel) rfl rfl (Nat.le_of_ble_eq_true rfl) (fun γ ok rt => ?_)
  refine v_aload_0 ok dX8_readNumber_0 (n := 1) rfl ?_
  refine v_callVI ok (mi := mi_X8_nextByte) mc_X8_nextByte cv_X8_155 ly_200 rfl rfl rfl (by decide) ⟨Nat.zero_le _, Nat.zero_le _⟩ dX8_readNumber_1 (n := 4) rfl rfl rfl (Nat.le_of_ble_eq_true rfl) (u_nextByte hl hp hT) (fun x1 M1 g1 => ?_)
  obtain ⟨rfl, g1⟩ := g1
  have kb := zsk_bd (T := M 206) hp.2
  have hx1 : -1 ≤ x1 ∧ x1 ≤ 255 := by
    rcases g1 with ⟨h1, rfl⟩ | ⟨_, rfl⟩
    · have := hT _ (show 0 ≤ (zsk (M 206) (M 200 6) (M 200 7)) ∧ (zsk (M 206) (M 200 6) (M 200 7)) < 120 by omega)
      omega
    · omega
  refine v_pop ok rfl dX8_readNumber_4 (n := 5) rfl ?_
  refine v_aload_0 ok dX8_readNumber_5 (n := 6) rfl ?_
  refine v_getI ok fd_X8_152 ly_200 rfl rfl (jI := 7) rfl dX8_readNumber_6 (n := 9) rfl ?_
  try simp (disch := omega) only [zset_s, zset_o, zset_ne, zset_n]
  refine v_istore_3 ok (by decide) rfl dX8_readNumber_9 (n := 10) rfl ?_
  have lp : ∀ (zn : Nat) (p v w : Int), zn = (120 - p).toNat → (0 ≤ p ∧ p ≤ M 200 6) → ((0 ≤ v ∧ v ≤ 999 ∧ w = v) ∨ (1000 ≤ v ∧ v ≤ 9999 ∧ w = 1000)) → (znu (M 206) (M 200 6) (zsk (M 206) (M 200 6) (M 200 7)) 0 = znu (M 206) (M 200 6) p w) → zVV G γ (zw ad) (0, 0) 13 [some (zr 200), some (zi a), some (zi b), some (zi (zsk (M 206) (M 200 6) (M 200 7))), some (zi v)] [] (zset M 200 7 p) := by
    refine zrec _ (fun zn ih => ?_)
    intro p v w hzn hp2 hv he
    refine v_aload_0 ok dX8_readNumber_13 (n := 14) rfl ?_
    refine v_getI ok fd_X8_152 ly_200 rfl rfl (jI := 7) rfl dX8_readNumber_14 (n := 17) rfl ?_
    try simp (disch := omega) only [zset_s, zset_o, zset_ne, zset_n]
    refine v_aload_0 ok dX8_readNumber_17 (n := 18) rfl ?_
    refine v_getI ok fd_X8_149 ly_200 rfl rfl (jI := 6) rfl dX8_readNumber_18 (n := 21) rfl ?_
    try simp (disch := omega) only [zset_s, zset_o, zset_ne, zset_n]
    refine v_icmp_ge ok dX8_readNumber_21 (tgt := 92) (by decide) (n := 24) rfl (by omega) (by omega) (fun c21_1 => ?_) (fun c21_1 => ?_)
    · have c21_1 := c21_1
      rw [znu_n (p := p) (v := w) (by omega)] at he
      refine v_aload_0 ok dX8_readNumber_92 (n := 93) rfl ?_
      refine v_getI ok fd_X8_152 ly_200 rfl rfl (jI := 7) rfl dX8_readNumber_93 (n := 96) rfl ?_
      try simp (disch := omega) only [zset_s, zset_o, zset_ne, zset_n]
      refine v_iload_3 ok dX8_readNumber_96 (n := 97) rfl ?_
      refine v_icmp_ne ok dX8_readNumber_97 (tgt := 102) (by decide) (n := 100) rfl (by omega) (by omega) (fun c97_2 => ?_) (fun c97_2 => ?_)
      · have c97_2 := c97_2
        refine v_iload_4 ok dX8_readNumber_102 (n := 104) rfl ?_
        refine v_i2l ok (by omega) dX8_readNumber_104 (n := 105) rfl ?_
        refine v_iload_1 ok dX8_readNumber_105 (n := 106) rfl ?_
        refine v_i2l ok (by omega) dX8_readNumber_106 (n := 107) rfl ?_
        refine v_iload_2 ok dX8_readNumber_107 (n := 108) rfl ?_
        refine v_i2l ok (by omega) dX8_readNumber_108 (n := 109) rfl ?_
        refine v_callSI ok (mi := mi_X8_in) mc_X8_in cs_X8_85 (by decide) ⟨Nat.zero_le _, Nat.zero_le _⟩ dX8_readNumber_109 (n := 112) rfl rfl rfl (Nat.le_of_ble_eq_true rfl) (u_in (by omega) (by omega) (by omega)) (fun x3 M3 h3 => ?_)
        obtain ⟨e3_, h3⟩ := h3
        subst M3
        refine v_if_ne ok dX8_readNumber_112 (tgt := 122) (by decide) (n := 115) rfl (by omega) (fun c112_3 => ?_) (fun c112_3 => ?_)
        · have c112_3 := c112_3
          refine v_iload_4 ok dX8_readNumber_122 (n := 124) rfl ?_
          refine v_iret rt dX8_readNumber_124 ?_
          unfold zrn
          rw [he]
          dsimp only
          first
          | (rw [if_pos (by omega)]; exact ⟨by first | rfl | (rw [show p = (zsk (M 206) (M 200 6) (M 200 7)) by omega]), rfl⟩)
          | (rw [if_neg (by omega)]; exact ⟨rfl, by omega⟩)
        · have c112_3 := c112_3
          refine v_aload_0 ok dX8_readNumber_115 (n := 116) rfl ?_
          refine v_iload_3 ok dX8_readNumber_116 (n := 117) rfl ?_
          refine v_putI ok fw_X8_152 ly_200 rfl rfl (jI := 7) rfl dX8_readNumber_117 (n := 120) rfl ?_
          rw [zset_ww]
          refine v_iconst ok dX8_readNumber_120 (n := 121) rfl ?_
          refine v_iret rt dX8_readNumber_121 ?_
          unfold zrn
          rw [he]
          dsimp only
          first
          | (rw [if_pos (by omega)]; exact ⟨by first | rfl | (rw [show p = (zsk (M 206) (M 200 6) (M 200 7)) by omega]), rfl⟩)
          | (rw [if_neg (by omega)]; exact ⟨rfl, by omega⟩)
      · have c97_2 := c97_2
        refine v_iconst ok dX8_readNumber_100 (n := 101) rfl ?_
        refine v_iret rt dX8_readNumber_101 ?_
        unfold zrn
        rw [he]
        dsimp only
        first
        | (rw [if_pos (by omega)]; exact ⟨by first | rfl | (rw [show p = (zsk (M 206) (M 200 6) (M 200 7)) by omega]), rfl⟩)
        | (rw [if_neg (by omega)]; exact ⟨rfl, by omega⟩)
    · have c21_1 := c21_1
      have hb := hT p (by omega)
      refine v_aload_0 ok dX8_readNumber_24 (n := 25) rfl ?_
      refine v_getR ok fd_X8_19 ly_200 rfl rfl rfl rf_200_5 dX8_readNumber_25 (n := 28) rfl ?_
      refine v_aload_0 ok dX8_readNumber_28 (n := 29) rfl ?_
      refine v_getI ok fd_X8_152 ly_200 rfl rfl (jI := 7) rfl dX8_readNumber_29 (n := 32) rfl ?_
      try simp (disch := omega) only [zset_s, zset_o, zset_ne, zset_n]
      refine v_iald ok ly_206 rfl (by omega) (by decide) dX8_readNumber_32 (n := 33) rfl ?_
      try simp (disch := omega) only [zset_s, zset_o, zset_ne, zset_n]
      refine v_i2l ok (by omega) dX8_readNumber_33 (n := 34) rfl ?_
      refine v_ldc2 ok (c := 48) kc_X8_159 (by decide) dX8_readNumber_34 (n := 37) rfl ?_
      refine v_ldc2 ok (c := 57) kc_X8_161 (by decide) dX8_readNumber_37 (n := 40) rfl ?_
      refine v_callSI ok (mi := mi_X8_in) mc_X8_in cs_X8_85 (by decide) ⟨Nat.zero_le _, Nat.zero_le _⟩ dX8_readNumber_40 (n := 43) rfl rfl rfl (Nat.le_of_ble_eq_true rfl) (u_in (by omega) (by omega) (by omega)) (fun x2 M2 h2 => ?_)
      obtain ⟨e2_, h2⟩ := h2
      subst M2
      refine v_if_eq ok dX8_readNumber_43 (tgt := 92) (by decide) (n := 46) rfl (by omega) (fun c43_4 => ?_) (fun c43_4 => ?_)
      · have c43_4 := c43_4
        rw [znu_n (p := p) (v := w) (by omega)] at he
        refine v_aload_0 ok dX8_readNumber_92 (n := 93) rfl ?_
        refine v_getI ok fd_X8_152 ly_200 rfl rfl (jI := 7) rfl dX8_readNumber_93 (n := 96) rfl ?_
        try simp (disch := omega) only [zset_s, zset_o, zset_ne, zset_n]
        refine v_iload_3 ok dX8_readNumber_96 (n := 97) rfl ?_
        refine v_icmp_ne ok dX8_readNumber_97 (tgt := 102) (by decide) (n := 100) rfl (by omega) (by omega) (fun c97_5 => ?_) (fun c97_5 => ?_)
        · have c97_5 := c97_5
          refine v_iload_4 ok dX8_readNumber_102 (n := 104) rfl ?_
          refine v_i2l ok (by omega) dX8_readNumber_104 (n := 105) rfl ?_
          refine v_iload_1 ok dX8_readNumber_105 (n := 106) rfl ?_
          refine v_i2l ok (by omega) dX8_readNumber_106 (n := 107) rfl ?_
          refine v_iload_2 ok dX8_readNumber_107 (n := 108) rfl ?_
          refine v_i2l ok (by omega) dX8_readNumber_108 (n := 109) rfl ?_
          refine v_callSI ok (mi := mi_X8_in) mc_X8_in cs_X8_85 (by decide) ⟨Nat.zero_le _, Nat.zero_le _⟩ dX8_readNumber_109 (n := 112) rfl rfl rfl (Nat.le_of_ble_eq_true rfl) (u_in (by omega) (by omega) (by omega)) (fun x3 M3 h3 => ?_)
          obtain ⟨e3_, h3⟩ := h3
          subst M3
          refine v_if_ne ok dX8_readNumber_112 (tgt := 122) (by decide) (n := 115) rfl (by omega) (fun c112_6 => ?_) (fun c112_6 => ?_)
          · have c112_6 := c112_6
            refine v_iload_4 ok dX8_readNumber_122 (n := 124) rfl ?_
            refine v_iret rt dX8_readNumber_124 ?_
            unfold zrn
            rw [he]
            dsimp only
            first
            | (rw [if_pos (by omega)]; exact ⟨by first | rfl | (rw [show p = (zsk (M 206) (M 200 6) (M 200 7)) by omega]), rfl⟩)
            | (rw [if_neg (by omega)]; exact ⟨rfl, by omega⟩)
          · have c112_6 := c112_6
            refine v_aload_0 ok dX8_readNumber_115 (n := 116) rfl ?_
            refine v_iload_3 ok dX8_readNumber_116 (n := 117) rfl ?_
            refine v_putI ok fw_X8_152 ly_200 rfl rfl (jI := 7) rfl dX8_readNumber_117 (n := 120) rfl ?_
            rw [zset_ww]
            refine v_iconst ok dX8_readNumber_120 (n := 121) rfl ?_
            refine v_iret rt dX8_readNumber_121 ?_
            unfold zrn
            rw [he]
            dsimp only
            first
            | (rw [if_pos (by omega)]; exact ⟨by first | rfl | (rw [show p = (zsk (M 206) (M 200 6) (M 200 7)) by omega]), rfl⟩)
            | (rw [if_neg (by omega)]; exact ⟨rfl, by omega⟩)
        · have c97_5 := c97_5
          refine v_iconst ok dX8_readNumber_100 (n := 101) rfl ?_
          refine v_iret rt dX8_readNumber_101 ?_
          unfold zrn
          rw [he]
          dsimp only
          first
          | (rw [if_pos (by omega)]; exact ⟨by first | rfl | (rw [show p = (zsk (M 206) (M 200 6) (M 200 7)) by omega]), rfl⟩)
          | (rw [if_neg (by omega)]; exact ⟨rfl, by omega⟩)
      · have c43_4 := c43_4
        rw [znu_y (p := p) (v := w) ⟨by omega, by omega, by omega⟩] at he
        have hmi := zmin_b 1000 (10 * w + M 206 p - 48)
        refine v_iload_4 ok dX8_readNumber_46 (n := 48) rfl ?_
        refine v_sipush ok (by decide) dX8_readNumber_48 (n := 51) rfl ?_
        refine v_icmp_le ok dX8_readNumber_51 (tgt := 59) (by decide) (n := 54) rfl (by omega) (by omega) (fun c51_7 => ?_) (fun c51_7 => ?_)
        · have c51_7 := c51_7
          refine v_bipush ok (by decide) dX8_readNumber_59 (n := 61) rfl ?_
          refine v_iload_4 ok dX8_readNumber_61 (n := 63) rfl ?_
          refine v_imul ok dX8_readNumber_63 (n := 64) rfl ?_
          refine v_aload_0 ok dX8_readNumber_64 (n := 65) rfl ?_
          refine v_getR ok fd_X8_19 ly_200 rfl rfl rfl rf_200_5 dX8_readNumber_65 (n := 68) rfl ?_
          refine v_aload_0 ok dX8_readNumber_68 (n := 69) rfl ?_
          refine v_getI ok fd_X8_152 ly_200 rfl rfl (jI := 7) rfl dX8_readNumber_69 (n := 72) rfl ?_
          try simp (disch := omega) only [zset_s, zset_o, zset_ne, zset_n]
          refine v_iald ok ly_206 rfl (by omega) (by decide) dX8_readNumber_72 (n := 73) rfl ?_
          try simp (disch := omega) only [zset_s, zset_o, zset_ne, zset_n]
          refine v_iadd ok dX8_readNumber_73 (n := 74) rfl ?_
          refine v_bipush ok (by decide) dX8_readNumber_74 (n := 76) rfl ?_
          refine v_isub ok dX8_readNumber_76 (n := 77) rfl ?_
          refine v_istore_4 ok (by decide) rfl dX8_readNumber_77 (n := 79) rfl ?_
          refine v_aload_0 ok dX8_readNumber_79 (n := 80) rfl ?_
          refine v_dup ok rfl dX8_readNumber_80 (n := 81) rfl ?_
          refine v_getI ok fd_X8_152 ly_200 rfl rfl (jI := 7) rfl dX8_readNumber_81 (n := 84) rfl ?_
          try simp (disch := omega) only [zset_s, zset_o, zset_ne, zset_n]
          refine v_iconst ok dX8_readNumber_84 (n := 85) rfl ?_
          refine v_iadd ok dX8_readNumber_85 (n := 86) rfl ?_
          refine v_putI ok fw_X8_152 ly_200 rfl rfl (jI := 7) rfl dX8_readNumber_86 (n := 89) rfl ?_
          rw [zset_ww]
          refine v_goto ok dX8_readNumber_89 (n := 13) (by decide) ?_
          exact ih _ (by omega) (p + 1) _ (zmin 1000 (10 * w + M 206 p - 48)) rfl (by omega) (by omega) he
        · have c51_7 := c51_7
          refine v_iload_4 ok dX8_readNumber_54 (n := 56) rfl ?_
          refine v_goto ok dX8_readNumber_56 (n := 77) (by decide) ?_
          refine v_istore_4 ok (by decide) rfl dX8_readNumber_77 (n := 79) rfl ?_
          refine v_aload_0 ok dX8_readNumber_79 (n := 80) rfl ?_
          refine v_dup ok rfl dX8_readNumber_80 (n := 81) rfl ?_
          refine v_getI ok fd_X8_152 ly_200 rfl rfl (jI := 7) rfl dX8_readNumber_81 (n := 84) rfl ?_
          try simp (disch := omega) only [zset_s, zset_o, zset_ne, zset_n]
          refine v_iconst ok dX8_readNumber_84 (n := 85) rfl ?_
          refine v_iadd ok dX8_readNumber_85 (n := 86) rfl ?_
          refine v_putI ok fw_X8_152 ly_200 rfl rfl (jI := 7) rfl dX8_readNumber_86 (n := 89) rfl ?_
          rw [zset_ww]
          refine v_goto ok dX8_readNumber_89 (n := 13) (by decide) ?_
          exact ih _ (by omega) (p + 1) _ (zmin 1000 (10 * w + M 206 p - 48)) rfl (by omega) (by omega) he
  refine v_iconst ok dX8_readNumber_10 (n := 11) rfl ?_
  refine v_istore_4 ok (by decide) rfl dX8_readNumber_11 (n := 13) rfl ?_
  exact lp _ _ 0 0 rfl (by omega) (by omega) rfl

