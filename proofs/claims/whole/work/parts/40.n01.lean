/-! the model: plain calls -/
theorem zcmp_pos {x y : Int} (h : 0 < zcmp x y) : y < x := by
  unfold zcmp at h
  split at h
  · omega
  · split at h <;> omega
theorem zcmp_npos {x y : Int} (h : zcmp x y ≤ 0) : x ≤ y := by
  unfold zcmp at h
  split at h
  · omega
  · split at h <;> omega
abbrev zQB (M : zM) (b : Int) : Int → Int := fun j => M 201 (4 * b + j)
/-- a row of a bride, of a shoe, of the model -/
def zMB (M : zM) (b : Int) : Prop := (20 ≤ M 201 (4 * b) ∧ M 201 (4 * b) ≤ 60) ∧ (20 ≤ M 201 (4 * b + 1) ∧ M 201 (4 * b + 1) ≤ 60) ∧ (0 ≤ M 201 (4 * b + 2) ∧ M 201 (4 * b + 2) ≤ 4) ∧ (0 ≤ M 201 (4 * b + 3) ∧ M 201 (4 * b + 3) ≤ 11)
def zMS (M : zM) (s : Int) : Prop := (0 ≤ M 202 (4 * s) ∧ M 202 (4 * s) ≤ 1) ∧ (20 ≤ M 202 (4 * s + 1) ∧ M 202 (4 * s + 1) ≤ 70) ∧ (0 ≤ M 202 (4 * s + 2) ∧ M 202 (4 * s + 2) ≤ 3) ∧ (0 ≤ M 202 (4 * s + 3) ∧ M 202 (4 * s + 3) ≤ 1)
theorem zMB_r {M : zM} {b : Int} (h : zMB M b) : zBR (zQB M b) := by
  obtain ⟨h1, h2, h3, h4⟩ := h
  refine ⟨?_, h2, h3, h4⟩
  show 20 ≤ M 201 (4 * b + 0) ∧ M 201 (4 * b + 0) ≤ 60
  rw [Int.add_zero]
  exact h1
set_option maxHeartbeats 4000000 in
set_option maxRecDepth 100000 in
theorem u_in {G : zG} {ad : Int → Nat} {M : zM} {v a b : Int} (hv : -9223372036854775808 ≤ v ∧ v ≤ 9223372036854775807) (ha : -9223372036854775808 ≤ a ∧ a ≤ 9223372036854775807) (hb : -9223372036854775808 ≤ b ∧ b ≤ 9223372036854775807) : zTI G (zw ad) mi_X8_in [zj v, zj a, zj b] M (fun x M' => M' = M ∧ ((x = 1 ∧ (a ≤ v ∧ v ≤ b)) ∨ (x = 0 ∧ ¬ (a ≤ v ∧ v ≤ b)))) := by
  refine zTI.ofZ (own := RX8) (ls := [some (zj v), none, some (zj a), none, some (zj b), none]) (by decide +kernel) rfl rfl (Nat.le_of_ble_eq_true rfl) (fun γ ok rt => ?_)
  refine v_lload_0 ok dX8_in_0 (n := 1) rfl ?_
  refine v_lload_2 ok dX8_in_1 (n := 2) rfl ?_
  refine v_lcmp ok (by omega) (by omega) dX8_in_2 (n := 3) rfl ?_
  refine v_if_lt ok dX8_in_3 (tgt := 17) (by decide) (n := 6) rfl (zcmp_b _ _) (fun c3_1 => ?_) (fun c3_1 => ?_)
  · have c3_1 := zcmp_neg c3_1
    refine v_iconst ok dX8_in_17 (n := 18) rfl ?_
    refine v_zret rt dX8_in_18 (by omega) ?_
    exact ⟨rfl, by omega⟩
  · have c3_1 := zcmp_nneg c3_1
    refine v_lload_0 ok dX8_in_6 (n := 7) rfl ?_
    refine v_lload_4 ok dX8_in_7 (n := 9) rfl ?_
    refine v_lcmp ok (by omega) (by omega) dX8_in_9 (n := 10) rfl ?_
    refine v_if_gt ok dX8_in_10 (tgt := 17) (by decide) (n := 13) rfl (zcmp_b _ _) (fun c10_2 => ?_) (fun c10_2 => ?_)
    · have c10_2 := zcmp_pos c10_2
      refine v_iconst ok dX8_in_17 (n := 18) rfl ?_
      refine v_zret rt dX8_in_18 (by omega) ?_
      exact ⟨rfl, by omega⟩
    · have c10_2 := zcmp_npos c10_2
      refine v_iconst ok dX8_in_13 (n := 14) rfl ?_
      refine v_goto ok dX8_in_14 (n := 18) (by decide) ?_
      refine v_zret rt dX8_in_18 (by omega) ?_
      exact ⟨rfl, by omega⟩

set_option maxHeartbeats 4000000 in
set_option maxRecDepth 100000 in
theorem u_isBride {G : zG} {ad : Int → Nat} {M : zM} {v : Int} (hv : -2147483648 ≤ v ∧ v ≤ 2147483647) (hc : 0 ≤ M 200 2 ∧ M 200 2 ≤ 16) : zTI G (zw ad) mi_X8_isBride [zr 200, zi v] M (fun x M' => M' = M ∧ ((x = 1 ∧ (0 ≤ v ∧ v < M 200 2)) ∨ (x = 0 ∧ ¬ (0 ≤ v ∧ v < M 200 2)))) := by
  refine zTI.ofZ (own := RX8) (ls := [some (zr 200), some (zi v)]) (by decide +kernel) rfl rfl (Nat.le_of_ble_eq_true rfl) (fun γ ok rt => ?_)
  refine v_iload_1 ok dX8_isBride_0 (n := 1) rfl ?_
  refine v_i2l ok (by omega) dX8_isBride_1 (n := 2) rfl ?_
  refine v_lconst0 ok dX8_isBride_2 (n := 3) rfl ?_
  refine v_aload_0 ok dX8_isBride_3 (n := 4) rfl ?_
  refine v_getI ok fd_X8_81 ly_200 rfl rfl (jI := 2) rfl dX8_isBride_4 (n := 7) rfl ?_
  refine v_iconst ok dX8_isBride_7 (n := 8) rfl ?_
  refine v_isub ok dX8_isBride_8 (n := 9) rfl ?_
  refine v_i2l ok (by omega) dX8_isBride_9 (n := 10) rfl ?_
  refine v_callSI ok (mi := mi_X8_in) mc_X8_in cs_X8_85 (by decide) ⟨Nat.zero_le _, Nat.zero_le _⟩ dX8_isBride_10 (n := 13) rfl rfl rfl (Nat.le_of_ble_eq_true rfl) (u_in (by omega) (by omega) (by omega)) (fun x1 M1 h1 => ?_)
  obtain ⟨e1_, h1⟩ := h1
  subst M1
  refine v_zret rt dX8_isBride_13 (by omega) ?_
  exact ⟨rfl, by omega⟩

set_option maxHeartbeats 4000000 in
set_option maxRecDepth 100000 in
theorem u_isShoe {G : zG} {ad : Int → Nat} {M : zM} {v : Int} (hv : -2147483648 ≤ v ∧ v ≤ 2147483647) (hc : 0 ≤ M 200 3 ∧ M 200 3 ≤ 16) : zTI G (zw ad) mi_X8_isShoe [zr 200, zi v] M (fun x M' => M' = M ∧ ((x = 1 ∧ (0 ≤ v ∧ v < M 200 3)) ∨ (x = 0 ∧ ¬ (0 ≤ v ∧ v < M 200 3)))) := by
  refine zTI.ofZ (own := RX8) (ls := [some (zr 200), some (zi v)]) (by decide +kernel) rfl rfl (Nat.le_of_ble_eq_true rfl) (fun γ ok rt => ?_)
  refine v_iload_1 ok dX8_isShoe_0 (n := 1) rfl ?_
  refine v_i2l ok (by omega) dX8_isShoe_1 (n := 2) rfl ?_
  refine v_lconst0 ok dX8_isShoe_2 (n := 3) rfl ?_
  refine v_aload_0 ok dX8_isShoe_3 (n := 4) rfl ?_
  refine v_getI ok fd_X8_89 ly_200 rfl rfl (jI := 3) rfl dX8_isShoe_4 (n := 7) rfl ?_
  refine v_iconst ok dX8_isShoe_7 (n := 8) rfl ?_
  refine v_isub ok dX8_isShoe_8 (n := 9) rfl ?_
  refine v_i2l ok (by omega) dX8_isShoe_9 (n := 10) rfl ?_
  refine v_callSI ok (mi := mi_X8_in) mc_X8_in cs_X8_85 (by decide) ⟨Nat.zero_le _, Nat.zero_le _⟩ dX8_isShoe_10 (n := 13) rfl rfl rfl (Nat.le_of_ble_eq_true rfl) (u_in (by omega) (by omega) (by omega)) (fun x1 M1 h1 => ?_)
  obtain ⟨e1_, h1⟩ := h1
  subst M1
  refine v_zret rt dX8_isShoe_13 (by omega) ?_
  exact ⟨rfl, by omega⟩

set_option maxHeartbeats 4000000 in
set_option maxRecDepth 100000 in
theorem u_isHour {G : zG} {ad : Int → Nat} {M : zM} {v : Int} (hv : -2147483648 ≤ v ∧ v ≤ 2147483647) : zTI G (zw ad) mi_X8_isHour [zi v] M (fun x M' => M' = M ∧ ((x = 1 ∧ (0 ≤ v ∧ v ≤ 11)) ∨ (x = 0 ∧ ¬ (0 ≤ v ∧ v ≤ 11)))) := by
  refine zTI.ofZ (own := RX8) (ls := [some (zi v)]) (by decide +kernel) rfl rfl (Nat.le_of_ble_eq_true rfl) (fun γ ok rt => ?_)
  refine v_iload_0 ok dX8_isHour_0 (n := 1) rfl ?_
  refine v_i2l ok (by omega) dX8_isHour_1 (n := 2) rfl ?_
  refine v_lconst0 ok dX8_isHour_2 (n := 3) rfl ?_
  refine v_ldc2 ok (c := 11) kc_X8_92 (by decide) dX8_isHour_3 (n := 6) rfl ?_
  refine v_callSI ok (mi := mi_X8_in) mc_X8_in cs_X8_85 (by decide) ⟨Nat.zero_le _, Nat.zero_le _⟩ dX8_isHour_6 (n := 9) rfl rfl rfl (Nat.le_of_ble_eq_true rfl) (u_in (by omega) (by omega) (by omega)) (fun x1 M1 h1 => ?_)
  obtain ⟨e1_, h1⟩ := h1
  subst M1
  refine v_zret rt dX8_isHour_9 (by omega) ?_
  exact ⟨rfl, by omega⟩

set_option maxHeartbeats 4000000 in
set_option maxRecDepth 100000 in
theorem u_isOfBride {G : zG} {ad : Int → Nat} {M : zM} {q v : Int} (hq : 0 ≤ q ∧ q < 4) (hv : -2147483648 ≤ v ∧ v ≤ 2147483647) : zTI G (zw ad) mi_X8_isOfBride [zi q, zi v] M (fun x M' => M' = M ∧ ((x = 1 ∧ ((q < 2 ∧ 20 ≤ v ∧ v ≤ 60) ∨ (q = 2 ∧ 0 ≤ v ∧ v ≤ 4) ∨ (q = 3 ∧ 0 ≤ v ∧ v ≤ 11))) ∨ (x = 0 ∧ ¬ ((q < 2 ∧ 20 ≤ v ∧ v ≤ 60) ∨ (q = 2 ∧ 0 ≤ v ∧ v ≤ 4) ∨ (q = 3 ∧ 0 ≤ v ∧ v ≤ 11))))) := by
  refine zTI.ofZ (own := RX8) (ls := [some (zi q), some (zi v)]) (by decide +kernel) rfl rfl (Nat.le_of_ble_eq_true rfl) (fun γ ok rt => ?_)
  refine v_iload_0 ok dX8_isOfBride_0 (n := 1) rfl ?_
  refine v_iconst ok dX8_isOfBride_1 (n := 2) rfl ?_
  refine v_icmp_ge ok dX8_isOfBride_2 (tgt := 19) (by decide) (n := 5) rfl (by omega) (by omega) (fun c2_1 => ?_) (fun c2_1 => ?_)
  · have c2_1 := c2_1
    refine v_iload_1 ok dX8_isOfBride_19 (n := 20) rfl ?_
    refine v_i2l ok (by omega) dX8_isOfBride_20 (n := 21) rfl ?_
    refine v_lconst0 ok dX8_isOfBride_21 (n := 22) rfl ?_
    refine v_iload_0 ok dX8_isOfBride_22 (n := 23) rfl ?_
    refine v_iconst ok dX8_isOfBride_23 (n := 24) rfl ?_
    refine v_icmp_ne ok dX8_isOfBride_24 (tgt := 33) (by decide) (n := 27) rfl (by omega) (by omega) (fun c24_2 => ?_) (fun c24_2 => ?_)
    · have c24_2 := c24_2
      refine v_ldc2 ok (c := 11) kc_X8_92 (by decide) dX8_isOfBride_33 (n := 36) rfl ?_
      refine v_callSI ok (mi := mi_X8_in) mc_X8_in cs_X8_85 (by decide) ⟨Nat.zero_le _, Nat.zero_le _⟩ dX8_isOfBride_36 (n := 39) rfl rfl rfl (Nat.le_of_ble_eq_true rfl) (u_in (by omega) (by omega) (by omega)) (fun x1 M1 h1 => ?_)
      obtain ⟨e1_, h1⟩ := h1
      subst M1
      refine v_zret rt dX8_isOfBride_39 (by omega) ?_
      exact ⟨rfl, by omega⟩
    · have c24_2 := c24_2
      refine v_ldc2 ok (c := 4) kc_X8_98 (by decide) dX8_isOfBride_27 (n := 30) rfl ?_
      refine v_goto ok dX8_isOfBride_30 (n := 36) (by decide) ?_
      refine v_callSI ok (mi := mi_X8_in) mc_X8_in cs_X8_85 (by decide) ⟨Nat.zero_le _, Nat.zero_le _⟩ dX8_isOfBride_36 (n := 39) rfl rfl rfl (Nat.le_of_ble_eq_true rfl) (u_in (by omega) (by omega) (by omega)) (fun x1 M1 h1 => ?_)
      obtain ⟨e1_, h1⟩ := h1
      subst M1
      refine v_zret rt dX8_isOfBride_39 (by omega) ?_
      exact ⟨rfl, by omega⟩
  · have c2_1 := c2_1
    refine v_iload_1 ok dX8_isOfBride_5 (n := 6) rfl ?_
    refine v_i2l ok (by omega) dX8_isOfBride_6 (n := 7) rfl ?_
    refine v_ldc2 ok (c := 20) kc_X8_94 (by decide) dX8_isOfBride_7 (n := 10) rfl ?_
    refine v_ldc2 ok (c := 60) kc_X8_96 (by decide) dX8_isOfBride_10 (n := 13) rfl ?_
    refine v_callSI ok (mi := mi_X8_in) mc_X8_in cs_X8_85 (by decide) ⟨Nat.zero_le _, Nat.zero_le _⟩ dX8_isOfBride_13 (n := 16) rfl rfl rfl (Nat.le_of_ble_eq_true rfl) (u_in (by omega) (by omega) (by omega)) (fun x1 M1 h1 => ?_)
    obtain ⟨e1_, h1⟩ := h1
    subst M1
    refine v_goto ok dX8_isOfBride_16 (n := 39) (by decide) ?_
    refine v_zret rt dX8_isOfBride_39 (by omega) ?_
    exact ⟨rfl, by omega⟩

set_option maxHeartbeats 4000000 in
set_option maxRecDepth 100000 in
theorem u_bride {G : zG} {ad : Int → Nat} {M : zM} {a b c d : Int} (ha : -2147483648 ≤ a ∧ a ≤ 2147483647) (hb : -2147483648 ≤ b ∧ b ≤ 2147483647) (hc : -2147483648 ≤ c ∧ c ≤ 2147483647) (hd : -2147483648 ≤ d ∧ d ≤ 2147483647) (hnb : 0 ≤ M 200 2 ∧ M 200 2 ≤ 7)  : zTI G (zw ad) mi_X8_bride [zr 200, zi a, zi b, zi c, zi d] M (fun x M' => ((¬ ((20 ≤ a ∧ a ≤ 60) ∧ (20 ≤ b ∧ b ≤ 60) ∧ (0 ≤ c ∧ c ≤ 4) ∧ (0 ≤ d ∧ d ≤ 11))) ∧ x = -1 ∧ M' = M) ∨ ((((20 ≤ a ∧ a ≤ 60) ∧ (20 ≤ b ∧ b ≤ 60) ∧ (0 ≤ c ∧ c ≤ 4) ∧ (0 ≤ d ∧ d ≤ 11)) ∧ M 200 2 = 7) ∧ x = -3 ∧ M' = M) ∨ ((((20 ≤ a ∧ a ≤ 60) ∧ (20 ≤ b ∧ b ≤ 60) ∧ (0 ≤ c ∧ c ≤ 4) ∧ (0 ≤ d ∧ d ≤ 11)) ∧ M 200 2 < 7) ∧ x = M 200 2 ∧ M' = (zset (zset (zset (zset (zset M (201) (4 * M 200 2) (a)) (201) (4 * M 200 2 + 1) (b)) (201) (4 * M 200 2 + 2) (c)) (201) (4 * M 200 2 + 3) (d)) (200) 2 (M 200 2 + 1)))) := by
  refine zTI.of (own := RX8) (ls := [some (zr 200), some (zi a), some (zi b), some (zi c), some (zi d)]) (by decide +kernel) rfl rfl (Nat.le_of_ble_eq_true rfl) (fun γ ok rt => ?_)
  refine v_iconst ok dX8_bride_0 (n := 1) rfl ?_
  refine v_iload_1 ok dX8_bride_1 (n := 2) rfl ?_
  refine v_callSI ok (mi := mi_X8_isOfBride) mc_X8_isOfBride cs_X8_100 (by decide) ⟨Nat.zero_le _, Nat.zero_le _⟩ dX8_bride_2 (n := 5) rfl rfl rfl (Nat.le_of_ble_eq_true rfl) (u_isOfBride (by omega) ha) (fun x5 M5 h5 => ?_)
  obtain ⟨e5_, h5⟩ := h5
  subst M5
  refine v_if_eq ok dX8_bride_5 (tgt := 33) (by decide) (n := 8) rfl (by omega) (fun c5_1 => ?_) (fun c5_1 => ?_)
  · have c5_1 := c5_1
    refine v_iconst ok dX8_bride_33 (n := 34) rfl ?_
    refine v_iret rt dX8_bride_34 ?_
    exact (Or.inl ⟨by omega, by first | rfl | omega | (simp (disch := omega) only [zset_ne, zset_eq]), by first | rfl | omega | (simp (disch := omega) only [zset_ne, zset_eq])⟩)
  · have c5_1 := c5_1
    refine v_iconst ok dX8_bride_8 (n := 9) rfl ?_
    refine v_iload_2 ok dX8_bride_9 (n := 10) rfl ?_
    refine v_callSI ok (mi := mi_X8_isOfBride) mc_X8_isOfBride cs_X8_100 (by decide) ⟨Nat.zero_le _, Nat.zero_le _⟩ dX8_bride_10 (n := 13) rfl rfl rfl (Nat.le_of_ble_eq_true rfl) (u_isOfBride (by omega) hb) (fun x6 M6 h6 => ?_)
    obtain ⟨e6_, h6⟩ := h6
    subst M6
    refine v_if_eq ok dX8_bride_13 (tgt := 33) (by decide) (n := 16) rfl (by omega) (fun c13_2 => ?_) (fun c13_2 => ?_)
    · have c13_2 := c13_2
      refine v_iconst ok dX8_bride_33 (n := 34) rfl ?_
      refine v_iret rt dX8_bride_34 ?_
      exact (Or.inl ⟨by omega, by first | rfl | omega | (simp (disch := omega) only [zset_ne, zset_eq]), by first | rfl | omega | (simp (disch := omega) only [zset_ne, zset_eq])⟩)
    · have c13_2 := c13_2
      refine v_iconst ok dX8_bride_16 (n := 17) rfl ?_
      refine v_iload_3 ok dX8_bride_17 (n := 18) rfl ?_
      refine v_callSI ok (mi := mi_X8_isOfBride) mc_X8_isOfBride cs_X8_100 (by decide) ⟨Nat.zero_le _, Nat.zero_le _⟩ dX8_bride_18 (n := 21) rfl rfl rfl (Nat.le_of_ble_eq_true rfl) (u_isOfBride (by omega) hc) (fun x7 M7 h7 => ?_)
      obtain ⟨e7_, h7⟩ := h7
      subst M7
      refine v_if_eq ok dX8_bride_21 (tgt := 33) (by decide) (n := 24) rfl (by omega) (fun c21_3 => ?_) (fun c21_3 => ?_)
      · have c21_3 := c21_3
        refine v_iconst ok dX8_bride_33 (n := 34) rfl ?_
        refine v_iret rt dX8_bride_34 ?_
        exact (Or.inl ⟨by omega, by first | rfl | omega | (simp (disch := omega) only [zset_ne, zset_eq]), by first | rfl | omega | (simp (disch := omega) only [zset_ne, zset_eq])⟩)
      · have c21_3 := c21_3
        refine v_iconst ok dX8_bride_24 (n := 25) rfl ?_
        refine v_iload_4 ok dX8_bride_25 (n := 27) rfl ?_
        refine v_callSI ok (mi := mi_X8_isOfBride) mc_X8_isOfBride cs_X8_100 (by decide) ⟨Nat.zero_le _, Nat.zero_le _⟩ dX8_bride_27 (n := 30) rfl rfl rfl (Nat.le_of_ble_eq_true rfl) (u_isOfBride (by omega) hd) (fun x8 M8 h8 => ?_)
        obtain ⟨e8_, h8⟩ := h8
        subst M8
        refine v_if_ne ok dX8_bride_30 (tgt := 35) (by decide) (n := 33) rfl (by omega) (fun c30_4 => ?_) (fun c30_4 => ?_)
        · have c30_4 := c30_4
          refine v_aload_0 ok dX8_bride_35 (n := 36) rfl ?_
          refine v_getI ok fd_X8_81 ly_200 rfl rfl (jI := 2) rfl dX8_bride_36 (n := 39) rfl ?_
          try simp (disch := omega) only [zset_s, zset_ne, zset_o]
          refine v_bipush ok (by decide) dX8_bride_39 (n := 41) rfl ?_
          refine v_icmp_ne ok dX8_bride_41 (tgt := 47) (by decide) (n := 44) rfl (by omega) (by omega) (fun c41_5 => ?_) (fun c41_5 => ?_)
          · have c41_5 := c41_5
            refine v_aload_0 ok dX8_bride_47 (n := 48) rfl ?_
            refine v_getR ok fd_X8_7 ly_200 rfl rfl rfl rf_200_0 dX8_bride_48 (n := 51) rfl ?_
            refine v_iconst ok dX8_bride_51 (n := 52) rfl ?_
            refine v_aload_0 ok dX8_bride_52 (n := 53) rfl ?_
            refine v_getI ok fd_X8_81 ly_200 rfl rfl (jI := 2) rfl dX8_bride_53 (n := 56) rfl ?_
            try simp (disch := omega) only [zset_s, zset_ne, zset_o]
            refine v_imul ok dX8_bride_56 (n := 57) rfl ?_
            refine v_iload_1 ok dX8_bride_57 (n := 58) rfl ?_
            refine v_iast ok ly_201 rfl (by omega) (by decide) dX8_bride_58 (n := 59) rfl ?_
            refine v_aload_0 ok dX8_bride_59 (n := 60) rfl ?_
            refine v_getR ok fd_X8_7 ly_200 rfl rfl rfl rf_200_0 dX8_bride_60 (n := 63) rfl ?_
            refine v_iconst ok dX8_bride_63 (n := 64) rfl ?_
            refine v_aload_0 ok dX8_bride_64 (n := 65) rfl ?_
            refine v_getI ok fd_X8_81 ly_200 rfl rfl (jI := 2) rfl dX8_bride_65 (n := 68) rfl ?_
            try simp (disch := omega) only [zset_s, zset_ne, zset_o]
            refine v_imul ok dX8_bride_68 (n := 69) rfl ?_
            refine v_iconst ok dX8_bride_69 (n := 70) rfl ?_
            refine v_iadd ok dX8_bride_70 (n := 71) rfl ?_
            refine v_iload_2 ok dX8_bride_71 (n := 72) rfl ?_
            refine v_iast ok ly_201 rfl (by omega) (by decide) dX8_bride_72 (n := 73) rfl ?_
            refine v_aload_0 ok dX8_bride_73 (n := 74) rfl ?_
            refine v_getR ok fd_X8_7 ly_200 rfl rfl rfl rf_200_0 dX8_bride_74 (n := 77) rfl ?_
            refine v_iconst ok dX8_bride_77 (n := 78) rfl ?_
            refine v_aload_0 ok dX8_bride_78 (n := 79) rfl ?_
            refine v_getI ok fd_X8_81 ly_200 rfl rfl (jI := 2) rfl dX8_bride_79 (n := 82) rfl ?_
            try simp (disch := omega) only [zset_s, zset_ne, zset_o]
            refine v_imul ok dX8_bride_82 (n := 83) rfl ?_
            refine v_iconst ok dX8_bride_83 (n := 84) rfl ?_
            refine v_iadd ok dX8_bride_84 (n := 85) rfl ?_
            refine v_iload_3 ok dX8_bride_85 (n := 86) rfl ?_
            refine v_iast ok ly_201 rfl (by omega) (by decide) dX8_bride_86 (n := 87) rfl ?_
            refine v_aload_0 ok dX8_bride_87 (n := 88) rfl ?_
            refine v_getR ok fd_X8_7 ly_200 rfl rfl rfl rf_200_0 dX8_bride_88 (n := 91) rfl ?_
            refine v_iconst ok dX8_bride_91 (n := 92) rfl ?_
            refine v_aload_0 ok dX8_bride_92 (n := 93) rfl ?_
            refine v_getI ok fd_X8_81 ly_200 rfl rfl (jI := 2) rfl dX8_bride_93 (n := 96) rfl ?_
            try simp (disch := omega) only [zset_s, zset_ne, zset_o]
            refine v_imul ok dX8_bride_96 (n := 97) rfl ?_
            refine v_iconst ok dX8_bride_97 (n := 98) rfl ?_
            refine v_iadd ok dX8_bride_98 (n := 99) rfl ?_
            refine v_iload_4 ok dX8_bride_99 (n := 101) rfl ?_
            refine v_iast ok ly_201 rfl (by omega) (by decide) dX8_bride_101 (n := 102) rfl ?_
            refine v_aload_0 ok dX8_bride_102 (n := 103) rfl ?_
            refine v_dup ok rfl dX8_bride_103 (n := 104) rfl ?_
            refine v_getI ok fd_X8_81 ly_200 rfl rfl (jI := 2) rfl dX8_bride_104 (n := 107) rfl ?_
            try simp (disch := omega) only [zset_s, zset_ne, zset_o]
            refine v_iconst ok dX8_bride_107 (n := 108) rfl ?_
            refine v_iadd ok dX8_bride_108 (n := 109) rfl ?_
            refine v_putI ok fw_X8_81 ly_200 rfl rfl (jI := 2) rfl dX8_bride_109 (n := 112) rfl ?_
            refine v_aload_0 ok dX8_bride_112 (n := 113) rfl ?_
            refine v_getI ok fd_X8_81 ly_200 rfl rfl (jI := 2) rfl dX8_bride_113 (n := 116) rfl ?_
            try simp (disch := omega) only [zset_s, zset_ne, zset_o]
            refine v_iconst ok dX8_bride_116 (n := 117) rfl ?_
            refine v_isub ok dX8_bride_117 (n := 118) rfl ?_
            refine v_iret rt dX8_bride_118 ?_
            exact (Or.inr (Or.inr ⟨by omega, by omega, by first | rfl | omega | (simp (disch := omega) only [zset_ne, zset_eq])⟩))
          · have c41_5 := c41_5
            refine v_bipush ok (by decide) dX8_bride_44 (n := 46) rfl ?_
            refine v_iret rt dX8_bride_46 ?_
            exact (Or.inr (Or.inl ⟨by omega, by first | rfl | omega | (simp (disch := omega) only [zset_ne, zset_eq]), by first | rfl | omega | (simp (disch := omega) only [zset_ne, zset_eq])⟩))
        · have c30_4 := c30_4
          refine v_iconst ok dX8_bride_33 (n := 34) rfl ?_
          refine v_iret rt dX8_bride_34 ?_
          exact (Or.inl ⟨by omega, by first | rfl | omega | (simp (disch := omega) only [zset_ne, zset_eq]), by first | rfl | omega | (simp (disch := omega) only [zset_ne, zset_eq])⟩)

set_option maxHeartbeats 4000000 in
set_option maxRecDepth 100000 in
theorem u_make {G : zG} {ad : Int → Nat} {M : zM} {b q v : Int} (hb : -2147483648 ≤ b ∧ b ≤ 2147483647) (hq : -2147483648 ≤ q ∧ q ≤ 2147483647) (hv : -2147483648 ≤ v ∧ v ≤ 2147483647) (hnb : 0 ≤ M 200 2 ∧ M 200 2 ≤ 7)  : zTI G (zw ad) mi_X8_make [zr 200, zi b, zi q, zi v] M (fun x M' => ((¬ ((0 ≤ b ∧ b < M 200 2) ∧ (0 ≤ q ∧ q ≤ 3) ∧ ((q < 2 ∧ 20 ≤ v ∧ v ≤ 60) ∨ (q = 2 ∧ 0 ≤ v ∧ v ≤ 4) ∨ (q = 3 ∧ 0 ≤ v ∧ v ≤ 11)))) ∧ x = -1 ∧ M' = M) ∨ (((0 ≤ b ∧ b < M 200 2) ∧ (0 ≤ q ∧ q ≤ 3) ∧ ((q < 2 ∧ 20 ≤ v ∧ v ≤ 60) ∨ (q = 2 ∧ 0 ≤ v ∧ v ≤ 4) ∨ (q = 3 ∧ 0 ≤ v ∧ v ≤ 11))) ∧ x = M 201 (4 * b + q) ∧ M' = zset M 201 (4 * b + q) v)) := by
  refine zTI.of (own := RX8) (ls := [some (zr 200), some (zi b), some (zi q), some (zi v), none]) (by decide +kernel) rfl rfl (Nat.le_of_ble_eq_true rfl) (fun γ ok rt => ?_)
  refine v_aload_0 ok dX8_make_0 (n := 1) rfl ?_
  refine v_iload_1 ok dX8_make_1 (n := 2) rfl ?_
  refine v_callVI ok (mi := mi_X8_isBride) mc_X8_isBride cv_X8_104 ly_200 rfl rfl rfl (by decide) ⟨Nat.zero_le _, Nat.zero_le _⟩ dX8_make_2 (n := 5) rfl rfl rfl (Nat.le_of_ble_eq_true rfl) (u_isBride hb (by omega)) (fun x5 M5 h5 => ?_)
  obtain ⟨e5_, h5⟩ := h5
  subst M5
  refine v_if_eq ok dX8_make_5 (tgt := 28) (by decide) (n := 8) rfl (by omega) (fun c5_1 => ?_) (fun c5_1 => ?_)
  · have c5_1 := c5_1
    refine v_iconst ok dX8_make_28 (n := 29) rfl ?_
    refine v_iret rt dX8_make_29 ?_
    exact (Or.inl ⟨by omega, by first | rfl | omega | (simp (disch := omega) only [zset_ne, zset_eq]), by first | rfl | omega | (simp (disch := omega) only [zset_ne, zset_eq])⟩)
  · have c5_1 := c5_1
    refine v_iload_2 ok dX8_make_8 (n := 9) rfl ?_
    refine v_i2l ok (by omega) dX8_make_9 (n := 10) rfl ?_
    refine v_lconst0 ok dX8_make_10 (n := 11) rfl ?_
    refine v_ldc2 ok (c := 3) kc_X8_108 (by decide) dX8_make_11 (n := 14) rfl ?_
    refine v_callSI ok (mi := mi_X8_in) mc_X8_in cs_X8_85 (by decide) ⟨Nat.zero_le _, Nat.zero_le _⟩ dX8_make_14 (n := 17) rfl rfl rfl (Nat.le_of_ble_eq_true rfl) (u_in (by omega) (by omega) (by omega)) (fun x6 M6 h6 => ?_)
    obtain ⟨e6_, h6⟩ := h6
    subst M6
    refine v_if_eq ok dX8_make_17 (tgt := 28) (by decide) (n := 20) rfl (by omega) (fun c17_2 => ?_) (fun c17_2 => ?_)
    · have c17_2 := c17_2
      refine v_iconst ok dX8_make_28 (n := 29) rfl ?_
      refine v_iret rt dX8_make_29 ?_
      exact (Or.inl ⟨by omega, by first | rfl | omega | (simp (disch := omega) only [zset_ne, zset_eq]), by first | rfl | omega | (simp (disch := omega) only [zset_ne, zset_eq])⟩)
    · have c17_2 := c17_2
      refine v_iload_2 ok dX8_make_20 (n := 21) rfl ?_
      refine v_iload_3 ok dX8_make_21 (n := 22) rfl ?_
      refine v_callSI ok (mi := mi_X8_isOfBride) mc_X8_isOfBride cs_X8_100 (by decide) ⟨Nat.zero_le _, Nat.zero_le _⟩ dX8_make_22 (n := 25) rfl rfl rfl (Nat.le_of_ble_eq_true rfl) (u_isOfBride (by omega) hv) (fun x7 M7 h7 => ?_)
      obtain ⟨e7_, h7⟩ := h7
      subst M7
      refine v_if_ne ok dX8_make_25 (tgt := 30) (by decide) (n := 28) rfl (by omega) (fun c25_3 => ?_) (fun c25_3 => ?_)
      · have c25_3 := c25_3
        refine v_aload_0 ok dX8_make_30 (n := 31) rfl ?_
        refine v_getR ok fd_X8_7 ly_200 rfl rfl rfl rf_200_0 dX8_make_31 (n := 34) rfl ?_
        refine v_iconst ok dX8_make_34 (n := 35) rfl ?_
        refine v_iload_1 ok dX8_make_35 (n := 36) rfl ?_
        refine v_imul ok dX8_make_36 (n := 37) rfl ?_
        refine v_iload_2 ok dX8_make_37 (n := 38) rfl ?_
        refine v_iadd ok dX8_make_38 (n := 39) rfl ?_
        refine v_iald ok ly_201 rfl (by omega) (by decide) dX8_make_39 (n := 40) rfl ?_
        refine v_istore_4 ok (by decide) rfl dX8_make_40 (n := 42) rfl ?_
        refine v_aload_0 ok dX8_make_42 (n := 43) rfl ?_
        refine v_getR ok fd_X8_7 ly_200 rfl rfl rfl rf_200_0 dX8_make_43 (n := 46) rfl ?_
        refine v_iconst ok dX8_make_46 (n := 47) rfl ?_
        refine v_iload_1 ok dX8_make_47 (n := 48) rfl ?_
        refine v_imul ok dX8_make_48 (n := 49) rfl ?_
        refine v_iload_2 ok dX8_make_49 (n := 50) rfl ?_
        refine v_iadd ok dX8_make_50 (n := 51) rfl ?_
        refine v_iload_3 ok dX8_make_51 (n := 52) rfl ?_
        refine v_iast ok ly_201 rfl (by omega) (by decide) dX8_make_52 (n := 53) rfl ?_
        refine v_iload_4 ok dX8_make_53 (n := 55) rfl ?_
        refine v_iret rt dX8_make_55 ?_
        exact (Or.inr ⟨by omega, by first | rfl | omega | (simp (disch := omega) only [zset_ne, zset_eq]), by first | rfl | omega | (simp (disch := omega) only [zset_ne, zset_eq])⟩)
      · have c25_3 := c25_3
        refine v_iconst ok dX8_make_28 (n := 29) rfl ?_
        refine v_iret rt dX8_make_29 ?_
        exact (Or.inl ⟨by omega, by first | rfl | omega | (simp (disch := omega) only [zset_ne, zset_eq]), by first | rfl | omega | (simp (disch := omega) only [zset_ne, zset_eq])⟩)

set_option maxHeartbeats 4000000 in
set_option maxRecDepth 100000 in
theorem u_addShoe {G : zG} {ad : Int → Nat} {M : zM} {a b c : Int} (hns : 0 ≤ M 200 3 ∧ M 200 3 < 16)  : zTV G (zw ad) mi_X8_addShoe [zr 200, zi a, zi b, zi c] M (fun M' => M' = (zset (zset (zset (zset (zset M (202) (4 * M 200 3) (a)) (202) (4 * M 200 3 + 1) (b)) (202) (4 * M 200 3 + 2) (c)) (202) (4 * M 200 3 + 3) (0)) (200) 3 (M 200 3 + 1))) := by
  refine zTV.of (own := RX8) (ls := [some (zr 200), some (zi a), some (zi b), some (zi c)]) (by decide +kernel) rfl rfl (Nat.le_of_ble_eq_true rfl) (fun γ ok rt => ?_)
  refine v_aload_0 ok dX8_addShoe_0 (n := 1) rfl ?_
  refine v_getR ok fd_X8_13 ly_200 rfl rfl rfl rf_200_1 dX8_addShoe_1 (n := 4) rfl ?_
  refine v_iconst ok dX8_addShoe_4 (n := 5) rfl ?_
  refine v_aload_0 ok dX8_addShoe_5 (n := 6) rfl ?_
  refine v_getI ok fd_X8_89 ly_200 rfl rfl (jI := 3) rfl dX8_addShoe_6 (n := 9) rfl ?_
  try simp (disch := omega) only [zset_s, zset_ne, zset_o]
  refine v_imul ok dX8_addShoe_9 (n := 10) rfl ?_
  refine v_iload_1 ok dX8_addShoe_10 (n := 11) rfl ?_
  refine v_iast ok ly_202 rfl (by omega) (by decide) dX8_addShoe_11 (n := 12) rfl ?_
  refine v_aload_0 ok dX8_addShoe_12 (n := 13) rfl ?_
  refine v_getR ok fd_X8_13 ly_200 rfl rfl rfl rf_200_1 dX8_addShoe_13 (n := 16) rfl ?_
  refine v_iconst ok dX8_addShoe_16 (n := 17) rfl ?_
  refine v_aload_0 ok dX8_addShoe_17 (n := 18) rfl ?_
  refine v_getI ok fd_X8_89 ly_200 rfl rfl (jI := 3) rfl dX8_addShoe_18 (n := 21) rfl ?_
  try simp (disch := omega) only [zset_s, zset_ne, zset_o]
  refine v_imul ok dX8_addShoe_21 (n := 22) rfl ?_
  refine v_iconst ok dX8_addShoe_22 (n := 23) rfl ?_
  refine v_iadd ok dX8_addShoe_23 (n := 24) rfl ?_
  refine v_iload_2 ok dX8_addShoe_24 (n := 25) rfl ?_
  refine v_iast ok ly_202 rfl (by omega) (by decide) dX8_addShoe_25 (n := 26) rfl ?_
  refine v_aload_0 ok dX8_addShoe_26 (n := 27) rfl ?_
  refine v_getR ok fd_X8_13 ly_200 rfl rfl rfl rf_200_1 dX8_addShoe_27 (n := 30) rfl ?_
  refine v_iconst ok dX8_addShoe_30 (n := 31) rfl ?_
  refine v_aload_0 ok dX8_addShoe_31 (n := 32) rfl ?_
  refine v_getI ok fd_X8_89 ly_200 rfl rfl (jI := 3) rfl dX8_addShoe_32 (n := 35) rfl ?_
  try simp (disch := omega) only [zset_s, zset_ne, zset_o]
  refine v_imul ok dX8_addShoe_35 (n := 36) rfl ?_
  refine v_iconst ok dX8_addShoe_36 (n := 37) rfl ?_
  refine v_iadd ok dX8_addShoe_37 (n := 38) rfl ?_
  refine v_iload_3 ok dX8_addShoe_38 (n := 39) rfl ?_
  refine v_iast ok ly_202 rfl (by omega) (by decide) dX8_addShoe_39 (n := 40) rfl ?_
  refine v_aload_0 ok dX8_addShoe_40 (n := 41) rfl ?_
  refine v_getR ok fd_X8_13 ly_200 rfl rfl rfl rf_200_1 dX8_addShoe_41 (n := 44) rfl ?_
  refine v_iconst ok dX8_addShoe_44 (n := 45) rfl ?_
  refine v_aload_0 ok dX8_addShoe_45 (n := 46) rfl ?_
  refine v_getI ok fd_X8_89 ly_200 rfl rfl (jI := 3) rfl dX8_addShoe_46 (n := 49) rfl ?_
  try simp (disch := omega) only [zset_s, zset_ne, zset_o]
  refine v_imul ok dX8_addShoe_49 (n := 50) rfl ?_
  refine v_iconst ok dX8_addShoe_50 (n := 51) rfl ?_
  refine v_iadd ok dX8_addShoe_51 (n := 52) rfl ?_
  refine v_iconst ok dX8_addShoe_52 (n := 53) rfl ?_
  refine v_iast ok ly_202 rfl (by omega) (by decide) dX8_addShoe_53 (n := 54) rfl ?_
  refine v_aload_0 ok dX8_addShoe_54 (n := 55) rfl ?_
  refine v_dup ok rfl dX8_addShoe_55 (n := 56) rfl ?_
  refine v_getI ok fd_X8_89 ly_200 rfl rfl (jI := 3) rfl dX8_addShoe_56 (n := 59) rfl ?_
  try simp (disch := omega) only [zset_s, zset_ne, zset_o]
  refine v_iconst ok dX8_addShoe_59 (n := 60) rfl ?_
  refine v_iadd ok dX8_addShoe_60 (n := 61) rfl ?_
  refine v_putI ok fw_X8_89 ly_200 rfl rfl (jI := 3) rfl dX8_addShoe_61 (n := 64) rfl ?_
  refine v_vret rt dX8_addShoe_64 ?_
  rfl

set_option maxHeartbeats 4000000 in
set_option maxRecDepth 100000 in
theorem u_shoe {G : zG} {ad : Int → Nat} {M : zM} {a b c : Int} (ha : -2147483648 ≤ a ∧ a ≤ 2147483647) (hb : -2147483648 ≤ b ∧ b ≤ 2147483647) (hc : -2147483648 ≤ c ∧ c ≤ 2147483647) (hns : 0 ≤ M 200 3 ∧ M 200 3 ≤ 16)  : zTI G (zw ad) mi_X8_shoe [zr 200, zi a, zi b, zi c] M (fun x M' => ((¬ ((0 ≤ a ∧ a ≤ 1) ∧ (20 ≤ b ∧ b ≤ 70) ∧ (0 ≤ c ∧ c ≤ 3))) ∧ x = -1 ∧ M' = M) ∨ ((((0 ≤ a ∧ a ≤ 1) ∧ (20 ≤ b ∧ b ≤ 70) ∧ (0 ≤ c ∧ c ≤ 3)) ∧ M 200 3 = 16) ∧ x = -3 ∧ M' = M) ∨ ((((0 ≤ a ∧ a ≤ 1) ∧ (20 ≤ b ∧ b ≤ 70) ∧ (0 ≤ c ∧ c ≤ 3)) ∧ M 200 3 < 16) ∧ x = M 200 3 ∧ M' = (zset (zset (zset (zset (zset M (202) (4 * M 200 3) (a)) (202) (4 * M 200 3 + 1) (b)) (202) (4 * M 200 3 + 2) (c)) (202) (4 * M 200 3 + 3) (0)) (200) 3 (M 200 3 + 1)))) := by
  refine zTI.of (own := RX8) (ls := [some (zr 200), some (zi a), some (zi b), some (zi c)]) (by decide +kernel) rfl rfl (Nat.le_of_ble_eq_true rfl) (fun γ ok rt => ?_)
  refine v_iload_1 ok dX8_shoe_0 (n := 1) rfl ?_
  refine v_i2l ok (by omega) dX8_shoe_1 (n := 2) rfl ?_
  refine v_lconst0 ok dX8_shoe_2 (n := 3) rfl ?_
  refine v_lconst1 ok dX8_shoe_3 (n := 4) rfl ?_
  refine v_callSI ok (mi := mi_X8_in) mc_X8_in cs_X8_85 (by decide) ⟨Nat.zero_le _, Nat.zero_le _⟩ dX8_shoe_4 (n := 7) rfl rfl rfl (Nat.le_of_ble_eq_true rfl) (u_in (by omega) (by omega) (by omega)) (fun x5 M5 h5 => ?_)
  obtain ⟨e5_, h5⟩ := h5
  subst M5
  refine v_if_eq ok dX8_shoe_7 (tgt := 36) (by decide) (n := 10) rfl (by omega) (fun c7_1 => ?_) (fun c7_1 => ?_)
  · have c7_1 := c7_1
    refine v_iconst ok dX8_shoe_36 (n := 37) rfl ?_
    refine v_iret rt dX8_shoe_37 ?_
    exact (Or.inl ⟨by omega, by first | rfl | omega | (simp (disch := omega) only [zset_ne, zset_eq]), by first | rfl | omega | (simp (disch := omega) only [zset_ne, zset_eq])⟩)
  · have c7_1 := c7_1
    refine v_iload_2 ok dX8_shoe_10 (n := 11) rfl ?_
    refine v_i2l ok (by omega) dX8_shoe_11 (n := 12) rfl ?_
    refine v_ldc2 ok (c := 20) kc_X8_94 (by decide) dX8_shoe_12 (n := 15) rfl ?_
    refine v_ldc2 ok (c := 70) kc_X8_110 (by decide) dX8_shoe_15 (n := 18) rfl ?_
    refine v_callSI ok (mi := mi_X8_in) mc_X8_in cs_X8_85 (by decide) ⟨Nat.zero_le _, Nat.zero_le _⟩ dX8_shoe_18 (n := 21) rfl rfl rfl (Nat.le_of_ble_eq_true rfl) (u_in (by omega) (by omega) (by omega)) (fun x6 M6 h6 => ?_)
    obtain ⟨e6_, h6⟩ := h6
    subst M6
    refine v_if_eq ok dX8_shoe_21 (tgt := 36) (by decide) (n := 24) rfl (by omega) (fun c21_2 => ?_) (fun c21_2 => ?_)
    · have c21_2 := c21_2
      refine v_iconst ok dX8_shoe_36 (n := 37) rfl ?_
      refine v_iret rt dX8_shoe_37 ?_
      exact (Or.inl ⟨by omega, by first | rfl | omega | (simp (disch := omega) only [zset_ne, zset_eq]), by first | rfl | omega | (simp (disch := omega) only [zset_ne, zset_eq])⟩)
    · have c21_2 := c21_2
      refine v_iload_3 ok dX8_shoe_24 (n := 25) rfl ?_
      refine v_i2l ok (by omega) dX8_shoe_25 (n := 26) rfl ?_
      refine v_lconst0 ok dX8_shoe_26 (n := 27) rfl ?_
      refine v_ldc2 ok (c := 3) kc_X8_108 (by decide) dX8_shoe_27 (n := 30) rfl ?_
      refine v_callSI ok (mi := mi_X8_in) mc_X8_in cs_X8_85 (by decide) ⟨Nat.zero_le _, Nat.zero_le _⟩ dX8_shoe_30 (n := 33) rfl rfl rfl (Nat.le_of_ble_eq_true rfl) (u_in (by omega) (by omega) (by omega)) (fun x7 M7 h7 => ?_)
      obtain ⟨e7_, h7⟩ := h7
      subst M7
      refine v_if_ne ok dX8_shoe_33 (tgt := 38) (by decide) (n := 36) rfl (by omega) (fun c33_3 => ?_) (fun c33_3 => ?_)
      · have c33_3 := c33_3
        refine v_aload_0 ok dX8_shoe_38 (n := 39) rfl ?_
        refine v_getI ok fd_X8_89 ly_200 rfl rfl (jI := 3) rfl dX8_shoe_39 (n := 42) rfl ?_
        try simp (disch := omega) only [zset_s, zset_ne, zset_o]
        refine v_bipush ok (by decide) dX8_shoe_42 (n := 44) rfl ?_
        refine v_icmp_ne ok dX8_shoe_44 (tgt := 50) (by decide) (n := 47) rfl (by omega) (by omega) (fun c44_4 => ?_) (fun c44_4 => ?_)
        · have c44_4 := c44_4
          refine v_aload_0 ok dX8_shoe_50 (n := 51) rfl ?_
          refine v_iload_1 ok dX8_shoe_51 (n := 52) rfl ?_
          refine v_iload_2 ok dX8_shoe_52 (n := 53) rfl ?_
          refine v_iload_3 ok dX8_shoe_53 (n := 54) rfl ?_
          refine v_callVV ok (mi := mi_X8_addShoe) mc_X8_addShoe cv_X8_112 ly_200 rfl rfl rfl (by decide) ⟨Nat.zero_le _, Nat.zero_le _⟩ dX8_shoe_54 (n := 57) rfl rfl rfl (Nat.le_of_ble_eq_true rfl) (u_addShoe (by omega)) (fun M8 g8 => ?_)
          subst g8
          refine v_aload_0 ok dX8_shoe_57 (n := 58) rfl ?_
          refine v_getI ok fd_X8_89 ly_200 rfl rfl (jI := 3) rfl dX8_shoe_58 (n := 61) rfl ?_
          try simp (disch := omega) only [zset_s, zset_ne, zset_o]
          refine v_iconst ok dX8_shoe_61 (n := 62) rfl ?_
          refine v_isub ok dX8_shoe_62 (n := 63) rfl ?_
          refine v_iret rt dX8_shoe_63 ?_
          exact (Or.inr (Or.inr ⟨by omega, by omega, by first | rfl | omega | (simp (disch := omega) only [zset_ne, zset_eq])⟩))
        · have c44_4 := c44_4
          refine v_bipush ok (by decide) dX8_shoe_47 (n := 49) rfl ?_
          refine v_iret rt dX8_shoe_49 ?_
          exact (Or.inr (Or.inl ⟨by omega, by first | rfl | omega | (simp (disch := omega) only [zset_ne, zset_eq]), by first | rfl | omega | (simp (disch := omega) only [zset_ne, zset_eq])⟩))
      · have c33_3 := c33_3
        refine v_iconst ok dX8_shoe_36 (n := 37) rfl ?_
        refine v_iret rt dX8_shoe_37 ?_
        exact (Or.inl ⟨by omega, by first | rfl | omega | (simp (disch := omega) only [zset_ne, zset_eq]), by first | rfl | omega | (simp (disch := omega) only [zset_ne, zset_eq])⟩)

set_option maxHeartbeats 4000000 in
set_option maxRecDepth 100000 in
theorem u_told {G : zG} {ad : Int → Nat} {M : zM} {s q : Int} (hs : -2147483648 ≤ s ∧ s ≤ 2147483647) (hq : -2147483648 ≤ q ∧ q ≤ 2147483647) (hns : 0 ≤ M 200 3 ∧ M 200 3 ≤ 16)  : zTI G (zw ad) mi_X8_told [zr 200, zi s, zi q] M (fun x M' => ((¬ ((0 ≤ s ∧ s < M 200 3) ∧ (0 ≤ q ∧ q ≤ 3))) ∧ x = -1 ∧ M' = M) ∨ (((0 ≤ s ∧ s < M 200 3) ∧ (0 ≤ q ∧ q ≤ 3)) ∧ x = M 202 (4 * s + q) ∧ M' = M)) := by
  refine zTI.of (own := RX8) (ls := [some (zr 200), some (zi s), some (zi q)]) (by decide +kernel) rfl rfl (Nat.le_of_ble_eq_true rfl) (fun γ ok rt => ?_)
  refine v_aload_0 ok dX8_told_0 (n := 1) rfl ?_
  refine v_iload_1 ok dX8_told_1 (n := 2) rfl ?_
  refine v_callVI ok (mi := mi_X8_isShoe) mc_X8_isShoe cv_X8_116 ly_200 rfl rfl rfl (by decide) ⟨Nat.zero_le _, Nat.zero_le _⟩ dX8_told_2 (n := 5) rfl rfl rfl (Nat.le_of_ble_eq_true rfl) (u_isShoe hs (by omega)) (fun x5 M5 h5 => ?_)
  obtain ⟨e5_, h5⟩ := h5
  subst M5
  refine v_if_eq ok dX8_told_5 (tgt := 33) (by decide) (n := 8) rfl (by omega) (fun c5_1 => ?_) (fun c5_1 => ?_)
  · have c5_1 := c5_1
    refine v_iconst ok dX8_told_33 (n := 34) rfl ?_
    refine v_iret rt dX8_told_34 ?_
    first | exact (Or.inl ⟨by omega, by first | rfl | omega | (simp (disch := omega) only [zset_ne, zset_eq]), by first | rfl | omega | (simp (disch := omega) only [zset_ne, zset_eq])⟩) | exact (Or.inr ⟨by omega, by first | rfl | omega | (simp (disch := omega) only [zset_ne, zset_eq]), by first | rfl | omega | (simp (disch := omega) only [zset_ne, zset_eq])⟩)
  · have c5_1 := c5_1
    refine v_iload_2 ok dX8_told_8 (n := 9) rfl ?_
    refine v_i2l ok (by omega) dX8_told_9 (n := 10) rfl ?_
    refine v_lconst0 ok dX8_told_10 (n := 11) rfl ?_
    refine v_ldc2 ok (c := 3) kc_X8_108 (by decide) dX8_told_11 (n := 14) rfl ?_
    refine v_callSI ok (mi := mi_X8_in) mc_X8_in cs_X8_85 (by decide) ⟨Nat.zero_le _, Nat.zero_le _⟩ dX8_told_14 (n := 17) rfl rfl rfl (Nat.le_of_ble_eq_true rfl) (u_in (by omega) (by omega) (by omega)) (fun x6 M6 h6 => ?_)
    obtain ⟨e6_, h6⟩ := h6
    subst M6
    refine v_if_eq ok dX8_told_17 (tgt := 33) (by decide) (n := 20) rfl (by omega) (fun c17_2 => ?_) (fun c17_2 => ?_)
    · have c17_2 := c17_2
      refine v_iconst ok dX8_told_33 (n := 34) rfl ?_
      refine v_iret rt dX8_told_34 ?_
      first | exact (Or.inl ⟨by omega, by first | rfl | omega | (simp (disch := omega) only [zset_ne, zset_eq]), by first | rfl | omega | (simp (disch := omega) only [zset_ne, zset_eq])⟩) | exact (Or.inr ⟨by omega, by first | rfl | omega | (simp (disch := omega) only [zset_ne, zset_eq]), by first | rfl | omega | (simp (disch := omega) only [zset_ne, zset_eq])⟩)
    · have c17_2 := c17_2
      refine v_aload_0 ok dX8_told_20 (n := 21) rfl ?_
      refine v_getR ok fd_X8_13 ly_200 rfl rfl rfl rf_200_1 dX8_told_21 (n := 24) rfl ?_
      refine v_iconst ok dX8_told_24 (n := 25) rfl ?_
      refine v_iload_1 ok dX8_told_25 (n := 26) rfl ?_
      refine v_imul ok dX8_told_26 (n := 27) rfl ?_
      refine v_iload_2 ok dX8_told_27 (n := 28) rfl ?_
      refine v_iadd ok dX8_told_28 (n := 29) rfl ?_
      refine v_iald ok ly_202 rfl (by omega) (by decide) dX8_told_29 (n := 30) rfl ?_
      refine v_goto ok dX8_told_30 (n := 34) (by decide) ?_
      refine v_iret rt dX8_told_34 ?_
      first | exact (Or.inl ⟨by omega, by first | rfl | omega | (simp (disch := omega) only [zset_ne, zset_eq]), by first | rfl | omega | (simp (disch := omega) only [zset_ne, zset_eq])⟩) | exact (Or.inr ⟨by omega, by first | rfl | omega | (simp (disch := omega) only [zset_ne, zset_eq]), by first | rfl | omega | (simp (disch := omega) only [zset_ne, zset_eq])⟩)

set_option maxHeartbeats 4000000 in
set_option maxRecDepth 100000 in
theorem u_lose {G : zG} {ad : Int → Nat} {M : zM} {s v : Int} (hs : -2147483648 ≤ s ∧ s ≤ 2147483647) (hv : -2147483648 ≤ v ∧ v ≤ 2147483647) (hns : 0 ≤ M 200 3 ∧ M 200 3 ≤ 16)  : zTI G (zw ad) mi_X8_lose [zr 200, zi s, zi v] M (fun x M' => ((¬ (0 ≤ s ∧ s < M 200 3)) ∧ x = -1 ∧ M' = M) ∨ ((0 ≤ s ∧ s < M 200 3 ∧ v ≠ 0) ∧ x = M 202 (4 * s + 3) ∧ M' = zset M 202 (4 * s + 3) 1) ∨ ((0 ≤ s ∧ s < M 200 3 ∧ v = 0) ∧ x = M 202 (4 * s + 3) ∧ M' = zset M 202 (4 * s + 3) 0)) := by
  refine zTI.of (own := RX8) (ls := [some (zr 200), some (zi s), some (zi v), none]) (by decide +kernel) rfl rfl (Nat.le_of_ble_eq_true rfl) (fun γ ok rt => ?_)
  refine v_aload_0 ok dX8_lose_0 (n := 1) rfl ?_
  refine v_iload_1 ok dX8_lose_1 (n := 2) rfl ?_
  refine v_callVI ok (mi := mi_X8_isShoe) mc_X8_isShoe cv_X8_116 ly_200 rfl rfl rfl (by decide) ⟨Nat.zero_le _, Nat.zero_le _⟩ dX8_lose_2 (n := 5) rfl rfl rfl (Nat.le_of_ble_eq_true rfl) (u_isShoe hs (by omega)) (fun x5 M5 h5 => ?_)
  obtain ⟨e5_, h5⟩ := h5
  subst M5
  refine v_if_ne ok dX8_lose_5 (tgt := 10) (by decide) (n := 8) rfl (by omega) (fun c5_1 => ?_) (fun c5_1 => ?_)
  · have c5_1 := c5_1
    refine v_aload_0 ok dX8_lose_10 (n := 11) rfl ?_
    refine v_getR ok fd_X8_13 ly_200 rfl rfl rfl rf_200_1 dX8_lose_11 (n := 14) rfl ?_
    refine v_iconst ok dX8_lose_14 (n := 15) rfl ?_
    refine v_iload_1 ok dX8_lose_15 (n := 16) rfl ?_
    refine v_imul ok dX8_lose_16 (n := 17) rfl ?_
    refine v_iconst ok dX8_lose_17 (n := 18) rfl ?_
    refine v_iadd ok dX8_lose_18 (n := 19) rfl ?_
    refine v_iald ok ly_202 rfl (by omega) (by decide) dX8_lose_19 (n := 20) rfl ?_
    refine v_istore_3 ok (by decide) rfl dX8_lose_20 (n := 21) rfl ?_
    refine v_aload_0 ok dX8_lose_21 (n := 22) rfl ?_
    refine v_getR ok fd_X8_13 ly_200 rfl rfl rfl rf_200_1 dX8_lose_22 (n := 25) rfl ?_
    refine v_iconst ok dX8_lose_25 (n := 26) rfl ?_
    refine v_iload_1 ok dX8_lose_26 (n := 27) rfl ?_
    refine v_imul ok dX8_lose_27 (n := 28) rfl ?_
    refine v_iconst ok dX8_lose_28 (n := 29) rfl ?_
    refine v_iadd ok dX8_lose_29 (n := 30) rfl ?_
    refine v_iload_2 ok dX8_lose_30 (n := 31) rfl ?_
    refine v_if_eq ok dX8_lose_31 (tgt := 38) (by decide) (n := 34) rfl (by omega) (fun c31_2 => ?_) (fun c31_2 => ?_)
    · have c31_2 := c31_2
      refine v_iconst ok dX8_lose_38 (n := 39) rfl ?_
      refine v_iast ok ly_202 rfl (by omega) (by decide) dX8_lose_39 (n := 40) rfl ?_
      refine v_iload_3 ok dX8_lose_40 (n := 41) rfl ?_
      refine v_iret rt dX8_lose_41 ?_
      first | exact (Or.inr (Or.inl ⟨by omega, by first | rfl | omega | (simp (disch := omega) only [zset_ne, zset_eq]), by first | rfl | omega | (simp (disch := omega) only [zset_ne, zset_eq])⟩)) | exact (Or.inr (Or.inr ⟨by omega, by first | rfl | omega | (simp (disch := omega) only [zset_ne, zset_eq]), by first | rfl | omega | (simp (disch := omega) only [zset_ne, zset_eq])⟩))
    · have c31_2 := c31_2
      refine v_iconst ok dX8_lose_34 (n := 35) rfl ?_
      refine v_goto ok dX8_lose_35 (n := 39) (by decide) ?_
      refine v_iast ok ly_202 rfl (by omega) (by decide) dX8_lose_39 (n := 40) rfl ?_
      refine v_iload_3 ok dX8_lose_40 (n := 41) rfl ?_
      refine v_iret rt dX8_lose_41 ?_
      first | exact (Or.inr (Or.inl ⟨by omega, by first | rfl | omega | (simp (disch := omega) only [zset_ne, zset_eq]), by first | rfl | omega | (simp (disch := omega) only [zset_ne, zset_eq])⟩)) | exact (Or.inr (Or.inr ⟨by omega, by first | rfl | omega | (simp (disch := omega) only [zset_ne, zset_eq]), by first | rfl | omega | (simp (disch := omega) only [zset_ne, zset_eq])⟩))
  · have c5_1 := c5_1
    refine v_iconst ok dX8_lose_8 (n := 9) rfl ?_
    refine v_iret rt dX8_lose_9 ?_
    exact (Or.inl ⟨by omega, by first | rfl | omega | (simp (disch := omega) only [zset_ne, zset_eq]), by first | rfl | omega | (simp (disch := omega) only [zset_ne, zset_eq])⟩)

set_option maxHeartbeats 4000000 in
set_option maxRecDepth 100000 in
theorem u_setg {G : zG} {ad : Int → Nat} {M : zM} {q v : Int} (hq : -2147483648 ≤ q ∧ q ≤ 2147483647) (hv : -2147483648 ≤ v ∧ v ≤ 2147483647) : zTI G (zw ad) mi_X8_set [zr 200, zi q, zi v] M (fun x M' => ((¬ ((0 ≤ q ∧ q ≤ 1) ∧ (0 ≤ v ∧ v ≤ 6))) ∧ x = -1 ∧ M' = M) ∨ (((0 ≤ q ∧ q ≤ 1) ∧ (0 ≤ v ∧ v ≤ 6)) ∧ x = M 205 q ∧ M' = zset M 205 q v)) := by
  refine zTI.of (own := RX8) (ls := [some (zr 200), some (zi q), some (zi v), none]) (by decide +kernel) rfl rfl (Nat.le_of_ble_eq_true rfl) (fun γ ok rt => ?_)
  refine v_iload_1 ok dX8_set_0 (n := 1) rfl ?_
  refine v_i2l ok (by omega) dX8_set_1 (n := 2) rfl ?_
  refine v_lconst0 ok dX8_set_2 (n := 3) rfl ?_
  refine v_lconst1 ok dX8_set_3 (n := 4) rfl ?_
  refine v_callSI ok (mi := mi_X8_in) mc_X8_in cs_X8_85 (by decide) ⟨Nat.zero_le _, Nat.zero_le _⟩ dX8_set_4 (n := 7) rfl rfl rfl (Nat.le_of_ble_eq_true rfl) (u_in (by omega) (by omega) (by omega)) (fun x5 M5 h5 => ?_)
  obtain ⟨e5_, h5⟩ := h5
  subst M5
  refine v_if_eq ok dX8_set_7 (tgt := 22) (by decide) (n := 10) rfl (by omega) (fun c7_1 => ?_) (fun c7_1 => ?_)
  · have c7_1 := c7_1
    refine v_iconst ok dX8_set_22 (n := 23) rfl ?_
    refine v_iret rt dX8_set_23 ?_
    exact (Or.inl ⟨by omega, by first | rfl | omega | (simp (disch := omega) only [zset_ne, zset_eq]), by first | rfl | omega | (simp (disch := omega) only [zset_ne, zset_eq])⟩)
  · have c7_1 := c7_1
    refine v_iload_2 ok dX8_set_10 (n := 11) rfl ?_
    refine v_i2l ok (by omega) dX8_set_11 (n := 12) rfl ?_
    refine v_lconst0 ok dX8_set_12 (n := 13) rfl ?_
    refine v_ldc2 ok (c := 6) kc_X8_119 (by decide) dX8_set_13 (n := 16) rfl ?_
    refine v_callSI ok (mi := mi_X8_in) mc_X8_in cs_X8_85 (by decide) ⟨Nat.zero_le _, Nat.zero_le _⟩ dX8_set_16 (n := 19) rfl rfl rfl (Nat.le_of_ble_eq_true rfl) (u_in (by omega) (by omega) (by omega)) (fun x6 M6 h6 => ?_)
    obtain ⟨e6_, h6⟩ := h6
    subst M6
    refine v_if_ne ok dX8_set_19 (tgt := 24) (by decide) (n := 22) rfl (by omega) (fun c19_2 => ?_) (fun c19_2 => ?_)
    · have c19_2 := c19_2
      refine v_aload_0 ok dX8_set_24 (n := 25) rfl ?_
      refine v_getR ok fd_X8_16 ly_200 rfl rfl rfl rf_200_4 dX8_set_25 (n := 28) rfl ?_
      refine v_iload_1 ok dX8_set_28 (n := 29) rfl ?_
      refine v_iald ok ly_205 rfl (by omega) (by decide) dX8_set_29 (n := 30) rfl ?_
      refine v_istore_3 ok (by decide) rfl dX8_set_30 (n := 31) rfl ?_
      refine v_aload_0 ok dX8_set_31 (n := 32) rfl ?_
      refine v_getR ok fd_X8_16 ly_200 rfl rfl rfl rf_200_4 dX8_set_32 (n := 35) rfl ?_
      refine v_iload_1 ok dX8_set_35 (n := 36) rfl ?_
      refine v_iload_2 ok dX8_set_36 (n := 37) rfl ?_
      refine v_iast ok ly_205 rfl (by omega) (by decide) dX8_set_37 (n := 38) rfl ?_
      refine v_iload_3 ok dX8_set_38 (n := 39) rfl ?_
      refine v_iret rt dX8_set_39 ?_
      exact (Or.inr ⟨by omega, by first | rfl | omega | (simp (disch := omega) only [zset_ne, zset_eq]), by first | rfl | omega | (simp (disch := omega) only [zset_ne, zset_eq])⟩)
    · have c19_2 := c19_2
      refine v_iconst ok dX8_set_22 (n := 23) rfl ?_
      refine v_iret rt dX8_set_23 ?_
      exact (Or.inl ⟨by omega, by first | rfl | omega | (simp (disch := omega) only [zset_ne, zset_eq]), by first | rfl | omega | (simp (disch := omega) only [zset_ne, zset_eq])⟩)

set_option maxHeartbeats 4000000 in
set_option maxRecDepth 100000 in
theorem u_footOf {G : zG} {ad : Int → Nat} {M : zM} {b s h : Int} (hb : 0 ≤ b ∧ b < 7) (hs : 0 ≤ s ∧ s ≤ 1) (hh : 0 ≤ h ∧ h ≤ 11) (hB : zMB M b)  : zTI G (zw ad) mi_X8_footOf [zr 200, zi b, zi s, zi h] M (fun x M' => M' = M ∧ x = zfo (zQB M b) s h) := by
  refine zTI.of (own := RX8) (ls := [some (zr 200), some (zi b), some (zi s), some (zi h)]) (by decide +kernel) rfl rfl (Nat.le_of_ble_eq_true rfl) (fun γ ok rt => ?_)
  have hm := zmul_b hh hB.2.2.1
  refine v_aload_0 ok dX8_footOf_0 (n := 1) rfl ?_
  refine v_getR ok fd_X8_7 ly_200 rfl rfl rfl rf_200_0 dX8_footOf_1 (n := 4) rfl ?_
  refine v_iconst ok dX8_footOf_4 (n := 5) rfl ?_
  refine v_iload_1 ok dX8_footOf_5 (n := 6) rfl ?_
  refine v_imul ok dX8_footOf_6 (n := 7) rfl ?_
  refine v_iload_2 ok dX8_footOf_7 (n := 8) rfl ?_
  refine v_iadd ok dX8_footOf_8 (n := 9) rfl ?_
  refine v_iald ok ly_201 rfl (by omega) (by decide) dX8_footOf_9 (n := 10) rfl ?_
  refine v_iload_3 ok dX8_footOf_10 (n := 11) rfl ?_
  refine v_aload_0 ok dX8_footOf_11 (n := 12) rfl ?_
  refine v_getR ok fd_X8_7 ly_200 rfl rfl rfl rf_200_0 dX8_footOf_12 (n := 15) rfl ?_
  refine v_iconst ok dX8_footOf_15 (n := 16) rfl ?_
  refine v_iload_1 ok dX8_footOf_16 (n := 17) rfl ?_
  refine v_imul ok dX8_footOf_17 (n := 18) rfl ?_
  refine v_iconst ok dX8_footOf_18 (n := 19) rfl ?_
  refine v_iadd ok dX8_footOf_19 (n := 20) rfl ?_
  refine v_iald ok ly_201 rfl (by omega) (by decide) dX8_footOf_20 (n := 21) rfl ?_
  refine v_imul ok dX8_footOf_21 (n := 22) rfl ?_
  refine v_iconst ok dX8_footOf_22 (n := 23) rfl ?_
  refine v_idiv ok (by omega) (by decide) dX8_footOf_23 (n := 24) rfl ?_
  refine v_iadd ok dX8_footOf_24 (n := 25) rfl ?_
  refine v_iret rt dX8_footOf_25 ?_
  exact ⟨rfl, rfl⟩

set_option maxHeartbeats 4000000 in
set_option maxRecDepth 100000 in
theorem u_givesOf {G : zG} {ad : Int → Nat} {M : zM} {s : Int} (hs : 0 ≤ s ∧ s < 16) (hS : zMS M s)  : zTI G (zw ad) mi_X8_givesOf [zr 200, zi s] M (fun x M' => M' = M ∧ x = zgiv (M 202 (4 * s + 2))) := by
  refine zTI.of (own := RX8) (ls := [some (zr 200), some (zi s), none]) (by decide +kernel) rfl rfl (Nat.le_of_ble_eq_true rfl) (fun γ ok rt => ?_)
  obtain ⟨s0, s1, s2, s3⟩ := hS
  refine v_aload_0 ok dX8_givesOf_0 (n := 1) rfl ?_
  refine v_getR ok fd_X8_13 ly_200 rfl rfl rfl rf_200_1 dX8_givesOf_1 (n := 4) rfl ?_
  refine v_iconst ok dX8_givesOf_4 (n := 5) rfl ?_
  refine v_iload_1 ok dX8_givesOf_5 (n := 6) rfl ?_
  refine v_imul ok dX8_givesOf_6 (n := 7) rfl ?_
  refine v_iconst ok dX8_givesOf_7 (n := 8) rfl ?_
  refine v_iadd ok dX8_givesOf_8 (n := 9) rfl ?_
  refine v_iald ok ly_202 rfl (by omega) (by decide) dX8_givesOf_9 (n := 10) rfl ?_
  refine v_istore_2 ok (by decide) rfl dX8_givesOf_10 (n := 11) rfl ?_
  refine v_iload_2 ok dX8_givesOf_11 (n := 12) rfl ?_
  refine v_iconst ok dX8_givesOf_12 (n := 13) rfl ?_
  refine v_icmp_ne ok dX8_givesOf_13 (tgt := 20) (by decide) (n := 16) rfl (by omega) (by omega) (fun c13_1 => ?_) (fun c13_1 => ?_)
  · have c13_1 := c13_1
    refine v_iload_2 ok dX8_givesOf_20 (n := 21) rfl ?_
    refine v_iconst ok dX8_givesOf_21 (n := 22) rfl ?_
    refine v_icmp_ne ok dX8_givesOf_22 (tgt := 29) (by decide) (n := 25) rfl (by omega) (by omega) (fun c22_2 => ?_) (fun c22_2 => ?_)
    · have c22_2 := c22_2
      refine v_iconst ok dX8_givesOf_29 (n := 30) rfl ?_
      refine v_iret rt dX8_givesOf_30 ?_
      refine ⟨rfl, ?_⟩
      unfold zgiv
      first
      | rw [if_pos (by omega)]
      | rw [if_neg (by omega), if_pos (by omega)]
      | rw [if_neg (by omega), if_neg (by omega)]
    · have c22_2 := c22_2
      refine v_iconst ok dX8_givesOf_25 (n := 26) rfl ?_
      refine v_goto ok dX8_givesOf_26 (n := 30) (by decide) ?_
      refine v_iret rt dX8_givesOf_30 ?_
      refine ⟨rfl, ?_⟩
      unfold zgiv
      first
      | rw [if_pos (by omega)]
      | rw [if_neg (by omega), if_pos (by omega)]
      | rw [if_neg (by omega), if_neg (by omega)]
  · have c13_1 := c13_1
    refine v_iconst ok dX8_givesOf_16 (n := 17) rfl ?_
    refine v_goto ok dX8_givesOf_17 (n := 30) (by decide) ?_
    refine v_iret rt dX8_givesOf_30 ?_
    refine ⟨rfl, ?_⟩
    unfold zgiv
    first
    | rw [if_pos (by omega)]
    | rw [if_neg (by omega), if_pos (by omega)]
    | rw [if_neg (by omega), if_neg (by omega)]

set_option maxHeartbeats 4000000 in
set_option maxRecDepth 100000 in
theorem u_looseOf {G : zG} {ad : Int → Nat} {M : zM} {s : Int} (hs : 0 ≤ s ∧ s < 16) (hS : zMS M s)  : zTI G (zw ad) mi_X8_looseOf [zr 200, zi s] M (fun x M' => M' = M ∧ x = zloo (M 202 (4 * s + 2)) (M 205 0)) := by
  refine zTI.of (own := RX8) (ls := [some (zr 200), some (zi s)]) (by decide +kernel) rfl rfl (Nat.le_of_ble_eq_true rfl) (fun γ ok rt => ?_)
  obtain ⟨s0, s1, s2, s3⟩ := hS
  refine v_aload_0 ok dX8_looseOf_0 (n := 1) rfl ?_
  refine v_getR ok fd_X8_13 ly_200 rfl rfl rfl rf_200_1 dX8_looseOf_1 (n := 4) rfl ?_
  refine v_iconst ok dX8_looseOf_4 (n := 5) rfl ?_
  refine v_iload_1 ok dX8_looseOf_5 (n := 6) rfl ?_
  refine v_imul ok dX8_looseOf_6 (n := 7) rfl ?_
  refine v_iconst ok dX8_looseOf_7 (n := 8) rfl ?_
  refine v_iadd ok dX8_looseOf_8 (n := 9) rfl ?_
  refine v_iald ok ly_202 rfl (by omega) (by decide) dX8_looseOf_9 (n := 10) rfl ?_
  refine v_iconst ok dX8_looseOf_10 (n := 11) rfl ?_
  refine v_icmp_ne ok dX8_looseOf_11 (tgt := 18) (by decide) (n := 14) rfl (by omega) (by omega) (fun c11_1 => ?_) (fun c11_1 => ?_)
  · have c11_1 := c11_1
    refine v_aload_0 ok dX8_looseOf_18 (n := 19) rfl ?_
    refine v_getR ok fd_X8_16 ly_200 rfl rfl rfl rf_200_4 dX8_looseOf_19 (n := 22) rfl ?_
    refine v_iconst ok dX8_looseOf_22 (n := 23) rfl ?_
    refine v_iald ok ly_205 rfl (by omega) (by decide) dX8_looseOf_23 (n := 24) rfl ?_
    refine v_iret rt dX8_looseOf_24 ?_
    refine ⟨rfl, ?_⟩
    unfold zloo
    first
    | rw [if_pos (by omega)]
    | rw [if_neg (by omega)]
  · have c11_1 := c11_1
    refine v_iconst ok dX8_looseOf_14 (n := 15) rfl ?_
    refine v_goto ok dX8_looseOf_15 (n := 24) (by decide) ?_
    refine v_iret rt dX8_looseOf_24 ?_
    refine ⟨rfl, ?_⟩
    unfold zloo
    first
    | rw [if_pos (by omega)]
    | rw [if_neg (by omega)]

set_option maxHeartbeats 4000000 in
set_option maxRecDepth 100000 in
theorem u_outOf {G : zG} {ad : Int → Nat} {M : zM} {s : Int} (hs : 0 ≤ s ∧ s < 16) (hS : zMS M s) (h1 : 0 ≤ M 205 1 ∧ M 205 1 ≤ 6)  : zTI G (zw ad) mi_X8_outOf [zr 200, zi s] M (fun x M' => M' = M ∧ x = zmin (M 205 1) (zlto (M 202 (4 * s + 2)))) := by
  refine zTI.of (own := RX8) (ls := [some (zr 200), some (zi s), none]) (by decide +kernel) rfl rfl (Nat.le_of_ble_eq_true rfl) (fun γ ok rt => ?_)
  obtain ⟨s0, s1, s2, s3⟩ := hS
  refine v_aload_0 ok dX8_outOf_0 (n := 1) rfl ?_
  refine v_getR ok fd_X8_13 ly_200 rfl rfl rfl rf_200_1 dX8_outOf_1 (n := 4) rfl ?_
  refine v_iconst ok dX8_outOf_4 (n := 5) rfl ?_
  refine v_iload_1 ok dX8_outOf_5 (n := 6) rfl ?_
  refine v_imul ok dX8_outOf_6 (n := 7) rfl ?_
  refine v_iconst ok dX8_outOf_7 (n := 8) rfl ?_
  refine v_iadd ok dX8_outOf_8 (n := 9) rfl ?_
  refine v_iald ok ly_202 rfl (by omega) (by decide) dX8_outOf_9 (n := 10) rfl ?_
  refine v_istore_2 ok (by decide) rfl dX8_outOf_10 (n := 11) rfl ?_
  refine v_iload_2 ok dX8_outOf_11 (n := 12) rfl ?_
  refine v_iconst ok dX8_outOf_12 (n := 13) rfl ?_
  refine v_icmp_ne ok dX8_outOf_13 (tgt := 20) (by decide) (n := 16) rfl (by omega) (by omega) (fun c13_1 => ?_) (fun c13_1 => ?_)
  · have c13_1 := c13_1
    refine v_iload_2 ok dX8_outOf_20 (n := 21) rfl ?_
    refine v_iconst ok dX8_outOf_21 (n := 22) rfl ?_
    refine v_icmp_ne ok dX8_outOf_22 (tgt := 39) (by decide) (n := 25) rfl (by omega) (by omega) (fun c22_2 => ?_) (fun c22_2 => ?_)
    · have c22_2 := c22_2
      refine v_aload_0 ok dX8_outOf_39 (n := 40) rfl ?_
      refine v_getR ok fd_X8_16 ly_200 rfl rfl rfl rf_200_4 dX8_outOf_40 (n := 43) rfl ?_
      refine v_iconst ok dX8_outOf_43 (n := 44) rfl ?_
      refine v_iald ok ly_205 rfl (by omega) (by decide) dX8_outOf_44 (n := 45) rfl ?_
      refine v_iret rt dX8_outOf_45 ?_
      refine ⟨rfl, ?_⟩
      unfold zmin zlto
      split <;> (try split) <;> (try split) <;> omega
    · have c22_2 := c22_2
      refine v_aload_0 ok dX8_outOf_25 (n := 26) rfl ?_
      refine v_getR ok fd_X8_16 ly_200 rfl rfl rfl rf_200_4 dX8_outOf_26 (n := 29) rfl ?_
      refine v_iconst ok dX8_outOf_29 (n := 30) rfl ?_
      refine v_iald ok ly_205 rfl (by omega) (by decide) dX8_outOf_30 (n := 31) rfl ?_
      refine v_iconst ok dX8_outOf_31 (n := 32) rfl ?_
      refine v_icmp_le ok dX8_outOf_32 (tgt := 39) (by decide) (n := 35) rfl (by omega) (by omega) (fun c32_3 => ?_) (fun c32_3 => ?_)
      · have c32_3 := c32_3
        refine v_aload_0 ok dX8_outOf_39 (n := 40) rfl ?_
        refine v_getR ok fd_X8_16 ly_200 rfl rfl rfl rf_200_4 dX8_outOf_40 (n := 43) rfl ?_
        refine v_iconst ok dX8_outOf_43 (n := 44) rfl ?_
        refine v_iald ok ly_205 rfl (by omega) (by decide) dX8_outOf_44 (n := 45) rfl ?_
        refine v_iret rt dX8_outOf_45 ?_
        refine ⟨rfl, ?_⟩
        unfold zmin zlto
        split <;> (try split) <;> (try split) <;> omega
      · have c32_3 := c32_3
        refine v_iconst ok dX8_outOf_35 (n := 36) rfl ?_
        refine v_goto ok dX8_outOf_36 (n := 45) (by decide) ?_
        refine v_iret rt dX8_outOf_45 ?_
        refine ⟨rfl, ?_⟩
        unfold zmin zlto
        split <;> (try split) <;> (try split) <;> omega
  · have c13_1 := c13_1
    refine v_iconst ok dX8_outOf_16 (n := 17) rfl ?_
    refine v_goto ok dX8_outOf_17 (n := 45) (by decide) ?_
    refine v_iret rt dX8_outOf_45 ?_
    refine ⟨rfl, ?_⟩
    unfold zmin zlto
    split <;> (try split) <;> (try split) <;> omega

set_option maxHeartbeats 4000000 in
set_option maxRecDepth 100000 in
theorem u_askedOf {G : zG} {ad : Int → Nat} {M : zM} {s b h : Int} (hs : 0 ≤ s ∧ s < 16) (hb : 0 ≤ b ∧ b < 7) (hh : 0 ≤ h ∧ h ≤ 11) (hB : zMB M b) (hS : zMS M s) (h0 : 0 ≤ M 205 0 ∧ M 205 0 ≤ 6) (h1 : 0 ≤ M 205 1 ∧ M 205 1 ≤ 6)  : zTI G (zw ad) mi_X8_askedOf [zr 200, zi s, zi b, zi h] M (fun x M' => M' = M ∧ x = zask (zfo (zQB M b) (M 202 (4 * s)) h) (M 202 (4 * s + 1)) (M 202 (4 * s + 2)) (M 205 0) (M 205 1)) := by
  refine zTI.of (own := RX8) (ls := [some (zr 200), some (zi s), some (zi b), some (zi h), none, none, none]) (by decide +kernel) rfl rfl (Nat.le_of_ble_eq_true rfl) (fun γ ok rt => ?_)
  obtain ⟨s0, s1, s2, s3⟩ := id hS
  have bf := zfo_b (zMB_r hB) (side := M 202 (4 * s)) (h := h) (by omega) hh
  have lp : ∀ (zn : Nat) (k : Int), zn = (8 - k).toNat → (0 ≤ k ∧ k ≤ 7 ∧ k ≤ zmax 0 ((zfo (zQB M b) (M 202 (4 * s)) h) - zgiv (M 202 (4 * s + 2)) - (M 202 (4 * s + 1)))) → zVV G γ (zw ad) (0, 0) 31 [some (zr 200), some (zi s), some (zi b), some (zi h), some (zi (zfo (zQB M b) (M 202 (4 * s)) h)), some (zi (M 202 (4 * s + 1))), some (zi k)] [] M := by
    refine zrec _ (fun zn ih => ?_)
    intro k hzn hk
    refine v_iload_6 ok dX8_askedOf_31 (n := 33) rfl ?_
    refine v_aload_0 ok dX8_askedOf_33 (n := 34) rfl ?_
    refine v_iload_1 ok dX8_askedOf_34 (n := 35) rfl ?_
    refine v_callVI ok (mi := mi_X8_outOf) mc_X8_outOf cv_X8_125 ly_200 rfl rfl rfl (by decide) ⟨Nat.zero_le _, Nat.zero_le _⟩ dX8_askedOf_35 (n := 38) rfl rfl rfl (Nat.le_of_ble_eq_true rfl) (u_outOf hs hS h1) (fun x1 M1 w1 => ?_)
    obtain ⟨w1_, rfl⟩ := w1
    subst M1
    have bo := zmin_b (M 205 1) (zlto (M 202 (4 * s + 2)))
    have bl := zlto_b (M 202 (4 * s + 2))
    refine v_icmp_gt ok dX8_askedOf_38 (tgt := 87) (by decide) (n := 41) rfl (by omega) (by omega) (fun c38_1 => ?_) (fun c38_1 => ?_)
    · have c38_1 := c38_1
      refine v_bipush ok (by decide) dX8_askedOf_87 (n := 89) rfl ?_
      refine v_iret rt dX8_askedOf_89 ?_
      refine ⟨rfl, ?_⟩
      have bm := zmax_b 0 ((zfo (zQB M b) (M 202 (4 * s)) h) - zgiv (M 202 (4 * s + 2)) - (M 202 (4 * s + 1)))
      unfold zask
      first
      | rw [if_pos (by omega)]; omega
      | rw [if_neg (by omega)]
    · have c38_1 := c38_1
      refine v_iload_5 ok dX8_askedOf_41 (n := 43) rfl ?_
      refine v_iload_6 ok dX8_askedOf_43 (n := 45) rfl ?_
      refine v_iadd ok dX8_askedOf_45 (n := 46) rfl ?_
      refine v_iload_4 ok dX8_askedOf_46 (n := 48) rfl ?_
      refine v_aload_0 ok dX8_askedOf_48 (n := 49) rfl ?_
      refine v_iload_1 ok dX8_askedOf_49 (n := 50) rfl ?_
      refine v_callVI ok (mi := mi_X8_givesOf) mc_X8_givesOf cv_X8_129 ly_200 rfl rfl rfl (by decide) ⟨Nat.zero_le _, Nat.zero_le _⟩ dX8_askedOf_50 (n := 53) rfl rfl rfl (Nat.le_of_ble_eq_true rfl) (u_givesOf hs hS) (fun x2 M2 w2 => ?_)
      obtain ⟨w2_, rfl⟩ := w2
      subst M2
      have bg := zgiv_b (M 202 (4 * s + 2))
      refine v_isub ok dX8_askedOf_53 (n := 54) rfl ?_
      refine v_icmp_lt ok dX8_askedOf_54 (tgt := 81) (by decide) (n := 57) rfl (by omega) (by omega) (fun c54_2 => ?_) (fun c54_2 => ?_)
      · have c54_2 := c54_2
        refine v_iinc_6 ok (by decide) rfl dX8_askedOf_81 (n := 84) rfl ?_
        refine v_goto ok dX8_askedOf_84 (n := 31) (by decide) ?_
        exact ih _ (by omega) _ rfl (by have := zmax_b 0 ((zfo (zQB M b) (M 202 (4 * s)) h) - zgiv (M 202 (4 * s + 2)) - (M 202 (4 * s + 1))); omega)
      · have c54_2 := c54_2
        refine v_iload_5 ok dX8_askedOf_57 (n := 59) rfl ?_
        refine v_iload_6 ok dX8_askedOf_59 (n := 61) rfl ?_
        refine v_iadd ok dX8_askedOf_61 (n := 62) rfl ?_
        refine v_iload_4 ok dX8_askedOf_62 (n := 64) rfl ?_
        refine v_aload_0 ok dX8_askedOf_64 (n := 65) rfl ?_
        refine v_iload_1 ok dX8_askedOf_65 (n := 66) rfl ?_
        refine v_callVI ok (mi := mi_X8_looseOf) mc_X8_looseOf cv_X8_132 ly_200 rfl rfl rfl (by decide) ⟨Nat.zero_le _, Nat.zero_le _⟩ dX8_askedOf_66 (n := 69) rfl rfl rfl (Nat.le_of_ble_eq_true rfl) (u_looseOf hs hS) (fun x3 M3 w3 => ?_)
        obtain ⟨w3_, rfl⟩ := w3
        subst M3
        have bo3 := zloo_b (k := (M 202 (4 * s + 2))) h0
        refine v_iadd ok dX8_askedOf_69 (n := 70) rfl ?_
        refine v_icmp_gt ok dX8_askedOf_70 (tgt := 78) (by decide) (n := 73) rfl (by omega) (by omega) (fun c70_3 => ?_) (fun c70_3 => ?_)
        · have c70_3 := c70_3
          refine v_bipush ok (by decide) dX8_askedOf_78 (n := 80) rfl ?_
          refine v_iret rt dX8_askedOf_80 ?_
          refine ⟨rfl, ?_⟩
          have bm := zmax_b 0 ((zfo (zQB M b) (M 202 (4 * s)) h) - zgiv (M 202 (4 * s + 2)) - (M 202 (4 * s + 1)))
          unfold zask
          first
          | rw [if_pos (by omega)]; omega
          | rw [if_neg (by omega)]
        · have c70_3 := c70_3
          refine v_iload_6 ok dX8_askedOf_73 (n := 75) rfl ?_
          refine v_goto ok dX8_askedOf_75 (n := 80) (by decide) ?_
          refine v_iret rt dX8_askedOf_80 ?_
          refine ⟨rfl, ?_⟩
          have bm := zmax_b 0 ((zfo (zQB M b) (M 202 (4 * s)) h) - zgiv (M 202 (4 * s + 2)) - (M 202 (4 * s + 1)))
          unfold zask
          first
          | rw [if_pos (by omega)]; omega
          | rw [if_neg (by omega)]
  refine v_aload_0 ok dX8_askedOf_0 (n := 1) rfl ?_
  refine v_iload_2 ok dX8_askedOf_1 (n := 2) rfl ?_
  refine v_aload_0 ok dX8_askedOf_2 (n := 3) rfl ?_
  refine v_getR ok fd_X8_13 ly_200 rfl rfl rfl rf_200_1 dX8_askedOf_3 (n := 6) rfl ?_
  refine v_iconst ok dX8_askedOf_6 (n := 7) rfl ?_
  refine v_iload_1 ok dX8_askedOf_7 (n := 8) rfl ?_
  refine v_imul ok dX8_askedOf_8 (n := 9) rfl ?_
  refine v_iald ok ly_202 rfl (by omega) (by decide) dX8_askedOf_9 (n := 10) rfl ?_
  refine v_iload_3 ok dX8_askedOf_10 (n := 11) rfl ?_
  refine v_callVI ok (mi := mi_X8_footOf) mc_X8_footOf cv_X8_121 ly_200 rfl rfl rfl (by decide) ⟨Nat.zero_le _, Nat.zero_le _⟩ dX8_askedOf_11 (n := 14) rfl rfl rfl (Nat.le_of_ble_eq_true rfl) (u_footOf hb s0 hh hB) (fun x9 M9 w9 => ?_)
  obtain ⟨w9_, rfl⟩ := w9
  subst M9
  refine v_istore_4 ok (by decide) rfl dX8_askedOf_14 (n := 16) rfl ?_
  refine v_aload_0 ok dX8_askedOf_16 (n := 17) rfl ?_
  refine v_getR ok fd_X8_13 ly_200 rfl rfl rfl rf_200_1 dX8_askedOf_17 (n := 20) rfl ?_
  refine v_iconst ok dX8_askedOf_20 (n := 21) rfl ?_
  refine v_iload_1 ok dX8_askedOf_21 (n := 22) rfl ?_
  refine v_imul ok dX8_askedOf_22 (n := 23) rfl ?_
  refine v_iconst ok dX8_askedOf_23 (n := 24) rfl ?_
  refine v_iadd ok dX8_askedOf_24 (n := 25) rfl ?_
  refine v_iald ok ly_202 rfl (by omega) (by decide) dX8_askedOf_25 (n := 26) rfl ?_
  refine v_istore_5 ok (by decide) rfl dX8_askedOf_26 (n := 28) rfl ?_
  refine v_iconst ok dX8_askedOf_28 (n := 29) rfl ?_
  refine v_istore_6 ok (by decide) rfl dX8_askedOf_29 (n := 31) rfl ?_
  exact lp _ 0 rfl (by have := zmax_b 0 ((zfo (zQB M b) (M 202 (4 * s)) h) - zgiv (M 202 (4 * s + 2)) - (M 202 (4 * s + 1))); omega)

