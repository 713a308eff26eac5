/-! the class: what a number may be -/
abbrev zw (ad : Int → Nat) : zW := (ad, fun _ => true, fun _ _ => true)
set_option maxHeartbeats 4000000 in
set_option maxRecDepth 100000 in
theorem t_isFrom {G : zG} {ad : Int → Nat} {M : zM} {v a b : Int} (hv : -2147483648 ≤ v ∧ v ≤ 2147483647) (ha : -2147483648 ≤ a ∧ a ≤ 2147483647) (hb : -2147483648 ≤ b ∧ b ≤ 2147483647) : zTI G (zw ad) mi_X7_isFrom [zi v, zi a, zi b] M (fun x M' => M' = M ∧ ((x = 1 ∧ (a ≤ v ∧ v ≤ b)) ∨ (x = 0 ∧ ¬ (a ≤ v ∧ v ≤ b)))) := by
  refine zTI.ofZ (own := RX7) (ls := [some (zi v), some (zi a), some (zi b)]) (by decide +kernel) rfl rfl (Nat.le_of_ble_eq_true rfl) (fun γ ok rt => ?_)
  refine v_iload_0 ok dX7_isFrom_0 (n := 1) rfl ?_
  refine v_iload_1 ok dX7_isFrom_1 (n := 2) rfl ?_
  refine v_icmp_lt ok dX7_isFrom_2 (tgt := 14) (by decide) (n := 5) rfl (by omega) (by omega) (fun c2_1 => ?_) (fun c2_1 => ?_)
  · have c2_1 := c2_1
    refine v_iconst ok dX7_isFrom_14 (n := 15) rfl ?_
    refine v_zret rt dX7_isFrom_15 (by omega) ?_
    exact ⟨rfl, by omega⟩
  · have c2_1 := c2_1
    refine v_iload_0 ok dX7_isFrom_5 (n := 6) rfl ?_
    refine v_iload_2 ok dX7_isFrom_6 (n := 7) rfl ?_
    refine v_icmp_gt ok dX7_isFrom_7 (tgt := 14) (by decide) (n := 10) rfl (by omega) (by omega) (fun c7_2 => ?_) (fun c7_2 => ?_)
    · have c7_2 := c7_2
      refine v_iconst ok dX7_isFrom_14 (n := 15) rfl ?_
      refine v_zret rt dX7_isFrom_15 (by omega) ?_
      exact ⟨rfl, by omega⟩
    · have c7_2 := c7_2
      refine v_iconst ok dX7_isFrom_10 (n := 11) rfl ?_
      refine v_goto ok dX7_isFrom_11 (n := 15) (by decide) ?_
      refine v_zret rt dX7_isFrom_15 (by omega) ?_
      exact ⟨rfl, by omega⟩

set_option maxHeartbeats 4000000 in
set_option maxRecDepth 100000 in
theorem t_isOfBride {G : zG} {ad : Int → Nat} {M : zM} {q v : Int} (hq : 0 ≤ q ∧ q < 4) (hv : -2147483648 ≤ v ∧ v ≤ 2147483647) : zTI G (zw ad) mi_X7_isOfBride [zi q, zi v] M (fun x M' => M' = M ∧ ((x = 1 ∧ ((q < 2 ∧ 20 ≤ v ∧ v ≤ 60) ∨ (q = 2 ∧ 0 ≤ v ∧ v ≤ 4) ∨ (q = 3 ∧ 0 ≤ v ∧ v ≤ 11))) ∨ (x = 0 ∧ ¬ ((q < 2 ∧ 20 ≤ v ∧ v ≤ 60) ∨ (q = 2 ∧ 0 ≤ v ∧ v ≤ 4) ∨ (q = 3 ∧ 0 ≤ v ∧ v ≤ 11))))) := by
  refine zTI.ofZ (own := RX7) (ls := [some (zi q), some (zi v)]) (by decide +kernel) rfl rfl (Nat.le_of_ble_eq_true rfl) (fun γ ok rt => ?_)
  have e1 : (q < 2 ∧ ztab 300 q = 20 ∧ ztab 301 q = 60) ∨ (q = 2 ∧ ztab 300 q = 0 ∧ ztab 301 q = 4) ∨ (q = 3 ∧ ztab 300 q = 0 ∧ ztab 301 q = 11) := by
    obtain rfl | rfl | rfl | rfl : q = 0 ∨ q = 1 ∨ q = 2 ∨ q = 3 := by omega
    all_goals decide
  refine v_iload_1 ok dX7_isOfBride_0 (n := 1) rfl ?_
  refine v_gets ok sd_X7_247 dX7_isOfBride_1 (n := 4) rfl ?_
  refine v_iload_0 ok dX7_isOfBride_4 (n := 5) rfl ?_
  refine v_tald ok (by decide) (by first | decide | (unfold ztl; simp; omega)) dX7_isOfBride_5 (n := 6) rfl ?_
  refine v_gets ok sd_X7_250 dX7_isOfBride_6 (n := 9) rfl ?_
  refine v_iload_0 ok dX7_isOfBride_9 (n := 10) rfl ?_
  refine v_tald ok (by decide) (by first | decide | (unfold ztl; simp; omega)) dX7_isOfBride_10 (n := 11) rfl ?_
  refine v_callSI ok (mi := mi_X7_isFrom) mc_X7_isFrom cs_X7_81 (by decide) ⟨Nat.zero_le _, Nat.zero_le _⟩ dX7_isOfBride_11 (n := 14) rfl rfl rfl (Nat.le_of_ble_eq_true rfl) (t_isFrom hv (by omega) (by omega)) (fun x1 M1 h1 => ?_)
  obtain ⟨e1_, h1⟩ := h1
  subst M1
  refine v_zret rt dX7_isOfBride_14 (by omega) ?_
  exact ⟨rfl, by omega⟩

set_option maxHeartbeats 4000000 in
set_option maxRecDepth 100000 in
theorem t_isOfShoe {G : zG} {ad : Int → Nat} {M : zM} {q v : Int} (hq : 0 ≤ q ∧ q < 3) (hv : -2147483648 ≤ v ∧ v ≤ 2147483647) : zTI G (zw ad) mi_X7_isOfShoe [zi q, zi v] M (fun x M' => M' = M ∧ ((x = 1 ∧ ((q = 0 ∧ 0 ≤ v ∧ v ≤ 1) ∨ (q = 1 ∧ 20 ≤ v ∧ v ≤ 70) ∨ (q = 2 ∧ 0 ≤ v ∧ v ≤ 3))) ∨ (x = 0 ∧ ¬ ((q = 0 ∧ 0 ≤ v ∧ v ≤ 1) ∨ (q = 1 ∧ 20 ≤ v ∧ v ≤ 70) ∨ (q = 2 ∧ 0 ≤ v ∧ v ≤ 3))))) := by
  refine zTI.ofZ (own := RX7) (ls := [some (zi q), some (zi v)]) (by decide +kernel) rfl rfl (Nat.le_of_ble_eq_true rfl) (fun γ ok rt => ?_)
  have e1 : (q = 0 ∧ ztab 302 q = 0 ∧ ztab 303 q = 1) ∨ (q = 1 ∧ ztab 302 q = 20 ∧ ztab 303 q = 70) ∨ (q = 2 ∧ ztab 302 q = 0 ∧ ztab 303 q = 3) := by
    obtain rfl | rfl | rfl : q = 0 ∨ q = 1 ∨ q = 2 := by omega
    all_goals decide
  refine v_iload_1 ok dX7_isOfShoe_0 (n := 1) rfl ?_
  refine v_gets ok sd_X7_253 dX7_isOfShoe_1 (n := 4) rfl ?_
  refine v_iload_0 ok dX7_isOfShoe_4 (n := 5) rfl ?_
  refine v_tald ok (by decide) (by first | decide | (unfold ztl; simp; omega)) dX7_isOfShoe_5 (n := 6) rfl ?_
  refine v_gets ok sd_X7_256 dX7_isOfShoe_6 (n := 9) rfl ?_
  refine v_iload_0 ok dX7_isOfShoe_9 (n := 10) rfl ?_
  refine v_tald ok (by decide) (by first | decide | (unfold ztl; simp; omega)) dX7_isOfShoe_10 (n := 11) rfl ?_
  refine v_callSI ok (mi := mi_X7_isFrom) mc_X7_isFrom cs_X7_81 (by decide) ⟨Nat.zero_le _, Nat.zero_le _⟩ dX7_isOfShoe_11 (n := 14) rfl rfl rfl (Nat.le_of_ble_eq_true rfl) (t_isFrom hv (by omega) (by omega)) (fun x1 M1 h1 => ?_)
  obtain ⟨e1_, h1⟩ := h1
  subst M1
  refine v_zret rt dX7_isOfShoe_14 (by omega) ?_
  exact ⟨rfl, by omega⟩

set_option maxHeartbeats 4000000 in
set_option maxRecDepth 100000 in
theorem t_isSide {G : zG} {ad : Int → Nat} {M : zM} {v : Int} (hv : -2147483648 ≤ v ∧ v ≤ 2147483647) : zTI G (zw ad) mi_X7_isSide [zi v] M (fun x M' => M' = M ∧ ((x = 1 ∧ (0 ≤ v ∧ v ≤ 1)) ∨ (x = 0 ∧ ¬ (0 ≤ v ∧ v ≤ 1)))) := by
  refine zTI.ofZ (own := RX7) (ls := [some (zi v)]) (by decide +kernel) rfl rfl (Nat.le_of_ble_eq_true rfl) (fun γ ok rt => ?_)
  refine v_iload_0 ok dX7_isSide_0 (n := 1) rfl ?_
  refine v_iconst ok dX7_isSide_1 (n := 2) rfl ?_
  refine v_iconst ok dX7_isSide_2 (n := 3) rfl ?_
  refine v_callSI ok (mi := mi_X7_isFrom) mc_X7_isFrom cs_X7_81 (by decide) ⟨Nat.zero_le _, Nat.zero_le _⟩ dX7_isSide_3 (n := 6) rfl rfl rfl (Nat.le_of_ble_eq_true rfl) (t_isFrom hv (by omega) (by omega)) (fun x1 M1 h1 => ?_)
  obtain ⟨e1_, h1⟩ := h1
  subst M1
  refine v_zret rt dX7_isSide_6 (by omega) ?_
  exact ⟨rfl, by omega⟩

set_option maxHeartbeats 4000000 in
set_option maxRecDepth 100000 in
theorem t_isHour {G : zG} {ad : Int → Nat} {M : zM} {v : Int} (hv : -2147483648 ≤ v ∧ v ≤ 2147483647) : zTI G (zw ad) mi_X7_isHour [zi v] M (fun x M' => M' = M ∧ ((x = 1 ∧ (0 ≤ v ∧ v ≤ 11)) ∨ (x = 0 ∧ ¬ (0 ≤ v ∧ v ≤ 11)))) := by
  refine zTI.ofZ (own := RX7) (ls := [some (zi v)]) (by decide +kernel) rfl rfl (Nat.le_of_ble_eq_true rfl) (fun γ ok rt => ?_)
  refine v_iload_0 ok dX7_isHour_0 (n := 1) rfl ?_
  refine v_iconst ok dX7_isHour_1 (n := 2) rfl ?_
  refine v_bipush ok (by decide) dX7_isHour_2 (n := 4) rfl ?_
  refine v_callSI ok (mi := mi_X7_isFrom) mc_X7_isFrom cs_X7_81 (by decide) ⟨Nat.zero_le _, Nat.zero_le _⟩ dX7_isHour_4 (n := 7) rfl rfl rfl (Nat.le_of_ble_eq_true rfl) (t_isFrom hv (by omega) (by omega)) (fun x1 M1 h1 => ?_)
  obtain ⟨e1_, h1⟩ := h1
  subst M1
  refine v_zret rt dX7_isHour_7 (by omega) ?_
  exact ⟨rfl, by omega⟩

set_option maxHeartbeats 4000000 in
set_option maxRecDepth 100000 in
theorem t_isSheet {G : zG} {ad : Int → Nat} {M : zM} {v : Int} (hv : -2147483648 ≤ v ∧ v ≤ 2147483647) : zTI G (zw ad) mi_X7_isSheet [zi v] M (fun x M' => M' = M ∧ ((x = 1 ∧ (0 ≤ v ∧ v ≤ 3)) ∨ (x = 0 ∧ ¬ (0 ≤ v ∧ v ≤ 3)))) := by
  refine zTI.ofZ (own := RX7) (ls := [some (zi v)]) (by decide +kernel) rfl rfl (Nat.le_of_ble_eq_true rfl) (fun γ ok rt => ?_)
  refine v_iload_0 ok dX7_isSheet_0 (n := 1) rfl ?_
  refine v_iconst ok dX7_isSheet_1 (n := 2) rfl ?_
  refine v_iconst ok dX7_isSheet_2 (n := 3) rfl ?_
  refine v_callSI ok (mi := mi_X7_isFrom) mc_X7_isFrom cs_X7_81 (by decide) ⟨Nat.zero_le _, Nat.zero_le _⟩ dX7_isSheet_3 (n := 6) rfl rfl rfl (Nat.le_of_ble_eq_true rfl) (t_isFrom hv (by omega) (by omega)) (fun x1 M1 h1 => ?_)
  obtain ⟨e1_, h1⟩ := h1
  subst M1
  refine v_zret rt dX7_isSheet_6 (by omega) ?_
  exact ⟨rfl, by omega⟩

set_option maxHeartbeats 4000000 in
set_option maxRecDepth 100000 in
theorem t_isLane {G : zG} {ad : Int → Nat} {M : zM} {v : Int} (hv : -2147483648 ≤ v ∧ v ≤ 2147483647) : zTI G (zw ad) mi_X7_isLane [zi v] M (fun x M' => M' = M ∧ ((x = 1 ∧ (0 ≤ v ∧ v ≤ 2)) ∨ (x = 0 ∧ ¬ (0 ≤ v ∧ v ≤ 2)))) := by
  refine zTI.ofZ (own := RX7) (ls := [some (zi v)]) (by decide +kernel) rfl rfl (Nat.le_of_ble_eq_true rfl) (fun γ ok rt => ?_)
  refine v_iload_0 ok dX7_isLane_0 (n := 1) rfl ?_
  refine v_iconst ok dX7_isLane_1 (n := 2) rfl ?_
  refine v_iconst ok dX7_isLane_2 (n := 3) rfl ?_
  refine v_callSI ok (mi := mi_X7_isFrom) mc_X7_isFrom cs_X7_81 (by decide) ⟨Nat.zero_le _, Nat.zero_le _⟩ dX7_isLane_3 (n := 6) rfl rfl rfl (Nat.le_of_ble_eq_true rfl) (t_isFrom hv (by omega) (by omega)) (fun x1 M1 h1 => ?_)
  obtain ⟨e1_, h1⟩ := h1
  subst M1
  refine v_zret rt dX7_isLane_6 (by omega) ?_
  exact ⟨rfl, by omega⟩

set_option maxHeartbeats 4000000 in
set_option maxRecDepth 100000 in
theorem t_isRanked {G : zG} {ad : Int → Nat} {M : zM} {v : Int} (hv : -2147483648 ≤ v ∧ v ≤ 2147483647) : zTI G (zw ad) mi_X7_isRanked [zi v] M (fun x M' => M' = M ∧ ((x = 1 ∧ (2 ≤ v ∧ v ≤ 7)) ∨ (x = 0 ∧ ¬ (2 ≤ v ∧ v ≤ 7)))) := by
  refine zTI.ofZ (own := RX7) (ls := [some (zi v)]) (by decide +kernel) rfl rfl (Nat.le_of_ble_eq_true rfl) (fun γ ok rt => ?_)
  refine v_iload_0 ok dX7_isRanked_0 (n := 1) rfl ?_
  refine v_iconst ok dX7_isRanked_1 (n := 2) rfl ?_
  refine v_bipush ok (by decide) dX7_isRanked_2 (n := 4) rfl ?_
  refine v_callSI ok (mi := mi_X7_isFrom) mc_X7_isFrom cs_X7_81 (by decide) ⟨Nat.zero_le _, Nat.zero_le _⟩ dX7_isRanked_4 (n := 7) rfl rfl rfl (Nat.le_of_ble_eq_true rfl) (t_isFrom hv (by omega) (by omega)) (fun x1 M1 h1 => ?_)
  obtain ⟨e1_, h1⟩ := h1
  subst M1
  refine v_zret rt dX7_isRanked_7 (by omega) ?_
  exact ⟨rfl, by omega⟩

set_option maxHeartbeats 4000000 in
set_option maxRecDepth 100000 in
theorem t_isBride {G : zG} {ad : Int → Nat} {M : zM} {v : Int} (hv : -2147483648 ≤ v ∧ v ≤ 2147483647) (hc : 0 ≤ M 1 3 ∧ M 1 3 ≤ 16) : zTI G (zw ad) mi_X7_isBride [zr 0, zi v] M (fun x M' => M' = M ∧ ((x = 1 ∧ (0 ≤ v ∧ v < M 1 3)) ∨ (x = 0 ∧ ¬ (0 ≤ v ∧ v < M 1 3)))) := by
  refine zTI.ofZ (own := RX7) (ls := [some (zr 0), some (zi v)]) (by decide +kernel) rfl rfl (Nat.le_of_ble_eq_true rfl) (fun γ ok rt => ?_)
  refine v_iload_1 ok dX7_isBride_0 (n := 1) rfl ?_
  refine v_iconst ok dX7_isBride_1 (n := 2) rfl ?_
  refine v_aload_0 ok dX7_isBride_2 (n := 3) rfl ?_
  refine v_getR ok fd_X7_10 ly_0 rfl rfl rfl rf_0_0 dX7_isBride_3 (n := 6) rfl ?_
  refine v_getI ok fd_X7_69 ly_1 rfl rfl (jI := 3) rfl dX7_isBride_6 (n := 9) rfl ?_
  refine v_iconst ok dX7_isBride_9 (n := 10) rfl ?_
  refine v_isub ok dX7_isBride_10 (n := 11) rfl ?_
  refine v_callSI ok (mi := mi_X7_isFrom) mc_X7_isFrom cs_X7_81 (by decide) ⟨Nat.zero_le _, Nat.zero_le _⟩ dX7_isBride_11 (n := 14) rfl rfl rfl (Nat.le_of_ble_eq_true rfl) (t_isFrom hv (by omega) (by omega)) (fun x1 M1 h1 => ?_)
  obtain ⟨e1_, h1⟩ := h1
  subst M1
  refine v_zret rt dX7_isBride_14 (by omega) ?_
  exact ⟨rfl, by omega⟩

set_option maxHeartbeats 4000000 in
set_option maxRecDepth 100000 in
theorem t_isShoe {G : zG} {ad : Int → Nat} {M : zM} {v : Int} (hv : -2147483648 ≤ v ∧ v ≤ 2147483647) (hc : 0 ≤ M 1 4 ∧ M 1 4 ≤ 16) : zTI G (zw ad) mi_X7_isShoe [zr 0, zi v] M (fun x M' => M' = M ∧ ((x = 1 ∧ (0 ≤ v ∧ v < M 1 4)) ∨ (x = 0 ∧ ¬ (0 ≤ v ∧ v < M 1 4)))) := by
  refine zTI.ofZ (own := RX7) (ls := [some (zr 0), some (zi v)]) (by decide +kernel) rfl rfl (Nat.le_of_ble_eq_true rfl) (fun γ ok rt => ?_)
  refine v_iload_1 ok dX7_isShoe_0 (n := 1) rfl ?_
  refine v_iconst ok dX7_isShoe_1 (n := 2) rfl ?_
  refine v_aload_0 ok dX7_isShoe_2 (n := 3) rfl ?_
  refine v_getR ok fd_X7_10 ly_0 rfl rfl rfl rf_0_0 dX7_isShoe_3 (n := 6) rfl ?_
  refine v_getI ok fd_X7_88 ly_1 rfl rfl (jI := 4) rfl dX7_isShoe_6 (n := 9) rfl ?_
  refine v_iconst ok dX7_isShoe_9 (n := 10) rfl ?_
  refine v_isub ok dX7_isShoe_10 (n := 11) rfl ?_
  refine v_callSI ok (mi := mi_X7_isFrom) mc_X7_isFrom cs_X7_81 (by decide) ⟨Nat.zero_le _, Nat.zero_le _⟩ dX7_isShoe_11 (n := 14) rfl rfl rfl (Nat.le_of_ble_eq_true rfl) (t_isFrom hv (by omega) (by omega)) (fun x1 M1 h1 => ?_)
  obtain ⟨e1_, h1⟩ := h1
  subst M1
  refine v_zret rt dX7_isShoe_14 (by omega) ?_
  exact ⟨rfl, by omega⟩

