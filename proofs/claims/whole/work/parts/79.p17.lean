set_option maxHeartbeats 4000000 in
set_option maxRecDepth 100000 in
theorem k_X7_0 {G : zG} {ad : Int → Nat} {al : Int → Bool} {rs : Int → Nat → Bool} {M : zM} (wf : zwf al rs) (ha : al 0 = true) (hf : ∀ r, 1 ≤ r ∧ r ≤ 184 → al r = false) (hz : zz M 0 185) : zTN G ad al rs mi_X7_init [zr 0] M (zadr al 1 184) (zrsa (zrsa (zrsa (zrsa (zrsa (zrsa (zrsa (zrsa (zrsa (zrsa (zrsa (zrsa (zrsa (zrsa (zrsa (zrsa (zrsa (zrsa (zrsa (zrsa (zrsa (zrsa (zrsa (zrsa (zrsa (zrsa (zrsa (zrsa (zrsa (zrsa (zrsa (zrsa (zrsa (zrsa (zrsa (zrsa (zrsa (zrsa (zrsa (zrsa (zrsa (zrsa (zrsa (zrsa (zrsa rs 2 0 7) 1 0 1) 3 0 16) 1 1 1) 1 2 1) 0 0 1) 29 0 7) 28 0 1) 30 0 16) 28 1 1) 28 2 1) 0 1 1) 55 0 1) 57 0 16) 55 1 1) 0 3 1) 75 0 16) 74 0 1) 74 1 1) 74 2 1) 0 4 1) 95 0 42) 94 0 1) 0 5 1) 138 0 1) 138 1 1) 138 2 1) 0 6 1) 143 0 14) 142 1 1) 144 0 14) 142 2 1) 142 3 1) 142 4 1) 142 5 1) 0 7 1) 0 8 1) 177 0 1) 176 0 1) 178 0 1) 176 1 1) 179 0 1) 176 2 1) 180 0 1) 176 3 1) (zset (zset (zset (zset M 4 0 2) 4 1 3) 31 0 2) 31 1 3) 184 3273 := by
  refine zTN.of (own := RX7) (ls := [some (zr 0), none]) (by decide +kernel) rfl rfl rfl (Nat.le_of_ble_eq_true rfl) (fun γ ok hin hc hs hgn ov rt => ?_)
  refine v_aload_0 ok dX7_init_0 (n := 1) rfl ?_
  refine v_objI ok (zt 19 (by decide +kernel) (by decide +kernel)) oi_i oi_c ⟨by decide, by decide⟩ dX7_init_1 (n := 4) rfl ?_
  refine v_aload_0 ok dX7_init_4 (n := 5) rfl ?_
  refine v_newO (k := (0, 0)) ok (R := 1) wf (c := 1) rfl ly_1 rfl tyX1 tyX1_ok hdf_1 inz_1 (zt 22 (by decide +kernel) (by decide +kernel)) (zt 23 (by decide +kernel) (by decide +kernel)) (zt 2 (by decide +kernel) (by decide +kernel)) (hf 1 (by omega)) (by decide) (zz_b hz (by omega)) ⟨by rw [hc]; exact Nat.le_of_ble_eq_true rfl, by rw [hs]; exact Nat.le_of_ble_eq_true rfl⟩ (zsr ha rfl) (zlr ha (zlnn rfl)) dX7_init_5 (n := 8) rfl (fun q1 => ?_)
  have iv1 := ziv_n (ziv_0 (ad := ad) (al := al)) (zag_a (ad := ad) (hf 1 (by omega)) (by decide) q1) (fun r hr => zadr_m (a := 1) (n := 1) hr)
  have wf1 := zwf_a (a := 1) (n := 1) wf
  generalize zadf ad 1 1 q1 = ad1 at iv1 ⊢
  refine v_dup ok rfl dX7_init_8 (n := 9) rfl ?_
  refine v_callN (k := (1, 5)) ok ov (mi := mi_X1_init) mc_X1_init rfl ci_X7_9 (by decide) ⟨by rw [hc]; exact Nat.le_of_ble_eq_true rfl, by rw [hs]; exact Nat.le_of_ble_eq_true rfl⟩ dX7_init_9 (n := 12) rfl (by decide) (zsr (zadr_i (by omega)) (zsr (zadr_m ha) rfl)) (zlr (zadr_m ha) (zlnn rfl)) (k_X1_1 wf1 (zadr_i (by omega)) (fun r hr => ((zadr_f (a := 1) (n := 1) (r := r) (by omega)).trans (hf r (by omega)))) (zz_b hz (by omega))) (fun ad2 g2a g2b => ?_)
  have wf2 := wk_X1_1 wf1 (zadr_i (by omega))
  have iv2 := ziv_n iv1 ⟨g2a, g2b⟩ (fun r hr => zadr_m (a := 2) (n := 26) hr)
  rw [zadr_j (a := 1) (n := 1) (b := 2) (m := 26) (c := 27) (by decide) (by decide) (by decide)] at wf2 iv2 ⊢
  refine v_putR ok hin (t := 1) wf2 ff_X7_10 ly_0 (zadr_m ha) rfl rf_0_0 dX7_init_12 (n := 15) rfl ?_
  have wf3 := zwf_s (r := 0) (a := 0) (m := 1) wf2 (zadr_m ha) (fun k hk => by rw [show k = 0 by omega, ztg_o ly_0, rf_0_0]; exact (zadr_i (by omega)))
  refine v_aload_0 ok dX7_init_15 (n := 16) rfl ?_
  refine v_newO (k := (27, 122)) ok (R := 28) wf3 (c := 1) rfl ly_28 rfl tyX1 tyX1_ok hdf_1 inz_1 (zt 22 (by decide +kernel) (by decide +kernel)) (zt 23 (by decide +kernel) (by decide +kernel)) (zt 2 (by decide +kernel) (by decide +kernel)) ((zadr_f (a := 1) (n := 27) (r := 28) (by omega)).trans (hf 28 (by omega))) (by decide) (zz_s (zz_s (zz_b hz (by omega)) (by omega)) (by omega)) ⟨by rw [hc]; exact Nat.le_of_ble_eq_true rfl, by rw [hs]; exact Nat.le_of_ble_eq_true rfl⟩ (zsr (zadr_m ha) rfl) (zlr (zadr_m ha) (zlnn rfl)) dX7_init_16 (n := 19) rfl (fun q4 => ?_)
  have iv4 := ziv_n iv2 (zag_a (ad := ad2) ((zadr_f (a := 1) (n := 27) (r := 28) (by omega)).trans (hf 28 (by omega))) (by decide) q4) (fun r hr => zadr_m (a := 28) (n := 1) hr)
  have wf4 := zwf_a (a := 28) (n := 1) wf3
  generalize zadf ad2 28 1 q4 = ad4 at iv4 ⊢
  rw [zadr_j (a := 1) (n := 27) (b := 28) (m := 1) (c := 28) (by decide) (by decide) (by decide)] at wf4 iv4 ⊢
  refine v_dup ok rfl dX7_init_19 (n := 20) rfl ?_
  refine v_callN (k := (28, 127)) ok ov (mi := mi_X1_init) mc_X1_init rfl ci_X7_9 (by decide) ⟨by rw [hc]; exact Nat.le_of_ble_eq_true rfl, by rw [hs]; exact Nat.le_of_ble_eq_true rfl⟩ dX7_init_20 (n := 23) rfl (by decide) (zsr (zadr_i (by omega)) (zsr (zadr_m ha) rfl)) (zlr (zadr_m ha) (zlnn rfl)) (k_X1_28 wf4 (zadr_i (by omega)) (fun r hr => ((zadr_f (a := 1) (n := 28) (r := r) (by omega)).trans (hf r (by omega)))) (zz_s (zz_s (zz_b hz (by omega)) (by omega)) (by omega))) (fun ad5 g5a g5b => ?_)
  have wf5 := wk_X1_28 wf4 (zadr_i (by omega))
  have iv5 := ziv_n iv4 ⟨g5a, g5b⟩ (fun r hr => zadr_m (a := 29) (n := 26) hr)
  rw [zadr_j (a := 1) (n := 28) (b := 29) (m := 26) (c := 54) (by decide) (by decide) (by decide)] at wf5 iv5 ⊢
  refine v_putR ok hin (t := 28) wf5 ff_X7_16 ly_0 (zadr_m ha) rfl rf_0_1 dX7_init_23 (n := 26) rfl ?_
  have wf6 := zwf_s (r := 0) (a := 1) (m := 1) wf5 (zadr_m ha) (fun k hk => by rw [show k = 1 by omega, ztg_o ly_0, rf_0_1]; exact (zadr_i (by omega)))
  refine v_aload_0 ok dX7_init_26 (n := 27) rfl ?_
  refine v_iconst ok dX7_init_27 (n := 28) rfl ?_
  refine v_putZ ok fw_X7_19 (Or.inl rfl) ly_0 (show (zadr al 1 54) 0 = true from (zadr_m ha)) rfl (jI := 2) rfl dX7_init_28 (n := 31) rfl ?_
  rw [zset0 (show zz (zset (zset (zset (zset M 4 0 2) 4 1 3) 31 0 2) 31 1 3) 0 1 from (zz_s (zz_s (zz_s (zz_s (zz_b hz (by omega)) (by omega)) (by omega)) (by omega)) (by omega)))]
  refine v_aload_0 ok dX7_init_31 (n := 32) rfl ?_
  refine v_newO (k := (54, 244)) ok (R := 55) wf6 (c := 4) rfl ly_55 rfl tyX4 tyX4_ok hdf_4 inz_4 (zt 58 (by decide +kernel) (by decide +kernel)) (zt 59 (by decide +kernel) (by decide +kernel)) (zt 3 (by decide +kernel) (by decide +kernel)) ((zadr_f (a := 1) (n := 54) (r := 55) (by omega)).trans (hf 55 (by omega))) (by decide) (zz_s (zz_s (zz_s (zz_s (zz_b hz (by omega)) (by omega)) (by omega)) (by omega)) (by omega)) ⟨by rw [hc]; exact Nat.le_of_ble_eq_true rfl, by rw [hs]; exact Nat.le_of_ble_eq_true rfl⟩ (zsr (zadr_m ha) rfl) (zlr (zadr_m ha) (zlnn rfl)) dX7_init_32 (n := 35) rfl (fun q7 => ?_)
  have iv7 := ziv_n iv5 (zag_a (ad := ad5) ((zadr_f (a := 1) (n := 54) (r := 55) (by omega)).trans (hf 55 (by omega))) (by decide) q7) (fun r hr => zadr_m (a := 55) (n := 1) hr)
  have wf7 := zwf_a (a := 55) (n := 1) wf6
  generalize zadf ad5 55 1 q7 = ad7 at iv7 ⊢
  rw [zadr_j (a := 1) (n := 54) (b := 55) (m := 1) (c := 55) (by decide) (by decide) (by decide)] at wf7 iv7 ⊢
  refine v_dup ok rfl dX7_init_35 (n := 36) rfl ?_
  refine v_callN (k := (55, 248)) ok ov (mi := mi_X4_init) mc_X4_init rfl ci_X7_25 (by decide) ⟨by rw [hc]; exact Nat.le_of_ble_eq_true rfl, by rw [hs]; exact Nat.le_of_ble_eq_true rfl⟩ dX7_init_36 (n := 39) rfl (by decide) (zsr (zadr_i (by omega)) (zsr (zadr_m ha) rfl)) (zlr (zadr_m ha) (zlnn rfl)) (k_X4_55 wf7 (zadr_i (by omega)) (fun r hr => ((zadr_f (a := 1) (n := 55) (r := r) (by omega)).trans (hf r (by omega)))) (zz_s (zz_s (zz_s (zz_s (zz_b hz (by omega)) (by omega)) (by omega)) (by omega)) (by omega))) (fun ad8 g8a g8b => ?_)
  have wf8 := wk_X4_55 wf7 (zadr_i (by omega))
  have iv8 := ziv_n iv7 ⟨g8a, g8b⟩ (fun r hr => zadr_m (a := 56) (n := 18) hr)
  rw [zadr_j (a := 1) (n := 55) (b := 56) (m := 18) (c := 73) (by decide) (by decide) (by decide)] at wf8 iv8 ⊢
  refine v_putR ok hin (t := 55) wf8 ff_X7_26 ly_0 (zadr_m ha) rfl rf_0_3 dX7_init_39 (n := 42) rfl ?_
  have wf9 := zwf_s (r := 0) (a := 3) (m := 1) wf8 (zadr_m ha) (fun k hk => by rw [show k = 3 by omega, ztg_o ly_0, rf_0_3]; exact (zadr_i (by omega)))
  refine v_aload_0 ok dX7_init_42 (n := 43) rfl ?_
  refine v_newO (k := (73, 448)) ok (R := 74) wf9 (c := 6) rfl ly_74 rfl tyX6 tyX6_ok hdf_6 inz_6 (zt 80 (by decide +kernel) (by decide +kernel)) (zt 81 (by decide +kernel) (by decide +kernel)) (zt 4 (by decide +kernel) (by decide +kernel)) ((zadr_f (a := 1) (n := 73) (r := 74) (by omega)).trans (hf 74 (by omega))) (by decide) (zz_s (zz_s (zz_s (zz_s (zz_b hz (by omega)) (by omega)) (by omega)) (by omega)) (by omega)) ⟨by rw [hc]; exact Nat.le_of_ble_eq_true rfl, by rw [hs]; exact Nat.le_of_ble_eq_true rfl⟩ (zsr (zadr_m ha) rfl) (zlr (zadr_m ha) (zlnn rfl)) dX7_init_43 (n := 46) rfl (fun q10 => ?_)
  have iv10 := ziv_n iv8 (zag_a (ad := ad8) ((zadr_f (a := 1) (n := 73) (r := 74) (by omega)).trans (hf 74 (by omega))) (by decide) q10) (fun r hr => zadr_m (a := 74) (n := 1) hr)
  have wf10 := zwf_a (a := 74) (n := 1) wf9
  generalize zadf ad8 74 1 q10 = ad10 at iv10 ⊢
  rw [zadr_j (a := 1) (n := 73) (b := 74) (m := 1) (c := 74) (by decide) (by decide) (by decide)] at wf10 iv10 ⊢
  refine v_dup ok rfl dX7_init_46 (n := 47) rfl ?_
  refine v_callN (k := (74, 452)) ok ov (mi := mi_X6_init) mc_X6_init rfl ci_X7_32 (by decide) ⟨by rw [hc]; exact Nat.le_of_ble_eq_true rfl, by rw [hs]; exact Nat.le_of_ble_eq_true rfl⟩ dX7_init_47 (n := 50) rfl (by decide) (zsr (zadr_i (by omega)) (zsr (zadr_m ha) rfl)) (zlr (zadr_m ha) (zlnn rfl)) (k_X6_74 wf10 (zadr_i (by omega)) (fun r hr => ((zadr_f (a := 1) (n := 74) (r := r) (by omega)).trans (hf r (by omega)))) (zz_s (zz_s (zz_s (zz_s (zz_b hz (by omega)) (by omega)) (by omega)) (by omega)) (by omega))) (fun ad11 g11a g11b => ?_)
  have wf11 := wk_X6_74 wf10 (zadr_i (by omega))
  have iv11 := ziv_n iv10 ⟨g11a, g11b⟩ (fun r hr => zadr_m (a := 75) (n := 19) hr)
  rw [zadr_j (a := 1) (n := 74) (b := 75) (m := 19) (c := 93) (by decide) (by decide) (by decide)] at wf11 iv11 ⊢
  refine v_putR ok hin (t := 74) wf11 ff_X7_33 ly_0 (zadr_m ha) rfl rf_0_4 dX7_init_50 (n := 53) rfl ?_
  have wf12 := zwf_s (r := 0) (a := 4) (m := 1) wf11 (zadr_m ha) (fun k hk => by rw [show k = 4 by omega, ztg_o ly_0, rf_0_4]; exact (zadr_i (by omega)))
  refine v_aload_0 ok dX7_init_53 (n := 54) rfl ?_
  refine v_newO (k := (93, 715)) ok (R := 94) wf12 (c := 5) rfl ly_94 rfl tyX5 tyX5_ok hdf_5 inz_5 (zt 104 (by decide +kernel) (by decide +kernel)) (zt 105 (by decide +kernel) (by decide +kernel)) (zt 5 (by decide +kernel) (by decide +kernel)) ((zadr_f (a := 1) (n := 93) (r := 94) (by omega)).trans (hf 94 (by omega))) (by decide) (zz_s (zz_s (zz_s (zz_s (zz_b hz (by omega)) (by omega)) (by omega)) (by omega)) (by omega)) ⟨by rw [hc]; exact Nat.le_of_ble_eq_true rfl, by rw [hs]; exact Nat.le_of_ble_eq_true rfl⟩ (zsr (zadr_m ha) rfl) (zlr (zadr_m ha) (zlnn rfl)) dX7_init_54 (n := 57) rfl (fun q13 => ?_)
  have iv13 := ziv_n iv11 (zag_a (ad := ad11) ((zadr_f (a := 1) (n := 93) (r := 94) (by omega)).trans (hf 94 (by omega))) (by decide) q13) (fun r hr => zadr_m (a := 94) (n := 1) hr)
  have wf13 := zwf_a (a := 94) (n := 1) wf12
  generalize zadf ad11 94 1 q13 = ad13 at iv13 ⊢
  rw [zadr_j (a := 1) (n := 93) (b := 94) (m := 1) (c := 94) (by decide) (by decide) (by decide)] at wf13 iv13 ⊢
  refine v_dup ok rfl dX7_init_57 (n := 58) rfl ?_
  refine v_callN (k := (94, 717)) ok ov (mi := mi_X5_init) mc_X5_init rfl ci_X7_39 (by decide) ⟨by rw [hc]; exact Nat.le_of_ble_eq_true rfl, by rw [hs]; exact Nat.le_of_ble_eq_true rfl⟩ dX7_init_58 (n := 61) rfl (by decide) (zsr (zadr_i (by omega)) (zsr (zadr_m ha) rfl)) (zlr (zadr_m ha) (zlnn rfl)) (k_X5_94 wf13 (zadr_i (by omega)) (fun r hr => ((zadr_f (a := 1) (n := 94) (r := r) (by omega)).trans (hf r (by omega)))) (zz_s (zz_s (zz_s (zz_s (zz_b hz (by omega)) (by omega)) (by omega)) (by omega)) (by omega))) (fun ad14 g14a g14b => ?_)
  have wf14 := wk_X5_94 wf13 (zadr_i (by omega))
  have iv14 := ziv_n iv13 ⟨g14a, g14b⟩ (fun r hr => zadr_m (a := 95) (n := 43) hr)
  rw [zadr_j (a := 1) (n := 94) (b := 95) (m := 43) (c := 137) (by decide) (by decide) (by decide)] at wf14 iv14 ⊢
  refine v_putR ok hin (t := 94) wf14 ff_X7_40 ly_0 (zadr_m ha) rfl rf_0_5 dX7_init_61 (n := 64) rfl ?_
  have wf15 := zwf_s (r := 0) (a := 5) (m := 1) wf14 (zadr_m ha) (fun k hk => by rw [show k = 5 by omega, ztg_o ly_0, rf_0_5]; exact (zadr_i (by omega)))
  refine v_aload_0 ok dX7_init_64 (n := 65) rfl ?_
  refine v_newO (k := (137, 2523)) ok (R := 138) wf15 (c := 0) rfl ly_138 rfl tyX0 tyX0_ok hdf_0 inz_0 (zt 118 (by decide +kernel) (by decide +kernel)) (zt 119 (by decide +kernel) (by decide +kernel)) (zt 6 (by decide +kernel) (by decide +kernel)) ((zadr_f (a := 1) (n := 137) (r := 138) (by omega)).trans (hf 138 (by omega))) (by decide) (zz_s (zz_s (zz_s (zz_s (zz_b hz (by omega)) (by omega)) (by omega)) (by omega)) (by omega)) ⟨by rw [hc]; exact Nat.le_of_ble_eq_true rfl, by rw [hs]; exact Nat.le_of_ble_eq_true rfl⟩ (zsr (zadr_m ha) rfl) (zlr (zadr_m ha) (zlnn rfl)) dX7_init_65 (n := 68) rfl (fun q16 => ?_)
  have iv16 := ziv_n iv14 (zag_a (ad := ad14) ((zadr_f (a := 1) (n := 137) (r := 138) (by omega)).trans (hf 138 (by omega))) (by decide) q16) (fun r hr => zadr_m (a := 138) (n := 1) hr)
  have wf16 := zwf_a (a := 138) (n := 1) wf15
  generalize zadf ad14 138 1 q16 = ad16 at iv16 ⊢
  rw [zadr_j (a := 1) (n := 137) (b := 138) (m := 1) (c := 138) (by decide) (by decide) (by decide)] at wf16 iv16 ⊢
  refine v_dup ok rfl dX7_init_68 (n := 69) rfl ?_
  refine v_callN (k := (138, 2526)) ok ov (mi := mi_X0_init) mc_X0_init rfl ci_X7_46 (by decide) ⟨by rw [hc]; exact Nat.le_of_ble_eq_true rfl, by rw [hs]; exact Nat.le_of_ble_eq_true rfl⟩ dX7_init_69 (n := 72) rfl (by decide) (zsr (zadr_i (by omega)) (zsr (zadr_m ha) rfl)) (zlr (zadr_m ha) (zlnn rfl)) (k_X0_138 wf16 (zadr_i (by omega)) (fun r hr => ((zadr_f (a := 1) (n := 138) (r := r) (by omega)).trans (hf r (by omega)))) (zz_s (zz_s (zz_s (zz_s (zz_b hz (by omega)) (by omega)) (by omega)) (by omega)) (by omega))) (fun ad17 g17a g17b => ?_)
  have wf17 := wk_X0_138 wf16 (zadr_i (by omega))
  have iv17 := ziv_n iv16 ⟨g17a, g17b⟩ (fun r hr => zadr_m (a := 139) (n := 3) hr)
  rw [zadr_j (a := 1) (n := 138) (b := 139) (m := 3) (c := 141) (by decide) (by decide) (by decide)] at wf17 iv17 ⊢
  refine v_putR ok hin (t := 138) wf17 ff_X7_47 ly_0 (zadr_m ha) rfl rf_0_6 dX7_init_72 (n := 75) rfl ?_
  have wf18 := zwf_s (r := 0) (a := 6) (m := 1) wf17 (zadr_m ha) (fun k hk => by rw [show k = 6 by omega, ztg_o ly_0, rf_0_6]; exact (zadr_i (by omega)))
  refine v_aload_0 ok dX7_init_75 (n := 76) rfl ?_
  refine v_newO (k := (141, 2602)) ok (R := 142) wf18 (c := 2) rfl ly_142 rfl tyX2 tyX2_ok hdf_2 inz_2 (zt 135 (by decide +kernel) (by decide +kernel)) (zt 136 (by decide +kernel) (by decide +kernel)) (zt 7 (by decide +kernel) (by decide +kernel)) ((zadr_f (a := 1) (n := 141) (r := 142) (by omega)).trans (hf 142 (by omega))) (by decide) (zz_s (zz_s (zz_s (zz_s (zz_b hz (by omega)) (by omega)) (by omega)) (by omega)) (by omega)) ⟨by rw [hc]; exact Nat.le_of_ble_eq_true rfl, by rw [hs]; exact Nat.le_of_ble_eq_true rfl⟩ (zsr (zadr_m ha) rfl) (zlr (zadr_m ha) (zlnn rfl)) dX7_init_76 (n := 79) rfl (fun q19 => ?_)
  have iv19 := ziv_n iv17 (zag_a (ad := ad17) ((zadr_f (a := 1) (n := 141) (r := 142) (by omega)).trans (hf 142 (by omega))) (by decide) q19) (fun r hr => zadr_m (a := 142) (n := 1) hr)
  have wf19 := zwf_a (a := 142) (n := 1) wf18
  generalize zadf ad17 142 1 q19 = ad19 at iv19 ⊢
  rw [zadr_j (a := 1) (n := 141) (b := 142) (m := 1) (c := 142) (by decide) (by decide) (by decide)] at wf19 iv19 ⊢
  refine v_dup ok rfl dX7_init_79 (n := 80) rfl ?_
  refine v_callN (k := (142, 2608)) ok ov (mi := mi_X2_init) mc_X2_init rfl ci_X7_53 (by decide) ⟨by rw [hc]; exact Nat.le_of_ble_eq_true rfl, by rw [hs]; exact Nat.le_of_ble_eq_true rfl⟩ dX7_init_80 (n := 83) rfl (by decide) (zsr (zadr_i (by omega)) (zsr (zadr_m ha) rfl)) (zlr (zadr_m ha) (zlnn rfl)) (k_X2_142 wf19 (zadr_i (by omega)) (fun r hr => ((zadr_f (a := 1) (n := 142) (r := r) (by omega)).trans (hf r (by omega)))) (zz_s (zz_s (zz_s (zz_s (zz_b hz (by omega)) (by omega)) (by omega)) (by omega)) (by omega))) (fun ad20 g20a g20b => ?_)
  have wf20 := wk_X2_142 wf19 (zadr_i (by omega))
  have iv20 := ziv_n iv19 ⟨g20a, g20b⟩ (fun r hr => zadr_m (a := 143) (n := 33) hr)
  rw [zadr_j (a := 1) (n := 142) (b := 143) (m := 33) (c := 175) (by decide) (by decide) (by decide)] at wf20 iv20 ⊢
  refine v_putR ok hin (t := 142) wf20 ff_X7_54 ly_0 (zadr_m ha) rfl rf_0_7 dX7_init_83 (n := 86) rfl ?_
  have wf21 := zwf_s (r := 0) (a := 7) (m := 1) wf20 (zadr_m ha) (fun k hk => by rw [show k = 7 by omega, ztg_o ly_0, rf_0_7]; exact (zadr_i (by omega)))
  refine v_aload_0 ok dX7_init_86 (n := 87) rfl ?_
  refine v_iconst ok dX7_init_87 (n := 88) rfl ?_
  refine v_newS (k := (175, 2853)) ok (R := 176) wf21 ly_176 (zt 162 (by decide +kernel) (by decide +kernel)) ov.2.2 ((zadr_f (a := 1) (n := 175) (r := 176) (by omega)).trans (hf 176 (by omega))) (by decide) (zz_s (zz_s (zz_s (zz_s (zz_b hz (by omega)) (by omega)) (by omega)) (by omega)) (by omega)) rfl (by decide) ⟨by rw [hc]; exact Nat.le_of_ble_eq_true rfl, by rw [hs]; exact Nat.le_of_ble_eq_true rfl⟩ (zsr (zadr_m ha) rfl) (zlr (zadr_m ha) (zlnn rfl)) dX7_init_88 (n := 91) rfl (fun q22 => ?_)
  have iv22 := ziv_n iv20 (zag_a (ad := ad20) ((zadr_f (a := 1) (n := 175) (r := 176) (by omega)).trans (hf 176 (by omega))) (by decide) q22) (fun r hr => zadr_m (a := 176) (n := 1) hr)
  have wf22 := zwf_a (a := 176) (n := 1) wf21
  generalize zadf ad20 176 1 q22 = ad22 at iv22 ⊢
  rw [zadr_j (a := 1) (n := 175) (b := 176) (m := 1) (c := 176) (by decide) (by decide) (by decide)] at wf22 iv22 ⊢
  refine v_putR ok hin (t := 176) wf22 ff_X7_60 ly_0 (zadr_m ha) rfl rf_0_8 dX7_init_91 (n := 94) rfl ?_
  have wf23 := zwf_s (r := 0) (a := 8) (m := 1) wf22 (zadr_m ha) (fun k hk => by rw [show k = 8 by omega, ztg_o ly_0, rf_0_8]; exact (zadr_i (by omega)))
  refine v_iconst ok dX7_init_94 (n := 95) rfl ?_
  refine v_istore_1 ok (Nat.le_of_ble_eq_true rfl) rfl dX7_init_95 (n := 96) rfl ?_
  refine v_iload_1 ok dX7_init_96 (n := 97) rfl ?_
  refine v_iconst ok dX7_init_97 (n := 98) rfl ?_
  refine v_icmp_ge ok dX7_init_98 (tgt := 120) (by decide) (n := 101) rfl (by decide) (by decide) (fun w9 => ?_) (fun w9 => ?_)
  · exact absurd w9 (by decide)
  refine v_aload_0 ok dX7_init_101 (n := 102) rfl ?_
  refine v_getR ok fd_X7_60 ly_0 (show (zadr al 1 176) 0 = true from (zadr_m ha)) rfl (show (zrsa (zrsa (zrsa (zrsa (zrsa (zrsa (zrsa (zrsa (zrsa (zrsa (zrsa (zrsa (zrsa (zrsa (zrsa (zrsa (zrsa (zrsa (zrsa (zrsa (zrsa (zrsa (zrsa (zrsa (zrsa (zrsa (zrsa (zrsa (zrsa (zrsa (zrsa (zrsa (zrsa (zrsa (zrsa (zrsa (zrsa rs 2 0 7) 1 0 1) 3 0 16) 1 1 1) 1 2 1) 0 0 1) 29 0 7) 28 0 1) 30 0 16) 28 1 1) 28 2 1) 0 1 1) 55 0 1) 57 0 16) 55 1 1) 0 3 1) 75 0 16) 74 0 1) 74 1 1) 74 2 1) 0 4 1) 95 0 42) 94 0 1) 0 5 1) 138 0 1) 138 1 1) 138 2 1) 0 6 1) 143 0 14) 142 1 1) 144 0 14) 142 2 1) 142 3 1) 142 4 1) 142 5 1) 0 7 1) 0 8 1) 0 8 = true from (zrsa_i (by decide))) rf_0_8 dX7_init_102 (n := 105) rfl ?_
  refine v_iload_1 ok dX7_init_105 (n := 106) rfl ?_
  refine v_newO (k := (176, 2857)) ok (R := 177) wf23 (c := 3) rfl ly_177 rfl tyX3 tyX3_ok hdf_3 inz_3 (zt 162 (by decide +kernel) (by decide +kernel)) (zt 164 (by decide +kernel) (by decide +kernel)) (zt 8 (by decide +kernel) (by decide +kernel)) ((zadr_f (a := 1) (n := 176) (r := 177) (by omega)).trans (hf 177 (by omega))) (by decide) (zz_s (zz_s (zz_s (zz_s (zz_b hz (by omega)) (by omega)) (by omega)) (by omega)) (by omega)) ⟨by rw [hc]; exact Nat.le_of_ble_eq_true rfl, by rw [hs]; exact Nat.le_of_ble_eq_true rfl⟩ (zsi (zsr (zadr_i (by omega)) rfl)) (zlr (zadr_m ha) (zli rfl)) dX7_init_106 (n := 109) rfl (fun q24 => ?_)
  have iv24 := ziv_n iv22 (zag_a (ad := ad22) ((zadr_f (a := 1) (n := 176) (r := 177) (by omega)).trans (hf 177 (by omega))) (by decide) q24) (fun r hr => zadr_m (a := 177) (n := 1) hr)
  have wf24 := zwf_a (a := 177) (n := 1) wf23
  generalize zadf ad22 177 1 q24 = ad24 at iv24 ⊢
  rw [zadr_j (a := 1) (n := 176) (b := 177) (m := 1) (c := 177) (by decide) (by decide) (by decide)] at wf24 iv24 ⊢
  refine v_dup ok rfl dX7_init_109 (n := 110) rfl ?_
  refine v_callN (k := (177, 2861)) ok ov (mi := mi_X3_init) mc_X3_init rfl ci_X7_64 (by decide) ⟨by rw [hc]; exact Nat.le_of_ble_eq_true rfl, by rw [hs]; exact Nat.le_of_ble_eq_true rfl⟩ dX7_init_110 (n := 113) rfl (by decide) (zsr (zadr_i (by omega)) (zsi (zsr (zadr_i (by omega)) rfl))) (zlr (zadr_m ha) (zli rfl)) (k_X3_177 wf24 (zadr_i (by omega)) (fun r hr => ((zadr_f (a := 1) (n := 177) (r := r) (by omega)).trans (hf r (by omega)))) (zz_s (zz_s (zz_s (zz_s (zz_b hz (by omega)) (by omega)) (by omega)) (by omega)) (by omega))) (fun ad25 g25a g25b => ?_)
  have wf25 := wk_X3_177 wf24 (zadr_i (by omega))
  have iv25 := ziv_n iv24 ⟨g25a, g25b⟩ (fun r hr => zadr_m (a := 181) (n := 1) hr)
  refine v_aastS ok (t := 177) wf25 ly_176 (zadr_m (zadr_i (by omega))) (by decide) (by decide) rfl ly_177 (zadr_m (zadr_i (by omega))) dX7_init_113 (n := 114) rfl ?_
  have wf26 := zwf_s (r := 176) (a := 0) (m := 1) wf25 (zadr_m (zadr_i (by omega))) (fun k hk => by rw [show k = 0 by omega, ztg_a ly_176 (by decide)]; exact (zadr_m (zadr_i (by omega))))
  refine v_iinc_1 ok (Nat.le_of_ble_eq_true rfl) rfl dX7_init_114 (n := 117) rfl ?_
  rw [show (0 : Int) + 1 = 1 from rfl]
  refine v_goto ok dX7_init_117 (n := 96) (by decide) ?_
  refine v_iload_1 ok dX7_init_96 (n := 97) rfl ?_
  refine v_iconst ok dX7_init_97 (n := 98) rfl ?_
  refine v_icmp_ge ok dX7_init_98 (tgt := 120) (by decide) (n := 101) rfl (by decide) (by decide) (fun w9 => ?_) (fun w9 => ?_)
  · exact absurd w9 (by decide)
  refine v_aload_0 ok dX7_init_101 (n := 102) rfl ?_
  refine v_getR ok fd_X7_60 ly_0 (show (zadr (zadr al 1 177) 181 1) 0 = true from (zadr_m (zadr_m ha))) rfl (show (zrsa (zrsa (zrsa (zrsa (zrsa (zrsa (zrsa (zrsa (zrsa (zrsa (zrsa (zrsa (zrsa (zrsa (zrsa (zrsa (zrsa (zrsa (zrsa (zrsa (zrsa (zrsa (zrsa (zrsa (zrsa (zrsa (zrsa (zrsa (zrsa (zrsa (zrsa (zrsa (zrsa (zrsa (zrsa (zrsa (zrsa (zrsa (zrsa rs 2 0 7) 1 0 1) 3 0 16) 1 1 1) 1 2 1) 0 0 1) 29 0 7) 28 0 1) 30 0 16) 28 1 1) 28 2 1) 0 1 1) 55 0 1) 57 0 16) 55 1 1) 0 3 1) 75 0 16) 74 0 1) 74 1 1) 74 2 1) 0 4 1) 95 0 42) 94 0 1) 0 5 1) 138 0 1) 138 1 1) 138 2 1) 0 6 1) 143 0 14) 142 1 1) 144 0 14) 142 2 1) 142 3 1) 142 4 1) 142 5 1) 0 7 1) 0 8 1) 177 0 1) 176 0 1) 0 8 = true from (zrsa_m (zrsa_m (zrsa_i (by decide))))) rf_0_8 dX7_init_102 (n := 105) rfl ?_
  refine v_iload_1 ok dX7_init_105 (n := 106) rfl ?_
  refine v_newO (k := (178, 2961)) ok (R := 178) wf26 (c := 3) rfl ly_178 rfl tyX3 tyX3_ok hdf_3 inz_3 (zt 162 (by decide +kernel) (by decide +kernel)) (zt 164 (by decide +kernel) (by decide +kernel)) (zt 8 (by decide +kernel) (by decide +kernel)) ((zadr_f (a := 181) (n := 1) (r := 178) (by omega)).trans ((zadr_f (a := 1) (n := 177) (r := 178) (by omega)).trans (hf 178 (by omega)))) (by decide) (zz_s (zz_s (zz_s (zz_s (zz_b hz (by omega)) (by omega)) (by omega)) (by omega)) (by omega)) ⟨by rw [hc]; exact Nat.le_of_ble_eq_true rfl, by rw [hs]; exact Nat.le_of_ble_eq_true rfl⟩ (zsi (zsr (zadr_m (zadr_i (by omega))) rfl)) (zlr (zadr_m (zadr_m ha)) (zli rfl)) dX7_init_106 (n := 109) rfl (fun q27 => ?_)
  have iv27 := ziv_n iv25 (zag_a (ad := ad25) ((zadr_f (a := 181) (n := 1) (r := 178) (by omega)).trans ((zadr_f (a := 1) (n := 177) (r := 178) (by omega)).trans (hf 178 (by omega)))) (by decide) q27) (fun r hr => zadr_m (a := 178) (n := 1) hr)
  have wf27 := zwf_a (a := 178) (n := 1) wf26
  generalize zadf ad25 178 1 q27 = ad27 at iv27 ⊢
  refine v_dup ok rfl dX7_init_109 (n := 110) rfl ?_
  refine v_callN (k := (179, 2965)) ok ov (mi := mi_X3_init) mc_X3_init rfl ci_X7_64 (by decide) ⟨by rw [hc]; exact Nat.le_of_ble_eq_true rfl, by rw [hs]; exact Nat.le_of_ble_eq_true rfl⟩ dX7_init_110 (n := 113) rfl (by decide) (zsr (zadr_i (by omega)) (zsi (zsr (zadr_m (zadr_m (zadr_i (by omega)))) rfl))) (zlr (zadr_m (zadr_m (zadr_m ha))) (zli rfl)) (k_X3_178 wf27 (zadr_i (by omega)) (fun r hr => ((zadr_f (a := 178) (n := 1) (r := r) (by omega)).trans ((zadr_f (a := 181) (n := 1) (r := r) (by omega)).trans ((zadr_f (a := 1) (n := 177) (r := r) (by omega)).trans (hf r (by omega)))))) (zz_s (zz_s (zz_s (zz_s (zz_b hz (by omega)) (by omega)) (by omega)) (by omega)) (by omega))) (fun ad28 g28a g28b => ?_)
  have wf28 := wk_X3_178 wf27 (zadr_i (by omega))
  have iv28 := ziv_n iv27 ⟨g28a, g28b⟩ (fun r hr => zadr_m (a := 182) (n := 1) hr)
  refine v_aastS ok (t := 178) wf28 ly_176 (zadr_m (zadr_m (zadr_m (zadr_i (by omega))))) (by decide) (by decide) rfl ly_178 (zadr_m (zadr_i (by omega))) dX7_init_113 (n := 114) rfl ?_
  have wf29 := zwf_s (r := 176) (a := 1) (m := 1) wf28 (zadr_m (zadr_m (zadr_m (zadr_i (by omega))))) (fun k hk => by rw [show k = 1 by omega, ztg_a ly_176 (by decide)]; exact (zadr_m (zadr_i (by omega))))
  refine v_iinc_1 ok (Nat.le_of_ble_eq_true rfl) rfl dX7_init_114 (n := 117) rfl ?_
  rw [show (1 : Int) + 1 = 2 from rfl]
  refine v_goto ok dX7_init_117 (n := 96) (by decide) ?_
  refine v_iload_1 ok dX7_init_96 (n := 97) rfl ?_
  refine v_iconst ok dX7_init_97 (n := 98) rfl ?_
  refine v_icmp_ge ok dX7_init_98 (tgt := 120) (by decide) (n := 101) rfl (by decide) (by decide) (fun w9 => ?_) (fun w9 => ?_)
  · exact absurd w9 (by decide)
  refine v_aload_0 ok dX7_init_101 (n := 102) rfl ?_
  refine v_getR ok fd_X7_60 ly_0 (show (zadr (zadr (zadr (zadr al 1 177) 181 1) 178 1) 182 1) 0 = true from (zadr_m (zadr_m (zadr_m (zadr_m ha))))) rfl (show (zrsa (zrsa (zrsa (zrsa (zrsa (zrsa (zrsa (zrsa (zrsa (zrsa (zrsa (zrsa (zrsa (zrsa (zrsa (zrsa (zrsa (zrsa (zrsa (zrsa (zrsa (zrsa (zrsa (zrsa (zrsa (zrsa (zrsa (zrsa (zrsa (zrsa (zrsa (zrsa (zrsa (zrsa (zrsa (zrsa (zrsa (zrsa (zrsa (zrsa (zrsa rs 2 0 7) 1 0 1) 3 0 16) 1 1 1) 1 2 1) 0 0 1) 29 0 7) 28 0 1) 30 0 16) 28 1 1) 28 2 1) 0 1 1) 55 0 1) 57 0 16) 55 1 1) 0 3 1) 75 0 16) 74 0 1) 74 1 1) 74 2 1) 0 4 1) 95 0 42) 94 0 1) 0 5 1) 138 0 1) 138 1 1) 138 2 1) 0 6 1) 143 0 14) 142 1 1) 144 0 14) 142 2 1) 142 3 1) 142 4 1) 142 5 1) 0 7 1) 0 8 1) 177 0 1) 176 0 1) 178 0 1) 176 1 1) 0 8 = true from (zrsa_m (zrsa_m (zrsa_m (zrsa_m (zrsa_i (by decide))))))) rf_0_8 dX7_init_102 (n := 105) rfl ?_
  refine v_iload_1 ok dX7_init_105 (n := 106) rfl ?_
  refine v_newO (k := (180, 3065)) ok (R := 179) wf29 (c := 3) rfl ly_179 rfl tyX3 tyX3_ok hdf_3 inz_3 (zt 162 (by decide +kernel) (by decide +kernel)) (zt 164 (by decide +kernel) (by decide +kernel)) (zt 8 (by decide +kernel) (by decide +kernel)) ((zadr_f (a := 182) (n := 1) (r := 179) (by omega)).trans ((zadr_f (a := 178) (n := 1) (r := 179) (by omega)).trans ((zadr_f (a := 181) (n := 1) (r := 179) (by omega)).trans ((zadr_f (a := 1) (n := 177) (r := 179) (by omega)).trans (hf 179 (by omega)))))) (by decide) (zz_s (zz_s (zz_s (zz_s (zz_b hz (by omega)) (by omega)) (by omega)) (by omega)) (by omega)) ⟨by rw [hc]; exact Nat.le_of_ble_eq_true rfl, by rw [hs]; exact Nat.le_of_ble_eq_true rfl⟩ (zsi (zsr (zadr_m (zadr_m (zadr_m (zadr_i (by omega))))) rfl)) (zlr (zadr_m (zadr_m (zadr_m (zadr_m ha)))) (zli rfl)) dX7_init_106 (n := 109) rfl (fun q30 => ?_)
  have iv30 := ziv_n iv28 (zag_a (ad := ad28) ((zadr_f (a := 182) (n := 1) (r := 179) (by omega)).trans ((zadr_f (a := 178) (n := 1) (r := 179) (by omega)).trans ((zadr_f (a := 181) (n := 1) (r := 179) (by omega)).trans ((zadr_f (a := 1) (n := 177) (r := 179) (by omega)).trans (hf 179 (by omega)))))) (by decide) q30) (fun r hr => zadr_m (a := 179) (n := 1) hr)
  have wf30 := zwf_a (a := 179) (n := 1) wf29
  generalize zadf ad28 179 1 q30 = ad30 at iv30 ⊢
  refine v_dup ok rfl dX7_init_109 (n := 110) rfl ?_
  refine v_callN (k := (181, 3069)) ok ov (mi := mi_X3_init) mc_X3_init rfl ci_X7_64 (by decide) ⟨by rw [hc]; exact Nat.le_of_ble_eq_true rfl, by rw [hs]; exact Nat.le_of_ble_eq_true rfl⟩ dX7_init_110 (n := 113) rfl (by decide) (zsr (zadr_i (by omega)) (zsi (zsr (zadr_m (zadr_m (zadr_m (zadr_m (zadr_i (by omega)))))) rfl))) (zlr (zadr_m (zadr_m (zadr_m (zadr_m (zadr_m ha))))) (zli rfl)) (k_X3_179 wf30 (zadr_i (by omega)) (fun r hr => ((zadr_f (a := 179) (n := 1) (r := r) (by omega)).trans ((zadr_f (a := 182) (n := 1) (r := r) (by omega)).trans ((zadr_f (a := 178) (n := 1) (r := r) (by omega)).trans ((zadr_f (a := 181) (n := 1) (r := r) (by omega)).trans ((zadr_f (a := 1) (n := 177) (r := r) (by omega)).trans (hf r (by omega)))))))) (zz_s (zz_s (zz_s (zz_s (zz_b hz (by omega)) (by omega)) (by omega)) (by omega)) (by omega))) (fun ad31 g31a g31b => ?_)
  have wf31 := wk_X3_179 wf30 (zadr_i (by omega))
  have iv31 := ziv_n iv30 ⟨g31a, g31b⟩ (fun r hr => zadr_m (a := 183) (n := 1) hr)
  refine v_aastS ok (t := 179) wf31 ly_176 (zadr_m (zadr_m (zadr_m (zadr_m (zadr_m (zadr_i (by omega))))))) (by decide) (by decide) rfl ly_179 (zadr_m (zadr_i (by omega))) dX7_init_113 (n := 114) rfl ?_
  have wf32 := zwf_s (r := 176) (a := 2) (m := 1) wf31 (zadr_m (zadr_m (zadr_m (zadr_m (zadr_m (zadr_i (by omega))))))) (fun k hk => by rw [show k = 2 by omega, ztg_a ly_176 (by decide)]; exact (zadr_m (zadr_i (by omega))))
  refine v_iinc_1 ok (Nat.le_of_ble_eq_true rfl) rfl dX7_init_114 (n := 117) rfl ?_
  rw [show (2 : Int) + 1 = 3 from rfl]
  refine v_goto ok dX7_init_117 (n := 96) (by decide) ?_
  refine v_iload_1 ok dX7_init_96 (n := 97) rfl ?_
  refine v_iconst ok dX7_init_97 (n := 98) rfl ?_
  refine v_icmp_ge ok dX7_init_98 (tgt := 120) (by decide) (n := 101) rfl (by decide) (by decide) (fun w9 => ?_) (fun w9 => ?_)
  · exact absurd w9 (by decide)
  refine v_aload_0 ok dX7_init_101 (n := 102) rfl ?_
  refine v_getR ok fd_X7_60 ly_0 (show (zadr (zadr (zadr (zadr (zadr (zadr al 1 177) 181 1) 178 1) 182 1) 179 1) 183 1) 0 = true from (zadr_m (zadr_m (zadr_m (zadr_m (zadr_m (zadr_m ha))))))) rfl (show (zrsa (zrsa (zrsa (zrsa (zrsa (zrsa (zrsa (zrsa (zrsa (zrsa (zrsa (zrsa (zrsa (zrsa (zrsa (zrsa (zrsa (zrsa (zrsa (zrsa (zrsa (zrsa (zrsa (zrsa (zrsa (zrsa (zrsa (zrsa (zrsa (zrsa (zrsa (zrsa (zrsa (zrsa (zrsa (zrsa (zrsa (zrsa (zrsa (zrsa (zrsa (zrsa (zrsa rs 2 0 7) 1 0 1) 3 0 16) 1 1 1) 1 2 1) 0 0 1) 29 0 7) 28 0 1) 30 0 16) 28 1 1) 28 2 1) 0 1 1) 55 0 1) 57 0 16) 55 1 1) 0 3 1) 75 0 16) 74 0 1) 74 1 1) 74 2 1) 0 4 1) 95 0 42) 94 0 1) 0 5 1) 138 0 1) 138 1 1) 138 2 1) 0 6 1) 143 0 14) 142 1 1) 144 0 14) 142 2 1) 142 3 1) 142 4 1) 142 5 1) 0 7 1) 0 8 1) 177 0 1) 176 0 1) 178 0 1) 176 1 1) 179 0 1) 176 2 1) 0 8 = true from (zrsa_m (zrsa_m (zrsa_m (zrsa_m (zrsa_m (zrsa_m (zrsa_i (by decide))))))))) rf_0_8 dX7_init_102 (n := 105) rfl ?_
  refine v_iload_1 ok dX7_init_105 (n := 106) rfl ?_
  refine v_newO (k := (182, 3169)) ok (R := 180) wf32 (c := 3) rfl ly_180 rfl tyX3 tyX3_ok hdf_3 inz_3 (zt 162 (by decide +kernel) (by decide +kernel)) (zt 164 (by decide +kernel) (by decide +kernel)) (zt 8 (by decide +kernel) (by decide +kernel)) ((zadr_f (a := 183) (n := 1) (r := 180) (by omega)).trans ((zadr_f (a := 179) (n := 1) (r := 180) (by omega)).trans ((zadr_f (a := 182) (n := 1) (r := 180) (by omega)).trans ((zadr_f (a := 178) (n := 1) (r := 180) (by omega)).trans ((zadr_f (a := 181) (n := 1) (r := 180) (by omega)).trans ((zadr_f (a := 1) (n := 177) (r := 180) (by omega)).trans (hf 180 (by omega)))))))) (by decide) (zz_s (zz_s (zz_s (zz_s (zz_b hz (by omega)) (by omega)) (by omega)) (by omega)) (by omega)) ⟨by rw [hc]; exact Nat.le_of_ble_eq_true rfl, by rw [hs]; exact Nat.le_of_ble_eq_true rfl⟩ (zsi (zsr (zadr_m (zadr_m (zadr_m (zadr_m (zadr_m (zadr_i (by omega))))))) rfl)) (zlr (zadr_m (zadr_m (zadr_m (zadr_m (zadr_m (zadr_m ha)))))) (zli rfl)) dX7_init_106 (n := 109) rfl (fun q33 => ?_)
  have iv33 := ziv_n iv31 (zag_a (ad := ad31) ((zadr_f (a := 183) (n := 1) (r := 180) (by omega)).trans ((zadr_f (a := 179) (n := 1) (r := 180) (by omega)).trans ((zadr_f (a := 182) (n := 1) (r := 180) (by omega)).trans ((zadr_f (a := 178) (n := 1) (r := 180) (by omega)).trans ((zadr_f (a := 181) (n := 1) (r := 180) (by omega)).trans ((zadr_f (a := 1) (n := 177) (r := 180) (by omega)).trans (hf 180 (by omega)))))))) (by decide) q33) (fun r hr => zadr_m (a := 180) (n := 1) hr)
  have wf33 := zwf_a (a := 180) (n := 1) wf32
  generalize zadf ad31 180 1 q33 = ad33 at iv33 ⊢
  refine v_dup ok rfl dX7_init_109 (n := 110) rfl ?_
  refine v_callN (k := (183, 3173)) ok ov (mi := mi_X3_init) mc_X3_init rfl ci_X7_64 (by decide) ⟨by rw [hc]; exact Nat.le_of_ble_eq_true rfl, by rw [hs]; exact Nat.le_of_ble_eq_true rfl⟩ dX7_init_110 (n := 113) rfl (by decide) (zsr (zadr_i (by omega)) (zsi (zsr (zadr_m (zadr_m (zadr_m (zadr_m (zadr_m (zadr_m (zadr_i (by omega)))))))) rfl))) (zlr (zadr_m (zadr_m (zadr_m (zadr_m (zadr_m (zadr_m (zadr_m ha))))))) (zli rfl)) (k_X3_180 wf33 (zadr_i (by omega)) (fun r hr => ((zadr_f (a := 180) (n := 1) (r := r) (by omega)).trans ((zadr_f (a := 183) (n := 1) (r := r) (by omega)).trans ((zadr_f (a := 179) (n := 1) (r := r) (by omega)).trans ((zadr_f (a := 182) (n := 1) (r := r) (by omega)).trans ((zadr_f (a := 178) (n := 1) (r := r) (by omega)).trans ((zadr_f (a := 181) (n := 1) (r := r) (by omega)).trans ((zadr_f (a := 1) (n := 177) (r := r) (by omega)).trans (hf r (by omega)))))))))) (zz_s (zz_s (zz_s (zz_s (zz_b hz (by omega)) (by omega)) (by omega)) (by omega)) (by omega))) (fun ad34 g34a g34b => ?_)
  have wf34 := wk_X3_180 wf33 (zadr_i (by omega))
  have iv34 := ziv_n iv33 ⟨g34a, g34b⟩ (fun r hr => zadr_m (a := 184) (n := 1) hr)
  refine v_aastS ok (t := 180) wf34 ly_176 (zadr_m (zadr_m (zadr_m (zadr_m (zadr_m (zadr_m (zadr_m (zadr_i (by omega))))))))) (by decide) (by decide) rfl ly_180 (zadr_m (zadr_i (by omega))) dX7_init_113 (n := 114) rfl ?_
  have wf35 := zwf_s (r := 176) (a := 3) (m := 1) wf34 (zadr_m (zadr_m (zadr_m (zadr_m (zadr_m (zadr_m (zadr_m (zadr_i (by omega))))))))) (fun k hk => by rw [show k = 3 by omega, ztg_a ly_176 (by decide)]; exact (zadr_m (zadr_i (by omega))))
  refine v_iinc_1 ok (Nat.le_of_ble_eq_true rfl) rfl dX7_init_114 (n := 117) rfl ?_
  rw [show (3 : Int) + 1 = 4 from rfl]
  refine v_goto ok dX7_init_117 (n := 96) (by decide) ?_
  refine v_iload_1 ok dX7_init_96 (n := 97) rfl ?_
  refine v_iconst ok dX7_init_97 (n := 98) rfl ?_
  refine v_icmp_ge ok dX7_init_98 (tgt := 120) (by decide) (n := 101) rfl (by decide) (by decide) (fun w9 => ?_) (fun w9 => ?_)
  rotate_left
  · exact absurd w9 (by decide)
  clear wf
  have e9 : (zadr (zadr (zadr (zadr (zadr (zadr (zadr (zadr al 1 177) 181 1) 178 1) 182 1) 179 1) 183 1) 180 1) 184 1) = (zadr al 1 184) := zal_x (fun r => by
    simp only [zadr, Bool.or_eq_true, decide_eq_true_eq]
    cases h : al r <;> simp only [Bool.false_eq_true, or_false, or_true]
    omega)
  rw [e9] at iv34 ⊢
  exact v_nret rt dX7_init_120 (fun r hr => (iv34.1 r hr).2) iv34.2
theorem wk_X7_0 {al : Int → Bool} {rs : Int → Nat → Bool} (wf : zwf al rs) (ha : al 0 = true) : zwf (zadr al 1 184) (zrsa (zrsa (zrsa (zrsa (zrsa (zrsa (zrsa (zrsa (zrsa (zrsa (zrsa (zrsa (zrsa (zrsa (zrsa (zrsa (zrsa (zrsa (zrsa (zrsa (zrsa (zrsa (zrsa (zrsa (zrsa (zrsa (zrsa (zrsa (zrsa (zrsa (zrsa (zrsa (zrsa (zrsa (zrsa (zrsa (zrsa (zrsa (zrsa (zrsa (zrsa (zrsa (zrsa (zrsa (zrsa rs 2 0 7) 1 0 1) 3 0 16) 1 1 1) 1 2 1) 0 0 1) 29 0 7) 28 0 1) 30 0 16) 28 1 1) 28 2 1) 0 1 1) 55 0 1) 57 0 16) 55 1 1) 0 3 1) 75 0 16) 74 0 1) 74 1 1) 74 2 1) 0 4 1) 95 0 42) 94 0 1) 0 5 1) 138 0 1) 138 1 1) 138 2 1) 0 6 1) 143 0 14) 142 1 1) 144 0 14) 142 2 1) 142 3 1) 142 4 1) 142 5 1) 0 7 1) 0 8 1) 177 0 1) 176 0 1) 178 0 1) 176 1 1) 179 0 1) 176 2 1) 180 0 1) 176 3 1) := by
  have w0 := (zwf_a (a := 1) (n := 184) wf)
  have w1 := zwf_s (r := 2) (a := 0) (m := 7) w0 (zadr_i (by omega)) (fun k hk => by rw [ztg_a ly_2 (by decide)]; exact zadr_i (by omega))
  have w2 := zwf_s (r := 1) (a := 0) (m := 1) w1 (zadr_i (by omega)) (fun k hk => by rw [show k = 0 by omega, ztg_o ly_1, rf_1_0]; exact (zadr_i (by omega)))
  have w3 := zwf_s (r := 3) (a := 0) (m := 16) w2 (zadr_i (by omega)) (fun k hk => by rw [ztg_a ly_3 (by decide)]; exact zadr_i (by omega))
  have w4 := zwf_s (r := 1) (a := 1) (m := 1) w3 (zadr_i (by omega)) (fun k hk => by rw [show k = 1 by omega, ztg_o ly_1, rf_1_1]; exact (zadr_i (by omega)))
  have w5 := zwf_s (r := 1) (a := 2) (m := 1) w4 (zadr_i (by omega)) (fun k hk => by rw [show k = 2 by omega, ztg_o ly_1, rf_1_2]; exact (zadr_i (by omega)))
  have w6 := zwf_s (r := 0) (a := 0) (m := 1) w5 (zadr_m ha) (fun k hk => by rw [show k = 0 by omega, ztg_o ly_0, rf_0_0]; exact (zadr_i (by omega)))
  have w7 := zwf_s (r := 29) (a := 0) (m := 7) w6 (zadr_i (by omega)) (fun k hk => by rw [ztg_a ly_29 (by decide)]; exact zadr_i (by omega))
  have w8 := zwf_s (r := 28) (a := 0) (m := 1) w7 (zadr_i (by omega)) (fun k hk => by rw [show k = 0 by omega, ztg_o ly_28, rf_28_0]; exact (zadr_i (by omega)))
  have w9 := zwf_s (r := 30) (a := 0) (m := 16) w8 (zadr_i (by omega)) (fun k hk => by rw [ztg_a ly_30 (by decide)]; exact zadr_i (by omega))
  have w10 := zwf_s (r := 28) (a := 1) (m := 1) w9 (zadr_i (by omega)) (fun k hk => by rw [show k = 1 by omega, ztg_o ly_28, rf_28_1]; exact (zadr_i (by omega)))
  have w11 := zwf_s (r := 28) (a := 2) (m := 1) w10 (zadr_i (by omega)) (fun k hk => by rw [show k = 2 by omega, ztg_o ly_28, rf_28_2]; exact (zadr_i (by omega)))
  have w12 := zwf_s (r := 0) (a := 1) (m := 1) w11 (zadr_m ha) (fun k hk => by rw [show k = 1 by omega, ztg_o ly_0, rf_0_1]; exact (zadr_i (by omega)))
  have w13 := zwf_s (r := 55) (a := 0) (m := 1) w12 (zadr_i (by omega)) (fun k hk => by rw [show k = 0 by omega, ztg_o ly_55, rf_55_0]; exact (zadr_i (by omega)))
  have w14 := zwf_s (r := 57) (a := 0) (m := 16) w13 (zadr_i (by omega)) (fun k hk => by rw [ztg_a ly_57 (by decide)]; exact zadr_i (by omega))
  have w15 := zwf_s (r := 55) (a := 1) (m := 1) w14 (zadr_i (by omega)) (fun k hk => by rw [show k = 1 by omega, ztg_o ly_55, rf_55_1]; exact (zadr_i (by omega)))
  have w16 := zwf_s (r := 0) (a := 3) (m := 1) w15 (zadr_m ha) (fun k hk => by rw [show k = 3 by omega, ztg_o ly_0, rf_0_3]; exact (zadr_i (by omega)))
  have w17 := zwf_s (r := 75) (a := 0) (m := 16) w16 (zadr_i (by omega)) (fun k hk => by rw [ztg_a ly_75 (by decide)]; exact zadr_i (by omega))
  have w18 := zwf_s (r := 74) (a := 0) (m := 1) w17 (zadr_i (by omega)) (fun k hk => by rw [show k = 0 by omega, ztg_o ly_74, rf_74_0]; exact (zadr_i (by omega)))
  have w19 := zwf_s (r := 74) (a := 1) (m := 1) w18 (zadr_i (by omega)) (fun k hk => by rw [show k = 1 by omega, ztg_o ly_74, rf_74_1]; exact (zadr_i (by omega)))
  have w20 := zwf_s (r := 74) (a := 2) (m := 1) w19 (zadr_i (by omega)) (fun k hk => by rw [show k = 2 by omega, ztg_o ly_74, rf_74_2]; exact (zadr_i (by omega)))
  have w21 := zwf_s (r := 0) (a := 4) (m := 1) w20 (zadr_m ha) (fun k hk => by rw [show k = 4 by omega, ztg_o ly_0, rf_0_4]; exact (zadr_i (by omega)))
  have w22 := zwf_s (r := 95) (a := 0) (m := 42) w21 (zadr_i (by omega)) (fun k hk => by rw [ztg_a ly_95 (by decide)]; exact zadr_i (by omega))
  have w23 := zwf_s (r := 94) (a := 0) (m := 1) w22 (zadr_i (by omega)) (fun k hk => by rw [show k = 0 by omega, ztg_o ly_94, rf_94_0]; exact (zadr_i (by omega)))
  have w24 := zwf_s (r := 0) (a := 5) (m := 1) w23 (zadr_m ha) (fun k hk => by rw [show k = 5 by omega, ztg_o ly_0, rf_0_5]; exact (zadr_i (by omega)))
  have w25 := zwf_s (r := 138) (a := 0) (m := 1) w24 (zadr_i (by omega)) (fun k hk => by rw [show k = 0 by omega, ztg_o ly_138, rf_138_0]; exact (zadr_i (by omega)))
  have w26 := zwf_s (r := 138) (a := 1) (m := 1) w25 (zadr_i (by omega)) (fun k hk => by rw [show k = 1 by omega, ztg_o ly_138, rf_138_1]; exact (zadr_i (by omega)))
  have w27 := zwf_s (r := 138) (a := 2) (m := 1) w26 (zadr_i (by omega)) (fun k hk => by rw [show k = 2 by omega, ztg_o ly_138, rf_138_2]; exact (zadr_i (by omega)))
  have w28 := zwf_s (r := 0) (a := 6) (m := 1) w27 (zadr_m ha) (fun k hk => by rw [show k = 6 by omega, ztg_o ly_0, rf_0_6]; exact (zadr_i (by omega)))
  have w29 := zwf_s (r := 143) (a := 0) (m := 14) w28 (zadr_i (by omega)) (fun k hk => by rw [ztg_a ly_143 (by decide)]; exact zadr_i (by omega))
  have w30 := zwf_s (r := 142) (a := 1) (m := 1) w29 (zadr_i (by omega)) (fun k hk => by rw [show k = 1 by omega, ztg_o ly_142, rf_142_1]; exact (zadr_i (by omega)))
  have w31 := zwf_s (r := 144) (a := 0) (m := 14) w30 (zadr_i (by omega)) (fun k hk => by rw [ztg_a ly_144 (by decide)]; exact zadr_i (by omega))
  have w32 := zwf_s (r := 142) (a := 2) (m := 1) w31 (zadr_i (by omega)) (fun k hk => by rw [show k = 2 by omega, ztg_o ly_142, rf_142_2]; exact (zadr_i (by omega)))
  have w33 := zwf_s (r := 142) (a := 3) (m := 1) w32 (zadr_i (by omega)) (fun k hk => by rw [show k = 3 by omega, ztg_o ly_142, rf_142_3]; exact (zadr_i (by omega)))
  have w34 := zwf_s (r := 142) (a := 4) (m := 1) w33 (zadr_i (by omega)) (fun k hk => by rw [show k = 4 by omega, ztg_o ly_142, rf_142_4]; exact (zadr_i (by omega)))
  have w35 := zwf_s (r := 142) (a := 5) (m := 1) w34 (zadr_i (by omega)) (fun k hk => by rw [show k = 5 by omega, ztg_o ly_142, rf_142_5]; exact (zadr_i (by omega)))
  have w36 := zwf_s (r := 0) (a := 7) (m := 1) w35 (zadr_m ha) (fun k hk => by rw [show k = 7 by omega, ztg_o ly_0, rf_0_7]; exact (zadr_i (by omega)))
  have w37 := zwf_s (r := 0) (a := 8) (m := 1) w36 (zadr_m ha) (fun k hk => by rw [show k = 8 by omega, ztg_o ly_0, rf_0_8]; exact (zadr_i (by omega)))
  have w38 := zwf_s (r := 177) (a := 0) (m := 1) w37 (zadr_i (by omega)) (fun k hk => by rw [show k = 0 by omega, ztg_o ly_177, rf_177_0]; exact (zadr_i (by omega)))
  have w39 := zwf_s (r := 176) (a := 0) (m := 1) w38 (zadr_i (by omega)) (fun k hk => by rw [ztg_a ly_176 (by decide)]; exact zadr_i (by omega))
  have w40 := zwf_s (r := 178) (a := 0) (m := 1) w39 (zadr_i (by omega)) (fun k hk => by rw [show k = 0 by omega, ztg_o ly_178, rf_178_0]; exact (zadr_i (by omega)))
  have w41 := zwf_s (r := 176) (a := 1) (m := 1) w40 (zadr_i (by omega)) (fun k hk => by rw [ztg_a ly_176 (by decide)]; exact zadr_i (by omega))
  have w42 := zwf_s (r := 179) (a := 0) (m := 1) w41 (zadr_i (by omega)) (fun k hk => by rw [show k = 0 by omega, ztg_o ly_179, rf_179_0]; exact (zadr_i (by omega)))
  have w43 := zwf_s (r := 176) (a := 2) (m := 1) w42 (zadr_i (by omega)) (fun k hk => by rw [ztg_a ly_176 (by decide)]; exact zadr_i (by omega))
  have w44 := zwf_s (r := 180) (a := 0) (m := 1) w43 (zadr_i (by omega)) (fun k hk => by rw [show k = 0 by omega, ztg_o ly_180, rf_180_0]; exact (zadr_i (by omega)))
  have w45 := zwf_s (r := 176) (a := 3) (m := 1) w44 (zadr_i (by omega)) (fun k hk => by rw [ztg_a ly_176 (by decide)]; exact zadr_i (by omega))
  exact w45
