set_option maxHeartbeats 4000000 in
set_option maxRecDepth 100000 in
theorem k_X8_200 {G : zG} {ad : Int → Nat} {al : Int → Bool} {rs : Int → Nat → Bool} {M : zM} (wf : zwf al rs) (ha : al 200 = true) (hf : ∀ r, 201 ≤ r ∧ r ≤ 232 → al r = false) (hz : zz M 200 33) : zTN G ad al rs mi_X8_init [zr 200] M (zadr (zadr (zadr (zadr (zadr (zadr al 201 2) 205 2) 210 2) 213 6) 220 1) 223 10) (zrsa (zrsa (zrsa (zrsa (zrsa (zrsa (zrsa (zrsa (zrsa (zrsa (zrsa (zrsa (zrsa (zrsa (zrsa (zrsa (zrsa (zrsa (zrsa (zrsa (zrsa (zrsa (zrsa rs 200 0 1) 200 1 1) 200 4 1) 200 5 1) 200 9 1) 200 10 1) 200 12 1) 200 13 1) 200 14 1) 200 15 1) 200 16 1) 200 17 1) 200 19 1) 200 22 1) 200 23 1) 200 24 1) 200 25 1) 200 26 1) 200 27 1) 200 28 1) 200 29 1) 200 30 1) 200 31 1) (zset (zset (zset (zset (zset (zset M 223 0 (-1)) 223 1 (-1)) 223 2 (-1)) 223 3 (-1)) 205 0 2) 205 1 3) 23 68564 := by
  refine zTN.of (own := RX8) (ls := [some (zr 200), none]) (by decide +kernel) rfl rfl rfl (Nat.le_of_ble_eq_true rfl) (fun γ ok hin hc hs hgn ov rt => ?_)
  refine v_aload_0 ok dX8_init_0 (n := 1) rfl ?_
  refine v_objI ok (zt 612 (by decide +kernel) (by decide +kernel)) oi_i oi_c ⟨by decide, by decide⟩ dX8_init_1 (n := 4) rfl ?_
  refine v_aload_0 ok dX8_init_4 (n := 5) rfl ?_
  refine v_bipush ok rfl dX8_init_5 (n := 7) rfl ?_
  refine v_newA (k := (0, 0)) ok (R := 201) wf ly_201 (by decide) rfl (zt 57 (by decide +kernel) (by decide +kernel)) (hf 201 (by omega)) (by decide) (zz_b hz (by omega)) rfl (by decide) ⟨by rw [hc]; exact Nat.le_of_ble_eq_true rfl, by rw [hs]; exact Nat.le_of_ble_eq_true rfl⟩ (zsr ha rfl) (zlr ha (zlnn rfl)) dX8_init_7 (n := 9) rfl (fun q1 => ?_)
  have iv1 := ziv_n (ziv_0 (ad := ad) (al := al)) (zag_a (ad := ad) (hf 201 (by omega)) (by decide) q1) (fun r hr => zadr_m (a := 201) (n := 1) hr)
  have wf1 := zwf_a (a := 201) (n := 1) wf
  generalize zadf ad 201 1 q1 = ad1 at iv1 ⊢
  refine v_putR ok hin (t := 201) wf1 ff_X8_7 ly_200 (zadr_m ha) rfl rf_200_0 dX8_init_9 (n := 12) rfl ?_
  have wf2 := zwf_s (r := 200) (a := 0) (m := 1) wf1 (zadr_m ha) (fun k hk => by rw [show k = 0 by omega, ztg_o ly_200, rf_200_0]; exact (zadr_i (by omega)))
  refine v_aload_0 ok dX8_init_12 (n := 13) rfl ?_
  refine v_bipush ok rfl dX8_init_13 (n := 15) rfl ?_
  refine v_newA (k := (1, 28)) ok (R := 202) wf2 ly_202 (by decide) rfl (zt 57 (by decide +kernel) (by decide +kernel)) ((zadr_f (a := 201) (n := 1) (r := 202) (by omega)).trans (hf 202 (by omega))) (by decide) (zz_b hz (by omega)) rfl (by decide) ⟨by rw [hc]; exact Nat.le_of_ble_eq_true rfl, by rw [hs]; exact Nat.le_of_ble_eq_true rfl⟩ (zsr (zadr_m ha) rfl) (zlr (zadr_m ha) (zlnn rfl)) dX8_init_15 (n := 17) rfl (fun q3 => ?_)
  have iv3 := ziv_n iv1 (zag_a (ad := ad1) ((zadr_f (a := 201) (n := 1) (r := 202) (by omega)).trans (hf 202 (by omega))) (by decide) q3) (fun r hr => zadr_m (a := 202) (n := 1) hr)
  have wf3 := zwf_a (a := 202) (n := 1) wf2
  generalize zadf ad1 202 1 q3 = ad3 at iv3 ⊢
  rw [zadr_j (a := 201) (n := 1) (b := 202) (m := 1) (c := 2) (by decide) (by decide) (by decide)] at wf3 iv3 ⊢
  refine v_putR ok hin (t := 202) wf3 ff_X8_13 ly_200 (zadr_m ha) rfl rf_200_1 dX8_init_17 (n := 20) rfl ?_
  have wf4 := zwf_s (r := 200) (a := 1) (m := 1) wf3 (zadr_m ha) (fun k hk => by rw [show k = 1 by omega, ztg_o ly_200, rf_200_1]; exact (zadr_i (by omega)))
  refine v_aload_0 ok dX8_init_20 (n := 21) rfl ?_
  refine v_iconst ok dX8_init_21 (n := 22) rfl ?_
  refine v_newA (k := (2, 92)) ok (R := 205) wf4 ly_205 (by decide) rfl (zt 57 (by decide +kernel) (by decide +kernel)) ((zadr_f (a := 201) (n := 2) (r := 205) (by omega)).trans (hf 205 (by omega))) (by decide) (zz_b hz (by omega)) rfl (by decide) ⟨by rw [hc]; exact Nat.le_of_ble_eq_true rfl, by rw [hs]; exact Nat.le_of_ble_eq_true rfl⟩ (zsr (zadr_m ha) rfl) (zlr (zadr_m ha) (zlnn rfl)) dX8_init_22 (n := 24) rfl (fun q5 => ?_)
  have iv5 := ziv_n iv3 (zag_a (ad := ad3) ((zadr_f (a := 201) (n := 2) (r := 205) (by omega)).trans (hf 205 (by omega))) (by decide) q5) (fun r hr => zadr_m (a := 205) (n := 1) hr)
  have wf5 := zwf_a (a := 205) (n := 1) wf4
  generalize zadf ad3 205 1 q5 = ad5 at iv5 ⊢
  refine v_putR ok hin (t := 205) wf5 ff_X8_16 ly_200 (zadr_m (zadr_m ha)) rfl rf_200_4 dX8_init_24 (n := 27) rfl ?_
  have wf6 := zwf_s (r := 200) (a := 4) (m := 1) wf5 (zadr_m (zadr_m ha)) (fun k hk => by rw [show k = 4 by omega, ztg_o ly_200, rf_200_4]; exact (zadr_i (by omega)))
  refine v_aload_0 ok dX8_init_27 (n := 28) rfl ?_
  refine v_bipush ok rfl dX8_init_28 (n := 30) rfl ?_
  refine v_newA (k := (3, 94)) ok (R := 206) wf6 ly_206 (by decide) rfl (zt 57 (by decide +kernel) (by decide +kernel)) ((zadr_f (a := 205) (n := 1) (r := 206) (by omega)).trans ((zadr_f (a := 201) (n := 2) (r := 206) (by omega)).trans (hf 206 (by omega)))) (by decide) (zz_b hz (by omega)) rfl (by decide) ⟨by rw [hc]; exact Nat.le_of_ble_eq_true rfl, by rw [hs]; exact Nat.le_of_ble_eq_true rfl⟩ (zsr (zadr_m (zadr_m ha)) rfl) (zlr (zadr_m (zadr_m ha)) (zlnn rfl)) dX8_init_30 (n := 32) rfl (fun q7 => ?_)
  have iv7 := ziv_n iv5 (zag_a (ad := ad5) ((zadr_f (a := 205) (n := 1) (r := 206) (by omega)).trans ((zadr_f (a := 201) (n := 2) (r := 206) (by omega)).trans (hf 206 (by omega)))) (by decide) q7) (fun r hr => zadr_m (a := 206) (n := 1) hr)
  have wf7 := zwf_a (a := 206) (n := 1) wf6
  generalize zadf ad5 206 1 q7 = ad7 at iv7 ⊢
  rw [zadr_j (a := 205) (n := 1) (b := 206) (m := 1) (c := 2) (by decide) (by decide) (by decide)] at wf7 iv7 ⊢
  refine v_putR ok hin (t := 206) wf7 ff_X8_19 ly_200 (zadr_m (zadr_m ha)) rfl rf_200_5 dX8_init_32 (n := 35) rfl ?_
  have wf8 := zwf_s (r := 200) (a := 5) (m := 1) wf7 (zadr_m (zadr_m ha)) (fun k hk => by rw [show k = 5 by omega, ztg_o ly_200, rf_200_5]; exact (zadr_i (by omega)))
  refine v_aload_0 ok dX8_init_35 (n := 36) rfl ?_
  refine v_bipush ok rfl dX8_init_36 (n := 38) rfl ?_
  refine v_newA (k := (4, 214)) ok (R := 210) wf8 ly_210 (by decide) rfl (zt 57 (by decide +kernel) (by decide +kernel)) ((zadr_f (a := 205) (n := 2) (r := 210) (by omega)).trans ((zadr_f (a := 201) (n := 2) (r := 210) (by omega)).trans (hf 210 (by omega)))) (by decide) (zz_b hz (by omega)) rfl (by decide) ⟨by rw [hc]; exact Nat.le_of_ble_eq_true rfl, by rw [hs]; exact Nat.le_of_ble_eq_true rfl⟩ (zsr (zadr_m (zadr_m ha)) rfl) (zlr (zadr_m (zadr_m ha)) (zlnn rfl)) dX8_init_38 (n := 40) rfl (fun q9 => ?_)
  have iv9 := ziv_n iv7 (zag_a (ad := ad7) ((zadr_f (a := 205) (n := 2) (r := 210) (by omega)).trans ((zadr_f (a := 201) (n := 2) (r := 210) (by omega)).trans (hf 210 (by omega)))) (by decide) q9) (fun r hr => zadr_m (a := 210) (n := 1) hr)
  have wf9 := zwf_a (a := 210) (n := 1) wf8
  generalize zadf ad7 210 1 q9 = ad9 at iv9 ⊢
  refine v_putR ok hin (t := 210) wf9 ff_X8_22 ly_200 (zadr_m (zadr_m (zadr_m ha))) rfl rf_200_9 dX8_init_40 (n := 43) rfl ?_
  have wf10 := zwf_s (r := 200) (a := 9) (m := 1) wf9 (zadr_m (zadr_m (zadr_m ha))) (fun k hk => by rw [show k = 9 by omega, ztg_o ly_200, rf_200_9]; exact (zadr_i (by omega)))
  refine v_aload_0 ok dX8_init_43 (n := 44) rfl ?_
  refine v_bipush ok rfl dX8_init_44 (n := 46) rfl ?_
  refine v_newA (k := (5, 278)) ok (R := 211) wf10 ly_211 (by decide) rfl (zt 57 (by decide +kernel) (by decide +kernel)) ((zadr_f (a := 210) (n := 1) (r := 211) (by omega)).trans ((zadr_f (a := 205) (n := 2) (r := 211) (by omega)).trans ((zadr_f (a := 201) (n := 2) (r := 211) (by omega)).trans (hf 211 (by omega))))) (by decide) (zz_b hz (by omega)) rfl (by decide) ⟨by rw [hc]; exact Nat.le_of_ble_eq_true rfl, by rw [hs]; exact Nat.le_of_ble_eq_true rfl⟩ (zsr (zadr_m (zadr_m (zadr_m ha))) rfl) (zlr (zadr_m (zadr_m (zadr_m ha))) (zlnn rfl)) dX8_init_46 (n := 48) rfl (fun q11 => ?_)
  have iv11 := ziv_n iv9 (zag_a (ad := ad9) ((zadr_f (a := 210) (n := 1) (r := 211) (by omega)).trans ((zadr_f (a := 205) (n := 2) (r := 211) (by omega)).trans ((zadr_f (a := 201) (n := 2) (r := 211) (by omega)).trans (hf 211 (by omega))))) (by decide) q11) (fun r hr => zadr_m (a := 211) (n := 1) hr)
  have wf11 := zwf_a (a := 211) (n := 1) wf10
  generalize zadf ad9 211 1 q11 = ad11 at iv11 ⊢
  rw [zadr_j (a := 210) (n := 1) (b := 211) (m := 1) (c := 2) (by decide) (by decide) (by decide)] at wf11 iv11 ⊢
  refine v_putR ok hin (t := 211) wf11 ff_X8_25 ly_200 (zadr_m (zadr_m (zadr_m ha))) rfl rf_200_10 dX8_init_48 (n := 51) rfl ?_
  have wf12 := zwf_s (r := 200) (a := 10) (m := 1) wf11 (zadr_m (zadr_m (zadr_m ha))) (fun k hk => by rw [show k = 10 by omega, ztg_o ly_200, rf_200_10]; exact (zadr_i (by omega)))
  refine v_aload_0 ok dX8_init_51 (n := 52) rfl ?_
  refine v_bipush ok rfl dX8_init_52 (n := 54) rfl ?_
  refine v_newA (k := (6, 294)) ok (R := 213) wf12 ly_213 (by decide) rfl (zt 57 (by decide +kernel) (by decide +kernel)) ((zadr_f (a := 210) (n := 2) (r := 213) (by omega)).trans ((zadr_f (a := 205) (n := 2) (r := 213) (by omega)).trans ((zadr_f (a := 201) (n := 2) (r := 213) (by omega)).trans (hf 213 (by omega))))) (by decide) (zz_b hz (by omega)) rfl (by decide) ⟨by rw [hc]; exact Nat.le_of_ble_eq_true rfl, by rw [hs]; exact Nat.le_of_ble_eq_true rfl⟩ (zsr (zadr_m (zadr_m (zadr_m ha))) rfl) (zlr (zadr_m (zadr_m (zadr_m ha))) (zlnn rfl)) dX8_init_54 (n := 56) rfl (fun q13 => ?_)
  have iv13 := ziv_n iv11 (zag_a (ad := ad11) ((zadr_f (a := 210) (n := 2) (r := 213) (by omega)).trans ((zadr_f (a := 205) (n := 2) (r := 213) (by omega)).trans ((zadr_f (a := 201) (n := 2) (r := 213) (by omega)).trans (hf 213 (by omega))))) (by decide) q13) (fun r hr => zadr_m (a := 213) (n := 1) hr)
  have wf13 := zwf_a (a := 213) (n := 1) wf12
  generalize zadf ad11 213 1 q13 = ad13 at iv13 ⊢
  refine v_putR ok hin (t := 213) wf13 ff_X8_28 ly_200 (zadr_m (zadr_m (zadr_m (zadr_m ha)))) rfl rf_200_12 dX8_init_56 (n := 59) rfl ?_
  have wf14 := zwf_s (r := 200) (a := 12) (m := 1) wf13 (zadr_m (zadr_m (zadr_m (zadr_m ha)))) (fun k hk => by rw [show k = 12 by omega, ztg_o ly_200, rf_200_12]; exact (zadr_i (by omega)))
  refine v_aload_0 ok dX8_init_59 (n := 60) rfl ?_
  refine v_ldc ok (c := 65536) kc_X8_31 (by decide) dX8_init_60 (n := 62) rfl ?_
  refine v_newA (k := (7, 406)) ok (R := 214) wf14 ly_214 (by decide) rfl (zt 57 (by decide +kernel) (by decide +kernel)) ((zadr_f (a := 213) (n := 1) (r := 214) (by omega)).trans ((zadr_f (a := 210) (n := 2) (r := 214) (by omega)).trans ((zadr_f (a := 205) (n := 2) (r := 214) (by omega)).trans ((zadr_f (a := 201) (n := 2) (r := 214) (by omega)).trans (hf 214 (by omega)))))) (by decide) (zz_b hz (by omega)) rfl (by decide) ⟨by rw [hc]; exact Nat.le_of_ble_eq_true rfl, by rw [hs]; exact Nat.le_of_ble_eq_true rfl⟩ (zsr (zadr_m (zadr_m (zadr_m (zadr_m ha)))) rfl) (zlr (zadr_m (zadr_m (zadr_m (zadr_m ha)))) (zlnn rfl)) dX8_init_62 (n := 64) rfl (fun q15 => ?_)
  have iv15 := ziv_n iv13 (zag_a (ad := ad13) ((zadr_f (a := 213) (n := 1) (r := 214) (by omega)).trans ((zadr_f (a := 210) (n := 2) (r := 214) (by omega)).trans ((zadr_f (a := 205) (n := 2) (r := 214) (by omega)).trans ((zadr_f (a := 201) (n := 2) (r := 214) (by omega)).trans (hf 214 (by omega)))))) (by decide) q15) (fun r hr => zadr_m (a := 214) (n := 1) hr)
  have wf15 := zwf_a (a := 214) (n := 1) wf14
  generalize zadf ad13 214 1 q15 = ad15 at iv15 ⊢
  rw [zadr_j (a := 213) (n := 1) (b := 214) (m := 1) (c := 2) (by decide) (by decide) (by decide)] at wf15 iv15 ⊢
  refine v_putR ok hin (t := 214) wf15 ff_X8_32 ly_200 (zadr_m (zadr_m (zadr_m (zadr_m ha)))) rfl rf_200_13 dX8_init_64 (n := 67) rfl ?_
  have wf16 := zwf_s (r := 200) (a := 13) (m := 1) wf15 (zadr_m (zadr_m (zadr_m (zadr_m ha)))) (fun k hk => by rw [show k = 13 by omega, ztg_o ly_200, rf_200_13]; exact (zadr_i (by omega)))
  refine v_aload_0 ok dX8_init_67 (n := 68) rfl ?_
  refine v_bipush ok rfl dX8_init_68 (n := 70) rfl ?_
  refine v_newA (k := (8, 65942)) ok (R := 215) wf16 ly_215 (by decide) rfl (zt 57 (by decide +kernel) (by decide +kernel)) ((zadr_f (a := 213) (n := 2) (r := 215) (by omega)).trans ((zadr_f (a := 210) (n := 2) (r := 215) (by omega)).trans ((zadr_f (a := 205) (n := 2) (r := 215) (by omega)).trans ((zadr_f (a := 201) (n := 2) (r := 215) (by omega)).trans (hf 215 (by omega)))))) (by decide) (zz_b hz (by omega)) rfl (by decide) ⟨by rw [hc]; exact Nat.le_of_ble_eq_true rfl, by rw [hs]; exact Nat.le_of_ble_eq_true rfl⟩ (zsr (zadr_m (zadr_m (zadr_m (zadr_m ha)))) rfl) (zlr (zadr_m (zadr_m (zadr_m (zadr_m ha)))) (zlnn rfl)) dX8_init_70 (n := 72) rfl (fun q17 => ?_)
  have iv17 := ziv_n iv15 (zag_a (ad := ad15) ((zadr_f (a := 213) (n := 2) (r := 215) (by omega)).trans ((zadr_f (a := 210) (n := 2) (r := 215) (by omega)).trans ((zadr_f (a := 205) (n := 2) (r := 215) (by omega)).trans ((zadr_f (a := 201) (n := 2) (r := 215) (by omega)).trans (hf 215 (by omega)))))) (by decide) q17) (fun r hr => zadr_m (a := 215) (n := 1) hr)
  have wf17 := zwf_a (a := 215) (n := 1) wf16
  generalize zadf ad15 215 1 q17 = ad17 at iv17 ⊢
  rw [zadr_j (a := 213) (n := 2) (b := 215) (m := 1) (c := 3) (by decide) (by decide) (by decide)] at wf17 iv17 ⊢
  refine v_putR ok hin (t := 215) wf17 ff_X8_35 ly_200 (zadr_m (zadr_m (zadr_m (zadr_m ha)))) rfl rf_200_14 dX8_init_72 (n := 75) rfl ?_
  have wf18 := zwf_s (r := 200) (a := 14) (m := 1) wf17 (zadr_m (zadr_m (zadr_m (zadr_m ha)))) (fun k hk => by rw [show k = 14 by omega, ztg_o ly_200, rf_200_14]; exact (zadr_i (by omega)))
  refine v_aload_0 ok dX8_init_75 (n := 76) rfl ?_
  refine v_sipush ok rfl dX8_init_76 (n := 79) rfl ?_
  refine v_newA (k := (9, 65949)) ok (R := 216) wf18 ly_216 (by decide) rfl (zt 711 (by decide +kernel) (by decide +kernel)) ((zadr_f (a := 213) (n := 3) (r := 216) (by omega)).trans ((zadr_f (a := 210) (n := 2) (r := 216) (by omega)).trans ((zadr_f (a := 205) (n := 2) (r := 216) (by omega)).trans ((zadr_f (a := 201) (n := 2) (r := 216) (by omega)).trans (hf 216 (by omega)))))) (by decide) (zz_b hz (by omega)) rfl (by decide) ⟨by rw [hc]; exact Nat.le_of_ble_eq_true rfl, by rw [hs]; exact Nat.le_of_ble_eq_true rfl⟩ (zsr (zadr_m (zadr_m (zadr_m (zadr_m ha)))) rfl) (zlr (zadr_m (zadr_m (zadr_m (zadr_m ha)))) (zlnn rfl)) dX8_init_79 (n := 81) rfl (fun q19 => ?_)
  have iv19 := ziv_n iv17 (zag_a (ad := ad17) ((zadr_f (a := 213) (n := 3) (r := 216) (by omega)).trans ((zadr_f (a := 210) (n := 2) (r := 216) (by omega)).trans ((zadr_f (a := 205) (n := 2) (r := 216) (by omega)).trans ((zadr_f (a := 201) (n := 2) (r := 216) (by omega)).trans (hf 216 (by omega)))))) (by decide) q19) (fun r hr => zadr_m (a := 216) (n := 1) hr)
  have wf19 := zwf_a (a := 216) (n := 1) wf18
  generalize zadf ad17 216 1 q19 = ad19 at iv19 ⊢
  rw [zadr_j (a := 213) (n := 3) (b := 216) (m := 1) (c := 4) (by decide) (by decide) (by decide)] at wf19 iv19 ⊢
  refine v_putR ok hin (t := 216) wf19 ff_X8_38 ly_200 (zadr_m (zadr_m (zadr_m (zadr_m ha)))) rfl rf_200_15 dX8_init_81 (n := 84) rfl ?_
  have wf20 := zwf_s (r := 200) (a := 15) (m := 1) wf19 (zadr_m (zadr_m (zadr_m (zadr_m ha)))) (fun k hk => by rw [show k = 15 by omega, ztg_o ly_200, rf_200_15]; exact (zadr_i (by omega)))
  refine v_aload_0 ok dX8_init_84 (n := 85) rfl ?_
  refine v_bipush ok rfl dX8_init_85 (n := 87) rfl ?_
  refine v_newA (k := (10, 66077)) ok (R := 217) wf20 ly_217 (by decide) rfl (zt 711 (by decide +kernel) (by decide +kernel)) ((zadr_f (a := 213) (n := 4) (r := 217) (by omega)).trans ((zadr_f (a := 210) (n := 2) (r := 217) (by omega)).trans ((zadr_f (a := 205) (n := 2) (r := 217) (by omega)).trans ((zadr_f (a := 201) (n := 2) (r := 217) (by omega)).trans (hf 217 (by omega)))))) (by decide) (zz_b hz (by omega)) rfl (by decide) ⟨by rw [hc]; exact Nat.le_of_ble_eq_true rfl, by rw [hs]; exact Nat.le_of_ble_eq_true rfl⟩ (zsr (zadr_m (zadr_m (zadr_m (zadr_m ha)))) rfl) (zlr (zadr_m (zadr_m (zadr_m (zadr_m ha)))) (zlnn rfl)) dX8_init_87 (n := 89) rfl (fun q21 => ?_)
  have iv21 := ziv_n iv19 (zag_a (ad := ad19) ((zadr_f (a := 213) (n := 4) (r := 217) (by omega)).trans ((zadr_f (a := 210) (n := 2) (r := 217) (by omega)).trans ((zadr_f (a := 205) (n := 2) (r := 217) (by omega)).trans ((zadr_f (a := 201) (n := 2) (r := 217) (by omega)).trans (hf 217 (by omega)))))) (by decide) q21) (fun r hr => zadr_m (a := 217) (n := 1) hr)
  have wf21 := zwf_a (a := 217) (n := 1) wf20
  generalize zadf ad19 217 1 q21 = ad21 at iv21 ⊢
  rw [zadr_j (a := 213) (n := 4) (b := 217) (m := 1) (c := 5) (by decide) (by decide) (by decide)] at wf21 iv21 ⊢
  refine v_putR ok hin (t := 217) wf21 ff_X8_42 ly_200 (zadr_m (zadr_m (zadr_m (zadr_m ha)))) rfl rf_200_16 dX8_init_89 (n := 92) rfl ?_
  have wf22 := zwf_s (r := 200) (a := 16) (m := 1) wf21 (zadr_m (zadr_m (zadr_m (zadr_m ha)))) (fun k hk => by rw [show k = 16 by omega, ztg_o ly_200, rf_200_16]; exact (zadr_i (by omega)))
  refine v_aload_0 ok dX8_init_92 (n := 93) rfl ?_
  refine v_sipush ok rfl dX8_init_93 (n := 96) rfl ?_
  refine v_newA (k := (11, 66148)) ok (R := 218) wf22 ly_218 (by decide) rfl (zt 57 (by decide +kernel) (by decide +kernel)) ((zadr_f (a := 213) (n := 5) (r := 218) (by omega)).trans ((zadr_f (a := 210) (n := 2) (r := 218) (by omega)).trans ((zadr_f (a := 205) (n := 2) (r := 218) (by omega)).trans ((zadr_f (a := 201) (n := 2) (r := 218) (by omega)).trans (hf 218 (by omega)))))) (by decide) (zz_b hz (by omega)) rfl (by decide) ⟨by rw [hc]; exact Nat.le_of_ble_eq_true rfl, by rw [hs]; exact Nat.le_of_ble_eq_true rfl⟩ (zsr (zadr_m (zadr_m (zadr_m (zadr_m ha)))) rfl) (zlr (zadr_m (zadr_m (zadr_m (zadr_m ha)))) (zlnn rfl)) dX8_init_96 (n := 98) rfl (fun q23 => ?_)
  have iv23 := ziv_n iv21 (zag_a (ad := ad21) ((zadr_f (a := 213) (n := 5) (r := 218) (by omega)).trans ((zadr_f (a := 210) (n := 2) (r := 218) (by omega)).trans ((zadr_f (a := 205) (n := 2) (r := 218) (by omega)).trans ((zadr_f (a := 201) (n := 2) (r := 218) (by omega)).trans (hf 218 (by omega)))))) (by decide) q23) (fun r hr => zadr_m (a := 218) (n := 1) hr)
  have wf23 := zwf_a (a := 218) (n := 1) wf22
  generalize zadf ad21 218 1 q23 = ad23 at iv23 ⊢
  rw [zadr_j (a := 213) (n := 5) (b := 218) (m := 1) (c := 6) (by decide) (by decide) (by decide)] at wf23 iv23 ⊢
  refine v_putR ok hin (t := 218) wf23 ff_X8_45 ly_200 (zadr_m (zadr_m (zadr_m (zadr_m ha)))) rfl rf_200_17 dX8_init_98 (n := 101) rfl ?_
  have wf24 := zwf_s (r := 200) (a := 17) (m := 1) wf23 (zadr_m (zadr_m (zadr_m (zadr_m ha)))) (fun k hk => by rw [show k = 17 by omega, ztg_o ly_200, rf_200_17]; exact (zadr_i (by omega)))
  refine v_aload_0 ok dX8_init_101 (n := 102) rfl ?_
  refine v_bipush ok rfl dX8_init_102 (n := 104) rfl ?_
  refine v_newA (k := (12, 67829)) ok (R := 220) wf24 ly_220 (by decide) rfl (zt 57 (by decide +kernel) (by decide +kernel)) ((zadr_f (a := 213) (n := 6) (r := 220) (by omega)).trans ((zadr_f (a := 210) (n := 2) (r := 220) (by omega)).trans ((zadr_f (a := 205) (n := 2) (r := 220) (by omega)).trans ((zadr_f (a := 201) (n := 2) (r := 220) (by omega)).trans (hf 220 (by omega)))))) (by decide) (zz_b hz (by omega)) rfl (by decide) ⟨by rw [hc]; exact Nat.le_of_ble_eq_true rfl, by rw [hs]; exact Nat.le_of_ble_eq_true rfl⟩ (zsr (zadr_m (zadr_m (zadr_m (zadr_m ha)))) rfl) (zlr (zadr_m (zadr_m (zadr_m (zadr_m ha)))) (zlnn rfl)) dX8_init_104 (n := 106) rfl (fun q25 => ?_)
  have iv25 := ziv_n iv23 (zag_a (ad := ad23) ((zadr_f (a := 213) (n := 6) (r := 220) (by omega)).trans ((zadr_f (a := 210) (n := 2) (r := 220) (by omega)).trans ((zadr_f (a := 205) (n := 2) (r := 220) (by omega)).trans ((zadr_f (a := 201) (n := 2) (r := 220) (by omega)).trans (hf 220 (by omega)))))) (by decide) q25) (fun r hr => zadr_m (a := 220) (n := 1) hr)
  have wf25 := zwf_a (a := 220) (n := 1) wf24
  generalize zadf ad23 220 1 q25 = ad25 at iv25 ⊢
  refine v_putR ok hin (t := 220) wf25 ff_X8_48 ly_200 (zadr_m (zadr_m (zadr_m (zadr_m (zadr_m ha))))) rfl rf_200_19 dX8_init_106 (n := 109) rfl ?_
  have wf26 := zwf_s (r := 200) (a := 19) (m := 1) wf25 (zadr_m (zadr_m (zadr_m (zadr_m (zadr_m ha))))) (fun k hk => by rw [show k = 19 by omega, ztg_o ly_200, rf_200_19]; exact (zadr_i (by omega)))
  refine v_aload_0 ok dX8_init_109 (n := 110) rfl ?_
  refine v_iconst ok dX8_init_110 (n := 111) rfl ?_
  refine v_newA (k := (13, 67923)) ok (R := 223) wf26 ly_223 (by decide) rfl (zt 57 (by decide +kernel) (by decide +kernel)) ((zadr_f (a := 220) (n := 1) (r := 223) (by omega)).trans ((zadr_f (a := 213) (n := 6) (r := 223) (by omega)).trans ((zadr_f (a := 210) (n := 2) (r := 223) (by omega)).trans ((zadr_f (a := 205) (n := 2) (r := 223) (by omega)).trans ((zadr_f (a := 201) (n := 2) (r := 223) (by omega)).trans (hf 223 (by omega))))))) (by decide) (zz_b hz (by omega)) rfl (by decide) ⟨by rw [hc]; exact Nat.le_of_ble_eq_true rfl, by rw [hs]; exact Nat.le_of_ble_eq_true rfl⟩ (zsr (zadr_m (zadr_m (zadr_m (zadr_m (zadr_m ha))))) rfl) (zlr (zadr_m (zadr_m (zadr_m (zadr_m (zadr_m ha))))) (zlnn rfl)) dX8_init_111 (n := 113) rfl (fun q27 => ?_)
  have iv27 := ziv_n iv25 (zag_a (ad := ad25) ((zadr_f (a := 220) (n := 1) (r := 223) (by omega)).trans ((zadr_f (a := 213) (n := 6) (r := 223) (by omega)).trans ((zadr_f (a := 210) (n := 2) (r := 223) (by omega)).trans ((zadr_f (a := 205) (n := 2) (r := 223) (by omega)).trans ((zadr_f (a := 201) (n := 2) (r := 223) (by omega)).trans (hf 223 (by omega))))))) (by decide) q27) (fun r hr => zadr_m (a := 223) (n := 1) hr)
  have wf27 := zwf_a (a := 223) (n := 1) wf26
  generalize zadf ad25 223 1 q27 = ad27 at iv27 ⊢
  refine v_putR ok hin (t := 223) wf27 ff_X8_51 ly_200 (zadr_m (zadr_m (zadr_m (zadr_m (zadr_m (zadr_m ha)))))) rfl rf_200_22 dX8_init_113 (n := 116) rfl ?_
  have wf28 := zwf_s (r := 200) (a := 22) (m := 1) wf27 (zadr_m (zadr_m (zadr_m (zadr_m (zadr_m (zadr_m ha)))))) (fun k hk => by rw [show k = 22 by omega, ztg_o ly_200, rf_200_22]; exact (zadr_i (by omega)))
  refine v_aload_0 ok dX8_init_116 (n := 117) rfl ?_
  refine v_iconst ok dX8_init_117 (n := 118) rfl ?_
  refine v_newA (k := (14, 67927)) ok (R := 224) wf28 ly_224 (by decide) rfl (zt 57 (by decide +kernel) (by decide +kernel)) ((zadr_f (a := 223) (n := 1) (r := 224) (by omega)).trans ((zadr_f (a := 220) (n := 1) (r := 224) (by omega)).trans ((zadr_f (a := 213) (n := 6) (r := 224) (by omega)).trans ((zadr_f (a := 210) (n := 2) (r := 224) (by omega)).trans ((zadr_f (a := 205) (n := 2) (r := 224) (by omega)).trans ((zadr_f (a := 201) (n := 2) (r := 224) (by omega)).trans (hf 224 (by omega)))))))) (by decide) (zz_b hz (by omega)) rfl (by decide) ⟨by rw [hc]; exact Nat.le_of_ble_eq_true rfl, by rw [hs]; exact Nat.le_of_ble_eq_true rfl⟩ (zsr (zadr_m (zadr_m (zadr_m (zadr_m (zadr_m (zadr_m ha)))))) rfl) (zlr (zadr_m (zadr_m (zadr_m (zadr_m (zadr_m (zadr_m ha)))))) (zlnn rfl)) dX8_init_118 (n := 120) rfl (fun q29 => ?_)
  have iv29 := ziv_n iv27 (zag_a (ad := ad27) ((zadr_f (a := 223) (n := 1) (r := 224) (by omega)).trans ((zadr_f (a := 220) (n := 1) (r := 224) (by omega)).trans ((zadr_f (a := 213) (n := 6) (r := 224) (by omega)).trans ((zadr_f (a := 210) (n := 2) (r := 224) (by omega)).trans ((zadr_f (a := 205) (n := 2) (r := 224) (by omega)).trans ((zadr_f (a := 201) (n := 2) (r := 224) (by omega)).trans (hf 224 (by omega)))))))) (by decide) q29) (fun r hr => zadr_m (a := 224) (n := 1) hr)
  have wf29 := zwf_a (a := 224) (n := 1) wf28
  generalize zadf ad27 224 1 q29 = ad29 at iv29 ⊢
  rw [zadr_j (a := 223) (n := 1) (b := 224) (m := 1) (c := 2) (by decide) (by decide) (by decide)] at wf29 iv29 ⊢
  refine v_putR ok hin (t := 224) wf29 ff_X8_54 ly_200 (zadr_m (zadr_m (zadr_m (zadr_m (zadr_m (zadr_m ha)))))) rfl rf_200_23 dX8_init_120 (n := 123) rfl ?_
  have wf30 := zwf_s (r := 200) (a := 23) (m := 1) wf29 (zadr_m (zadr_m (zadr_m (zadr_m (zadr_m (zadr_m ha)))))) (fun k hk => by rw [show k = 23 by omega, ztg_o ly_200, rf_200_23]; exact (zadr_i (by omega)))
  refine v_aload_0 ok dX8_init_123 (n := 124) rfl ?_
  refine v_sipush ok rfl dX8_init_124 (n := 127) rfl ?_
  refine v_newA (k := (15, 67931)) ok (R := 225) wf30 ly_225 (by decide) rfl (zt 57 (by decide +kernel) (by decide +kernel)) ((zadr_f (a := 223) (n := 2) (r := 225) (by omega)).trans ((zadr_f (a := 220) (n := 1) (r := 225) (by omega)).trans ((zadr_f (a := 213) (n := 6) (r := 225) (by omega)).trans ((zadr_f (a := 210) (n := 2) (r := 225) (by omega)).trans ((zadr_f (a := 205) (n := 2) (r := 225) (by omega)).trans ((zadr_f (a := 201) (n := 2) (r := 225) (by omega)).trans (hf 225 (by omega)))))))) (by decide) (zz_b hz (by omega)) rfl (by decide) ⟨by rw [hc]; exact Nat.le_of_ble_eq_true rfl, by rw [hs]; exact Nat.le_of_ble_eq_true rfl⟩ (zsr (zadr_m (zadr_m (zadr_m (zadr_m (zadr_m (zadr_m ha)))))) rfl) (zlr (zadr_m (zadr_m (zadr_m (zadr_m (zadr_m (zadr_m ha)))))) (zlnn rfl)) dX8_init_127 (n := 129) rfl (fun q31 => ?_)
  have iv31 := ziv_n iv29 (zag_a (ad := ad29) ((zadr_f (a := 223) (n := 2) (r := 225) (by omega)).trans ((zadr_f (a := 220) (n := 1) (r := 225) (by omega)).trans ((zadr_f (a := 213) (n := 6) (r := 225) (by omega)).trans ((zadr_f (a := 210) (n := 2) (r := 225) (by omega)).trans ((zadr_f (a := 205) (n := 2) (r := 225) (by omega)).trans ((zadr_f (a := 201) (n := 2) (r := 225) (by omega)).trans (hf 225 (by omega)))))))) (by decide) q31) (fun r hr => zadr_m (a := 225) (n := 1) hr)
  have wf31 := zwf_a (a := 225) (n := 1) wf30
  generalize zadf ad29 225 1 q31 = ad31 at iv31 ⊢
  rw [zadr_j (a := 223) (n := 2) (b := 225) (m := 1) (c := 3) (by decide) (by decide) (by decide)] at wf31 iv31 ⊢
  refine v_putR ok hin (t := 225) wf31 ff_X8_57 ly_200 (zadr_m (zadr_m (zadr_m (zadr_m (zadr_m (zadr_m ha)))))) rfl rf_200_24 dX8_init_129 (n := 132) rfl ?_
  have wf32 := zwf_s (r := 200) (a := 24) (m := 1) wf31 (zadr_m (zadr_m (zadr_m (zadr_m (zadr_m (zadr_m ha)))))) (fun k hk => by rw [show k = 24 by omega, ztg_o ly_200, rf_200_24]; exact (zadr_i (by omega)))
  refine v_aload_0 ok dX8_init_132 (n := 133) rfl ?_
  refine v_bipush ok rfl dX8_init_133 (n := 135) rfl ?_
  refine v_newA (k := (16, 68331)) ok (R := 226) wf32 ly_226 (by decide) rfl (zt 57 (by decide +kernel) (by decide +kernel)) ((zadr_f (a := 223) (n := 3) (r := 226) (by omega)).trans ((zadr_f (a := 220) (n := 1) (r := 226) (by omega)).trans ((zadr_f (a := 213) (n := 6) (r := 226) (by omega)).trans ((zadr_f (a := 210) (n := 2) (r := 226) (by omega)).trans ((zadr_f (a := 205) (n := 2) (r := 226) (by omega)).trans ((zadr_f (a := 201) (n := 2) (r := 226) (by omega)).trans (hf 226 (by omega)))))))) (by decide) (zz_b hz (by omega)) rfl (by decide) ⟨by rw [hc]; exact Nat.le_of_ble_eq_true rfl, by rw [hs]; exact Nat.le_of_ble_eq_true rfl⟩ (zsr (zadr_m (zadr_m (zadr_m (zadr_m (zadr_m (zadr_m ha)))))) rfl) (zlr (zadr_m (zadr_m (zadr_m (zadr_m (zadr_m (zadr_m ha)))))) (zlnn rfl)) dX8_init_135 (n := 137) rfl (fun q33 => ?_)
  have iv33 := ziv_n iv31 (zag_a (ad := ad31) ((zadr_f (a := 223) (n := 3) (r := 226) (by omega)).trans ((zadr_f (a := 220) (n := 1) (r := 226) (by omega)).trans ((zadr_f (a := 213) (n := 6) (r := 226) (by omega)).trans ((zadr_f (a := 210) (n := 2) (r := 226) (by omega)).trans ((zadr_f (a := 205) (n := 2) (r := 226) (by omega)).trans ((zadr_f (a := 201) (n := 2) (r := 226) (by omega)).trans (hf 226 (by omega)))))))) (by decide) q33) (fun r hr => zadr_m (a := 226) (n := 1) hr)
  have wf33 := zwf_a (a := 226) (n := 1) wf32
  generalize zadf ad31 226 1 q33 = ad33 at iv33 ⊢
  rw [zadr_j (a := 223) (n := 3) (b := 226) (m := 1) (c := 4) (by decide) (by decide) (by decide)] at wf33 iv33 ⊢
  refine v_putR ok hin (t := 226) wf33 ff_X8_60 ly_200 (zadr_m (zadr_m (zadr_m (zadr_m (zadr_m (zadr_m ha)))))) rfl rf_200_25 dX8_init_137 (n := 140) rfl ?_
  have wf34 := zwf_s (r := 200) (a := 25) (m := 1) wf33 (zadr_m (zadr_m (zadr_m (zadr_m (zadr_m (zadr_m ha)))))) (fun k hk => by rw [show k = 25 by omega, ztg_o ly_200, rf_200_25]; exact (zadr_i (by omega)))
  refine v_aload_0 ok dX8_init_140 (n := 141) rfl ?_
  refine v_bipush ok rfl dX8_init_141 (n := 143) rfl ?_
  refine v_newA (k := (17, 68431)) ok (R := 227) wf34 ly_227 (by decide) rfl (zt 57 (by decide +kernel) (by decide +kernel)) ((zadr_f (a := 223) (n := 4) (r := 227) (by omega)).trans ((zadr_f (a := 220) (n := 1) (r := 227) (by omega)).trans ((zadr_f (a := 213) (n := 6) (r := 227) (by omega)).trans ((zadr_f (a := 210) (n := 2) (r := 227) (by omega)).trans ((zadr_f (a := 205) (n := 2) (r := 227) (by omega)).trans ((zadr_f (a := 201) (n := 2) (r := 227) (by omega)).trans (hf 227 (by omega)))))))) (by decide) (zz_b hz (by omega)) rfl (by decide) ⟨by rw [hc]; exact Nat.le_of_ble_eq_true rfl, by rw [hs]; exact Nat.le_of_ble_eq_true rfl⟩ (zsr (zadr_m (zadr_m (zadr_m (zadr_m (zadr_m (zadr_m ha)))))) rfl) (zlr (zadr_m (zadr_m (zadr_m (zadr_m (zadr_m (zadr_m ha)))))) (zlnn rfl)) dX8_init_143 (n := 145) rfl (fun q35 => ?_)
  have iv35 := ziv_n iv33 (zag_a (ad := ad33) ((zadr_f (a := 223) (n := 4) (r := 227) (by omega)).trans ((zadr_f (a := 220) (n := 1) (r := 227) (by omega)).trans ((zadr_f (a := 213) (n := 6) (r := 227) (by omega)).trans ((zadr_f (a := 210) (n := 2) (r := 227) (by omega)).trans ((zadr_f (a := 205) (n := 2) (r := 227) (by omega)).trans ((zadr_f (a := 201) (n := 2) (r := 227) (by omega)).trans (hf 227 (by omega)))))))) (by decide) q35) (fun r hr => zadr_m (a := 227) (n := 1) hr)
  have wf35 := zwf_a (a := 227) (n := 1) wf34
  generalize zadf ad33 227 1 q35 = ad35 at iv35 ⊢
  rw [zadr_j (a := 223) (n := 4) (b := 227) (m := 1) (c := 5) (by decide) (by decide) (by decide)] at wf35 iv35 ⊢
  refine v_putR ok hin (t := 227) wf35 ff_X8_63 ly_200 (zadr_m (zadr_m (zadr_m (zadr_m (zadr_m (zadr_m ha)))))) rfl rf_200_26 dX8_init_145 (n := 148) rfl ?_
  have wf36 := zwf_s (r := 200) (a := 26) (m := 1) wf35 (zadr_m (zadr_m (zadr_m (zadr_m (zadr_m (zadr_m ha)))))) (fun k hk => by rw [show k = 26 by omega, ztg_o ly_200, rf_200_26]; exact (zadr_i (by omega)))
  refine v_aload_0 ok dX8_init_148 (n := 149) rfl ?_
  refine v_bipush ok rfl dX8_init_149 (n := 151) rfl ?_
  refine v_newA (k := (18, 68438)) ok (R := 228) wf36 ly_228 (by decide) rfl (zt 57 (by decide +kernel) (by decide +kernel)) ((zadr_f (a := 223) (n := 5) (r := 228) (by omega)).trans ((zadr_f (a := 220) (n := 1) (r := 228) (by omega)).trans ((zadr_f (a := 213) (n := 6) (r := 228) (by omega)).trans ((zadr_f (a := 210) (n := 2) (r := 228) (by omega)).trans ((zadr_f (a := 205) (n := 2) (r := 228) (by omega)).trans ((zadr_f (a := 201) (n := 2) (r := 228) (by omega)).trans (hf 228 (by omega)))))))) (by decide) (zz_b hz (by omega)) rfl (by decide) ⟨by rw [hc]; exact Nat.le_of_ble_eq_true rfl, by rw [hs]; exact Nat.le_of_ble_eq_true rfl⟩ (zsr (zadr_m (zadr_m (zadr_m (zadr_m (zadr_m (zadr_m ha)))))) rfl) (zlr (zadr_m (zadr_m (zadr_m (zadr_m (zadr_m (zadr_m ha)))))) (zlnn rfl)) dX8_init_151 (n := 153) rfl (fun q37 => ?_)
  have iv37 := ziv_n iv35 (zag_a (ad := ad35) ((zadr_f (a := 223) (n := 5) (r := 228) (by omega)).trans ((zadr_f (a := 220) (n := 1) (r := 228) (by omega)).trans ((zadr_f (a := 213) (n := 6) (r := 228) (by omega)).trans ((zadr_f (a := 210) (n := 2) (r := 228) (by omega)).trans ((zadr_f (a := 205) (n := 2) (r := 228) (by omega)).trans ((zadr_f (a := 201) (n := 2) (r := 228) (by omega)).trans (hf 228 (by omega)))))))) (by decide) q37) (fun r hr => zadr_m (a := 228) (n := 1) hr)
  have wf37 := zwf_a (a := 228) (n := 1) wf36
  generalize zadf ad35 228 1 q37 = ad37 at iv37 ⊢
  rw [zadr_j (a := 223) (n := 5) (b := 228) (m := 1) (c := 6) (by decide) (by decide) (by decide)] at wf37 iv37 ⊢
  refine v_putR ok hin (t := 228) wf37 ff_X8_66 ly_200 (zadr_m (zadr_m (zadr_m (zadr_m (zadr_m (zadr_m ha)))))) rfl rf_200_27 dX8_init_153 (n := 156) rfl ?_
  have wf38 := zwf_s (r := 200) (a := 27) (m := 1) wf37 (zadr_m (zadr_m (zadr_m (zadr_m (zadr_m (zadr_m ha)))))) (fun k hk => by rw [show k = 27 by omega, ztg_o ly_200, rf_200_27]; exact (zadr_i (by omega)))
  refine v_aload_0 ok dX8_init_156 (n := 157) rfl ?_
  refine v_bipush ok rfl dX8_init_157 (n := 159) rfl ?_
  refine v_newA (k := (19, 68445)) ok (R := 229) wf38 ly_229 (by decide) rfl (zt 57 (by decide +kernel) (by decide +kernel)) ((zadr_f (a := 223) (n := 6) (r := 229) (by omega)).trans ((zadr_f (a := 220) (n := 1) (r := 229) (by omega)).trans ((zadr_f (a := 213) (n := 6) (r := 229) (by omega)).trans ((zadr_f (a := 210) (n := 2) (r := 229) (by omega)).trans ((zadr_f (a := 205) (n := 2) (r := 229) (by omega)).trans ((zadr_f (a := 201) (n := 2) (r := 229) (by omega)).trans (hf 229 (by omega)))))))) (by decide) (zz_b hz (by omega)) rfl (by decide) ⟨by rw [hc]; exact Nat.le_of_ble_eq_true rfl, by rw [hs]; exact Nat.le_of_ble_eq_true rfl⟩ (zsr (zadr_m (zadr_m (zadr_m (zadr_m (zadr_m (zadr_m ha)))))) rfl) (zlr (zadr_m (zadr_m (zadr_m (zadr_m (zadr_m (zadr_m ha)))))) (zlnn rfl)) dX8_init_159 (n := 161) rfl (fun q39 => ?_)
  have iv39 := ziv_n iv37 (zag_a (ad := ad37) ((zadr_f (a := 223) (n := 6) (r := 229) (by omega)).trans ((zadr_f (a := 220) (n := 1) (r := 229) (by omega)).trans ((zadr_f (a := 213) (n := 6) (r := 229) (by omega)).trans ((zadr_f (a := 210) (n := 2) (r := 229) (by omega)).trans ((zadr_f (a := 205) (n := 2) (r := 229) (by omega)).trans ((zadr_f (a := 201) (n := 2) (r := 229) (by omega)).trans (hf 229 (by omega)))))))) (by decide) q39) (fun r hr => zadr_m (a := 229) (n := 1) hr)
  have wf39 := zwf_a (a := 229) (n := 1) wf38
  generalize zadf ad37 229 1 q39 = ad39 at iv39 ⊢
  rw [zadr_j (a := 223) (n := 6) (b := 229) (m := 1) (c := 7) (by decide) (by decide) (by decide)] at wf39 iv39 ⊢
  refine v_putR ok hin (t := 229) wf39 ff_X8_69 ly_200 (zadr_m (zadr_m (zadr_m (zadr_m (zadr_m (zadr_m ha)))))) rfl rf_200_28 dX8_init_161 (n := 164) rfl ?_
  have wf40 := zwf_s (r := 200) (a := 28) (m := 1) wf39 (zadr_m (zadr_m (zadr_m (zadr_m (zadr_m (zadr_m ha)))))) (fun k hk => by rw [show k = 28 by omega, ztg_o ly_200, rf_200_28]; exact (zadr_i (by omega)))
  refine v_aload_0 ok dX8_init_164 (n := 165) rfl ?_
  refine v_bipush ok rfl dX8_init_165 (n := 167) rfl ?_
  refine v_newA (k := (20, 68543)) ok (R := 230) wf40 ly_230 (by decide) rfl (zt 57 (by decide +kernel) (by decide +kernel)) ((zadr_f (a := 223) (n := 7) (r := 230) (by omega)).trans ((zadr_f (a := 220) (n := 1) (r := 230) (by omega)).trans ((zadr_f (a := 213) (n := 6) (r := 230) (by omega)).trans ((zadr_f (a := 210) (n := 2) (r := 230) (by omega)).trans ((zadr_f (a := 205) (n := 2) (r := 230) (by omega)).trans ((zadr_f (a := 201) (n := 2) (r := 230) (by omega)).trans (hf 230 (by omega)))))))) (by decide) (zz_b hz (by omega)) rfl (by decide) ⟨by rw [hc]; exact Nat.le_of_ble_eq_true rfl, by rw [hs]; exact Nat.le_of_ble_eq_true rfl⟩ (zsr (zadr_m (zadr_m (zadr_m (zadr_m (zadr_m (zadr_m ha)))))) rfl) (zlr (zadr_m (zadr_m (zadr_m (zadr_m (zadr_m (zadr_m ha)))))) (zlnn rfl)) dX8_init_167 (n := 169) rfl (fun q41 => ?_)
  have iv41 := ziv_n iv39 (zag_a (ad := ad39) ((zadr_f (a := 223) (n := 7) (r := 230) (by omega)).trans ((zadr_f (a := 220) (n := 1) (r := 230) (by omega)).trans ((zadr_f (a := 213) (n := 6) (r := 230) (by omega)).trans ((zadr_f (a := 210) (n := 2) (r := 230) (by omega)).trans ((zadr_f (a := 205) (n := 2) (r := 230) (by omega)).trans ((zadr_f (a := 201) (n := 2) (r := 230) (by omega)).trans (hf 230 (by omega)))))))) (by decide) q41) (fun r hr => zadr_m (a := 230) (n := 1) hr)
  have wf41 := zwf_a (a := 230) (n := 1) wf40
  generalize zadf ad39 230 1 q41 = ad41 at iv41 ⊢
  rw [zadr_j (a := 223) (n := 7) (b := 230) (m := 1) (c := 8) (by decide) (by decide) (by decide)] at wf41 iv41 ⊢
  refine v_putR ok hin (t := 230) wf41 ff_X8_72 ly_200 (zadr_m (zadr_m (zadr_m (zadr_m (zadr_m (zadr_m ha)))))) rfl rf_200_29 dX8_init_169 (n := 172) rfl ?_
  have wf42 := zwf_s (r := 200) (a := 29) (m := 1) wf41 (zadr_m (zadr_m (zadr_m (zadr_m (zadr_m (zadr_m ha)))))) (fun k hk => by rw [show k = 29 by omega, ztg_o ly_200, rf_200_29]; exact (zadr_i (by omega)))
  refine v_aload_0 ok dX8_init_172 (n := 173) rfl ?_
  refine v_bipush ok rfl dX8_init_173 (n := 175) rfl ?_
  refine v_newA (k := (21, 68550)) ok (R := 231) wf42 ly_231 (by decide) rfl (zt 57 (by decide +kernel) (by decide +kernel)) ((zadr_f (a := 223) (n := 8) (r := 231) (by omega)).trans ((zadr_f (a := 220) (n := 1) (r := 231) (by omega)).trans ((zadr_f (a := 213) (n := 6) (r := 231) (by omega)).trans ((zadr_f (a := 210) (n := 2) (r := 231) (by omega)).trans ((zadr_f (a := 205) (n := 2) (r := 231) (by omega)).trans ((zadr_f (a := 201) (n := 2) (r := 231) (by omega)).trans (hf 231 (by omega)))))))) (by decide) (zz_b hz (by omega)) rfl (by decide) ⟨by rw [hc]; exact Nat.le_of_ble_eq_true rfl, by rw [hs]; exact Nat.le_of_ble_eq_true rfl⟩ (zsr (zadr_m (zadr_m (zadr_m (zadr_m (zadr_m (zadr_m ha)))))) rfl) (zlr (zadr_m (zadr_m (zadr_m (zadr_m (zadr_m (zadr_m ha)))))) (zlnn rfl)) dX8_init_175 (n := 177) rfl (fun q43 => ?_)
  have iv43 := ziv_n iv41 (zag_a (ad := ad41) ((zadr_f (a := 223) (n := 8) (r := 231) (by omega)).trans ((zadr_f (a := 220) (n := 1) (r := 231) (by omega)).trans ((zadr_f (a := 213) (n := 6) (r := 231) (by omega)).trans ((zadr_f (a := 210) (n := 2) (r := 231) (by omega)).trans ((zadr_f (a := 205) (n := 2) (r := 231) (by omega)).trans ((zadr_f (a := 201) (n := 2) (r := 231) (by omega)).trans (hf 231 (by omega)))))))) (by decide) q43) (fun r hr => zadr_m (a := 231) (n := 1) hr)
  have wf43 := zwf_a (a := 231) (n := 1) wf42
  generalize zadf ad41 231 1 q43 = ad43 at iv43 ⊢
  rw [zadr_j (a := 223) (n := 8) (b := 231) (m := 1) (c := 9) (by decide) (by decide) (by decide)] at wf43 iv43 ⊢
  refine v_putR ok hin (t := 231) wf43 ff_X8_75 ly_200 (zadr_m (zadr_m (zadr_m (zadr_m (zadr_m (zadr_m ha)))))) rfl rf_200_30 dX8_init_177 (n := 180) rfl ?_
  have wf44 := zwf_s (r := 200) (a := 30) (m := 1) wf43 (zadr_m (zadr_m (zadr_m (zadr_m (zadr_m (zadr_m ha)))))) (fun k hk => by rw [show k = 30 by omega, ztg_o ly_200, rf_200_30]; exact (zadr_i (by omega)))
  refine v_aload_0 ok dX8_init_180 (n := 181) rfl ?_
  refine v_bipush ok rfl dX8_init_181 (n := 183) rfl ?_
  refine v_newA (k := (22, 68557)) ok (R := 232) wf44 ly_232 (by decide) rfl (zt 57 (by decide +kernel) (by decide +kernel)) ((zadr_f (a := 223) (n := 9) (r := 232) (by omega)).trans ((zadr_f (a := 220) (n := 1) (r := 232) (by omega)).trans ((zadr_f (a := 213) (n := 6) (r := 232) (by omega)).trans ((zadr_f (a := 210) (n := 2) (r := 232) (by omega)).trans ((zadr_f (a := 205) (n := 2) (r := 232) (by omega)).trans ((zadr_f (a := 201) (n := 2) (r := 232) (by omega)).trans (hf 232 (by omega)))))))) (by decide) (zz_b hz (by omega)) rfl (by decide) ⟨by rw [hc]; exact Nat.le_of_ble_eq_true rfl, by rw [hs]; exact Nat.le_of_ble_eq_true rfl⟩ (zsr (zadr_m (zadr_m (zadr_m (zadr_m (zadr_m (zadr_m ha)))))) rfl) (zlr (zadr_m (zadr_m (zadr_m (zadr_m (zadr_m (zadr_m ha)))))) (zlnn rfl)) dX8_init_183 (n := 185) rfl (fun q45 => ?_)
  have iv45 := ziv_n iv43 (zag_a (ad := ad43) ((zadr_f (a := 223) (n := 9) (r := 232) (by omega)).trans ((zadr_f (a := 220) (n := 1) (r := 232) (by omega)).trans ((zadr_f (a := 213) (n := 6) (r := 232) (by omega)).trans ((zadr_f (a := 210) (n := 2) (r := 232) (by omega)).trans ((zadr_f (a := 205) (n := 2) (r := 232) (by omega)).trans ((zadr_f (a := 201) (n := 2) (r := 232) (by omega)).trans (hf 232 (by omega)))))))) (by decide) q45) (fun r hr => zadr_m (a := 232) (n := 1) hr)
  have wf45 := zwf_a (a := 232) (n := 1) wf44
  generalize zadf ad43 232 1 q45 = ad45 at iv45 ⊢
  rw [zadr_j (a := 223) (n := 9) (b := 232) (m := 1) (c := 10) (by decide) (by decide) (by decide)] at wf45 iv45 ⊢
  refine v_putR ok hin (t := 232) wf45 ff_X8_78 ly_200 (zadr_m (zadr_m (zadr_m (zadr_m (zadr_m (zadr_m ha)))))) rfl rf_200_31 dX8_init_185 (n := 188) rfl ?_
  have wf46 := zwf_s (r := 200) (a := 31) (m := 1) wf45 (zadr_m (zadr_m (zadr_m (zadr_m (zadr_m (zadr_m ha)))))) (fun k hk => by rw [show k = 31 by omega, ztg_o ly_200, rf_200_31]; exact (zadr_i (by omega)))
  refine v_iconst ok dX8_init_188 (n := 189) rfl ?_
  refine v_istore_1 ok (Nat.le_of_ble_eq_true rfl) rfl dX8_init_189 (n := 190) rfl ?_
  refine v_iload_1 ok dX8_init_190 (n := 191) rfl ?_
  refine v_iconst ok dX8_init_191 (n := 192) rfl ?_
  refine v_icmp_ge ok dX8_init_192 (tgt := 208) (by decide) (n := 195) rfl (by decide) (by decide) (fun w9 => ?_) (fun w9 => ?_)
  · exact absurd w9 (by decide)
  refine v_aload_0 ok dX8_init_195 (n := 196) rfl ?_
  refine v_getR ok fd_X8_51 ly_200 (show (zadr (zadr (zadr (zadr (zadr (zadr al 201 2) 205 2) 210 2) 213 6) 220 1) 223 10) 200 = true from (zadr_m (zadr_m (zadr_m (zadr_m (zadr_m (zadr_m ha))))))) rfl (show (zrsa (zrsa (zrsa (zrsa (zrsa (zrsa (zrsa (zrsa (zrsa (zrsa (zrsa (zrsa (zrsa (zrsa (zrsa (zrsa (zrsa (zrsa (zrsa (zrsa (zrsa (zrsa (zrsa rs 200 0 1) 200 1 1) 200 4 1) 200 5 1) 200 9 1) 200 10 1) 200 12 1) 200 13 1) 200 14 1) 200 15 1) 200 16 1) 200 17 1) 200 19 1) 200 22 1) 200 23 1) 200 24 1) 200 25 1) 200 26 1) 200 27 1) 200 28 1) 200 29 1) 200 30 1) 200 31 1) 200 22 = true from (zrsa_m (zrsa_m (zrsa_m (zrsa_m (zrsa_m (zrsa_m (zrsa_m (zrsa_m (zrsa_m (zrsa_i (by decide)))))))))))) rf_200_22 dX8_init_196 (n := 199) rfl ?_
  refine v_iload_1 ok dX8_init_199 (n := 200) rfl ?_
  refine v_iconst ok dX8_init_200 (n := 201) rfl ?_
  refine v_iast ok ly_223 (show (zadr (zadr (zadr (zadr (zadr (zadr al 201 2) 205 2) 210 2) 213 6) 220 1) 223 10) 223 = true from (zadr_i (by omega))) (by decide) (by decide) dX8_init_201 (n := 202) rfl ?_
  refine v_iinc_1 ok (Nat.le_of_ble_eq_true rfl) rfl dX8_init_202 (n := 205) rfl ?_
  rw [show (0 : Int) + 1 = 1 from rfl]
  refine v_goto ok dX8_init_205 (n := 190) (by decide) ?_
  refine v_iload_1 ok dX8_init_190 (n := 191) rfl ?_
  refine v_iconst ok dX8_init_191 (n := 192) rfl ?_
  refine v_icmp_ge ok dX8_init_192 (tgt := 208) (by decide) (n := 195) rfl (by decide) (by decide) (fun w9 => ?_) (fun w9 => ?_)
  · exact absurd w9 (by decide)
  refine v_aload_0 ok dX8_init_195 (n := 196) rfl ?_
  refine v_getR ok fd_X8_51 ly_200 (show (zadr (zadr (zadr (zadr (zadr (zadr al 201 2) 205 2) 210 2) 213 6) 220 1) 223 10) 200 = true from (zadr_m (zadr_m (zadr_m (zadr_m (zadr_m (zadr_m ha))))))) rfl (show (zrsa (zrsa (zrsa (zrsa (zrsa (zrsa (zrsa (zrsa (zrsa (zrsa (zrsa (zrsa (zrsa (zrsa (zrsa (zrsa (zrsa (zrsa (zrsa (zrsa (zrsa (zrsa (zrsa rs 200 0 1) 200 1 1) 200 4 1) 200 5 1) 200 9 1) 200 10 1) 200 12 1) 200 13 1) 200 14 1) 200 15 1) 200 16 1) 200 17 1) 200 19 1) 200 22 1) 200 23 1) 200 24 1) 200 25 1) 200 26 1) 200 27 1) 200 28 1) 200 29 1) 200 30 1) 200 31 1) 200 22 = true from (zrsa_m (zrsa_m (zrsa_m (zrsa_m (zrsa_m (zrsa_m (zrsa_m (zrsa_m (zrsa_m (zrsa_i (by decide)))))))))))) rf_200_22 dX8_init_196 (n := 199) rfl ?_
  refine v_iload_1 ok dX8_init_199 (n := 200) rfl ?_
  refine v_iconst ok dX8_init_200 (n := 201) rfl ?_
  refine v_iast ok ly_223 (show (zadr (zadr (zadr (zadr (zadr (zadr al 201 2) 205 2) 210 2) 213 6) 220 1) 223 10) 223 = true from (zadr_i (by omega))) (by decide) (by decide) dX8_init_201 (n := 202) rfl ?_
  refine v_iinc_1 ok (Nat.le_of_ble_eq_true rfl) rfl dX8_init_202 (n := 205) rfl ?_
  rw [show (1 : Int) + 1 = 2 from rfl]
  refine v_goto ok dX8_init_205 (n := 190) (by decide) ?_
  refine v_iload_1 ok dX8_init_190 (n := 191) rfl ?_
  refine v_iconst ok dX8_init_191 (n := 192) rfl ?_
  refine v_icmp_ge ok dX8_init_192 (tgt := 208) (by decide) (n := 195) rfl (by decide) (by decide) (fun w9 => ?_) (fun w9 => ?_)
  · exact absurd w9 (by decide)
  refine v_aload_0 ok dX8_init_195 (n := 196) rfl ?_
  refine v_getR ok fd_X8_51 ly_200 (show (zadr (zadr (zadr (zadr (zadr (zadr al 201 2) 205 2) 210 2) 213 6) 220 1) 223 10) 200 = true from (zadr_m (zadr_m (zadr_m (zadr_m (zadr_m (zadr_m ha))))))) rfl (show (zrsa (zrsa (zrsa (zrsa (zrsa (zrsa (zrsa (zrsa (zrsa (zrsa (zrsa (zrsa (zrsa (zrsa (zrsa (zrsa (zrsa (zrsa (zrsa (zrsa (zrsa (zrsa (zrsa rs 200 0 1) 200 1 1) 200 4 1) 200 5 1) 200 9 1) 200 10 1) 200 12 1) 200 13 1) 200 14 1) 200 15 1) 200 16 1) 200 17 1) 200 19 1) 200 22 1) 200 23 1) 200 24 1) 200 25 1) 200 26 1) 200 27 1) 200 28 1) 200 29 1) 200 30 1) 200 31 1) 200 22 = true from (zrsa_m (zrsa_m (zrsa_m (zrsa_m (zrsa_m (zrsa_m (zrsa_m (zrsa_m (zrsa_m (zrsa_i (by decide)))))))))))) rf_200_22 dX8_init_196 (n := 199) rfl ?_
  refine v_iload_1 ok dX8_init_199 (n := 200) rfl ?_
  refine v_iconst ok dX8_init_200 (n := 201) rfl ?_
  refine v_iast ok ly_223 (show (zadr (zadr (zadr (zadr (zadr (zadr al 201 2) 205 2) 210 2) 213 6) 220 1) 223 10) 223 = true from (zadr_i (by omega))) (by decide) (by decide) dX8_init_201 (n := 202) rfl ?_
  refine v_iinc_1 ok (Nat.le_of_ble_eq_true rfl) rfl dX8_init_202 (n := 205) rfl ?_
  rw [show (2 : Int) + 1 = 3 from rfl]
  refine v_goto ok dX8_init_205 (n := 190) (by decide) ?_
  refine v_iload_1 ok dX8_init_190 (n := 191) rfl ?_
  refine v_iconst ok dX8_init_191 (n := 192) rfl ?_
  refine v_icmp_ge ok dX8_init_192 (tgt := 208) (by decide) (n := 195) rfl (by decide) (by decide) (fun w9 => ?_) (fun w9 => ?_)
  · exact absurd w9 (by decide)
  refine v_aload_0 ok dX8_init_195 (n := 196) rfl ?_
  refine v_getR ok fd_X8_51 ly_200 (show (zadr (zadr (zadr (zadr (zadr (zadr al 201 2) 205 2) 210 2) 213 6) 220 1) 223 10) 200 = true from (zadr_m (zadr_m (zadr_m (zadr_m (zadr_m (zadr_m ha))))))) rfl (show (zrsa (zrsa (zrsa (zrsa (zrsa (zrsa (zrsa (zrsa (zrsa (zrsa (zrsa (zrsa (zrsa (zrsa (zrsa (zrsa (zrsa (zrsa (zrsa (zrsa (zrsa (zrsa (zrsa rs 200 0 1) 200 1 1) 200 4 1) 200 5 1) 200 9 1) 200 10 1) 200 12 1) 200 13 1) 200 14 1) 200 15 1) 200 16 1) 200 17 1) 200 19 1) 200 22 1) 200 23 1) 200 24 1) 200 25 1) 200 26 1) 200 27 1) 200 28 1) 200 29 1) 200 30 1) 200 31 1) 200 22 = true from (zrsa_m (zrsa_m (zrsa_m (zrsa_m (zrsa_m (zrsa_m (zrsa_m (zrsa_m (zrsa_m (zrsa_i (by decide)))))))))))) rf_200_22 dX8_init_196 (n := 199) rfl ?_
  refine v_iload_1 ok dX8_init_199 (n := 200) rfl ?_
  refine v_iconst ok dX8_init_200 (n := 201) rfl ?_
  refine v_iast ok ly_223 (show (zadr (zadr (zadr (zadr (zadr (zadr al 201 2) 205 2) 210 2) 213 6) 220 1) 223 10) 223 = true from (zadr_i (by omega))) (by decide) (by decide) dX8_init_201 (n := 202) rfl ?_
  refine v_iinc_1 ok (Nat.le_of_ble_eq_true rfl) rfl dX8_init_202 (n := 205) rfl ?_
  rw [show (3 : Int) + 1 = 4 from rfl]
  refine v_goto ok dX8_init_205 (n := 190) (by decide) ?_
  refine v_iload_1 ok dX8_init_190 (n := 191) rfl ?_
  refine v_iconst ok dX8_init_191 (n := 192) rfl ?_
  refine v_icmp_ge ok dX8_init_192 (tgt := 208) (by decide) (n := 195) rfl (by decide) (by decide) (fun w9 => ?_) (fun w9 => ?_)
  rotate_left
  · exact absurd w9 (by decide)
  refine v_aload_0 ok dX8_init_208 (n := 209) rfl ?_
  refine v_getR ok fd_X8_16 ly_200 (show (zadr (zadr (zadr (zadr (zadr (zadr al 201 2) 205 2) 210 2) 213 6) 220 1) 223 10) 200 = true from (zadr_m (zadr_m (zadr_m (zadr_m (zadr_m (zadr_m ha))))))) rfl (show (zrsa (zrsa (zrsa (zrsa (zrsa (zrsa (zrsa (zrsa (zrsa (zrsa (zrsa (zrsa (zrsa (zrsa (zrsa (zrsa (zrsa (zrsa (zrsa (zrsa (zrsa (zrsa (zrsa rs 200 0 1) 200 1 1) 200 4 1) 200 5 1) 200 9 1) 200 10 1) 200 12 1) 200 13 1) 200 14 1) 200 15 1) 200 16 1) 200 17 1) 200 19 1) 200 22 1) 200 23 1) 200 24 1) 200 25 1) 200 26 1) 200 27 1) 200 28 1) 200 29 1) 200 30 1) 200 31 1) 200 4 = true from (zrsa_m (zrsa_m (zrsa_m (zrsa_m (zrsa_m (zrsa_m (zrsa_m (zrsa_m (zrsa_m (zrsa_m (zrsa_m (zrsa_m (zrsa_m (zrsa_m (zrsa_m (zrsa_m (zrsa_m (zrsa_m (zrsa_m (zrsa_m (zrsa_i (by decide))))))))))))))))))))))) rf_200_4 dX8_init_209 (n := 212) rfl ?_
  refine v_iconst ok dX8_init_212 (n := 213) rfl ?_
  refine v_iconst ok dX8_init_213 (n := 214) rfl ?_
  refine v_iast ok ly_205 (show (zadr (zadr (zadr (zadr (zadr (zadr al 201 2) 205 2) 210 2) 213 6) 220 1) 223 10) 205 = true from (zadr_m (zadr_m (zadr_m (zadr_m (zadr_i (by omega))))))) (by decide) (by decide) dX8_init_214 (n := 215) rfl ?_
  refine v_aload_0 ok dX8_init_215 (n := 216) rfl ?_
  refine v_getR ok fd_X8_16 ly_200 (show (zadr (zadr (zadr (zadr (zadr (zadr al 201 2) 205 2) 210 2) 213 6) 220 1) 223 10) 200 = true from (zadr_m (zadr_m (zadr_m (zadr_m (zadr_m (zadr_m ha))))))) rfl (show (zrsa (zrsa (zrsa (zrsa (zrsa (zrsa (zrsa (zrsa (zrsa (zrsa (zrsa (zrsa (zrsa (zrsa (zrsa (zrsa (zrsa (zrsa (zrsa (zrsa (zrsa (zrsa (zrsa rs 200 0 1) 200 1 1) 200 4 1) 200 5 1) 200 9 1) 200 10 1) 200 12 1) 200 13 1) 200 14 1) 200 15 1) 200 16 1) 200 17 1) 200 19 1) 200 22 1) 200 23 1) 200 24 1) 200 25 1) 200 26 1) 200 27 1) 200 28 1) 200 29 1) 200 30 1) 200 31 1) 200 4 = true from (zrsa_m (zrsa_m (zrsa_m (zrsa_m (zrsa_m (zrsa_m (zrsa_m (zrsa_m (zrsa_m (zrsa_m (zrsa_m (zrsa_m (zrsa_m (zrsa_m (zrsa_m (zrsa_m (zrsa_m (zrsa_m (zrsa_m (zrsa_m (zrsa_i (by decide))))))))))))))))))))))) rf_200_4 dX8_init_216 (n := 219) rfl ?_
  refine v_iconst ok dX8_init_219 (n := 220) rfl ?_
  refine v_iconst ok dX8_init_220 (n := 221) rfl ?_
  refine v_iast ok ly_205 (show (zadr (zadr (zadr (zadr (zadr (zadr al 201 2) 205 2) 210 2) 213 6) 220 1) 223 10) 205 = true from (zadr_m (zadr_m (zadr_m (zadr_m (zadr_i (by omega))))))) (by decide) (by decide) dX8_init_221 (n := 222) rfl ?_
  clear wf
  exact v_nret rt dX8_init_222 (fun r hr => (iv45.1 r hr).2) iv45.2
theorem wk_X8_200 {al : Int → Bool} {rs : Int → Nat → Bool} (wf : zwf al rs) (ha : al 200 = true) : zwf (zadr (zadr (zadr (zadr (zadr (zadr al 201 2) 205 2) 210 2) 213 6) 220 1) 223 10) (zrsa (zrsa (zrsa (zrsa (zrsa (zrsa (zrsa (zrsa (zrsa (zrsa (zrsa (zrsa (zrsa (zrsa (zrsa (zrsa (zrsa (zrsa (zrsa (zrsa (zrsa (zrsa (zrsa rs 200 0 1) 200 1 1) 200 4 1) 200 5 1) 200 9 1) 200 10 1) 200 12 1) 200 13 1) 200 14 1) 200 15 1) 200 16 1) 200 17 1) 200 19 1) 200 22 1) 200 23 1) 200 24 1) 200 25 1) 200 26 1) 200 27 1) 200 28 1) 200 29 1) 200 30 1) 200 31 1) := by
  have w0 := (zwf_a (a := 223) (n := 10) (zwf_a (a := 220) (n := 1) (zwf_a (a := 213) (n := 6) (zwf_a (a := 210) (n := 2) (zwf_a (a := 205) (n := 2) (zwf_a (a := 201) (n := 2) wf))))))
  have w1 := zwf_s (r := 200) (a := 0) (m := 1) w0 (zadr_m (zadr_m (zadr_m (zadr_m (zadr_m (zadr_m ha)))))) (fun k hk => by rw [show k = 0 by omega, ztg_o ly_200, rf_200_0]; exact (zadr_m (zadr_m (zadr_m (zadr_m (zadr_m (zadr_i (by omega))))))))
  have w2 := zwf_s (r := 200) (a := 1) (m := 1) w1 (zadr_m (zadr_m (zadr_m (zadr_m (zadr_m (zadr_m ha)))))) (fun k hk => by rw [show k = 1 by omega, ztg_o ly_200, rf_200_1]; exact (zadr_m (zadr_m (zadr_m (zadr_m (zadr_m (zadr_i (by omega))))))))
  have w3 := zwf_s (r := 200) (a := 4) (m := 1) w2 (zadr_m (zadr_m (zadr_m (zadr_m (zadr_m (zadr_m ha)))))) (fun k hk => by rw [show k = 4 by omega, ztg_o ly_200, rf_200_4]; exact (zadr_m (zadr_m (zadr_m (zadr_m (zadr_i (by omega)))))))
  have w4 := zwf_s (r := 200) (a := 5) (m := 1) w3 (zadr_m (zadr_m (zadr_m (zadr_m (zadr_m (zadr_m ha)))))) (fun k hk => by rw [show k = 5 by omega, ztg_o ly_200, rf_200_5]; exact (zadr_m (zadr_m (zadr_m (zadr_m (zadr_i (by omega)))))))
  have w5 := zwf_s (r := 200) (a := 9) (m := 1) w4 (zadr_m (zadr_m (zadr_m (zadr_m (zadr_m (zadr_m ha)))))) (fun k hk => by rw [show k = 9 by omega, ztg_o ly_200, rf_200_9]; exact (zadr_m (zadr_m (zadr_m (zadr_i (by omega))))))
  have w6 := zwf_s (r := 200) (a := 10) (m := 1) w5 (zadr_m (zadr_m (zadr_m (zadr_m (zadr_m (zadr_m ha)))))) (fun k hk => by rw [show k = 10 by omega, ztg_o ly_200, rf_200_10]; exact (zadr_m (zadr_m (zadr_m (zadr_i (by omega))))))
  have w7 := zwf_s (r := 200) (a := 12) (m := 1) w6 (zadr_m (zadr_m (zadr_m (zadr_m (zadr_m (zadr_m ha)))))) (fun k hk => by rw [show k = 12 by omega, ztg_o ly_200, rf_200_12]; exact (zadr_m (zadr_m (zadr_i (by omega)))))
  have w8 := zwf_s (r := 200) (a := 13) (m := 1) w7 (zadr_m (zadr_m (zadr_m (zadr_m (zadr_m (zadr_m ha)))))) (fun k hk => by rw [show k = 13 by omega, ztg_o ly_200, rf_200_13]; exact (zadr_m (zadr_m (zadr_i (by omega)))))
  have w9 := zwf_s (r := 200) (a := 14) (m := 1) w8 (zadr_m (zadr_m (zadr_m (zadr_m (zadr_m (zadr_m ha)))))) (fun k hk => by rw [show k = 14 by omega, ztg_o ly_200, rf_200_14]; exact (zadr_m (zadr_m (zadr_i (by omega)))))
  have w10 := zwf_s (r := 200) (a := 15) (m := 1) w9 (zadr_m (zadr_m (zadr_m (zadr_m (zadr_m (zadr_m ha)))))) (fun k hk => by rw [show k = 15 by omega, ztg_o ly_200, rf_200_15]; exact (zadr_m (zadr_m (zadr_i (by omega)))))
  have w11 := zwf_s (r := 200) (a := 16) (m := 1) w10 (zadr_m (zadr_m (zadr_m (zadr_m (zadr_m (zadr_m ha)))))) (fun k hk => by rw [show k = 16 by omega, ztg_o ly_200, rf_200_16]; exact (zadr_m (zadr_m (zadr_i (by omega)))))
  have w12 := zwf_s (r := 200) (a := 17) (m := 1) w11 (zadr_m (zadr_m (zadr_m (zadr_m (zadr_m (zadr_m ha)))))) (fun k hk => by rw [show k = 17 by omega, ztg_o ly_200, rf_200_17]; exact (zadr_m (zadr_m (zadr_i (by omega)))))
  have w13 := zwf_s (r := 200) (a := 19) (m := 1) w12 (zadr_m (zadr_m (zadr_m (zadr_m (zadr_m (zadr_m ha)))))) (fun k hk => by rw [show k = 19 by omega, ztg_o ly_200, rf_200_19]; exact (zadr_m (zadr_i (by omega))))
  have w14 := zwf_s (r := 200) (a := 22) (m := 1) w13 (zadr_m (zadr_m (zadr_m (zadr_m (zadr_m (zadr_m ha)))))) (fun k hk => by rw [show k = 22 by omega, ztg_o ly_200, rf_200_22]; exact (zadr_i (by omega)))
  have w15 := zwf_s (r := 200) (a := 23) (m := 1) w14 (zadr_m (zadr_m (zadr_m (zadr_m (zadr_m (zadr_m ha)))))) (fun k hk => by rw [show k = 23 by omega, ztg_o ly_200, rf_200_23]; exact (zadr_i (by omega)))
  have w16 := zwf_s (r := 200) (a := 24) (m := 1) w15 (zadr_m (zadr_m (zadr_m (zadr_m (zadr_m (zadr_m ha)))))) (fun k hk => by rw [show k = 24 by omega, ztg_o ly_200, rf_200_24]; exact (zadr_i (by omega)))
  have w17 := zwf_s (r := 200) (a := 25) (m := 1) w16 (zadr_m (zadr_m (zadr_m (zadr_m (zadr_m (zadr_m ha)))))) (fun k hk => by rw [show k = 25 by omega, ztg_o ly_200, rf_200_25]; exact (zadr_i (by omega)))
  have w18 := zwf_s (r := 200) (a := 26) (m := 1) w17 (zadr_m (zadr_m (zadr_m (zadr_m (zadr_m (zadr_m ha)))))) (fun k hk => by rw [show k = 26 by omega, ztg_o ly_200, rf_200_26]; exact (zadr_i (by omega)))
  have w19 := zwf_s (r := 200) (a := 27) (m := 1) w18 (zadr_m (zadr_m (zadr_m (zadr_m (zadr_m (zadr_m ha)))))) (fun k hk => by rw [show k = 27 by omega, ztg_o ly_200, rf_200_27]; exact (zadr_i (by omega)))
  have w20 := zwf_s (r := 200) (a := 28) (m := 1) w19 (zadr_m (zadr_m (zadr_m (zadr_m (zadr_m (zadr_m ha)))))) (fun k hk => by rw [show k = 28 by omega, ztg_o ly_200, rf_200_28]; exact (zadr_i (by omega)))
  have w21 := zwf_s (r := 200) (a := 29) (m := 1) w20 (zadr_m (zadr_m (zadr_m (zadr_m (zadr_m (zadr_m ha)))))) (fun k hk => by rw [show k = 29 by omega, ztg_o ly_200, rf_200_29]; exact (zadr_i (by omega)))
  have w22 := zwf_s (r := 200) (a := 30) (m := 1) w21 (zadr_m (zadr_m (zadr_m (zadr_m (zadr_m (zadr_m ha)))))) (fun k hk => by rw [show k = 30 by omega, ztg_o ly_200, rf_200_30]; exact (zadr_i (by omega)))
  have w23 := zwf_s (r := 200) (a := 31) (m := 1) w22 (zadr_m (zadr_m (zadr_m (zadr_m (zadr_m (zadr_m ha)))))) (fun k hk => by rw [show k = 31 by omega, ztg_o ly_200, rf_200_31]; exact (zadr_i (by omega)))
  exact w23
