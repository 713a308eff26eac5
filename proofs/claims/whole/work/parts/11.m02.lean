/-! the class: Party -/
set_option maxHeartbeats 4000000 in
set_option maxRecDepth 100000 in
theorem t_footAt {G : zG} {ad : Int → Nat} {M : zM} {b s h : Int} (hb : 0 ≤ b ∧ b < 7) (hs : s = 0 ∨ s = 1) (hh : 0 ≤ h ∧ h ≤ 11) (hB : zBR (M (5 + b))) : zTI G (zw ad) mi_X1_footAt [zr 1, zi b, zi s, zi h] M (fun x M' => M' = M ∧ x = zfo (M (5 + b)) s h) := by
  refine zTI.of (own := RX1) (ls := [some (zr 1), some (zi b), some (zi s), some (zi h), none]) (by decide +kernel) rfl rfl (Nat.le_of_ble_eq_true rfl) (fun γ ok rt => ?_)
  obtain ⟨b0, b1, b2, b3⟩ := hB
  have hm := zmul_b hh b2
  refine v_aload_0 ok dX1_footAt_0 (n := 1) rfl ?_
  refine v_getR ok fd_X1_11 ly_1 rfl rfl rfl rf_1_0 dX1_footAt_1 (n := 4) rfl ?_
  refine v_iload_1 ok dX1_footAt_4 (n := 5) rfl ?_
  refine v_aald ok ly_2 (by decide) rfl (by omega) (by decide) rfl dX1_footAt_5 (n := 6) rfl ?_
  refine v_astore_4 ok (by decide) rfl dX1_footAt_6 (n := 8) rfl ?_
  refine v_aload_4 ok dX1_footAt_8 (n := 10) rfl ?_
  refine v_iload_2 ok dX1_footAt_10 (n := 11) rfl ?_
  refine v_if_ne ok dX1_footAt_11 (tgt := 18) (by decide) (n := 14) rfl (by omega) (fun c11_1 => ?_) (fun c11_1 => ?_)
  · have c11_1 := c11_1
    obtain rfl : s = 1 := by omega
    refine v_iconst ok dX1_footAt_18 (n := 19) rfl ?_
    refine v_iald ok (lf_bro (by omega)) rfl (by omega) (by decide) dX1_footAt_19 (n := 20) rfl ?_
    refine v_iload_3 ok dX1_footAt_20 (n := 21) rfl ?_
    refine v_aload_4 ok dX1_footAt_21 (n := 23) rfl ?_
    refine v_iconst ok dX1_footAt_23 (n := 24) rfl ?_
    refine v_iald ok (lf_bro (by omega)) rfl (by omega) (by decide) dX1_footAt_24 (n := 25) rfl ?_
    refine v_imul ok dX1_footAt_25 (n := 26) rfl ?_
    refine v_iconst ok dX1_footAt_26 (n := 27) rfl ?_
    refine v_idiv ok (by omega) (by decide) dX1_footAt_27 (n := 28) rfl ?_
    refine v_iadd ok dX1_footAt_28 (n := 29) rfl ?_
    refine v_iret rt dX1_footAt_29 ?_
    exact ⟨rfl, rfl⟩
  · have c11_1 := c11_1
    obtain rfl : s = 0 := by omega
    refine v_iconst ok dX1_footAt_14 (n := 15) rfl ?_
    refine v_goto ok dX1_footAt_15 (n := 19) (by decide) ?_
    refine v_iald ok (lf_bro (by omega)) rfl (by omega) (by decide) dX1_footAt_19 (n := 20) rfl ?_
    refine v_iload_3 ok dX1_footAt_20 (n := 21) rfl ?_
    refine v_aload_4 ok dX1_footAt_21 (n := 23) rfl ?_
    refine v_iconst ok dX1_footAt_23 (n := 24) rfl ?_
    refine v_iald ok (lf_bro (by omega)) rfl (by omega) (by decide) dX1_footAt_24 (n := 25) rfl ?_
    refine v_imul ok dX1_footAt_25 (n := 26) rfl ?_
    refine v_iconst ok dX1_footAt_26 (n := 27) rfl ?_
    refine v_idiv ok (by omega) (by decide) dX1_footAt_27 (n := 28) rfl ?_
    refine v_iadd ok dX1_footAt_28 (n := 29) rfl ?_
    refine v_iret rt dX1_footAt_29 ?_
    exact ⟨rfl, rfl⟩

set_option maxHeartbeats 4000000 in
set_option maxRecDepth 100000 in
theorem t_looseFor {G : zG} {ad : Int → Nat} {M : zM} {q : Int} (hq : 0 ≤ q ∧ q ≤ 3) : zTI G (zw ad) mi_X1_looseFor [zr 1, zi q] M (fun x M' => M' = M ∧ x = zloo q (M 4 0)) := by
  refine zTI.of (own := RX1) (ls := [some (zr 1), some (zi q)]) (by decide +kernel) rfl rfl (Nat.le_of_ble_eq_true rfl) (fun γ ok rt => ?_)
  refine v_iload_1 ok dX1_looseFor_0 (n := 1) rfl ?_
  refine v_iconst ok dX1_looseFor_1 (n := 2) rfl ?_
  refine v_icmp_ne ok dX1_looseFor_2 (tgt := 9) (by decide) (n := 5) rfl (by omega) (by omega) (fun c2_1 => ?_) (fun c2_1 => ?_)
  · have c2_1 := c2_1
    refine v_aload_0 ok dX1_looseFor_9 (n := 10) rfl ?_
    refine v_getR ok fd_X1_19 ly_1 rfl rfl rfl rf_1_2 dX1_looseFor_10 (n := 13) rfl ?_
    refine v_iconst ok dX1_looseFor_13 (n := 14) rfl ?_
    refine v_iald ok ly_4 rfl (by omega) (by decide) dX1_looseFor_14 (n := 15) rfl ?_
    refine v_iret rt dX1_looseFor_15 ?_
    exact ⟨rfl, by unfold zloo; split <;> omega⟩
  · have c2_1 := c2_1
    subst c2_1
    refine v_iconst ok dX1_looseFor_5 (n := 6) rfl ?_
    refine v_goto ok dX1_looseFor_6 (n := 15) (by decide) ?_
    refine v_iret rt dX1_looseFor_15 ?_
    exact ⟨rfl, by unfold zloo; split <;> omega⟩

set_option maxHeartbeats 4000000 in
set_option maxRecDepth 100000 in
theorem t_leastOut {G : zG} {ad : Int → Nat} {M : zM} {s b h : Int} (hs : 0 ≤ s ∧ s < 16) (hb : 0 ≤ b ∧ b < 7) (hh : 0 ≤ h ∧ h ≤ 11) (hB : zBR (M (5 + b))) (hS : zSR (M (12 + s))) (h0 : 0 ≤ M 4 0 ∧ M 4 0 ≤ 6) (h1 : 0 ≤ M 4 1 ∧ M 4 1 ≤ 6) : zTI G (zw ad) mi_X1_leastOut [zr 1, zi s, zi b, zi h] M (fun x M' => M' = M ∧ x = zask (zfo (M (5 + b)) (M (12 + s) 0) h) (M (12 + s) 1) (M (12 + s) 2) (M 4 0) (M 4 1)) := by
  refine zTI.of (own := RX1) (ls := [some (zr 1), some (zi s), some (zi b), some (zi h), none, none, none, none, none, none]) (by decide +kernel) rfl rfl (Nat.le_of_ble_eq_true rfl) (fun γ ok rt => ?_)
  obtain ⟨s0, s1, s2, s3⟩ := hS
  have hf := zfo_b hB (side := M (12 + s) 0) (by omega) hh
  have g1 := zgiv_b (M (12 + s) 2)
  have g3 := zloo_b (k := M (12 + s) 2) h0
  have e1 := zt304 s2
  have g2 := zlto_b (M (12 + s) 2)
  have e2 := zt305 s2
  have g4 := zmax_b 0 ((zfo (M (5 + b)) (M (12 + s) 0) h) - ztab 304 (M (12 + s) 2) - M (12 + s) 1)
  have g5 := zmin_b (M 4 1) (ztab 305 (M (12 + s) 2))
  refine v_aload_0 ok dX1_leastOut_0 (n := 1) rfl ?_
  refine v_getR ok fd_X1_16 ly_1 rfl rfl rfl rf_1_1 dX1_leastOut_1 (n := 4) rfl ?_
  refine v_iload_1 ok dX1_leastOut_4 (n := 5) rfl ?_
  refine v_aald ok ly_3 (by decide) rfl (by omega) (by decide) rfl dX1_leastOut_5 (n := 6) rfl ?_
  refine v_astore_4 ok (by decide) rfl dX1_leastOut_6 (n := 8) rfl ?_
  refine v_aload_4 ok dX1_leastOut_8 (n := 10) rfl ?_
  refine v_iconst ok dX1_leastOut_10 (n := 11) rfl ?_
  refine v_iald ok (lf_sro (by omega)) rfl (by omega) (by decide) dX1_leastOut_11 (n := 12) rfl ?_
  refine v_istore_5 ok (by decide) rfl dX1_leastOut_12 (n := 14) rfl ?_
  refine v_aload_4 ok dX1_leastOut_14 (n := 16) rfl ?_
  refine v_iconst ok dX1_leastOut_16 (n := 17) rfl ?_
  refine v_iald ok (lf_sro (by omega)) rfl (by omega) (by decide) dX1_leastOut_17 (n := 18) rfl ?_
  refine v_istore_6 ok (by decide) rfl dX1_leastOut_18 (n := 20) rfl ?_
  refine v_aload_0 ok dX1_leastOut_20 (n := 21) rfl ?_
  refine v_iload_2 ok dX1_leastOut_21 (n := 22) rfl ?_
  refine v_aload_4 ok dX1_leastOut_22 (n := 24) rfl ?_
  refine v_iconst ok dX1_leastOut_24 (n := 25) rfl ?_
  refine v_iald ok (lf_sro (by omega)) rfl (by omega) (by decide) dX1_leastOut_25 (n := 26) rfl ?_
  refine v_iload_3 ok dX1_leastOut_26 (n := 27) rfl ?_
  refine v_callVI ok (mi := mi_X1_footAt) mc_X1_footAt cv_X1_43 ly_1 rfl rfl rfl (by decide) ⟨Nat.zero_le _, Nat.zero_le _⟩ dX1_leastOut_27 (n := 30) rfl rfl rfl (Nat.le_of_ble_eq_true rfl) (t_footAt hb (by omega) hh hB) (fun x1 M1 h1 => ?_)
  obtain ⟨e1_, rfl⟩ := h1
  subst M1
  refine v_istore_7 ok (by decide) rfl dX1_leastOut_30 (n := 32) rfl ?_
  refine v_iconst ok dX1_leastOut_32 (n := 33) rfl ?_
  refine v_iload_7 ok dX1_leastOut_33 (n := 35) rfl ?_
  refine v_gets ok sd_X1_47 dX1_leastOut_35 (n := 38) rfl ?_
  refine v_iload_6 ok dX1_leastOut_38 (n := 40) rfl ?_
  refine v_tald ok (by decide) (by first | decide | (unfold ztl; simp; omega)) dX1_leastOut_40 (n := 41) rfl ?_
  refine v_isub ok dX1_leastOut_41 (n := 42) rfl ?_
  refine v_iload_5 ok dX1_leastOut_42 (n := 44) rfl ?_
  refine v_isub ok dX1_leastOut_44 (n := 45) rfl ?_
  refine v_max ok mm_X1_50 ⟨by decide, Nat.le_of_ble_eq_true rfl⟩ ⟨Nat.zero_le _, Nat.zero_le _⟩ (by omega) (by omega) dX1_leastOut_45 (n := 48) rfl ?_
  refine v_istore_8 ok (by decide) rfl dX1_leastOut_48 (n := 50) rfl ?_
  refine v_iload_8 ok dX1_leastOut_50 (n := 52) rfl ?_
  refine v_aload_0 ok dX1_leastOut_52 (n := 53) rfl ?_
  refine v_getR ok fd_X1_19 ly_1 rfl rfl rfl rf_1_2 dX1_leastOut_53 (n := 56) rfl ?_
  refine v_iconst ok dX1_leastOut_56 (n := 57) rfl ?_
  refine v_iald ok ly_4 rfl (by omega) (by decide) dX1_leastOut_57 (n := 58) rfl ?_
  refine v_gets ok sd_X1_56 dX1_leastOut_58 (n := 61) rfl ?_
  refine v_iload_6 ok dX1_leastOut_61 (n := 63) rfl ?_
  refine v_tald ok (by decide) (by first | decide | (unfold ztl; simp; omega)) dX1_leastOut_63 (n := 64) rfl ?_
  refine v_min ok mm_X1_59 ⟨by decide, Nat.le_of_ble_eq_true rfl⟩ ⟨Nat.zero_le _, Nat.zero_le _⟩ (by omega) (by omega) dX1_leastOut_64 (n := 67) rfl ?_
  refine v_icmp_gt ok dX1_leastOut_67 (tgt := 91) (by decide) (n := 70) rfl (by omega) (by omega) (fun c67_1 => ?_) (fun c67_1 => ?_)
  · have c67_1 := c67_1
    refine v_iconst ok dX1_leastOut_91 (n := 92) rfl ?_
    refine v_istore_9 ok (by decide) rfl dX1_leastOut_92 (n := 94) rfl ?_
    refine v_iload_9 ok dX1_leastOut_94 (n := 96) rfl ?_
    refine v_if_eq ok dX1_leastOut_96 (tgt := 104) (by decide) (n := 99) rfl (by omega) (fun c96_2 => ?_) (fun c96_2 => ?_)
    · have c96_2 := c96_2
      first
      | (exfalso; omega)
      | skip
        refine v_bipush ok (by decide) dX1_leastOut_104 (n := 106) rfl ?_
        refine v_iret rt dX1_leastOut_106 ?_
        refine ⟨rfl, ?_⟩
        unfold zask
        rw [e1] at *
        rw [e2] at *
        first
        | (rw [if_pos ⟨by omega, by omega⟩])
        | (rw [if_neg (by omega)])
    · have c96_2 := c96_2
      first
      | (exfalso; omega)
      | skip
        refine v_iload_8 ok dX1_leastOut_99 (n := 101) rfl ?_
        refine v_goto ok dX1_leastOut_101 (n := 106) (by decide) ?_
        refine v_iret rt dX1_leastOut_106 ?_
        refine ⟨rfl, ?_⟩
        unfold zask
        rw [e1] at *
        rw [e2] at *
        first
        | (rw [if_pos ⟨by omega, by omega⟩])
        | (rw [if_neg (by omega)])
  · have c67_1 := c67_1
    refine v_iload_5 ok dX1_leastOut_70 (n := 72) rfl ?_
    refine v_iload_8 ok dX1_leastOut_72 (n := 74) rfl ?_
    refine v_iadd ok dX1_leastOut_74 (n := 75) rfl ?_
    refine v_iload_7 ok dX1_leastOut_75 (n := 77) rfl ?_
    refine v_aload_0 ok dX1_leastOut_77 (n := 78) rfl ?_
    refine v_iload_6 ok dX1_leastOut_78 (n := 80) rfl ?_
    refine v_callVI ok (mi := mi_X1_looseFor) mc_X1_looseFor cv_X1_62 ly_1 rfl rfl rfl (by decide) ⟨Nat.zero_le _, Nat.zero_le _⟩ dX1_leastOut_80 (n := 83) rfl rfl rfl (Nat.le_of_ble_eq_true rfl) (t_looseFor s2) (fun x2 M2 h2 => ?_)
    obtain ⟨e2_, rfl⟩ := h2
    subst M2
    refine v_iadd ok dX1_leastOut_83 (n := 84) rfl ?_
    refine v_icmp_gt ok dX1_leastOut_84 (tgt := 91) (by decide) (n := 87) rfl (by omega) (by omega) (fun c84_3 => ?_) (fun c84_3 => ?_)
    · have c84_3 := c84_3
      refine v_iconst ok dX1_leastOut_91 (n := 92) rfl ?_
      refine v_istore_9 ok (by decide) rfl dX1_leastOut_92 (n := 94) rfl ?_
      refine v_iload_9 ok dX1_leastOut_94 (n := 96) rfl ?_
      refine v_if_eq ok dX1_leastOut_96 (tgt := 104) (by decide) (n := 99) rfl (by omega) (fun c96_4 => ?_) (fun c96_4 => ?_)
      · have c96_4 := c96_4
        first
        | (exfalso; omega)
        | skip
          refine v_bipush ok (by decide) dX1_leastOut_104 (n := 106) rfl ?_
          refine v_iret rt dX1_leastOut_106 ?_
          refine ⟨rfl, ?_⟩
          unfold zask
          rw [e1] at *
          rw [e2] at *
          first
          | (rw [if_pos ⟨by omega, by omega⟩])
          | (rw [if_neg (by omega)])
      · have c96_4 := c96_4
        first
        | (exfalso; omega)
        | skip
          refine v_iload_8 ok dX1_leastOut_99 (n := 101) rfl ?_
          refine v_goto ok dX1_leastOut_101 (n := 106) (by decide) ?_
          refine v_iret rt dX1_leastOut_106 ?_
          refine ⟨rfl, ?_⟩
          unfold zask
          rw [e1] at *
          rw [e2] at *
          first
          | (rw [if_pos ⟨by omega, by omega⟩])
          | (rw [if_neg (by omega)])
    · have c84_3 := c84_3
      refine v_iconst ok dX1_leastOut_87 (n := 88) rfl ?_
      refine v_goto ok dX1_leastOut_88 (n := 92) (by decide) ?_
      refine v_istore_9 ok (by decide) rfl dX1_leastOut_92 (n := 94) rfl ?_
      refine v_iload_9 ok dX1_leastOut_94 (n := 96) rfl ?_
      refine v_if_eq ok dX1_leastOut_96 (tgt := 104) (by decide) (n := 99) rfl (by omega) (fun c96_5 => ?_) (fun c96_5 => ?_)
      · have c96_5 := c96_5
        first
        | (exfalso; omega)
        | skip
          refine v_bipush ok (by decide) dX1_leastOut_104 (n := 106) rfl ?_
          refine v_iret rt dX1_leastOut_106 ?_
          refine ⟨rfl, ?_⟩
          unfold zask
          rw [e1] at *
          rw [e2] at *
          first
          | (rw [if_pos ⟨by omega, by omega⟩])
          | (rw [if_neg (by omega)])
      · have c96_5 := c96_5
        first
        | (exfalso; omega)
        | skip
          refine v_iload_8 ok dX1_leastOut_99 (n := 101) rfl ?_
          refine v_goto ok dX1_leastOut_101 (n := 106) (by decide) ?_
          refine v_iret rt dX1_leastOut_106 ?_
          refine ⟨rfl, ?_⟩
          unfold zask
          rw [e1] at *
          rw [e2] at *
          first
          | (rw [if_pos ⟨by omega, by omega⟩])
          | (rw [if_neg (by omega)])

set_option maxHeartbeats 4000000 in
set_option maxRecDepth 100000 in
theorem t_limpOf {G : zG} {ad : Int → Nat} {M : zM} {s b h : Int} (hs : 0 ≤ s ∧ s < 16) (hb : 0 ≤ b ∧ b < 7) (hh : 0 ≤ h ∧ h ≤ 11) (hB : zBR (M (5 + b))) (hS : zSR (M (12 + s))) (h0 : 0 ≤ M 4 0 ∧ M 4 0 ≤ 6) : zTI G (zw ad) mi_X1_limpOf [zr 1, zi b, zi s, zi h] M (fun x M' => M' = M ∧ x = zlim (zfo (M (5 + b)) (M (12 + s) 0) h) (M (12 + s) 1) (M (12 + s) 2) (M 4 0)) := by
  refine zTI.of (own := RX1) (ls := [some (zr 1), some (zi b), some (zi s), some (zi h), none, none, none, none, none]) (by decide +kernel) rfl rfl (Nat.le_of_ble_eq_true rfl) (fun γ ok rt => ?_)
  obtain ⟨s0, s1, s2, s3⟩ := hS
  have hf := zfo_b hB (side := M (12 + s) 0) (by omega) hh
  have g1 := zgiv_b (M (12 + s) 2)
  have g3 := zloo_b (k := M (12 + s) 2) h0
  have e1 := zt304 s2
  refine v_aload_0 ok dX1_limpOf_0 (n := 1) rfl ?_
  refine v_getR ok fd_X1_16 ly_1 rfl rfl rfl rf_1_1 dX1_limpOf_1 (n := 4) rfl ?_
  refine v_iload_2 ok dX1_limpOf_4 (n := 5) rfl ?_
  refine v_aald ok ly_3 (by decide) rfl (by omega) (by decide) rfl dX1_limpOf_5 (n := 6) rfl ?_
  refine v_astore_4 ok (by decide) rfl dX1_limpOf_6 (n := 8) rfl ?_
  refine v_aload_4 ok dX1_limpOf_8 (n := 10) rfl ?_
  refine v_iconst ok dX1_limpOf_10 (n := 11) rfl ?_
  refine v_iald ok (lf_sro (by omega)) rfl (by omega) (by decide) dX1_limpOf_11 (n := 12) rfl ?_
  refine v_istore_5 ok (by decide) rfl dX1_limpOf_12 (n := 14) rfl ?_
  refine v_aload_0 ok dX1_limpOf_14 (n := 15) rfl ?_
  refine v_iload_1 ok dX1_limpOf_15 (n := 16) rfl ?_
  refine v_aload_4 ok dX1_limpOf_16 (n := 18) rfl ?_
  refine v_iconst ok dX1_limpOf_18 (n := 19) rfl ?_
  refine v_iald ok (lf_sro (by omega)) rfl (by omega) (by decide) dX1_limpOf_19 (n := 20) rfl ?_
  refine v_iload_3 ok dX1_limpOf_20 (n := 21) rfl ?_
  refine v_callVI ok (mi := mi_X1_footAt) mc_X1_footAt cv_X1_43 ly_1 rfl rfl rfl (by decide) ⟨Nat.zero_le _, Nat.zero_le _⟩ dX1_limpOf_21 (n := 24) rfl rfl rfl (Nat.le_of_ble_eq_true rfl) (t_footAt hb (by omega) hh hB) (fun x1 M1 h1 => ?_)
  obtain ⟨e1_, rfl⟩ := h1
  subst M1
  refine v_istore_6 ok (by decide) rfl dX1_limpOf_24 (n := 26) rfl ?_
  refine v_iload_6 ok dX1_limpOf_26 (n := 28) rfl ?_
  refine v_aload_0 ok dX1_limpOf_28 (n := 29) rfl ?_
  refine v_aload_4 ok dX1_limpOf_29 (n := 31) rfl ?_
  refine v_iconst ok dX1_limpOf_31 (n := 32) rfl ?_
  refine v_iald ok (lf_sro (by omega)) rfl (by omega) (by decide) dX1_limpOf_32 (n := 33) rfl ?_
  refine v_callVI ok (mi := mi_X1_looseFor) mc_X1_looseFor cv_X1_62 ly_1 rfl rfl rfl (by decide) ⟨Nat.zero_le _, Nat.zero_le _⟩ dX1_limpOf_33 (n := 36) rfl rfl rfl (Nat.le_of_ble_eq_true rfl) (t_looseFor s2) (fun x2 M2 h2 => ?_)
  obtain ⟨e2_, rfl⟩ := h2
  subst M2
  refine v_iadd ok dX1_limpOf_36 (n := 37) rfl ?_
  refine v_istore_7 ok (by decide) rfl dX1_limpOf_37 (n := 39) rfl ?_
  refine v_iload_6 ok dX1_limpOf_39 (n := 41) rfl ?_
  refine v_gets ok sd_X1_47 dX1_limpOf_41 (n := 44) rfl ?_
  refine v_aload_4 ok dX1_limpOf_44 (n := 46) rfl ?_
  refine v_iconst ok dX1_limpOf_46 (n := 47) rfl ?_
  refine v_iald ok (lf_sro (by omega)) rfl (by omega) (by decide) dX1_limpOf_47 (n := 48) rfl ?_
  refine v_tald ok (by decide) (by first | decide | (unfold ztl; simp; omega)) dX1_limpOf_48 (n := 49) rfl ?_
  refine v_isub ok dX1_limpOf_49 (n := 50) rfl ?_
  refine v_istore_8 ok (by decide) rfl dX1_limpOf_50 (n := 52) rfl ?_
  refine v_iload_5 ok dX1_limpOf_52 (n := 54) rfl ?_
  refine v_iload_7 ok dX1_limpOf_54 (n := 56) rfl ?_
  refine v_icmp_le ok dX1_limpOf_56 (tgt := 65) (by decide) (n := 59) rfl (by omega) (by omega) (fun c56_1 => ?_) (fun c56_1 => ?_)
  · have c56_1 := c56_1
    refine v_iload_5 ok dX1_limpOf_65 (n := 67) rfl ?_
    refine v_iload_8 ok dX1_limpOf_67 (n := 69) rfl ?_
    refine v_icmp_ge ok dX1_limpOf_69 (tgt := 80) (by decide) (n := 72) rfl (by omega) (by omega) (fun c69_2 => ?_) (fun c69_2 => ?_)
    · have c69_2 := c69_2
      refine v_iconst ok dX1_limpOf_80 (n := 81) rfl ?_
      refine v_iret rt dX1_limpOf_81 ?_
      refine ⟨rfl, ?_⟩
      unfold zlim
      rw [e1] at *
      first
      | (rw [if_pos (by omega)])
      | (rw [if_neg (by omega), if_pos (by omega)])
      | (rw [if_neg (by omega), if_neg (by omega)])
    · have c69_2 := c69_2
      refine v_iload_5 ok dX1_limpOf_72 (n := 74) rfl ?_
      refine v_iload_8 ok dX1_limpOf_74 (n := 76) rfl ?_
      refine v_isub ok dX1_limpOf_76 (n := 77) rfl ?_
      refine v_goto ok dX1_limpOf_77 (n := 81) (by decide) ?_
      refine v_iret rt dX1_limpOf_81 ?_
      refine ⟨rfl, ?_⟩
      unfold zlim
      rw [e1] at *
      first
      | (rw [if_pos (by omega)])
      | (rw [if_neg (by omega), if_pos (by omega)])
      | (rw [if_neg (by omega), if_neg (by omega)])
  · have c56_1 := c56_1
    refine v_iload_5 ok dX1_limpOf_59 (n := 61) rfl ?_
    refine v_iload_7 ok dX1_limpOf_61 (n := 63) rfl ?_
    refine v_isub ok dX1_limpOf_63 (n := 64) rfl ?_
    refine v_iret rt dX1_limpOf_64 ?_
    refine ⟨rfl, ?_⟩
    unfold zlim
    rw [e1] at *
    first
    | (rw [if_pos (by omega)])
    | (rw [if_neg (by omega), if_pos (by omega)])
    | (rw [if_neg (by omega), if_neg (by omega)])

set_option maxHeartbeats 4000000 in
set_option maxRecDepth 100000 in
theorem t_isThere {G : zG} {ad : Int → Nat} {M : zM} {s d : Int} (hs : 0 ≤ s ∧ s < 16) (hS : zSR (M (12 + s))) (hd : 0 ≤ d ∧ d ≤ 1) : zTI G (zw ad) mi_X1_isThere [zr 1, zi s, zi d] M (fun x M' => M' = M ∧ ((x = 1 ∧ (M (12 + s) 0 = d ∧ M (12 + s) 3 = 0)) ∨ (x = 0 ∧ ¬ (M (12 + s) 0 = d ∧ M (12 + s) 3 = 0)))) := by
  refine zTI.ofZ (own := RX1) (ls := [some (zr 1), some (zi s), some (zi d)]) (by decide +kernel) rfl rfl (Nat.le_of_ble_eq_true rfl) (fun γ ok rt => ?_)
  obtain ⟨s0, s1, s2, s3⟩ := hS
  refine v_aload_0 ok dX1_isThere_0 (n := 1) rfl ?_
  refine v_getR ok fd_X1_16 ly_1 rfl rfl rfl rf_1_1 dX1_isThere_1 (n := 4) rfl ?_
  refine v_iload_1 ok dX1_isThere_4 (n := 5) rfl ?_
  refine v_aald ok ly_3 (by decide) rfl (by omega) (by decide) rfl dX1_isThere_5 (n := 6) rfl ?_
  refine v_iconst ok dX1_isThere_6 (n := 7) rfl ?_
  refine v_iald ok (lf_sro (by omega)) rfl (by omega) (by decide) dX1_isThere_7 (n := 8) rfl ?_
  refine v_iload_2 ok dX1_isThere_8 (n := 9) rfl ?_
  refine v_icmp_ne ok dX1_isThere_9 (tgt := 27) (by decide) (n := 12) rfl (by omega) (by omega) (fun c9_1 => ?_) (fun c9_1 => ?_)
  · have c9_1 := c9_1
    refine v_iconst ok dX1_isThere_27 (n := 28) rfl ?_
    refine v_zret rt dX1_isThere_28 (by omega) ?_
    exact ⟨rfl, by omega⟩
  · have c9_1 := c9_1
    refine v_aload_0 ok dX1_isThere_12 (n := 13) rfl ?_
    refine v_getR ok fd_X1_16 ly_1 rfl rfl rfl rf_1_1 dX1_isThere_13 (n := 16) rfl ?_
    refine v_iload_1 ok dX1_isThere_16 (n := 17) rfl ?_
    refine v_aald ok ly_3 (by decide) rfl (by omega) (by decide) rfl dX1_isThere_17 (n := 18) rfl ?_
    refine v_iconst ok dX1_isThere_18 (n := 19) rfl ?_
    refine v_iald ok (lf_sro (by omega)) rfl (by omega) (by decide) dX1_isThere_19 (n := 20) rfl ?_
    refine v_if_ne ok dX1_isThere_20 (tgt := 27) (by decide) (n := 23) rfl (by omega) (fun c20_2 => ?_) (fun c20_2 => ?_)
    · have c20_2 := c20_2
      refine v_iconst ok dX1_isThere_27 (n := 28) rfl ?_
      refine v_zret rt dX1_isThere_28 (by omega) ?_
      exact ⟨rfl, by omega⟩
    · have c20_2 := c20_2
      refine v_iconst ok dX1_isThere_23 (n := 24) rfl ?_
      refine v_goto ok dX1_isThere_24 (n := 28) (by decide) ?_
      refine v_zret rt dX1_isThere_28 (by omega) ?_
      exact ⟨rfl, by omega⟩

/-- how many of the first n -/
def zcnt (p : Int → Prop) [DecidablePred p] : Nat → Int
  | 0 => 0
  | n + 1 => zcnt p n + (if p n then 1 else 0)
theorem zcnt_b (p : Int → Prop) [DecidablePred p] (n : Nat) : 0 ≤ zcnt p n ∧ zcnt p n ≤ n := by
  induction n with
  | zero => simp [zcnt]
  | succ n ih =>
    unfold zcnt
    split <;> omega
set_option maxHeartbeats 4000000 in
set_option maxRecDepth 100000 in
theorem t_shoesThere {G : zG} {ad : Int → Nat} {M : zM} {d : Int} (hd : 0 ≤ d ∧ d ≤ 1) (hc : 0 ≤ M 1 4 ∧ M 1 4 ≤ 16) (hS : ∀ s, 0 ≤ s ∧ s < M 1 4 → zSR (M (12 + s))) : zTI G (zw ad) mi_X1_shoesThere [zr 1, zi d] M (fun x M' => M' = M ∧ x = zcnt (fun s => M (12 + s) 0 = d ∧ M (12 + s) 3 = 0) (M 1 4).toNat) := by
  refine zTI.of (own := RX1) (ls := [some (zr 1), some (zi d), none, none]) (by decide +kernel) rfl rfl (Nat.le_of_ble_eq_true rfl) (fun γ ok rt => ?_)
  have lp : ∀ (zn : Nat) (i a : Int), zn = (16 - i).toNat → (0 ≤ i ∧ i ≤ M 1 4) → (a = zcnt (fun s => M (12 + s) 0 = d ∧ M (12 + s) 3 = 0) i.toNat) → zVV G γ (zw ad) (0, 0) 4 [some (zr 1), some (zi d), some (zi a), some (zi i)] [] M := by
    refine zrec _ (fun zn ih => ?_)
    intro i a hzn hi ha
    refine v_iload_3 ok dX1_shoesThere_4 (n := 5) rfl ?_
    have hab := zcnt_b (fun s => M (12 + s) 0 = d ∧ M (12 + s) 3 = 0) i.toNat
    refine v_aload_0 ok dX1_shoesThere_5 (n := 6) rfl ?_
    refine v_getI ok fd_X1_27 ly_1 rfl rfl (jI := 4) rfl dX1_shoesThere_6 (n := 9) rfl ?_
    refine v_icmp_ge ok dX1_shoesThere_9 (tgt := 30) (by decide) (n := 12) rfl (by omega) (by omega) (fun c9_1 => ?_) (fun c9_1 => ?_)
    · have c9_1 := c9_1
      refine v_iload_2 ok dX1_shoesThere_30 (n := 31) rfl ?_
      refine v_iret rt dX1_shoesThere_31 ?_
      have e9 : i = M 1 4 := by omega
      subst ha
      rw [e9]
      exact ⟨rfl, rfl⟩
    · have c9_1 := c9_1
      refine v_aload_0 ok dX1_shoesThere_12 (n := 13) rfl ?_
      refine v_iload_3 ok dX1_shoesThere_13 (n := 14) rfl ?_
      refine v_iload_1 ok dX1_shoesThere_14 (n := 15) rfl ?_
      refine v_callVI ok (mi := mi_X1_isThere) mc_X1_isThere cv_X1_66 ly_1 rfl rfl rfl (by decide) ⟨Nat.zero_le _, Nat.zero_le _⟩ dX1_shoesThere_15 (n := 18) rfl rfl rfl (Nat.le_of_ble_eq_true rfl) (t_isThere (by omega) (hS _ (by omega)) hd) (fun x1 M1 h1 => ?_)
      obtain ⟨e1_, h1⟩ := h1
      subst M1
      refine v_if_eq ok dX1_shoesThere_18 (tgt := 24) (by decide) (n := 21) rfl (by omega) (fun c18_2 => ?_) (fun c18_2 => ?_)
      · have c18_2 := c18_2
        refine v_iinc_3 ok (by decide) rfl dX1_shoesThere_24 (n := 27) rfl ?_
        refine v_goto ok dX1_shoesThere_27 (n := 4) (by decide) ?_
        refine ih _ (by omega) _ _ rfl (by omega) ?_
        rw [show (i + 1).toNat = i.toNat + 1 by omega]
        unfold zcnt
        rw [show ((i.toNat : Nat) : Int) = i by omega]
        first
        | (rw [if_pos (by omega)]; omega)
        | (rw [if_neg (by omega)]; omega)
      · have c18_2 := c18_2
        refine v_iinc_2 ok (by decide) rfl dX1_shoesThere_21 (n := 24) rfl ?_
        refine v_iinc_3 ok (by decide) rfl dX1_shoesThere_24 (n := 27) rfl ?_
        refine v_goto ok dX1_shoesThere_27 (n := 4) (by decide) ?_
        refine ih _ (by omega) _ _ rfl (by omega) ?_
        rw [show (i + 1).toNat = i.toNat + 1 by omega]
        unfold zcnt
        rw [show ((i.toNat : Nat) : Int) = i by omega]
        first
        | (rw [if_pos (by omega)]; omega)
        | (rw [if_neg (by omega)]; omega)
  refine v_iconst ok dX1_shoesThere_0 (n := 1) rfl ?_
  refine v_istore_2 ok (by decide) rfl dX1_shoesThere_1 (n := 2) rfl ?_
  refine v_iconst ok dX1_shoesThere_2 (n := 3) rfl ?_
  refine v_istore_3 ok (by decide) rfl dX1_shoesThere_3 (n := 4) rfl ?_
  exact lp _ _ _ rfl (by omega) rfl

