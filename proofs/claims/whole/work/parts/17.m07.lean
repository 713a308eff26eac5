/-! the class: brides and shoes read, whole texts -/
set_option maxHeartbeats 4000000 in
set_option maxRecDepth 100000 in
theorem t_readBride {G : zG} {ad : Int → Nat} {M M1 : zM} {r p : Int} (hl : zlay r = (0, 4, 0)) (hr : 58 ≤ r ∧ r ≤ 73) (hln : 0 ≤ M 55 2 ∧ M 55 2 ≤ 120) (hT : ∀ i, 0 ≤ i ∧ i < M 55 2 → 32 ≤ M 56 i ∧ M 56 i ≤ 126) (hp : 0 ≤ p ∧ p ≤ M 55 2) (h : zTm M r M1 p)  : zTI G (zw ad) mi_X4_readBride [zr 55, zr r] M1 (fun x M' => x = (zrb (M 56) (M 55 2) p).1 ∧ zTm M r M' (zrb (M 56) (M 55 2) p).2.1 ∧ ((zrb (M 56) (M 55 2) p).1 = 1 → ∀ j, 0 ≤ j ∧ j < 4 → M' r j = (zrb (M 56) (M 55 2) p).2.2 j)) := by
  refine zTI.ofZ (own := RX4) (ls := [some (zr 55), some (zr r)]) (by decide +kernel) rfl rfl (Nat.le_of_ble_eq_true rfl) (fun γ ok rt => ?_)
  have s1 := zTm_row hr h 2 0
  have s2 := zTm_row hr s1.1 3 0
  obtain ⟨a1, ha1⟩ : ∃ a, zrn (M 56) (M 55 2) p 20 60 = a := ⟨_, rfl⟩
  have b1 := zrn_b (T := M 56) (p := p) (lo := 20) (hi := 60) hp.2 (by omega)
  rw [ha1] at b1
  obtain ⟨a2, ha2⟩ : ∃ a, zps (M 56) (M 55 2) a1.2 47 = a := ⟨_, rfl⟩
  have b2 := zps_b (T := M 56) (p := a1.2) (c := 47) b1.2.1
  rw [ha2] at b2
  obtain ⟨a3, ha3⟩ : ∃ a, zrn (M 56) (M 55 2) a2.2 20 60 = a := ⟨_, rfl⟩
  have b3 := zrn_b (T := M 56) (p := a2.2) (lo := 20) (hi := 60) b2.2.1 (by omega)
  rw [ha3] at b3
  obtain ⟨a4, ha4⟩ : ∃ a, zps (M 56) (M 55 2) a3.2 115 = a := ⟨_, rfl⟩
  have b4 := zps_b (T := M 56) (p := a3.2) (c := 115) b3.2.1
  rw [ha4] at b4
  obtain ⟨a5, ha5⟩ : ∃ a, zdg (M 56) (M 55 2) a4.2 = a := ⟨_, rfl⟩
  have b5 := zdg_b (T := M 56) (p := a4.2) b4.2.1
  rw [ha5] at b5
  have e300 : ztab 300 0 = 20 ∧ ztab 301 0 = 60 ∧ ztab 300 1 = 20 ∧ ztab 301 1 = 60 ∧ ztab 300 3 = 0 ∧ ztab 301 3 = 11 := by decide
  have tail : ∀ (N : zM) (s q : Int), 0 ≤ s → a3.2 ≤ q ∧ q ≤ M 55 2 → zTm M r N q → N r 0 = a1.1 → N r 1 = a3.1 → N r 2 = s → N r 3 = 0 → 0 ≤ a1.1 → a2.1 ≠ 0 → 0 ≤ a3.1 → zop a4 (zdg (M 56) (M 55 2)) = (s, q) → zVV G γ (zw ad) (0, 0) 78 [some (zr 55), some (zr r)] [] N := by
    intro N s q hs0 hq tN n0 n1 n2 n3 c1 c2 c3 hz
    obtain ⟨a6, ha6⟩ : ∃ a, zps (M 56) (M 55 2) q 104 = a := ⟨_, rfl⟩
    have b6 := zps_b (T := M 56) (p := q) (c := 104) hq.2
    rw [ha6] at b6
    obtain ⟨a7, ha7⟩ : ∃ a, zrn (M 56) (M 55 2) a6.2 0 11 = a := ⟨_, rfl⟩
    have b7 := zrn_b (T := M 56) (p := a6.2) (lo := 0) (hi := 11) b6.2.1 (by omega)
    rw [ha7] at b7
    have hzb : zrb (M 56) (M 55 2) p = zb5 a1.1 a3.1 s (zop a6 (fun q => zrn (M 56) (M 55 2) q 0 11)) := by
      unfold zrb zb1
      rw [ha1, if_neg (by omega)]
      unfold zb2
      rw [ha2, if_neg c2]
      unfold zb3
      rw [ha3, if_neg (by omega), ha4, hz]
      unfold zb4
      rw [if_neg (by show ¬ s < 0; omega), ha6]
    refine v_aload_0 ok dX4_readBride_78 (n := 79) rfl ?_
    refine v_bipush ok (by decide) dX4_readBride_79 (n := 81) rfl ?_
    refine v_callVI ok (mi := mi_X4_isPassed) mc_X4_isPassed cv_X4_46 ly_55 rfl rfl rfl (by decide) ⟨Nat.zero_le _, Nat.zero_le _⟩ dX4_readBride_81 (n := 84) rfl rfl rfl (Nat.le_of_ble_eq_true rfl) ((by have e := t_isPassedR (G := G) (ad := ad) hr (c := 104) (by omega) hln hT (by omega) tN; rw [ha6] at e; exact e)) (fun x6 N6 g6 => ?_)
    obtain ⟨t6, k6, w6⟩ := g6
    refine v_if_eq ok dX4_readBride_84 (tgt := 106) (by decide) (n := 87) rfl (by omega) (fun c84_1 => ?_) (fun c84_1 => ?_)
    · have c84_1 := c84_1
      refine v_iconst ok dX4_readBride_106 (n := 107) rfl ?_
      refine v_goto ok dX4_readBride_107 (n := 111) (by decide) ?_
      refine v_zret rt dX4_readBride_111 (by omega) ?_
      first
      | (have ez : zrb (M 56) (M 55 2) p = (1, a6.2, zrow a1.1 a3.1 s 0) := by
          rw [hzb]
          unfold zop
          rw [if_neg (show ¬ a6.1 = 1 by omega)]
          unfold zb5
          rw [if_neg (by show ¬ (0 : Int) < 0; omega)]
         rw [ez]
         refine ⟨rfl, t6, fun _ j hj => ?_⟩
         rw [k6]
         show _ = zrow _ _ _ _ j
         obtain rfl | rfl | rfl | rfl : j = 0 ∨ j = 1 ∨ j = 2 ∨ j = 3 := by omega
         · exact n0
         · exact n1
         · exact n2
         · exact n3)
      | (have ez : zrb (M 56) (M 55 2) p = (1, a7.2, zrow a1.1 a3.1 s a7.1) := by
          rw [hzb]
          unfold zop
          rw [if_pos (show a6.1 = 1 by omega)]
          show zb5 a1.1 a3.1 s (zrn (M 56) (M 55 2) a6.2 0 11) = _
          rw [ha7]
          unfold zb5
          rw [if_neg (by omega)]
         rw [ez]
         obtain ⟨w7, w8⟩ | ⟨w7, w8, w9⟩ := w7
         · omega
         refine ⟨rfl, t7, fun _ j hj => ?_⟩
         show _ = zrow _ _ _ _ j
         obtain rfl | rfl | rfl | rfl : j = 0 ∨ j = 1 ∨ j = 2 ∨ j = 3 := by omega
         · rw [k7 _ (by omega), k6]; exact n0
         · rw [k7 _ (by omega), k6]; exact n1
         · rw [k7 _ (by omega), k6]; exact n2
         · exact w9)
      | (have ez : zrb (M 56) (M 55 2) p = zno a7.2 := by
          rw [hzb]
          unfold zop
          rw [if_pos (show a6.1 = 1 by omega)]
          show zb5 a1.1 a3.1 s (zrn (M 56) (M 55 2) a6.2 0 11) = _
          rw [ha7]
          unfold zb5
          rw [if_pos (by omega)]
         rw [ez]
         exact ⟨rfl, t7, fun q => by cases q⟩)
    · have c84_1 := c84_1
      refine v_aload_0 ok dX4_readBride_87 (n := 88) rfl ?_
      refine v_aload_1 ok dX4_readBride_88 (n := 89) rfl ?_
      refine v_iconst ok dX4_readBride_89 (n := 90) rfl ?_
      refine v_gets ok sd_X4_50 dX4_readBride_90 (n := 93) rfl ?_
      refine v_iconst ok dX4_readBride_93 (n := 94) rfl ?_
      refine v_tald ok (by decide) (by first | decide | (unfold ztl; simp; omega)) dX4_readBride_94 (n := 95) rfl ?_
      refine v_gets ok sd_X4_53 dX4_readBride_95 (n := 98) rfl ?_
      refine v_iconst ok dX4_readBride_98 (n := 99) rfl ?_
      refine v_tald ok (by decide) (by first | decide | (unfold ztl; simp; omega)) dX4_readBride_99 (n := 100) rfl ?_
      refine v_callVI ok (mi := mi_X4_readNumber) mc_X4_readNumber cv_X4_56 ly_55 rfl rfl rfl (by decide) ⟨Nat.zero_le _, Nat.zero_le _⟩ dX4_readBride_100 (n := 103) rfl rfl rfl (Nat.le_of_ble_eq_true rfl) ((by have e := t_readNumber (G := G) (ad := ad) hl hr (c := 3) (a := ztab 300 3) (b := ztab 301 3) (by omega) (by decide) (by decide) hln hT (by omega) t6; rw [e300.2.2.2.2.1, e300.2.2.2.2.2, ha7] at e; exact e)) (fun x7 N7 g7 => ?_)
      obtain ⟨t7, k7, w7⟩ := g7
      refine v_if_eq ok dX4_readBride_103 (tgt := 110) (by decide) (n := 106) rfl (by omega) (fun c103_2 => ?_) (fun c103_2 => ?_)
      · have c103_2 := c103_2
        refine v_iconst ok dX4_readBride_110 (n := 111) rfl ?_
        refine v_zret rt dX4_readBride_111 (by omega) ?_
        first
        | (have ez : zrb (M 56) (M 55 2) p = (1, a6.2, zrow a1.1 a3.1 s 0) := by
            rw [hzb]
            unfold zop
            rw [if_neg (show ¬ a6.1 = 1 by omega)]
            unfold zb5
            rw [if_neg (by show ¬ (0 : Int) < 0; omega)]
           rw [ez]
           refine ⟨rfl, t6, fun _ j hj => ?_⟩
           rw [k6]
           show _ = zrow _ _ _ _ j
           obtain rfl | rfl | rfl | rfl : j = 0 ∨ j = 1 ∨ j = 2 ∨ j = 3 := by omega
           · exact n0
           · exact n1
           · exact n2
           · exact n3)
        | (have ez : zrb (M 56) (M 55 2) p = (1, a7.2, zrow a1.1 a3.1 s a7.1) := by
            rw [hzb]
            unfold zop
            rw [if_pos (show a6.1 = 1 by omega)]
            show zb5 a1.1 a3.1 s (zrn (M 56) (M 55 2) a6.2 0 11) = _
            rw [ha7]
            unfold zb5
            rw [if_neg (by omega)]
           rw [ez]
           obtain ⟨w7, w8⟩ | ⟨w7, w8, w9⟩ := w7
           · omega
           refine ⟨rfl, t7, fun _ j hj => ?_⟩
           show _ = zrow _ _ _ _ j
           obtain rfl | rfl | rfl | rfl : j = 0 ∨ j = 1 ∨ j = 2 ∨ j = 3 := by omega
           · rw [k7 _ (by omega), k6]; exact n0
           · rw [k7 _ (by omega), k6]; exact n1
           · rw [k7 _ (by omega), k6]; exact n2
           · exact w9)
        | (have ez : zrb (M 56) (M 55 2) p = zno a7.2 := by
            rw [hzb]
            unfold zop
            rw [if_pos (show a6.1 = 1 by omega)]
            show zb5 a1.1 a3.1 s (zrn (M 56) (M 55 2) a6.2 0 11) = _
            rw [ha7]
            unfold zb5
            rw [if_pos (by omega)]
           rw [ez]
           exact ⟨rfl, t7, fun q => by cases q⟩)
      · have c103_2 := c103_2
        refine v_iconst ok dX4_readBride_106 (n := 107) rfl ?_
        refine v_goto ok dX4_readBride_107 (n := 111) (by decide) ?_
        refine v_zret rt dX4_readBride_111 (by omega) ?_
        first
        | (have ez : zrb (M 56) (M 55 2) p = (1, a6.2, zrow a1.1 a3.1 s 0) := by
            rw [hzb]
            unfold zop
            rw [if_neg (show ¬ a6.1 = 1 by omega)]
            unfold zb5
            rw [if_neg (by show ¬ (0 : Int) < 0; omega)]
           rw [ez]
           refine ⟨rfl, t6, fun _ j hj => ?_⟩
           rw [k6]
           show _ = zrow _ _ _ _ j
           obtain rfl | rfl | rfl | rfl : j = 0 ∨ j = 1 ∨ j = 2 ∨ j = 3 := by omega
           · exact n0
           · exact n1
           · exact n2
           · exact n3)
        | (have ez : zrb (M 56) (M 55 2) p = (1, a7.2, zrow a1.1 a3.1 s a7.1) := by
            rw [hzb]
            unfold zop
            rw [if_pos (show a6.1 = 1 by omega)]
            show zb5 a1.1 a3.1 s (zrn (M 56) (M 55 2) a6.2 0 11) = _
            rw [ha7]
            unfold zb5
            rw [if_neg (by omega)]
           rw [ez]
           obtain ⟨w7, w8⟩ | ⟨w7, w8, w9⟩ := w7
           · omega
           refine ⟨rfl, t7, fun _ j hj => ?_⟩
           show _ = zrow _ _ _ _ j
           obtain rfl | rfl | rfl | rfl : j = 0 ∨ j = 1 ∨ j = 2 ∨ j = 3 := by omega
           · rw [k7 _ (by omega), k6]; exact n0
           · rw [k7 _ (by omega), k6]; exact n1
           · rw [k7 _ (by omega), k6]; exact n2
           · exact w9)
        | (have ez : zrb (M 56) (M 55 2) p = zno a7.2 := by
            rw [hzb]
            unfold zop
            rw [if_pos (show a6.1 = 1 by omega)]
            show zb5 a1.1 a3.1 s (zrn (M 56) (M 55 2) a6.2 0 11) = _
            rw [ha7]
            unfold zb5
            rw [if_pos (by omega)]
           rw [ez]
           exact ⟨rfl, t7, fun q => by cases q⟩)
  refine v_aload_1 ok dX4_readBride_0 (n := 1) rfl ?_
  refine v_iconst ok dX4_readBride_1 (n := 2) rfl ?_
  refine v_iconst ok dX4_readBride_2 (n := 3) rfl ?_
  refine v_iast ok hl rfl (by omega) (by decide) dX4_readBride_3 (n := 4) rfl ?_
  refine v_aload_1 ok dX4_readBride_4 (n := 5) rfl ?_
  refine v_iconst ok dX4_readBride_5 (n := 6) rfl ?_
  refine v_iconst ok dX4_readBride_6 (n := 7) rfl ?_
  refine v_iast ok hl rfl (by omega) (by decide) dX4_readBride_7 (n := 8) rfl ?_
  refine v_aload_0 ok dX4_readBride_8 (n := 9) rfl ?_
  refine v_aload_1 ok dX4_readBride_9 (n := 10) rfl ?_
  refine v_iconst ok dX4_readBride_10 (n := 11) rfl ?_
  refine v_gets ok sd_X4_50 dX4_readBride_11 (n := 14) rfl ?_
  refine v_iconst ok dX4_readBride_14 (n := 15) rfl ?_
  refine v_tald ok (by decide) (by first | decide | (unfold ztl; simp; omega)) dX4_readBride_15 (n := 16) rfl ?_
  refine v_gets ok sd_X4_53 dX4_readBride_16 (n := 19) rfl ?_
  refine v_iconst ok dX4_readBride_19 (n := 20) rfl ?_
  refine v_tald ok (by decide) (by first | decide | (unfold ztl; simp; omega)) dX4_readBride_20 (n := 21) rfl ?_
  refine v_callVI ok (mi := mi_X4_readNumber) mc_X4_readNumber cv_X4_56 ly_55 rfl rfl rfl (by decide) ⟨Nat.zero_le _, Nat.zero_le _⟩ dX4_readBride_21 (n := 24) rfl rfl rfl (Nat.le_of_ble_eq_true rfl) ((by have e := t_readNumber (G := G) (ad := ad) hl hr (c := 0) (a := ztab 300 0) (b := ztab 301 0) (by omega) (by decide) (by decide) hln hT hp s2.1; rw [e300.1, e300.2.1, ha1] at e; exact e)) (fun x1 N1 g1 => ?_)
  obtain ⟨t1, k1, w1⟩ := g1
  refine v_if_eq ok dX4_readBride_24 (tgt := 36) (by decide) (n := 27) rfl (by omega) (fun c24_1 => ?_) (fun c24_1 => ?_)
  · have c24_1 := c24_1
    refine v_iconst ok dX4_readBride_36 (n := 37) rfl ?_
    refine v_zret rt dX4_readBride_37 (by omega) ?_
    first
    | (have ez : zrb (M 56) (M 55 2) p = zno a1.2 := by
        unfold zrb zb1
        rw [ha1, if_pos (by omega)]
       rw [ez]
       exact ⟨rfl, t1, fun q => by cases q⟩)
    | (have ez : zrb (M 56) (M 55 2) p = zno a2.2 := by
        unfold zrb zb1
        rw [ha1, if_neg (by omega)]
        unfold zb2
        rw [ha2, if_pos (by omega)]
       rw [ez]
       exact ⟨rfl, t2, fun q => by cases q⟩)
  · have c24_1 := c24_1
    refine v_aload_0 ok dX4_readBride_27 (n := 28) rfl ?_
    refine v_bipush ok (by decide) dX4_readBride_28 (n := 30) rfl ?_
    refine v_callVI ok (mi := mi_X4_isPassed) mc_X4_isPassed cv_X4_46 ly_55 rfl rfl rfl (by decide) ⟨Nat.zero_le _, Nat.zero_le _⟩ dX4_readBride_30 (n := 33) rfl rfl rfl (Nat.le_of_ble_eq_true rfl) ((by have e := t_isPassedR (G := G) (ad := ad) hr (c := 47) (by omega) hln hT (by omega) t1; rw [ha2] at e; exact e)) (fun x2 N2 g2 => ?_)
    obtain ⟨t2, k2, w2⟩ := g2
    refine v_if_ne ok dX4_readBride_33 (tgt := 38) (by decide) (n := 36) rfl (by omega) (fun c33_2 => ?_) (fun c33_2 => ?_)
    · have c33_2 := c33_2
      refine v_aload_0 ok dX4_readBride_38 (n := 39) rfl ?_
      refine v_aload_1 ok dX4_readBride_39 (n := 40) rfl ?_
      refine v_iconst ok dX4_readBride_40 (n := 41) rfl ?_
      refine v_gets ok sd_X4_50 dX4_readBride_41 (n := 44) rfl ?_
      refine v_iconst ok dX4_readBride_44 (n := 45) rfl ?_
      refine v_tald ok (by decide) (by first | decide | (unfold ztl; simp; omega)) dX4_readBride_45 (n := 46) rfl ?_
      refine v_gets ok sd_X4_53 dX4_readBride_46 (n := 49) rfl ?_
      refine v_iconst ok dX4_readBride_49 (n := 50) rfl ?_
      refine v_tald ok (by decide) (by first | decide | (unfold ztl; simp; omega)) dX4_readBride_50 (n := 51) rfl ?_
      refine v_callVI ok (mi := mi_X4_readNumber) mc_X4_readNumber cv_X4_56 ly_55 rfl rfl rfl (by decide) ⟨Nat.zero_le _, Nat.zero_le _⟩ dX4_readBride_51 (n := 54) rfl rfl rfl (Nat.le_of_ble_eq_true rfl) ((by have e := t_readNumber (G := G) (ad := ad) hl hr (c := 1) (a := ztab 300 1) (b := ztab 301 1) (by omega) (by decide) (by decide) hln hT (by omega) t2; rw [e300.2.2.1, e300.2.2.2.1, ha3] at e; exact e)) (fun x3 N3 g3 => ?_)
      obtain ⟨t3, k3, w3⟩ := g3
      refine v_if_ne ok dX4_readBride_54 (tgt := 59) (by decide) (n := 57) rfl (by omega) (fun c54_3 => ?_) (fun c54_3 => ?_)
      · have c54_3 := c54_3
        refine v_aload_0 ok dX4_readBride_59 (n := 60) rfl ?_
        refine v_bipush ok (by decide) dX4_readBride_60 (n := 62) rfl ?_
        refine v_callVI ok (mi := mi_X4_isPassed) mc_X4_isPassed cv_X4_46 ly_55 rfl rfl rfl (by decide) ⟨Nat.zero_le _, Nat.zero_le _⟩ dX4_readBride_62 (n := 65) rfl rfl rfl (Nat.le_of_ble_eq_true rfl) ((by have e := t_isPassedR (G := G) (ad := ad) hr (c := 115) (by omega) hln hT (by omega) t3; rw [ha4] at e; exact e)) (fun x4 N4 g4 => ?_)
        obtain ⟨t4, k4, w4⟩ := g4
        refine v_if_eq ok dX4_readBride_65 (tgt := 78) (by decide) (n := 68) rfl (by omega) (fun c65_4 => ?_) (fun c65_4 => ?_)
        · have c65_4 := c65_4
          first
          | (obtain ⟨w1, w1'⟩ | ⟨w1, w1', w1''⟩ := w1
             · omega
             obtain ⟨w3, w3'⟩ | ⟨w3, w3', w3''⟩ := w3
             · omega
             obtain ⟨w5, w5'⟩ | ⟨w5, w5', w5''⟩ := w5
             · omega
             exact tail N5 a5.1 a5.2 (by omega) (by omega) t5 (by rw [k5 _ (by omega), k4, k3 _ (by omega), k2]; exact w1'') (by rw [k5 _ (by omega), k4]; exact w3'') w5'' (by rw [k5 _ (by omega), k4, k3 _ (by omega), k2, k1 _ (by omega)]; exact s2.2.2) (by omega) (by omega) (by omega) (by unfold zop; rw [if_pos (by omega), ha5]))
          | (obtain ⟨w1, w1'⟩ | ⟨w1, w1', w1''⟩ := w1
             · omega
             obtain ⟨w3, w3'⟩ | ⟨w3, w3', w3''⟩ := w3
             · omega
             exact tail N4 0 a4.2 (by omega) (by omega) t4 (by rw [k4, k3 _ (by omega), k2]; exact w1'') (by rw [k4]; exact w3'') (by rw [k4, k3 _ (by omega), k2, k1 _ (by omega), s2.2.1 _ (by omega)]; exact s1.2.2) (by rw [k4, k3 _ (by omega), k2, k1 _ (by omega)]; exact s2.2.2) (by omega) (by omega) (by omega) (by unfold zop; rw [if_neg (by omega)]))
        · have c65_4 := c65_4
          refine v_aload_0 ok dX4_readBride_68 (n := 69) rfl ?_
          refine v_aload_1 ok dX4_readBride_69 (n := 70) rfl ?_
          refine v_callVI ok (mi := mi_X4_readSwell) mc_X4_readSwell cv_X4_60 ly_55 rfl rfl rfl (by decide) ⟨Nat.zero_le _, Nat.zero_le _⟩ dX4_readBride_70 (n := 73) rfl rfl rfl (Nat.le_of_ble_eq_true rfl) ((by have e := t_readSwell (G := G) (ad := ad) hl hr hln hT (by omega) t4; rw [ha5] at e; exact e)) (fun x5 N5 g5 => ?_)
          obtain ⟨t5, k5, w5⟩ := g5
          refine v_if_ne ok dX4_readBride_73 (tgt := 78) (by decide) (n := 76) rfl (by omega) (fun c73_5 => ?_) (fun c73_5 => ?_)
          · have c73_5 := c73_5
            first
            | (obtain ⟨w1, w1'⟩ | ⟨w1, w1', w1''⟩ := w1
               · omega
               obtain ⟨w3, w3'⟩ | ⟨w3, w3', w3''⟩ := w3
               · omega
               obtain ⟨w5, w5'⟩ | ⟨w5, w5', w5''⟩ := w5
               · omega
               exact tail N5 a5.1 a5.2 (by omega) (by omega) t5 (by rw [k5 _ (by omega), k4, k3 _ (by omega), k2]; exact w1'') (by rw [k5 _ (by omega), k4]; exact w3'') w5'' (by rw [k5 _ (by omega), k4, k3 _ (by omega), k2, k1 _ (by omega)]; exact s2.2.2) (by omega) (by omega) (by omega) (by unfold zop; rw [if_pos (by omega), ha5]))
            | (obtain ⟨w1, w1'⟩ | ⟨w1, w1', w1''⟩ := w1
               · omega
               obtain ⟨w3, w3'⟩ | ⟨w3, w3', w3''⟩ := w3
               · omega
               exact tail N4 0 a4.2 (by omega) (by omega) t4 (by rw [k4, k3 _ (by omega), k2]; exact w1'') (by rw [k4]; exact w3'') (by rw [k4, k3 _ (by omega), k2, k1 _ (by omega), s2.2.1 _ (by omega)]; exact s1.2.2) (by rw [k4, k3 _ (by omega), k2, k1 _ (by omega)]; exact s2.2.2) (by omega) (by omega) (by omega) (by unfold zop; rw [if_neg (by omega)]))
          · have c73_5 := c73_5
            refine v_iconst ok dX4_readBride_76 (n := 77) rfl ?_
            refine v_zret rt dX4_readBride_77 (by omega) ?_
            have ez : zrb (M 56) (M 55 2) p = zno a5.2 := by
              unfold zrb zb1
              rw [ha1, if_neg (by omega)]
              unfold zb2
              rw [ha2, if_neg (by omega)]
              unfold zb3
              rw [ha3, if_neg (by omega), ha4]
              unfold zop
              rw [if_pos (show a4.1 = 1 by omega), ha5]
              unfold zb4
              rw [if_pos (by omega)]
            rw [ez]
            exact ⟨rfl, t5, fun q => by cases q⟩
      · have c54_3 := c54_3
        refine v_iconst ok dX4_readBride_57 (n := 58) rfl ?_
        refine v_zret rt dX4_readBride_58 (by omega) ?_
        have ez : zrb (M 56) (M 55 2) p = zno a3.2 := by
          unfold zrb zb1
          rw [ha1, if_neg (by omega)]
          unfold zb2
          rw [ha2, if_neg (by omega)]
          unfold zb3
          rw [ha3, if_pos (by omega)]
        rw [ez]
        exact ⟨rfl, t3, fun q => by cases q⟩
    · have c33_2 := c33_2
      refine v_iconst ok dX4_readBride_36 (n := 37) rfl ?_
      refine v_zret rt dX4_readBride_37 (by omega) ?_
      first
      | (have ez : zrb (M 56) (M 55 2) p = zno a1.2 := by
          unfold zrb zb1
          rw [ha1, if_pos (by omega)]
         rw [ez]
         exact ⟨rfl, t1, fun q => by cases q⟩)
      | (have ez : zrb (M 56) (M 55 2) p = zno a2.2 := by
          unfold zrb zb1
          rw [ha1, if_neg (by omega)]
          unfold zb2
          rw [ha2, if_pos (by omega)]
         rw [ez]
         exact ⟨rfl, t2, fun q => by cases q⟩)

