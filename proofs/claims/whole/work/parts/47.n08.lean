/-! the model: a shoe is read -/
theorem u_nextByteR {G : zG} {ad : Int → Nat} {M N : zM} {t p : Int} (hln : 0 ≤ M 200 6 ∧ M 200 6 ≤ 120) (hT : ∀ i, 0 ≤ i ∧ i < 120 → 0 ≤ M 206 i ∧ M 206 i ≤ 255) (hp : 0 ≤ p ∧ p ≤ M 200 6) (h : zRm M t N p) : zTI G (zw ad) mi_X8_nextByte [zr 200] N (fun x M' => zRm M t M' (zsk (M 206) (M 200 6) p) ∧ (((zsk (M 206) (M 200 6) p) < M 200 6 ∧ x = M 206 (zsk (M 206) (M 200 6) p)) ∨ (¬ (zsk (M 206) (M 200 6) p) < M 200 6 ∧ x = -1)) ∧ ∀ i, M' 210 i = N 210 i) := by
  obtain ⟨h1, h2, h3, h4⟩ := id h
  have e206 : N 206 = M 206 := h1 206 (by omega) (by omega)
  have e6 : N 200 6 = M 200 6 := h2 6 (by omega)
  refine (u_nextByte (by rw [e6]; exact hln) (by rw [e6, h3]; exact hp) (by rw [e206]; exact hT)).weaken ?_
  rintro x u ⟨rfl, hx⟩
  rw [e206, e6, h3] at hx ⊢
  exact ⟨zRm_s h, hx, fun i => by rw [zset_o (by omega)]⟩
set_option maxHeartbeats 4000000 in
set_option maxRecDepth 100000 in
theorem u_readShoe {G : zG} {ad : Int → Nat} {M N : zM} {t p : Int} (ht : 0 ≤ t ∧ t ≤ 60) (hln : 0 ≤ M 200 6 ∧ M 200 6 ≤ 120) (hT : ∀ i, 0 ≤ i ∧ i < 120 → 0 ≤ M 206 i ∧ M 206 i ≤ 255) (hp : 0 ≤ p ∧ p ≤ M 200 6) (h : zRm M t N p)  : zTI G (zw ad) mi_X8_readShoe [zr 200, zi t] N (fun x M' => x = (zrs (M 206) (M 200 6) p).1 ∧ zRm M t M' (zrs (M 206) (M 200 6) p).2.1 ∧ ((zrs (M 206) (M 200 6) p).1 = 1 → ∀ j, 0 ≤ j ∧ j < 3 → M' 210 (t + j) = (zrs (M 206) (M 200 6) p).2.2 j)) := by
  refine zTI.ofZ (own := RX8) (ls := [some (zr 200), some (zi t), none]) (by decide +kernel) rfl rfl (Nat.le_of_ble_eq_true rfl) (fun γ ok rt => ?_)
  have kb := zsk_bd (T := M 206) hp.2
  have tl : ∀ (N9 : zM) (c d : Int), (zsk (M 206) (M 200 6) p) + 1 ≤ M 200 6 → zRm M t N9 ((zsk (M 206) (M 200 6) p) + 1) → zrs (M 206) (M 200 6) p = zs1 (M 206) (M 200 6) d (zrn (M 206) (M 200 6) ((zsk (M 206) (M 200 6) p) + 1) 20 70) → zVV G γ (zw ad) (0, 0) 45 [some (zr 200), some (zi t), some (zi c)] [zi d, zi t, zr 210] N9 := by
    intro N9 c d hk t9 hz
    obtain ⟨a1, ha1⟩ : ∃ a, zrn (M 206) (M 200 6) ((zsk (M 206) (M 200 6) p) + 1) 20 70 = a := ⟨_, rfl⟩
    have ba1 := zrn_b (T := M 206) (p := (zsk (M 206) (M 200 6) p) + 1) (lo := 20) (hi := 70) hk (by omega)
    rw [ha1] at ba1
    obtain ⟨g1, hg1⟩ : ∃ a, zps (M 206) (M 200 6) a1.2 103 = a := ⟨_, rfl⟩
    have bg1 := zps_b (T := M 206) (p := a1.2) (c := 103) ba1.2.1
    rw [hg1] at bg1
    obtain ⟨g2, hg2⟩ : ∃ a, zps (M 206) (M 200 6) g1.2 118 = a := ⟨_, rfl⟩
    have bg2 := zps_b (T := M 206) (p := g1.2) (c := 118) bg1.2.1
    rw [hg2] at bg2
    obtain ⟨g3, hg3⟩ : ∃ a, zps (M 206) (M 200 6) g2.2 112 = a := ⟨_, rfl⟩
    have bg3 := zps_b (T := M 206) (p := g2.2) (c := 112) bg2.2.1
    rw [hg3] at bg3
    refine v_iast ok ly_210 rfl (by omega) (by decide) dX8_readShoe_45 (n := 46) rfl ?_
    refine v_aload_0 ok dX8_readShoe_46 (n := 47) rfl ?_
    refine v_getR ok fd_X8_22 ly_200 rfl rfl rfl rf_200_9 dX8_readShoe_47 (n := 50) rfl ?_
    refine v_iload_1 ok dX8_readShoe_50 (n := 51) rfl ?_
    refine v_iconst ok dX8_readShoe_51 (n := 52) rfl ?_
    refine v_iadd ok dX8_readShoe_52 (n := 53) rfl ?_
    refine v_aload_0 ok dX8_readShoe_53 (n := 54) rfl ?_
    refine v_bipush ok (by decide) dX8_readShoe_54 (n := 56) rfl ?_
    refine v_bipush ok (by decide) dX8_readShoe_56 (n := 58) rfl ?_
    have c58 := u_readNumberR (G := G) (ad := ad) (a := 20) (b := 70) (by omega) hln hT (by omega) (zRm_w (i := t) (v := d) t9 (by omega))
    rw [ha1] at c58
    refine v_callVI ok (mi := mi_X8_readNumber) mc_X8_readNumber cv_X8_163 ly_200 rfl rfl rfl (by decide) ⟨Nat.zero_le _, Nat.zero_le _⟩ dX8_readShoe_58 (n := 61) rfl rfl rfl (Nat.le_of_ble_eq_true rfl) (c58) (fun x1 N1 y1 => ?_)
    obtain ⟨k1, t1, w1⟩ := y1
    subst k1
    refine v_iast ok ly_210 rfl (by omega) (by decide) dX8_readShoe_61 (n := 62) rfl ?_
    refine v_aload_0 ok dX8_readShoe_62 (n := 63) rfl ?_
    refine v_getR ok fd_X8_22 ly_200 rfl rfl rfl rf_200_9 dX8_readShoe_63 (n := 66) rfl ?_
    refine v_iload_1 ok dX8_readShoe_66 (n := 67) rfl ?_
    refine v_iconst ok dX8_readShoe_67 (n := 68) rfl ?_
    refine v_iadd ok dX8_readShoe_68 (n := 69) rfl ?_
    refine v_aload_0 ok dX8_readShoe_69 (n := 70) rfl ?_
    refine v_getR ok fd_X8_22 ly_200 rfl rfl rfl rf_200_9 dX8_readShoe_70 (n := 73) rfl ?_
    refine v_iload_1 ok dX8_readShoe_73 (n := 74) rfl ?_
    refine v_iconst ok dX8_readShoe_74 (n := 75) rfl ?_
    refine v_iadd ok dX8_readShoe_75 (n := 76) rfl ?_
    refine v_iald ok ly_210 rfl (by omega) (by decide) dX8_readShoe_76 (n := 77) rfl ?_
    first | (simp (disch := omega) only [zset_s]) | (simp (disch := omega) only [zset_n, w4, w3, w2, zset_s]) | (simp (disch := omega) only [zset_n, w3, w2, zset_s]) | (simp (disch := omega) only [zset_n, w2, zset_s]) | (simp (disch := omega) only [zset_n, zset_s]) | skip
    refine v_if_ge ok dX8_readShoe_77 (tgt := 84) (by decide) (n := 80) rfl (by omega) (fun c77_1 => ?_) (fun c77_1 => ?_)
    · have c77_1 := c77_1
      refine v_aload_0 ok dX8_readShoe_84 (n := 85) rfl ?_
      refine v_bipush ok (by decide) dX8_readShoe_85 (n := 87) rfl ?_
      have c87 := u_takesR (G := G) (ad := ad) (c := 103) (by omega) hln hT (by omega) (zRm_w (i := t + 1) (v := a1.1) t1 (by omega))
      rw [hg1] at c87
      refine v_callVI ok (mi := mi_X8_takes) mc_X8_takes cv_X8_167 ly_200 rfl rfl rfl (by decide) ⟨Nat.zero_le _, Nat.zero_le _⟩ dX8_readShoe_87 (n := 90) rfl rfl rfl (Nat.le_of_ble_eq_true rfl) (c87) (fun x2 N2 y2 => ?_)
      obtain ⟨k2, t2, w2⟩ := y2
      subst k2
      refine v_if_eq ok dX8_readShoe_90 (tgt := 97) (by decide) (n := 93) rfl (by omega) (fun c90_2 => ?_) (fun c90_2 => ?_)
      · have c90_2 := c90_2
        refine v_aload_0 ok dX8_readShoe_97 (n := 98) rfl ?_
        refine v_bipush ok (by decide) dX8_readShoe_98 (n := 100) rfl ?_
        have c100 := u_takesR (G := G) (ad := ad) (c := 118) (by omega) hln hT (by omega) t2
        rw [hg2] at c100
        refine v_callVI ok (mi := mi_X8_takes) mc_X8_takes cv_X8_167 ly_200 rfl rfl rfl (by decide) ⟨Nat.zero_le _, Nat.zero_le _⟩ dX8_readShoe_100 (n := 103) rfl rfl rfl (Nat.le_of_ble_eq_true rfl) (c100) (fun x3 N3 y3 => ?_)
        obtain ⟨k3, t3, w3⟩ := y3
        subst k3
        refine v_if_eq ok dX8_readShoe_103 (tgt := 110) (by decide) (n := 106) rfl (by omega) (fun c103_3 => ?_) (fun c103_3 => ?_)
        · have c103_3 := c103_3
          refine v_aload_0 ok dX8_readShoe_110 (n := 111) rfl ?_
          refine v_bipush ok (by decide) dX8_readShoe_111 (n := 113) rfl ?_
          have c113 := u_takesR (G := G) (ad := ad) (c := 112) (by omega) hln hT (by omega) t3
          rw [hg3] at c113
          refine v_callVI ok (mi := mi_X8_takes) mc_X8_takes cv_X8_167 ly_200 rfl rfl rfl (by decide) ⟨Nat.zero_le _, Nat.zero_le _⟩ dX8_readShoe_113 (n := 116) rfl rfl rfl (Nat.le_of_ble_eq_true rfl) (c113) (fun x4 N4 y4 => ?_)
          obtain ⟨k4, t4, w4⟩ := y4
          subst k4
          refine v_if_eq ok dX8_readShoe_116 (tgt := 123) (by decide) (n := 119) rfl (by omega) (fun c116_4 => ?_) (fun c116_4 => ?_)
          · have c116_4 := c116_4
            refine v_iconst ok dX8_readShoe_123 (n := 124) rfl ?_
            refine v_iast ok ly_210 rfl (by omega) (by decide) dX8_readShoe_124 (n := 125) rfl ?_
            refine v_aload_0 ok dX8_readShoe_125 (n := 126) rfl ?_
            refine v_getR ok fd_X8_22 ly_200 rfl rfl rfl rf_200_9 dX8_readShoe_126 (n := 129) rfl ?_
            refine v_iload_1 ok dX8_readShoe_129 (n := 130) rfl ?_
            refine v_iconst ok dX8_readShoe_130 (n := 131) rfl ?_
            refine v_iadd ok dX8_readShoe_131 (n := 132) rfl ?_
            refine v_iald ok ly_210 rfl (by omega) (by decide) dX8_readShoe_132 (n := 133) rfl ?_
            first | (simp (disch := omega) only [zset_s]) | (simp (disch := omega) only [zset_n, w4, w3, w2, zset_s]) | (simp (disch := omega) only [zset_n, w3, w2, zset_s]) | (simp (disch := omega) only [zset_n, w2, zset_s]) | (simp (disch := omega) only [zset_n, zset_s]) | skip
            refine v_if_lt ok dX8_readShoe_133 (tgt := 140) (by decide) (n := 136) rfl (by omega) (fun c133_5 => ?_) (fun c133_5 => ?_)
            · have c133_5 := c133_5
              first
              | (exfalso; omega)
              | skip
                refine v_iconst ok dX8_readShoe_140 (n := 141) rfl ?_
                refine v_zret rt dX8_readShoe_141 (by omega) ?_
                first
                | (have ez : zrs (M 206) (M 200 6) p = zno a1.2 := by
                     rw [hz, ha1]
                     unfold zs1
                     rw [if_pos (by omega)]
                   rw [ez]
                   exact ⟨rfl, zRm_w (zRm_w t1 (by omega)) (by omega), fun q => by cases q⟩)
                | (have ez : zrs (M 206) (M 200 6) p = (1, g1.2, zrow d a1.1 1 0) := by
                     rw [hz, ha1]
                     unfold zs1
                     rw [if_neg (by omega), hg1]
                     unfold zs2
                     rw [if_pos (by omega)]
                   rw [ez]
                   exact ⟨rfl, zRm_w t2 (by omega), fun _ j hj => by
                   obtain rfl | rfl | rfl : j = 0 ∨ j = 1 ∨ j = 2 := by omega
                   · show _ = d
                     simp (disch := omega) only [Int.add_zero, zset_s, zset_n, w2, w1]
                   · show _ = a1.1
                     simp (disch := omega) only [zset_s, zset_n, w2, w1]
                   · show _ = 1
                     simp (disch := omega) only [zset_s, zset_n, w2, w1]⟩)
                | (have ez : zrs (M 206) (M 200 6) p = (1, g2.2, zrow d a1.1 2 0) := by
                     rw [hz, ha1]
                     unfold zs1
                     rw [if_neg (by omega), hg1]
                     unfold zs2
                     rw [if_neg (by omega), hg2]
                     unfold zs3
                     rw [if_pos (by omega)]
                   rw [ez]
                   exact ⟨rfl, zRm_w t3 (by omega), fun _ j hj => by
                   obtain rfl | rfl | rfl : j = 0 ∨ j = 1 ∨ j = 2 := by omega
                   · show _ = d
                     simp (disch := omega) only [Int.add_zero, zset_s, zset_n, w3, w2, w1]
                   · show _ = a1.1
                     simp (disch := omega) only [zset_s, zset_n, w3, w2, w1]
                   · show _ = 2
                     simp (disch := omega) only [zset_s, zset_n, w3, w2, w1]⟩)
                | (have ez : zrs (M 206) (M 200 6) p = (1, g3.2, zrow d a1.1 3 0) := by
                     rw [hz, ha1]
                     unfold zs1
                     rw [if_neg (by omega), hg1]
                     unfold zs2
                     rw [if_neg (by omega), hg2]
                     unfold zs3
                     rw [if_neg (by omega), hg3]
                     unfold zs4
                     rw [if_pos (by omega)]
                   rw [ez]
                   exact ⟨rfl, zRm_w t4 (by omega), fun _ j hj => by
                   obtain rfl | rfl | rfl : j = 0 ∨ j = 1 ∨ j = 2 := by omega
                   · show _ = d
                     simp (disch := omega) only [Int.add_zero, zset_s, zset_n, w4, w3, w2, w1]
                   · show _ = a1.1
                     simp (disch := omega) only [zset_s, zset_n, w4, w3, w2, w1]
                   · show _ = 3
                     simp (disch := omega) only [zset_s, zset_n, w4, w3, w2, w1]⟩)
                | (have ez : zrs (M 206) (M 200 6) p = (1, g3.2, zrow d a1.1 0 0) := by
                     rw [hz, ha1]
                     unfold zs1
                     rw [if_neg (by omega), hg1]
                     unfold zs2
                     rw [if_neg (by omega), hg2]
                     unfold zs3
                     rw [if_neg (by omega), hg3]
                     unfold zs4
                     rw [if_neg (by omega)]
                   rw [ez]
                   exact ⟨rfl, zRm_w t4 (by omega), fun _ j hj => by
                   obtain rfl | rfl | rfl : j = 0 ∨ j = 1 ∨ j = 2 := by omega
                   · show _ = d
                     simp (disch := omega) only [Int.add_zero, zset_s, zset_n, w4, w3, w2, w1]
                   · show _ = a1.1
                     simp (disch := omega) only [zset_s, zset_n, w4, w3, w2, w1]
                   · show _ = 0
                     simp (disch := omega) only [zset_s, zset_n, w4, w3, w2, w1]⟩)
            · have c133_5 := c133_5
              first
              | (exfalso; omega)
              | skip
                refine v_iconst ok dX8_readShoe_136 (n := 137) rfl ?_
                refine v_goto ok dX8_readShoe_137 (n := 141) (by decide) ?_
                refine v_zret rt dX8_readShoe_141 (by omega) ?_
                first
                | (have ez : zrs (M 206) (M 200 6) p = zno a1.2 := by
                     rw [hz, ha1]
                     unfold zs1
                     rw [if_pos (by omega)]
                   rw [ez]
                   exact ⟨rfl, zRm_w (zRm_w t1 (by omega)) (by omega), fun q => by cases q⟩)
                | (have ez : zrs (M 206) (M 200 6) p = (1, g1.2, zrow d a1.1 1 0) := by
                     rw [hz, ha1]
                     unfold zs1
                     rw [if_neg (by omega), hg1]
                     unfold zs2
                     rw [if_pos (by omega)]
                   rw [ez]
                   exact ⟨rfl, zRm_w t2 (by omega), fun _ j hj => by
                   obtain rfl | rfl | rfl : j = 0 ∨ j = 1 ∨ j = 2 := by omega
                   · show _ = d
                     simp (disch := omega) only [Int.add_zero, zset_s, zset_n, w2, w1]
                   · show _ = a1.1
                     simp (disch := omega) only [zset_s, zset_n, w2, w1]
                   · show _ = 1
                     simp (disch := omega) only [zset_s, zset_n, w2, w1]⟩)
                | (have ez : zrs (M 206) (M 200 6) p = (1, g2.2, zrow d a1.1 2 0) := by
                     rw [hz, ha1]
                     unfold zs1
                     rw [if_neg (by omega), hg1]
                     unfold zs2
                     rw [if_neg (by omega), hg2]
                     unfold zs3
                     rw [if_pos (by omega)]
                   rw [ez]
                   exact ⟨rfl, zRm_w t3 (by omega), fun _ j hj => by
                   obtain rfl | rfl | rfl : j = 0 ∨ j = 1 ∨ j = 2 := by omega
                   · show _ = d
                     simp (disch := omega) only [Int.add_zero, zset_s, zset_n, w3, w2, w1]
                   · show _ = a1.1
                     simp (disch := omega) only [zset_s, zset_n, w3, w2, w1]
                   · show _ = 2
                     simp (disch := omega) only [zset_s, zset_n, w3, w2, w1]⟩)
                | (have ez : zrs (M 206) (M 200 6) p = (1, g3.2, zrow d a1.1 3 0) := by
                     rw [hz, ha1]
                     unfold zs1
                     rw [if_neg (by omega), hg1]
                     unfold zs2
                     rw [if_neg (by omega), hg2]
                     unfold zs3
                     rw [if_neg (by omega), hg3]
                     unfold zs4
                     rw [if_pos (by omega)]
                   rw [ez]
                   exact ⟨rfl, zRm_w t4 (by omega), fun _ j hj => by
                   obtain rfl | rfl | rfl : j = 0 ∨ j = 1 ∨ j = 2 := by omega
                   · show _ = d
                     simp (disch := omega) only [Int.add_zero, zset_s, zset_n, w4, w3, w2, w1]
                   · show _ = a1.1
                     simp (disch := omega) only [zset_s, zset_n, w4, w3, w2, w1]
                   · show _ = 3
                     simp (disch := omega) only [zset_s, zset_n, w4, w3, w2, w1]⟩)
                | (have ez : zrs (M 206) (M 200 6) p = (1, g3.2, zrow d a1.1 0 0) := by
                     rw [hz, ha1]
                     unfold zs1
                     rw [if_neg (by omega), hg1]
                     unfold zs2
                     rw [if_neg (by omega), hg2]
                     unfold zs3
                     rw [if_neg (by omega), hg3]
                     unfold zs4
                     rw [if_neg (by omega)]
                   rw [ez]
                   exact ⟨rfl, zRm_w t4 (by omega), fun _ j hj => by
                   obtain rfl | rfl | rfl : j = 0 ∨ j = 1 ∨ j = 2 := by omega
                   · show _ = d
                     simp (disch := omega) only [Int.add_zero, zset_s, zset_n, w4, w3, w2, w1]
                   · show _ = a1.1
                     simp (disch := omega) only [zset_s, zset_n, w4, w3, w2, w1]
                   · show _ = 0
                     simp (disch := omega) only [zset_s, zset_n, w4, w3, w2, w1]⟩)
          · have c116_4 := c116_4
            refine v_iconst ok dX8_readShoe_119 (n := 120) rfl ?_
            refine v_goto ok dX8_readShoe_120 (n := 124) (by decide) ?_
            refine v_iast ok ly_210 rfl (by omega) (by decide) dX8_readShoe_124 (n := 125) rfl ?_
            refine v_aload_0 ok dX8_readShoe_125 (n := 126) rfl ?_
            refine v_getR ok fd_X8_22 ly_200 rfl rfl rfl rf_200_9 dX8_readShoe_126 (n := 129) rfl ?_
            refine v_iload_1 ok dX8_readShoe_129 (n := 130) rfl ?_
            refine v_iconst ok dX8_readShoe_130 (n := 131) rfl ?_
            refine v_iadd ok dX8_readShoe_131 (n := 132) rfl ?_
            refine v_iald ok ly_210 rfl (by omega) (by decide) dX8_readShoe_132 (n := 133) rfl ?_
            first | (simp (disch := omega) only [zset_s]) | (simp (disch := omega) only [zset_n, w4, w3, w2, zset_s]) | (simp (disch := omega) only [zset_n, w3, w2, zset_s]) | (simp (disch := omega) only [zset_n, w2, zset_s]) | (simp (disch := omega) only [zset_n, zset_s]) | skip
            refine v_if_lt ok dX8_readShoe_133 (tgt := 140) (by decide) (n := 136) rfl (by omega) (fun c133_6 => ?_) (fun c133_6 => ?_)
            · have c133_6 := c133_6
              first
              | (exfalso; omega)
              | skip
                refine v_iconst ok dX8_readShoe_140 (n := 141) rfl ?_
                refine v_zret rt dX8_readShoe_141 (by omega) ?_
                first
                | (have ez : zrs (M 206) (M 200 6) p = zno a1.2 := by
                     rw [hz, ha1]
                     unfold zs1
                     rw [if_pos (by omega)]
                   rw [ez]
                   exact ⟨rfl, zRm_w (zRm_w t1 (by omega)) (by omega), fun q => by cases q⟩)
                | (have ez : zrs (M 206) (M 200 6) p = (1, g1.2, zrow d a1.1 1 0) := by
                     rw [hz, ha1]
                     unfold zs1
                     rw [if_neg (by omega), hg1]
                     unfold zs2
                     rw [if_pos (by omega)]
                   rw [ez]
                   exact ⟨rfl, zRm_w t2 (by omega), fun _ j hj => by
                   obtain rfl | rfl | rfl : j = 0 ∨ j = 1 ∨ j = 2 := by omega
                   · show _ = d
                     simp (disch := omega) only [Int.add_zero, zset_s, zset_n, w2, w1]
                   · show _ = a1.1
                     simp (disch := omega) only [zset_s, zset_n, w2, w1]
                   · show _ = 1
                     simp (disch := omega) only [zset_s, zset_n, w2, w1]⟩)
                | (have ez : zrs (M 206) (M 200 6) p = (1, g2.2, zrow d a1.1 2 0) := by
                     rw [hz, ha1]
                     unfold zs1
                     rw [if_neg (by omega), hg1]
                     unfold zs2
                     rw [if_neg (by omega), hg2]
                     unfold zs3
                     rw [if_pos (by omega)]
                   rw [ez]
                   exact ⟨rfl, zRm_w t3 (by omega), fun _ j hj => by
                   obtain rfl | rfl | rfl : j = 0 ∨ j = 1 ∨ j = 2 := by omega
                   · show _ = d
                     simp (disch := omega) only [Int.add_zero, zset_s, zset_n, w3, w2, w1]
                   · show _ = a1.1
                     simp (disch := omega) only [zset_s, zset_n, w3, w2, w1]
                   · show _ = 2
                     simp (disch := omega) only [zset_s, zset_n, w3, w2, w1]⟩)
                | (have ez : zrs (M 206) (M 200 6) p = (1, g3.2, zrow d a1.1 3 0) := by
                     rw [hz, ha1]
                     unfold zs1
                     rw [if_neg (by omega), hg1]
                     unfold zs2
                     rw [if_neg (by omega), hg2]
                     unfold zs3
                     rw [if_neg (by omega), hg3]
                     unfold zs4
                     rw [if_pos (by omega)]
                   rw [ez]
                   exact ⟨rfl, zRm_w t4 (by omega), fun _ j hj => by
                   obtain rfl | rfl | rfl : j = 0 ∨ j = 1 ∨ j = 2 := by omega
                   · show _ = d
                     simp (disch := omega) only [Int.add_zero, zset_s, zset_n, w4, w3, w2, w1]
                   · show _ = a1.1
                     simp (disch := omega) only [zset_s, zset_n, w4, w3, w2, w1]
                   · show _ = 3
                     simp (disch := omega) only [zset_s, zset_n, w4, w3, w2, w1]⟩)
                | (have ez : zrs (M 206) (M 200 6) p = (1, g3.2, zrow d a1.1 0 0) := by
                     rw [hz, ha1]
                     unfold zs1
                     rw [if_neg (by omega), hg1]
                     unfold zs2
                     rw [if_neg (by omega), hg2]
                     unfold zs3
                     rw [if_neg (by omega), hg3]
                     unfold zs4
                     rw [if_neg (by omega)]
                   rw [ez]
                   exact ⟨rfl, zRm_w t4 (by omega), fun _ j hj => by
                   obtain rfl | rfl | rfl : j = 0 ∨ j = 1 ∨ j = 2 := by omega
                   · show _ = d
                     simp (disch := omega) only [Int.add_zero, zset_s, zset_n, w4, w3, w2, w1]
                   · show _ = a1.1
                     simp (disch := omega) only [zset_s, zset_n, w4, w3, w2, w1]
                   · show _ = 0
                     simp (disch := omega) only [zset_s, zset_n, w4, w3, w2, w1]⟩)
            · have c133_6 := c133_6
              first
              | (exfalso; omega)
              | skip
                refine v_iconst ok dX8_readShoe_136 (n := 137) rfl ?_
                refine v_goto ok dX8_readShoe_137 (n := 141) (by decide) ?_
                refine v_zret rt dX8_readShoe_141 (by omega) ?_
                first
                | (have ez : zrs (M 206) (M 200 6) p = zno a1.2 := by
                     rw [hz, ha1]
                     unfold zs1
                     rw [if_pos (by omega)]
                   rw [ez]
                   exact ⟨rfl, zRm_w (zRm_w t1 (by omega)) (by omega), fun q => by cases q⟩)
                | (have ez : zrs (M 206) (M 200 6) p = (1, g1.2, zrow d a1.1 1 0) := by
                     rw [hz, ha1]
                     unfold zs1
                     rw [if_neg (by omega), hg1]
                     unfold zs2
                     rw [if_pos (by omega)]
                   rw [ez]
                   exact ⟨rfl, zRm_w t2 (by omega), fun _ j hj => by
                   obtain rfl | rfl | rfl : j = 0 ∨ j = 1 ∨ j = 2 := by omega
                   · show _ = d
                     simp (disch := omega) only [Int.add_zero, zset_s, zset_n, w2, w1]
                   · show _ = a1.1
                     simp (disch := omega) only [zset_s, zset_n, w2, w1]
                   · show _ = 1
                     simp (disch := omega) only [zset_s, zset_n, w2, w1]⟩)
                | (have ez : zrs (M 206) (M 200 6) p = (1, g2.2, zrow d a1.1 2 0) := by
                     rw [hz, ha1]
                     unfold zs1
                     rw [if_neg (by omega), hg1]
                     unfold zs2
                     rw [if_neg (by omega), hg2]
                     unfold zs3
                     rw [if_pos (by omega)]
                   rw [ez]
                   exact ⟨rfl, zRm_w t3 (by omega), fun _ j hj => by
                   obtain rfl | rfl | rfl : j = 0 ∨ j = 1 ∨ j = 2 := by omega
                   · show _ = d
                     simp (disch := omega) only [Int.add_zero, zset_s, zset_n, w3, w2, w1]
                   · show _ = a1.1
                     simp (disch := omega) only [zset_s, zset_n, w3, w2, w1]
                   · show _ = 2
                     simp (disch := omega) only [zset_s, zset_n, w3, w2, w1]⟩)
                | (have ez : zrs (M 206) (M 200 6) p = (1, g3.2, zrow d a1.1 3 0) := by
                     rw [hz, ha1]
                     unfold zs1
                     rw [if_neg (by omega), hg1]
                     unfold zs2
                     rw [if_neg (by omega), hg2]
                     unfold zs3
                     rw [if_neg (by omega), hg3]
                     unfold zs4
                     rw [if_pos (by omega)]
                   rw [ez]
                   exact ⟨rfl, zRm_w t4 (by omega), fun _ j hj => by
                   obtain rfl | rfl | rfl : j = 0 ∨ j = 1 ∨ j = 2 := by omega
                   · show _ = d
                     simp (disch := omega) only [Int.add_zero, zset_s, zset_n, w4, w3, w2, w1]
                   · show _ = a1.1
                     simp (disch := omega) only [zset_s, zset_n, w4, w3, w2, w1]
                   · show _ = 3
                     simp (disch := omega) only [zset_s, zset_n, w4, w3, w2, w1]⟩)
                | (have ez : zrs (M 206) (M 200 6) p = (1, g3.2, zrow d a1.1 0 0) := by
                     rw [hz, ha1]
                     unfold zs1
                     rw [if_neg (by omega), hg1]
                     unfold zs2
                     rw [if_neg (by omega), hg2]
                     unfold zs3
                     rw [if_neg (by omega), hg3]
                     unfold zs4
                     rw [if_neg (by omega)]
                   rw [ez]
                   exact ⟨rfl, zRm_w t4 (by omega), fun _ j hj => by
                   obtain rfl | rfl | rfl : j = 0 ∨ j = 1 ∨ j = 2 := by omega
                   · show _ = d
                     simp (disch := omega) only [Int.add_zero, zset_s, zset_n, w4, w3, w2, w1]
                   · show _ = a1.1
                     simp (disch := omega) only [zset_s, zset_n, w4, w3, w2, w1]
                   · show _ = 0
                     simp (disch := omega) only [zset_s, zset_n, w4, w3, w2, w1]⟩)
        · have c103_3 := c103_3
          refine v_iconst ok dX8_readShoe_106 (n := 107) rfl ?_
          refine v_goto ok dX8_readShoe_107 (n := 124) (by decide) ?_
          refine v_iast ok ly_210 rfl (by omega) (by decide) dX8_readShoe_124 (n := 125) rfl ?_
          refine v_aload_0 ok dX8_readShoe_125 (n := 126) rfl ?_
          refine v_getR ok fd_X8_22 ly_200 rfl rfl rfl rf_200_9 dX8_readShoe_126 (n := 129) rfl ?_
          refine v_iload_1 ok dX8_readShoe_129 (n := 130) rfl ?_
          refine v_iconst ok dX8_readShoe_130 (n := 131) rfl ?_
          refine v_iadd ok dX8_readShoe_131 (n := 132) rfl ?_
          refine v_iald ok ly_210 rfl (by omega) (by decide) dX8_readShoe_132 (n := 133) rfl ?_
          first | (simp (disch := omega) only [zset_s]) | (simp (disch := omega) only [zset_n, w4, w3, w2, zset_s]) | (simp (disch := omega) only [zset_n, w3, w2, zset_s]) | (simp (disch := omega) only [zset_n, w2, zset_s]) | (simp (disch := omega) only [zset_n, zset_s]) | skip
          refine v_if_lt ok dX8_readShoe_133 (tgt := 140) (by decide) (n := 136) rfl (by omega) (fun c133_7 => ?_) (fun c133_7 => ?_)
          · have c133_7 := c133_7
            first
            | (exfalso; omega)
            | skip
              refine v_iconst ok dX8_readShoe_140 (n := 141) rfl ?_
              refine v_zret rt dX8_readShoe_141 (by omega) ?_
              first
              | (have ez : zrs (M 206) (M 200 6) p = zno a1.2 := by
                   rw [hz, ha1]
                   unfold zs1
                   rw [if_pos (by omega)]
                 rw [ez]
                 exact ⟨rfl, zRm_w (zRm_w t1 (by omega)) (by omega), fun q => by cases q⟩)
              | (have ez : zrs (M 206) (M 200 6) p = (1, g1.2, zrow d a1.1 1 0) := by
                   rw [hz, ha1]
                   unfold zs1
                   rw [if_neg (by omega), hg1]
                   unfold zs2
                   rw [if_pos (by omega)]
                 rw [ez]
                 exact ⟨rfl, zRm_w t2 (by omega), fun _ j hj => by
                 obtain rfl | rfl | rfl : j = 0 ∨ j = 1 ∨ j = 2 := by omega
                 · show _ = d
                   simp (disch := omega) only [Int.add_zero, zset_s, zset_n, w2, w1]
                 · show _ = a1.1
                   simp (disch := omega) only [zset_s, zset_n, w2, w1]
                 · show _ = 1
                   simp (disch := omega) only [zset_s, zset_n, w2, w1]⟩)
              | (have ez : zrs (M 206) (M 200 6) p = (1, g2.2, zrow d a1.1 2 0) := by
                   rw [hz, ha1]
                   unfold zs1
                   rw [if_neg (by omega), hg1]
                   unfold zs2
                   rw [if_neg (by omega), hg2]
                   unfold zs3
                   rw [if_pos (by omega)]
                 rw [ez]
                 exact ⟨rfl, zRm_w t3 (by omega), fun _ j hj => by
                 obtain rfl | rfl | rfl : j = 0 ∨ j = 1 ∨ j = 2 := by omega
                 · show _ = d
                   simp (disch := omega) only [Int.add_zero, zset_s, zset_n, w3, w2, w1]
                 · show _ = a1.1
                   simp (disch := omega) only [zset_s, zset_n, w3, w2, w1]
                 · show _ = 2
                   simp (disch := omega) only [zset_s, zset_n, w3, w2, w1]⟩)
              | (have ez : zrs (M 206) (M 200 6) p = (1, g3.2, zrow d a1.1 3 0) := by
                   rw [hz, ha1]
                   unfold zs1
                   rw [if_neg (by omega), hg1]
                   unfold zs2
                   rw [if_neg (by omega), hg2]
                   unfold zs3
                   rw [if_neg (by omega), hg3]
                   unfold zs4
                   rw [if_pos (by omega)]
                 rw [ez]
                 exact ⟨rfl, zRm_w t4 (by omega), fun _ j hj => by
                 obtain rfl | rfl | rfl : j = 0 ∨ j = 1 ∨ j = 2 := by omega
                 · show _ = d
                   simp (disch := omega) only [Int.add_zero, zset_s, zset_n, w4, w3, w2, w1]
                 · show _ = a1.1
                   simp (disch := omega) only [zset_s, zset_n, w4, w3, w2, w1]
                 · show _ = 3
                   simp (disch := omega) only [zset_s, zset_n, w4, w3, w2, w1]⟩)
              | (have ez : zrs (M 206) (M 200 6) p = (1, g3.2, zrow d a1.1 0 0) := by
                   rw [hz, ha1]
                   unfold zs1
                   rw [if_neg (by omega), hg1]
                   unfold zs2
                   rw [if_neg (by omega), hg2]
                   unfold zs3
                   rw [if_neg (by omega), hg3]
                   unfold zs4
                   rw [if_neg (by omega)]
                 rw [ez]
                 exact ⟨rfl, zRm_w t4 (by omega), fun _ j hj => by
                 obtain rfl | rfl | rfl : j = 0 ∨ j = 1 ∨ j = 2 := by omega
                 · show _ = d
                   simp (disch := omega) only [Int.add_zero, zset_s, zset_n, w4, w3, w2, w1]
                 · show _ = a1.1
                   simp (disch := omega) only [zset_s, zset_n, w4, w3, w2, w1]
                 · show _ = 0
                   simp (disch := omega) only [zset_s, zset_n, w4, w3, w2, w1]⟩)
          · have c133_7 := c133_7
            first
            | (exfalso; omega)
            | skip
              refine v_iconst ok dX8_readShoe_136 (n := 137) rfl ?_
              refine v_goto ok dX8_readShoe_137 (n := 141) (by decide) ?_
              refine v_zret rt dX8_readShoe_141 (by omega) ?_
              first
              | (have ez : zrs (M 206) (M 200 6) p = zno a1.2 := by
                   rw [hz, ha1]
                   unfold zs1
                   rw [if_pos (by omega)]
                 rw [ez]
                 exact ⟨rfl, zRm_w (zRm_w t1 (by omega)) (by omega), fun q => by cases q⟩)
              | (have ez : zrs (M 206) (M 200 6) p = (1, g1.2, zrow d a1.1 1 0) := by
                   rw [hz, ha1]
                   unfold zs1
                   rw [if_neg (by omega), hg1]
                   unfold zs2
                   rw [if_pos (by omega)]
                 rw [ez]
                 exact ⟨rfl, zRm_w t2 (by omega), fun _ j hj => by
                 obtain rfl | rfl | rfl : j = 0 ∨ j = 1 ∨ j = 2 := by omega
                 · show _ = d
                   simp (disch := omega) only [Int.add_zero, zset_s, zset_n, w2, w1]
                 · show _ = a1.1
                   simp (disch := omega) only [zset_s, zset_n, w2, w1]
                 · show _ = 1
                   simp (disch := omega) only [zset_s, zset_n, w2, w1]⟩)
              | (have ez : zrs (M 206) (M 200 6) p = (1, g2.2, zrow d a1.1 2 0) := by
                   rw [hz, ha1]
                   unfold zs1
                   rw [if_neg (by omega), hg1]
                   unfold zs2
                   rw [if_neg (by omega), hg2]
                   unfold zs3
                   rw [if_pos (by omega)]
                 rw [ez]
                 exact ⟨rfl, zRm_w t3 (by omega), fun _ j hj => by
                 obtain rfl | rfl | rfl : j = 0 ∨ j = 1 ∨ j = 2 := by omega
                 · show _ = d
                   simp (disch := omega) only [Int.add_zero, zset_s, zset_n, w3, w2, w1]
                 · show _ = a1.1
                   simp (disch := omega) only [zset_s, zset_n, w3, w2, w1]
                 · show _ = 2
                   simp (disch := omega) only [zset_s, zset_n, w3, w2, w1]⟩)
              | (have ez : zrs (M 206) (M 200 6) p = (1, g3.2, zrow d a1.1 3 0) := by
                   rw [hz, ha1]
                   unfold zs1
                   rw [if_neg (by omega), hg1]
                   unfold zs2
                   rw [if_neg (by omega), hg2]
                   unfold zs3
                   rw [if_neg (by omega), hg3]
                   unfold zs4
                   rw [if_pos (by omega)]
                 rw [ez]
                 exact ⟨rfl, zRm_w t4 (by omega), fun _ j hj => by
                 obtain rfl | rfl | rfl : j = 0 ∨ j = 1 ∨ j = 2 := by omega
                 · show _ = d
                   simp (disch := omega) only [Int.add_zero, zset_s, zset_n, w4, w3, w2, w1]
                 · show _ = a1.1
                   simp (disch := omega) only [zset_s, zset_n, w4, w3, w2, w1]
                 · show _ = 3
                   simp (disch := omega) only [zset_s, zset_n, w4, w3, w2, w1]⟩)
              | (have ez : zrs (M 206) (M 200 6) p = (1, g3.2, zrow d a1.1 0 0) := by
                   rw [hz, ha1]
                   unfold zs1
                   rw [if_neg (by omega), hg1]
                   unfold zs2
                   rw [if_neg (by omega), hg2]
                   unfold zs3
                   rw [if_neg (by omega), hg3]
                   unfold zs4
                   rw [if_neg (by omega)]
                 rw [ez]
                 exact ⟨rfl, zRm_w t4 (by omega), fun _ j hj => by
                 obtain rfl | rfl | rfl : j = 0 ∨ j = 1 ∨ j = 2 := by omega
                 · show _ = d
                   simp (disch := omega) only [Int.add_zero, zset_s, zset_n, w4, w3, w2, w1]
                 · show _ = a1.1
                   simp (disch := omega) only [zset_s, zset_n, w4, w3, w2, w1]
                 · show _ = 0
                   simp (disch := omega) only [zset_s, zset_n, w4, w3, w2, w1]⟩)
      · have c90_2 := c90_2
        refine v_iconst ok dX8_readShoe_93 (n := 94) rfl ?_
        refine v_goto ok dX8_readShoe_94 (n := 124) (by decide) ?_
        refine v_iast ok ly_210 rfl (by omega) (by decide) dX8_readShoe_124 (n := 125) rfl ?_
        refine v_aload_0 ok dX8_readShoe_125 (n := 126) rfl ?_
        refine v_getR ok fd_X8_22 ly_200 rfl rfl rfl rf_200_9 dX8_readShoe_126 (n := 129) rfl ?_
        refine v_iload_1 ok dX8_readShoe_129 (n := 130) rfl ?_
        refine v_iconst ok dX8_readShoe_130 (n := 131) rfl ?_
        refine v_iadd ok dX8_readShoe_131 (n := 132) rfl ?_
        refine v_iald ok ly_210 rfl (by omega) (by decide) dX8_readShoe_132 (n := 133) rfl ?_
        first | (simp (disch := omega) only [zset_s]) | (simp (disch := omega) only [zset_n, w4, w3, w2, zset_s]) | (simp (disch := omega) only [zset_n, w3, w2, zset_s]) | (simp (disch := omega) only [zset_n, w2, zset_s]) | (simp (disch := omega) only [zset_n, zset_s]) | skip
        refine v_if_lt ok dX8_readShoe_133 (tgt := 140) (by decide) (n := 136) rfl (by omega) (fun c133_8 => ?_) (fun c133_8 => ?_)
        · have c133_8 := c133_8
          first
          | (exfalso; omega)
          | skip
            refine v_iconst ok dX8_readShoe_140 (n := 141) rfl ?_
            refine v_zret rt dX8_readShoe_141 (by omega) ?_
            first
            | (have ez : zrs (M 206) (M 200 6) p = zno a1.2 := by
                 rw [hz, ha1]
                 unfold zs1
                 rw [if_pos (by omega)]
               rw [ez]
               exact ⟨rfl, zRm_w (zRm_w t1 (by omega)) (by omega), fun q => by cases q⟩)
            | (have ez : zrs (M 206) (M 200 6) p = (1, g1.2, zrow d a1.1 1 0) := by
                 rw [hz, ha1]
                 unfold zs1
                 rw [if_neg (by omega), hg1]
                 unfold zs2
                 rw [if_pos (by omega)]
               rw [ez]
               exact ⟨rfl, zRm_w t2 (by omega), fun _ j hj => by
               obtain rfl | rfl | rfl : j = 0 ∨ j = 1 ∨ j = 2 := by omega
               · show _ = d
                 simp (disch := omega) only [Int.add_zero, zset_s, zset_n, w2, w1]
               · show _ = a1.1
                 simp (disch := omega) only [zset_s, zset_n, w2, w1]
               · show _ = 1
                 simp (disch := omega) only [zset_s, zset_n, w2, w1]⟩)
            | (have ez : zrs (M 206) (M 200 6) p = (1, g2.2, zrow d a1.1 2 0) := by
                 rw [hz, ha1]
                 unfold zs1
                 rw [if_neg (by omega), hg1]
                 unfold zs2
                 rw [if_neg (by omega), hg2]
                 unfold zs3
                 rw [if_pos (by omega)]
               rw [ez]
               exact ⟨rfl, zRm_w t3 (by omega), fun _ j hj => by
               obtain rfl | rfl | rfl : j = 0 ∨ j = 1 ∨ j = 2 := by omega
               · show _ = d
                 simp (disch := omega) only [Int.add_zero, zset_s, zset_n, w3, w2, w1]
               · show _ = a1.1
                 simp (disch := omega) only [zset_s, zset_n, w3, w2, w1]
               · show _ = 2
                 simp (disch := omega) only [zset_s, zset_n, w3, w2, w1]⟩)
            | (have ez : zrs (M 206) (M 200 6) p = (1, g3.2, zrow d a1.1 3 0) := by
                 rw [hz, ha1]
                 unfold zs1
                 rw [if_neg (by omega), hg1]
                 unfold zs2
                 rw [if_neg (by omega), hg2]
                 unfold zs3
                 rw [if_neg (by omega), hg3]
                 unfold zs4
                 rw [if_pos (by omega)]
               rw [ez]
               exact ⟨rfl, zRm_w t4 (by omega), fun _ j hj => by
               obtain rfl | rfl | rfl : j = 0 ∨ j = 1 ∨ j = 2 := by omega
               · show _ = d
                 simp (disch := omega) only [Int.add_zero, zset_s, zset_n, w4, w3, w2, w1]
               · show _ = a1.1
                 simp (disch := omega) only [zset_s, zset_n, w4, w3, w2, w1]
               · show _ = 3
                 simp (disch := omega) only [zset_s, zset_n, w4, w3, w2, w1]⟩)
            | (have ez : zrs (M 206) (M 200 6) p = (1, g3.2, zrow d a1.1 0 0) := by
                 rw [hz, ha1]
                 unfold zs1
                 rw [if_neg (by omega), hg1]
                 unfold zs2
                 rw [if_neg (by omega), hg2]
                 unfold zs3
                 rw [if_neg (by omega), hg3]
                 unfold zs4
                 rw [if_neg (by omega)]
               rw [ez]
               exact ⟨rfl, zRm_w t4 (by omega), fun _ j hj => by
               obtain rfl | rfl | rfl : j = 0 ∨ j = 1 ∨ j = 2 := by omega
               · show _ = d
                 simp (disch := omega) only [Int.add_zero, zset_s, zset_n, w4, w3, w2, w1]
               · show _ = a1.1
                 simp (disch := omega) only [zset_s, zset_n, w4, w3, w2, w1]
               · show _ = 0
                 simp (disch := omega) only [zset_s, zset_n, w4, w3, w2, w1]⟩)
        · have c133_8 := c133_8
          first
          | (exfalso; omega)
          | skip
            refine v_iconst ok dX8_readShoe_136 (n := 137) rfl ?_
            refine v_goto ok dX8_readShoe_137 (n := 141) (by decide) ?_
            refine v_zret rt dX8_readShoe_141 (by omega) ?_
            first
            | (have ez : zrs (M 206) (M 200 6) p = zno a1.2 := by
                 rw [hz, ha1]
                 unfold zs1
                 rw [if_pos (by omega)]
               rw [ez]
               exact ⟨rfl, zRm_w (zRm_w t1 (by omega)) (by omega), fun q => by cases q⟩)
            | (have ez : zrs (M 206) (M 200 6) p = (1, g1.2, zrow d a1.1 1 0) := by
                 rw [hz, ha1]
                 unfold zs1
                 rw [if_neg (by omega), hg1]
                 unfold zs2
                 rw [if_pos (by omega)]
               rw [ez]
               exact ⟨rfl, zRm_w t2 (by omega), fun _ j hj => by
               obtain rfl | rfl | rfl : j = 0 ∨ j = 1 ∨ j = 2 := by omega
               · show _ = d
                 simp (disch := omega) only [Int.add_zero, zset_s, zset_n, w2, w1]
               · show _ = a1.1
                 simp (disch := omega) only [zset_s, zset_n, w2, w1]
               · show _ = 1
                 simp (disch := omega) only [zset_s, zset_n, w2, w1]⟩)
            | (have ez : zrs (M 206) (M 200 6) p = (1, g2.2, zrow d a1.1 2 0) := by
                 rw [hz, ha1]
                 unfold zs1
                 rw [if_neg (by omega), hg1]
                 unfold zs2
                 rw [if_neg (by omega), hg2]
                 unfold zs3
                 rw [if_pos (by omega)]
               rw [ez]
               exact ⟨rfl, zRm_w t3 (by omega), fun _ j hj => by
               obtain rfl | rfl | rfl : j = 0 ∨ j = 1 ∨ j = 2 := by omega
               · show _ = d
                 simp (disch := omega) only [Int.add_zero, zset_s, zset_n, w3, w2, w1]
               · show _ = a1.1
                 simp (disch := omega) only [zset_s, zset_n, w3, w2, w1]
               · show _ = 2
                 simp (disch := omega) only [zset_s, zset_n, w3, w2, w1]⟩)
            | (have ez : zrs (M 206) (M 200 6) p = (1, g3.2, zrow d a1.1 3 0) := by
                 rw [hz, ha1]
                 unfold zs1
                 rw [if_neg (by omega), hg1]
                 unfold zs2
                 rw [if_neg (by omega), hg2]
                 unfold zs3
                 rw [if_neg (by omega), hg3]
                 unfold zs4
                 rw [if_pos (by omega)]
               rw [ez]
               exact ⟨rfl, zRm_w t4 (by omega), fun _ j hj => by
               obtain rfl | rfl | rfl : j = 0 ∨ j = 1 ∨ j = 2 := by omega
               · show _ = d
                 simp (disch := omega) only [Int.add_zero, zset_s, zset_n, w4, w3, w2, w1]
               · show _ = a1.1
                 simp (disch := omega) only [zset_s, zset_n, w4, w3, w2, w1]
               · show _ = 3
                 simp (disch := omega) only [zset_s, zset_n, w4, w3, w2, w1]⟩)
            | (have ez : zrs (M 206) (M 200 6) p = (1, g3.2, zrow d a1.1 0 0) := by
                 rw [hz, ha1]
                 unfold zs1
                 rw [if_neg (by omega), hg1]
                 unfold zs2
                 rw [if_neg (by omega), hg2]
                 unfold zs3
                 rw [if_neg (by omega), hg3]
                 unfold zs4
                 rw [if_neg (by omega)]
               rw [ez]
               exact ⟨rfl, zRm_w t4 (by omega), fun _ j hj => by
               obtain rfl | rfl | rfl : j = 0 ∨ j = 1 ∨ j = 2 := by omega
               · show _ = d
                 simp (disch := omega) only [Int.add_zero, zset_s, zset_n, w4, w3, w2, w1]
               · show _ = a1.1
                 simp (disch := omega) only [zset_s, zset_n, w4, w3, w2, w1]
               · show _ = 0
                 simp (disch := omega) only [zset_s, zset_n, w4, w3, w2, w1]⟩)
    · have c77_1 := c77_1
      refine v_iconst ok dX8_readShoe_80 (n := 81) rfl ?_
      refine v_goto ok dX8_readShoe_81 (n := 124) (by decide) ?_
      refine v_iast ok ly_210 rfl (by omega) (by decide) dX8_readShoe_124 (n := 125) rfl ?_
      refine v_aload_0 ok dX8_readShoe_125 (n := 126) rfl ?_
      refine v_getR ok fd_X8_22 ly_200 rfl rfl rfl rf_200_9 dX8_readShoe_126 (n := 129) rfl ?_
      refine v_iload_1 ok dX8_readShoe_129 (n := 130) rfl ?_
      refine v_iconst ok dX8_readShoe_130 (n := 131) rfl ?_
      refine v_iadd ok dX8_readShoe_131 (n := 132) rfl ?_
      refine v_iald ok ly_210 rfl (by omega) (by decide) dX8_readShoe_132 (n := 133) rfl ?_
      first | (simp (disch := omega) only [zset_s]) | (simp (disch := omega) only [zset_n, w4, w3, w2, zset_s]) | (simp (disch := omega) only [zset_n, w3, w2, zset_s]) | (simp (disch := omega) only [zset_n, w2, zset_s]) | (simp (disch := omega) only [zset_n, zset_s]) | skip
      refine v_if_lt ok dX8_readShoe_133 (tgt := 140) (by decide) (n := 136) rfl (by omega) (fun c133_9 => ?_) (fun c133_9 => ?_)
      · have c133_9 := c133_9
        first
        | (exfalso; omega)
        | skip
          refine v_iconst ok dX8_readShoe_140 (n := 141) rfl ?_
          refine v_zret rt dX8_readShoe_141 (by omega) ?_
          first
          | (have ez : zrs (M 206) (M 200 6) p = zno a1.2 := by
               rw [hz, ha1]
               unfold zs1
               rw [if_pos (by omega)]
             rw [ez]
             exact ⟨rfl, zRm_w (zRm_w t1 (by omega)) (by omega), fun q => by cases q⟩)
          | (have ez : zrs (M 206) (M 200 6) p = (1, g1.2, zrow d a1.1 1 0) := by
               rw [hz, ha1]
               unfold zs1
               rw [if_neg (by omega), hg1]
               unfold zs2
               rw [if_pos (by omega)]
             rw [ez]
             exact ⟨rfl, zRm_w t2 (by omega), fun _ j hj => by
             obtain rfl | rfl | rfl : j = 0 ∨ j = 1 ∨ j = 2 := by omega
             · show _ = d
               simp (disch := omega) only [Int.add_zero, zset_s, zset_n, w2, w1]
             · show _ = a1.1
               simp (disch := omega) only [zset_s, zset_n, w2, w1]
             · show _ = 1
               simp (disch := omega) only [zset_s, zset_n, w2, w1]⟩)
          | (have ez : zrs (M 206) (M 200 6) p = (1, g2.2, zrow d a1.1 2 0) := by
               rw [hz, ha1]
               unfold zs1
               rw [if_neg (by omega), hg1]
               unfold zs2
               rw [if_neg (by omega), hg2]
               unfold zs3
               rw [if_pos (by omega)]
             rw [ez]
             exact ⟨rfl, zRm_w t3 (by omega), fun _ j hj => by
             obtain rfl | rfl | rfl : j = 0 ∨ j = 1 ∨ j = 2 := by omega
             · show _ = d
               simp (disch := omega) only [Int.add_zero, zset_s, zset_n, w3, w2, w1]
             · show _ = a1.1
               simp (disch := omega) only [zset_s, zset_n, w3, w2, w1]
             · show _ = 2
               simp (disch := omega) only [zset_s, zset_n, w3, w2, w1]⟩)
          | (have ez : zrs (M 206) (M 200 6) p = (1, g3.2, zrow d a1.1 3 0) := by
               rw [hz, ha1]
               unfold zs1
               rw [if_neg (by omega), hg1]
               unfold zs2
               rw [if_neg (by omega), hg2]
               unfold zs3
               rw [if_neg (by omega), hg3]
               unfold zs4
               rw [if_pos (by omega)]
             rw [ez]
             exact ⟨rfl, zRm_w t4 (by omega), fun _ j hj => by
             obtain rfl | rfl | rfl : j = 0 ∨ j = 1 ∨ j = 2 := by omega
             · show _ = d
               simp (disch := omega) only [Int.add_zero, zset_s, zset_n, w4, w3, w2, w1]
             · show _ = a1.1
               simp (disch := omega) only [zset_s, zset_n, w4, w3, w2, w1]
             · show _ = 3
               simp (disch := omega) only [zset_s, zset_n, w4, w3, w2, w1]⟩)
          | (have ez : zrs (M 206) (M 200 6) p = (1, g3.2, zrow d a1.1 0 0) := by
               rw [hz, ha1]
               unfold zs1
               rw [if_neg (by omega), hg1]
               unfold zs2
               rw [if_neg (by omega), hg2]
               unfold zs3
               rw [if_neg (by omega), hg3]
               unfold zs4
               rw [if_neg (by omega)]
             rw [ez]
             exact ⟨rfl, zRm_w t4 (by omega), fun _ j hj => by
             obtain rfl | rfl | rfl : j = 0 ∨ j = 1 ∨ j = 2 := by omega
             · show _ = d
               simp (disch := omega) only [Int.add_zero, zset_s, zset_n, w4, w3, w2, w1]
             · show _ = a1.1
               simp (disch := omega) only [zset_s, zset_n, w4, w3, w2, w1]
             · show _ = 0
               simp (disch := omega) only [zset_s, zset_n, w4, w3, w2, w1]⟩)
      · have c133_9 := c133_9
        first
        | (exfalso; omega)
        | skip
          refine v_iconst ok dX8_readShoe_136 (n := 137) rfl ?_
          refine v_goto ok dX8_readShoe_137 (n := 141) (by decide) ?_
          refine v_zret rt dX8_readShoe_141 (by omega) ?_
          first
          | (have ez : zrs (M 206) (M 200 6) p = zno a1.2 := by
               rw [hz, ha1]
               unfold zs1
               rw [if_pos (by omega)]
             rw [ez]
             exact ⟨rfl, zRm_w (zRm_w t1 (by omega)) (by omega), fun q => by cases q⟩)
          | (have ez : zrs (M 206) (M 200 6) p = (1, g1.2, zrow d a1.1 1 0) := by
               rw [hz, ha1]
               unfold zs1
               rw [if_neg (by omega), hg1]
               unfold zs2
               rw [if_pos (by omega)]
             rw [ez]
             exact ⟨rfl, zRm_w t2 (by omega), fun _ j hj => by
             obtain rfl | rfl | rfl : j = 0 ∨ j = 1 ∨ j = 2 := by omega
             · show _ = d
               simp (disch := omega) only [Int.add_zero, zset_s, zset_n, w2, w1]
             · show _ = a1.1
               simp (disch := omega) only [zset_s, zset_n, w2, w1]
             · show _ = 1
               simp (disch := omega) only [zset_s, zset_n, w2, w1]⟩)
          | (have ez : zrs (M 206) (M 200 6) p = (1, g2.2, zrow d a1.1 2 0) := by
               rw [hz, ha1]
               unfold zs1
               rw [if_neg (by omega), hg1]
               unfold zs2
               rw [if_neg (by omega), hg2]
               unfold zs3
               rw [if_pos (by omega)]
             rw [ez]
             exact ⟨rfl, zRm_w t3 (by omega), fun _ j hj => by
             obtain rfl | rfl | rfl : j = 0 ∨ j = 1 ∨ j = 2 := by omega
             · show _ = d
               simp (disch := omega) only [Int.add_zero, zset_s, zset_n, w3, w2, w1]
             · show _ = a1.1
               simp (disch := omega) only [zset_s, zset_n, w3, w2, w1]
             · show _ = 2
               simp (disch := omega) only [zset_s, zset_n, w3, w2, w1]⟩)
          | (have ez : zrs (M 206) (M 200 6) p = (1, g3.2, zrow d a1.1 3 0) := by
               rw [hz, ha1]
               unfold zs1
               rw [if_neg (by omega), hg1]
               unfold zs2
               rw [if_neg (by omega), hg2]
               unfold zs3
               rw [if_neg (by omega), hg3]
               unfold zs4
               rw [if_pos (by omega)]
             rw [ez]
             exact ⟨rfl, zRm_w t4 (by omega), fun _ j hj => by
             obtain rfl | rfl | rfl : j = 0 ∨ j = 1 ∨ j = 2 := by omega
             · show _ = d
               simp (disch := omega) only [Int.add_zero, zset_s, zset_n, w4, w3, w2, w1]
             · show _ = a1.1
               simp (disch := omega) only [zset_s, zset_n, w4, w3, w2, w1]
             · show _ = 3
               simp (disch := omega) only [zset_s, zset_n, w4, w3, w2, w1]⟩)
          | (have ez : zrs (M 206) (M 200 6) p = (1, g3.2, zrow d a1.1 0 0) := by
               rw [hz, ha1]
               unfold zs1
               rw [if_neg (by omega), hg1]
               unfold zs2
               rw [if_neg (by omega), hg2]
               unfold zs3
               rw [if_neg (by omega), hg3]
               unfold zs4
               rw [if_neg (by omega)]
             rw [ez]
             exact ⟨rfl, zRm_w t4 (by omega), fun _ j hj => by
             obtain rfl | rfl | rfl : j = 0 ∨ j = 1 ∨ j = 2 := by omega
             · show _ = d
               simp (disch := omega) only [Int.add_zero, zset_s, zset_n, w4, w3, w2, w1]
             · show _ = a1.1
               simp (disch := omega) only [zset_s, zset_n, w4, w3, w2, w1]
             · show _ = 0
               simp (disch := omega) only [zset_s, zset_n, w4, w3, w2, w1]⟩)
  refine v_aload_0 ok dX8_readShoe_0 (n := 1) rfl ?_
  have c1 := u_nextByteR (G := G) (ad := ad) hln hT hp h
  refine v_callVI ok (mi := mi_X8_nextByte) mc_X8_nextByte cv_X8_155 ly_200 rfl rfl rfl (by decide) ⟨Nat.zero_le _, Nat.zero_le _⟩ dX8_readShoe_1 (n := 4) rfl rfl rfl (Nat.le_of_ble_eq_true rfl) (c1) (fun x0 N0 y0 => ?_)
  obtain ⟨t0, g0, w0⟩ := y0
  have hx0 : -1 ≤ x0 ∧ x0 ≤ 255 := by
    rcases g0 with ⟨h1, rfl⟩ | ⟨_, rfl⟩
    · have := hT _ (show 0 ≤ (zsk (M 206) (M 200 6) p) ∧ (zsk (M 206) (M 200 6) p) < 120 by omega)
      omega
    · omega
  refine v_istore_2 ok (by decide) rfl dX8_readShoe_4 (n := 5) rfl ?_
  refine v_iload_2 ok dX8_readShoe_5 (n := 6) rfl ?_
  refine v_bipush ok (by decide) dX8_readShoe_6 (n := 8) rfl ?_
  refine v_icmp_eq ok dX8_readShoe_8 (tgt := 19) (by decide) (n := 11) rfl (by omega) (by omega) (fun c8_1 => ?_) (fun c8_1 => ?_)
  · have c8_1 := c8_1
    refine v_aload_0 ok dX8_readShoe_19 (n := 20) rfl ?_
    refine v_dup ok rfl dX8_readShoe_20 (n := 21) rfl ?_
    refine v_getI ok fd_X8_152 ly_200 rfl rfl (jI := 7) rfl dX8_readShoe_21 (n := 24) rfl ?_
    rw [t0.2.2.1]
    refine v_iconst ok dX8_readShoe_24 (n := 25) rfl ?_
    refine v_iadd ok dX8_readShoe_25 (n := 26) rfl ?_
    refine v_putI ok fw_X8_152 ly_200 rfl rfl (jI := 7) rfl dX8_readShoe_26 (n := 29) rfl ?_
    refine v_aload_0 ok dX8_readShoe_29 (n := 30) rfl ?_
    refine v_getR ok fd_X8_22 ly_200 rfl rfl rfl rf_200_9 dX8_readShoe_30 (n := 33) rfl ?_
    refine v_iload_1 ok dX8_readShoe_33 (n := 34) rfl ?_
    refine v_iload_2 ok dX8_readShoe_34 (n := 35) rfl ?_
    refine v_bipush ok (by decide) dX8_readShoe_35 (n := 37) rfl ?_
    refine v_icmp_ne ok dX8_readShoe_37 (tgt := 44) (by decide) (n := 40) rfl (by omega) (by omega) (fun c37_2 => ?_) (fun c37_2 => ?_)
    · have c37_2 := c37_2
      refine v_iconst ok dX8_readShoe_44 (n := 45) rfl ?_
      rcases g0 with ⟨h1, g0⟩ | ⟨h1, g0⟩
      · first
        | exact tl _ _ 0 (by omega) (zRm_s t0) (by unfold zrs; rw [if_pos ⟨h1, by omega⟩])
        | exact tl _ _ 1 (by omega) (zRm_s t0) (by unfold zrs; rw [if_neg (fun q => by omega), if_pos ⟨h1, by omega⟩])
      · exfalso
        omega
    · have c37_2 := c37_2
      refine v_iconst ok dX8_readShoe_40 (n := 41) rfl ?_
      refine v_goto ok dX8_readShoe_41 (n := 45) (by decide) ?_
      rcases g0 with ⟨h1, g0⟩ | ⟨h1, g0⟩
      · first
        | exact tl _ _ 0 (by omega) (zRm_s t0) (by unfold zrs; rw [if_pos ⟨h1, by omega⟩])
        | exact tl _ _ 1 (by omega) (zRm_s t0) (by unfold zrs; rw [if_neg (fun q => by omega), if_pos ⟨h1, by omega⟩])
      · exfalso
        omega
  · have c8_1 := c8_1
    refine v_iload_2 ok dX8_readShoe_11 (n := 12) rfl ?_
    refine v_bipush ok (by decide) dX8_readShoe_12 (n := 14) rfl ?_
    refine v_icmp_eq ok dX8_readShoe_14 (tgt := 19) (by decide) (n := 17) rfl (by omega) (by omega) (fun c14_3 => ?_) (fun c14_3 => ?_)
    · have c14_3 := c14_3
      refine v_aload_0 ok dX8_readShoe_19 (n := 20) rfl ?_
      refine v_dup ok rfl dX8_readShoe_20 (n := 21) rfl ?_
      refine v_getI ok fd_X8_152 ly_200 rfl rfl (jI := 7) rfl dX8_readShoe_21 (n := 24) rfl ?_
      rw [t0.2.2.1]
      refine v_iconst ok dX8_readShoe_24 (n := 25) rfl ?_
      refine v_iadd ok dX8_readShoe_25 (n := 26) rfl ?_
      refine v_putI ok fw_X8_152 ly_200 rfl rfl (jI := 7) rfl dX8_readShoe_26 (n := 29) rfl ?_
      refine v_aload_0 ok dX8_readShoe_29 (n := 30) rfl ?_
      refine v_getR ok fd_X8_22 ly_200 rfl rfl rfl rf_200_9 dX8_readShoe_30 (n := 33) rfl ?_
      refine v_iload_1 ok dX8_readShoe_33 (n := 34) rfl ?_
      refine v_iload_2 ok dX8_readShoe_34 (n := 35) rfl ?_
      refine v_bipush ok (by decide) dX8_readShoe_35 (n := 37) rfl ?_
      refine v_icmp_ne ok dX8_readShoe_37 (tgt := 44) (by decide) (n := 40) rfl (by omega) (by omega) (fun c37_4 => ?_) (fun c37_4 => ?_)
      · have c37_4 := c37_4
        refine v_iconst ok dX8_readShoe_44 (n := 45) rfl ?_
        rcases g0 with ⟨h1, g0⟩ | ⟨h1, g0⟩
        · first
          | exact tl _ _ 0 (by omega) (zRm_s t0) (by unfold zrs; rw [if_pos ⟨h1, by omega⟩])
          | exact tl _ _ 1 (by omega) (zRm_s t0) (by unfold zrs; rw [if_neg (fun q => by omega), if_pos ⟨h1, by omega⟩])
        · exfalso
          omega
      · have c37_4 := c37_4
        refine v_iconst ok dX8_readShoe_40 (n := 41) rfl ?_
        refine v_goto ok dX8_readShoe_41 (n := 45) (by decide) ?_
        rcases g0 with ⟨h1, g0⟩ | ⟨h1, g0⟩
        · first
          | exact tl _ _ 0 (by omega) (zRm_s t0) (by unfold zrs; rw [if_pos ⟨h1, by omega⟩])
          | exact tl _ _ 1 (by omega) (zRm_s t0) (by unfold zrs; rw [if_neg (fun q => by omega), if_pos ⟨h1, by omega⟩])
        · exfalso
          omega
    · have c14_3 := c14_3
      refine v_iconst ok dX8_readShoe_17 (n := 18) rfl ?_
      refine v_zret rt dX8_readShoe_18 (by omega) ?_
      have ez : zrs (M 206) (M 200 6) p = zno (zsk (M 206) (M 200 6) p) := by
        unfold zrs
        rcases g0 with ⟨h1, g0⟩ | ⟨h1, g0⟩
        · rw [if_neg (fun q => by omega), if_neg (fun q => by omega)]
        · rw [if_neg (fun q => h1 q.1), if_neg (fun q => h1 q.1)]
      rw [ez]
      exact ⟨rfl, t0, fun q => by cases q⟩

