/-! the class: shoes read, whole texts -/
set_option maxHeartbeats 4000000 in
set_option maxRecDepth 100000 in
theorem t_readShoe {G : zG} {ad : Int → Nat} {M M1 : zM} {r p : Int} (hl : zlay r = (0, 4, 0)) (hr : 58 ≤ r ∧ r ≤ 73) (hln : 0 ≤ M 55 2 ∧ M 55 2 ≤ 120) (hT : ∀ i, 0 ≤ i ∧ i < M 55 2 → 32 ≤ M 56 i ∧ M 56 i ≤ 126) (hp : 0 ≤ p ∧ p ≤ M 55 2) (h : zTm M r M1 p)  : zTI G (zw ad) mi_X4_readShoe [zr 55, zr r] M1 (fun x M' => x = (zrs (M 56) (M 55 2) p).1 ∧ zTm M r M' (zrs (M 56) (M 55 2) p).2.1 ∧ ((zrs (M 56) (M 55 2) p).1 = 1 → ∀ j, 0 ≤ j ∧ j < 4 → M' r j = (zrs (M 56) (M 55 2) p).2.2 j)) := by
  refine zTI.ofZ (own := RX4) (ls := [some (zr 55), some (zr r)]) (by decide +kernel) rfl rfl (Nat.le_of_ble_eq_true rfl) (fun γ ok rt => ?_)
  have s1 := zTm_row hr h 2 0
  have s2 := zTm_row hr s1.1 3 0
  obtain ⟨q, hq⟩ : ∃ q, zsk (M 56) (M 55 2) p = q := ⟨_, rfl⟩
  have bq := zsk_bd (T := M 56) hp.2
  have bqq := zsk_sk (T := M 56) hp.2
  rw [hq] at bq bqq
  have e302 : ztab 302 1 = 20 ∧ ztab 303 1 = 70 := by decide
  have tail : ∀ (N : zM) (d : Int), zTm M r N (q + 1) → N r 0 = d → N r 2 = 0 → N r 3 = 0 → q < M 55 2 → zrs (M 56) (M 55 2) p = zs1 (M 56) (M 55 2) d (zrn (M 56) (M 55 2) (q + 1) 20 70) → zVV G γ (zw ad) (0, 0) 45 [some (zr 55), some (zr r)] [] N := by
    intro N d tN n0 n2 n3 hq1 hz
    obtain ⟨a1, ha1⟩ : ∃ a, zrn (M 56) (M 55 2) (q + 1) 20 70 = a := ⟨_, rfl⟩
    have b1 := zrn_b (T := M 56) (len := M 55 2) (p := q + 1) (lo := 20) (hi := 70) (by omega) (by omega)
    rw [ha1] at b1 hz
    obtain ⟨a2, ha2⟩ : ∃ a, zps (M 56) (M 55 2) a1.2 103 = a := ⟨_, rfl⟩
    have b2 := zps_b (T := M 56) (p := a1.2) (c := 103) b1.2.1
    rw [ha2] at b2
    obtain ⟨a3, ha3⟩ : ∃ a, zps (M 56) (M 55 2) a2.2 118 = a := ⟨_, rfl⟩
    have b3 := zps_b (T := M 56) (p := a2.2) (c := 118) b2.2.1
    rw [ha3] at b3
    obtain ⟨a4, ha4⟩ : ∃ a, zps (M 56) (M 55 2) a3.2 112 = a := ⟨_, rfl⟩
    have b4 := zps_b (T := M 56) (p := a3.2) (c := 112) b3.2.1
    rw [ha4] at b4
    unfold zs1 at hz
    refine v_aload_0 ok dX4_readShoe_45 (n := 46) rfl ?_
    refine v_aload_1 ok dX4_readShoe_46 (n := 47) rfl ?_
    refine v_iconst ok dX4_readShoe_47 (n := 48) rfl ?_
    refine v_gets ok sd_X4_67 dX4_readShoe_48 (n := 51) rfl ?_
    refine v_iconst ok dX4_readShoe_51 (n := 52) rfl ?_
    refine v_tald ok (by decide) (by first | decide | (unfold ztl; simp; omega)) dX4_readShoe_52 (n := 53) rfl ?_
    refine v_gets ok sd_X4_70 dX4_readShoe_53 (n := 56) rfl ?_
    refine v_iconst ok dX4_readShoe_56 (n := 57) rfl ?_
    refine v_tald ok (by decide) (by first | decide | (unfold ztl; simp; omega)) dX4_readShoe_57 (n := 58) rfl ?_
    refine v_callVI ok (mi := mi_X4_readNumber) mc_X4_readNumber cv_X4_56 ly_55 rfl rfl rfl (by decide) ⟨Nat.zero_le _, Nat.zero_le _⟩ dX4_readShoe_58 (n := 61) rfl rfl rfl (Nat.le_of_ble_eq_true rfl) ((by have e := t_readNumber (G := G) (ad := ad) hl hr (c := 1) (a := ztab 302 1) (b := ztab 303 1) (by omega) (by decide) (by decide) hln hT (by omega) tN; rw [e302.1, e302.2, ha1] at e; exact e)) (fun x1 N1 g1 => ?_)
    obtain ⟨t1, k1, w1⟩ := g1
    refine v_if_ne ok dX4_readShoe_61 (tgt := 66) (by decide) (n := 64) rfl (by omega) (fun c61_1 => ?_) (fun c61_1 => ?_)
    · have c61_1 := c61_1
      refine v_aload_0 ok dX4_readShoe_66 (n := 67) rfl ?_
      refine v_bipush ok (by decide) dX4_readShoe_67 (n := 69) rfl ?_
      refine v_callVI ok (mi := mi_X4_isPassed) mc_X4_isPassed cv_X4_46 ly_55 rfl rfl rfl (by decide) ⟨Nat.zero_le _, Nat.zero_le _⟩ dX4_readShoe_69 (n := 72) rfl rfl rfl (Nat.le_of_ble_eq_true rfl) ((by have e := t_isPassedR (G := G) (ad := ad) hr (c := 103) (by omega) hln hT (by omega) t1; rw [ha2] at e; exact e)) (fun x2 N2 g2 => ?_)
      obtain ⟨t2, k2, w2⟩ := g2
      refine v_if_eq ok dX4_readShoe_72 (tgt := 82) (by decide) (n := 75) rfl (by omega) (fun c72_2 => ?_) (fun c72_2 => ?_)
      · have c72_2 := c72_2
        refine v_aload_0 ok dX4_readShoe_82 (n := 83) rfl ?_
        refine v_bipush ok (by decide) dX4_readShoe_83 (n := 85) rfl ?_
        refine v_callVI ok (mi := mi_X4_isPassed) mc_X4_isPassed cv_X4_46 ly_55 rfl rfl rfl (by decide) ⟨Nat.zero_le _, Nat.zero_le _⟩ dX4_readShoe_85 (n := 88) rfl rfl rfl (Nat.le_of_ble_eq_true rfl) ((by have e := t_isPassedR (G := G) (ad := ad) hr (c := 118) (by omega) hln hT (by omega) t2; rw [ha3] at e; exact e)) (fun x3 N3 g3 => ?_)
        obtain ⟨t3, k3, w3⟩ := g3
        refine v_if_eq ok dX4_readShoe_88 (tgt := 98) (by decide) (n := 91) rfl (by omega) (fun c88_3 => ?_) (fun c88_3 => ?_)
        · have c88_3 := c88_3
          refine v_aload_0 ok dX4_readShoe_98 (n := 99) rfl ?_
          refine v_bipush ok (by decide) dX4_readShoe_99 (n := 101) rfl ?_
          refine v_callVI ok (mi := mi_X4_isPassed) mc_X4_isPassed cv_X4_46 ly_55 rfl rfl rfl (by decide) ⟨Nat.zero_le _, Nat.zero_le _⟩ dX4_readShoe_101 (n := 104) rfl rfl rfl (Nat.le_of_ble_eq_true rfl) ((by have e := t_isPassedR (G := G) (ad := ad) hr (c := 112) (by omega) hln hT (by omega) t3; rw [ha4] at e; exact e)) (fun x4 N4 g4 => ?_)
          obtain ⟨t4, k4, w4⟩ := g4
          refine v_if_eq ok dX4_readShoe_104 (tgt := 111) (by decide) (n := 107) rfl (by omega) (fun c104_4 => ?_) (fun c104_4 => ?_)
          · have c104_4 := c104_4
            refine v_iconst ok dX4_readShoe_111 (n := 112) rfl ?_
            refine v_zret rt dX4_readShoe_112 (by omega) ?_
            first
            | (rw [if_neg (by omega)] at hz
               unfold zs2 at hz
               rw [ha2, if_pos (by omega)] at hz
               rw [hz]
               obtain ⟨w1, w1'⟩ | ⟨w1, w1', w1''⟩ := w1
               · omega
               refine ⟨rfl, (zTm_row hr t2 2 1).1, fun _ j hj => ?_⟩
               show _ = zrow _ _ _ _ j
               obtain rfl | rfl | rfl | rfl : j = 0 ∨ j = 1 ∨ j = 2 ∨ j = 3 := by omega
               · rw [(zTm_row hr t2 2 1).2.1 _ (by omega), k2]; rw [k1 _ (by omega)]; exact n0
               · rw [(zTm_row hr t2 2 1).2.1 _ (by omega), k2]; exact w1''
               · exact (zTm_row hr t2 2 1).2.2
               · rw [(zTm_row hr t2 2 1).2.1 _ (by omega), k2]; rw [k1 _ (by omega)]; exact n3)
            | (rw [if_neg (by omega)] at hz
               unfold zs2 at hz
               rw [ha2, if_neg (by omega)] at hz
               unfold zs3 at hz
               rw [ha3, if_pos (by omega)] at hz
               rw [hz]
               obtain ⟨w1, w1'⟩ | ⟨w1, w1', w1''⟩ := w1
               · omega
               refine ⟨rfl, (zTm_row hr t3 2 2).1, fun _ j hj => ?_⟩
               show _ = zrow _ _ _ _ j
               obtain rfl | rfl | rfl | rfl : j = 0 ∨ j = 1 ∨ j = 2 ∨ j = 3 := by omega
               · rw [(zTm_row hr t3 2 2).2.1 _ (by omega), k3, k2]; rw [k1 _ (by omega)]; exact n0
               · rw [(zTm_row hr t3 2 2).2.1 _ (by omega), k3, k2]; exact w1''
               · exact (zTm_row hr t3 2 2).2.2
               · rw [(zTm_row hr t3 2 2).2.1 _ (by omega), k3, k2]; rw [k1 _ (by omega)]; exact n3)
            | (rw [if_neg (by omega)] at hz
               unfold zs2 at hz
               rw [ha2, if_neg (by omega)] at hz
               unfold zs3 at hz
               rw [ha3, if_neg (by omega)] at hz
               unfold zs4 at hz
               rw [ha4, if_pos (by omega)] at hz
               rw [hz]
               obtain ⟨w1, w1'⟩ | ⟨w1, w1', w1''⟩ := w1
               · omega
               refine ⟨rfl, (zTm_row hr t4 2 3).1, fun _ j hj => ?_⟩
               show _ = zrow _ _ _ _ j
               obtain rfl | rfl | rfl | rfl : j = 0 ∨ j = 1 ∨ j = 2 ∨ j = 3 := by omega
               · rw [(zTm_row hr t4 2 3).2.1 _ (by omega), k4, k3, k2]; rw [k1 _ (by omega)]; exact n0
               · rw [(zTm_row hr t4 2 3).2.1 _ (by omega), k4, k3, k2]; exact w1''
               · exact (zTm_row hr t4 2 3).2.2
               · rw [(zTm_row hr t4 2 3).2.1 _ (by omega), k4, k3, k2]; rw [k1 _ (by omega)]; exact n3)
            | (rw [if_neg (by omega)] at hz
               unfold zs2 at hz
               rw [ha2, if_neg (by omega)] at hz
               unfold zs3 at hz
               rw [ha3, if_neg (by omega)] at hz
               unfold zs4 at hz
               rw [ha4, if_neg (by omega)] at hz
               rw [hz]
               obtain ⟨w1, w1'⟩ | ⟨w1, w1', w1''⟩ := w1
               · omega
               refine ⟨rfl, t4, fun _ j hj => ?_⟩
               show _ = zrow _ _ _ _ j
               obtain rfl | rfl | rfl | rfl : j = 0 ∨ j = 1 ∨ j = 2 ∨ j = 3 := by omega
               · rw [k4, k3, k2]; rw [k1 _ (by omega)]; exact n0
               · rw [k4, k3, k2]; exact w1''
               · rw [k4, k3, k2, k1 _ (by omega)]; exact n2
               · rw [k4, k3, k2]; rw [k1 _ (by omega)]; exact n3)
          · have c104_4 := c104_4
            refine v_aload_1 ok dX4_readShoe_107 (n := 108) rfl ?_
            refine v_iconst ok dX4_readShoe_108 (n := 109) rfl ?_
            refine v_iconst ok dX4_readShoe_109 (n := 110) rfl ?_
            refine v_iast ok hl rfl (by omega) (by decide) dX4_readShoe_110 (n := 111) rfl ?_
            refine v_iconst ok dX4_readShoe_111 (n := 112) rfl ?_
            refine v_zret rt dX4_readShoe_112 (by omega) ?_
            first
            | (rw [if_neg (by omega)] at hz
               unfold zs2 at hz
               rw [ha2, if_pos (by omega)] at hz
               rw [hz]
               obtain ⟨w1, w1'⟩ | ⟨w1, w1', w1''⟩ := w1
               · omega
               refine ⟨rfl, (zTm_row hr t2 2 1).1, fun _ j hj => ?_⟩
               show _ = zrow _ _ _ _ j
               obtain rfl | rfl | rfl | rfl : j = 0 ∨ j = 1 ∨ j = 2 ∨ j = 3 := by omega
               · rw [(zTm_row hr t2 2 1).2.1 _ (by omega), k2]; rw [k1 _ (by omega)]; exact n0
               · rw [(zTm_row hr t2 2 1).2.1 _ (by omega), k2]; exact w1''
               · exact (zTm_row hr t2 2 1).2.2
               · rw [(zTm_row hr t2 2 1).2.1 _ (by omega), k2]; rw [k1 _ (by omega)]; exact n3)
            | (rw [if_neg (by omega)] at hz
               unfold zs2 at hz
               rw [ha2, if_neg (by omega)] at hz
               unfold zs3 at hz
               rw [ha3, if_pos (by omega)] at hz
               rw [hz]
               obtain ⟨w1, w1'⟩ | ⟨w1, w1', w1''⟩ := w1
               · omega
               refine ⟨rfl, (zTm_row hr t3 2 2).1, fun _ j hj => ?_⟩
               show _ = zrow _ _ _ _ j
               obtain rfl | rfl | rfl | rfl : j = 0 ∨ j = 1 ∨ j = 2 ∨ j = 3 := by omega
               · rw [(zTm_row hr t3 2 2).2.1 _ (by omega), k3, k2]; rw [k1 _ (by omega)]; exact n0
               · rw [(zTm_row hr t3 2 2).2.1 _ (by omega), k3, k2]; exact w1''
               · exact (zTm_row hr t3 2 2).2.2
               · rw [(zTm_row hr t3 2 2).2.1 _ (by omega), k3, k2]; rw [k1 _ (by omega)]; exact n3)
            | (rw [if_neg (by omega)] at hz
               unfold zs2 at hz
               rw [ha2, if_neg (by omega)] at hz
               unfold zs3 at hz
               rw [ha3, if_neg (by omega)] at hz
               unfold zs4 at hz
               rw [ha4, if_pos (by omega)] at hz
               rw [hz]
               obtain ⟨w1, w1'⟩ | ⟨w1, w1', w1''⟩ := w1
               · omega
               refine ⟨rfl, (zTm_row hr t4 2 3).1, fun _ j hj => ?_⟩
               show _ = zrow _ _ _ _ j
               obtain rfl | rfl | rfl | rfl : j = 0 ∨ j = 1 ∨ j = 2 ∨ j = 3 := by omega
               · rw [(zTm_row hr t4 2 3).2.1 _ (by omega), k4, k3, k2]; rw [k1 _ (by omega)]; exact n0
               · rw [(zTm_row hr t4 2 3).2.1 _ (by omega), k4, k3, k2]; exact w1''
               · exact (zTm_row hr t4 2 3).2.2
               · rw [(zTm_row hr t4 2 3).2.1 _ (by omega), k4, k3, k2]; rw [k1 _ (by omega)]; exact n3)
            | (rw [if_neg (by omega)] at hz
               unfold zs2 at hz
               rw [ha2, if_neg (by omega)] at hz
               unfold zs3 at hz
               rw [ha3, if_neg (by omega)] at hz
               unfold zs4 at hz
               rw [ha4, if_neg (by omega)] at hz
               rw [hz]
               obtain ⟨w1, w1'⟩ | ⟨w1, w1', w1''⟩ := w1
               · omega
               refine ⟨rfl, t4, fun _ j hj => ?_⟩
               show _ = zrow _ _ _ _ j
               obtain rfl | rfl | rfl | rfl : j = 0 ∨ j = 1 ∨ j = 2 ∨ j = 3 := by omega
               · rw [k4, k3, k2]; rw [k1 _ (by omega)]; exact n0
               · rw [k4, k3, k2]; exact w1''
               · rw [k4, k3, k2, k1 _ (by omega)]; exact n2
               · rw [k4, k3, k2]; rw [k1 _ (by omega)]; exact n3)
        · have c88_3 := c88_3
          refine v_aload_1 ok dX4_readShoe_91 (n := 92) rfl ?_
          refine v_iconst ok dX4_readShoe_92 (n := 93) rfl ?_
          refine v_iconst ok dX4_readShoe_93 (n := 94) rfl ?_
          refine v_iast ok hl rfl (by omega) (by decide) dX4_readShoe_94 (n := 95) rfl ?_
          refine v_goto ok dX4_readShoe_95 (n := 111) (by decide) ?_
          refine v_iconst ok dX4_readShoe_111 (n := 112) rfl ?_
          refine v_zret rt dX4_readShoe_112 (by omega) ?_
          first
          | (rw [if_neg (by omega)] at hz
             unfold zs2 at hz
             rw [ha2, if_pos (by omega)] at hz
             rw [hz]
             obtain ⟨w1, w1'⟩ | ⟨w1, w1', w1''⟩ := w1
             · omega
             refine ⟨rfl, (zTm_row hr t2 2 1).1, fun _ j hj => ?_⟩
             show _ = zrow _ _ _ _ j
             obtain rfl | rfl | rfl | rfl : j = 0 ∨ j = 1 ∨ j = 2 ∨ j = 3 := by omega
             · rw [(zTm_row hr t2 2 1).2.1 _ (by omega), k2]; rw [k1 _ (by omega)]; exact n0
             · rw [(zTm_row hr t2 2 1).2.1 _ (by omega), k2]; exact w1''
             · exact (zTm_row hr t2 2 1).2.2
             · rw [(zTm_row hr t2 2 1).2.1 _ (by omega), k2]; rw [k1 _ (by omega)]; exact n3)
          | (rw [if_neg (by omega)] at hz
             unfold zs2 at hz
             rw [ha2, if_neg (by omega)] at hz
             unfold zs3 at hz
             rw [ha3, if_pos (by omega)] at hz
             rw [hz]
             obtain ⟨w1, w1'⟩ | ⟨w1, w1', w1''⟩ := w1
             · omega
             refine ⟨rfl, (zTm_row hr t3 2 2).1, fun _ j hj => ?_⟩
             show _ = zrow _ _ _ _ j
             obtain rfl | rfl | rfl | rfl : j = 0 ∨ j = 1 ∨ j = 2 ∨ j = 3 := by omega
             · rw [(zTm_row hr t3 2 2).2.1 _ (by omega), k3, k2]; rw [k1 _ (by omega)]; exact n0
             · rw [(zTm_row hr t3 2 2).2.1 _ (by omega), k3, k2]; exact w1''
             · exact (zTm_row hr t3 2 2).2.2
             · rw [(zTm_row hr t3 2 2).2.1 _ (by omega), k3, k2]; rw [k1 _ (by omega)]; exact n3)
          | (rw [if_neg (by omega)] at hz
             unfold zs2 at hz
             rw [ha2, if_neg (by omega)] at hz
             unfold zs3 at hz
             rw [ha3, if_neg (by omega)] at hz
             unfold zs4 at hz
             rw [ha4, if_pos (by omega)] at hz
             rw [hz]
             obtain ⟨w1, w1'⟩ | ⟨w1, w1', w1''⟩ := w1
             · omega
             refine ⟨rfl, (zTm_row hr t4 2 3).1, fun _ j hj => ?_⟩
             show _ = zrow _ _ _ _ j
             obtain rfl | rfl | rfl | rfl : j = 0 ∨ j = 1 ∨ j = 2 ∨ j = 3 := by omega
             · rw [(zTm_row hr t4 2 3).2.1 _ (by omega), k4, k3, k2]; rw [k1 _ (by omega)]; exact n0
             · rw [(zTm_row hr t4 2 3).2.1 _ (by omega), k4, k3, k2]; exact w1''
             · exact (zTm_row hr t4 2 3).2.2
             · rw [(zTm_row hr t4 2 3).2.1 _ (by omega), k4, k3, k2]; rw [k1 _ (by omega)]; exact n3)
          | (rw [if_neg (by omega)] at hz
             unfold zs2 at hz
             rw [ha2, if_neg (by omega)] at hz
             unfold zs3 at hz
             rw [ha3, if_neg (by omega)] at hz
             unfold zs4 at hz
             rw [ha4, if_neg (by omega)] at hz
             rw [hz]
             obtain ⟨w1, w1'⟩ | ⟨w1, w1', w1''⟩ := w1
             · omega
             refine ⟨rfl, t4, fun _ j hj => ?_⟩
             show _ = zrow _ _ _ _ j
             obtain rfl | rfl | rfl | rfl : j = 0 ∨ j = 1 ∨ j = 2 ∨ j = 3 := by omega
             · rw [k4, k3, k2]; rw [k1 _ (by omega)]; exact n0
             · rw [k4, k3, k2]; exact w1''
             · rw [k4, k3, k2, k1 _ (by omega)]; exact n2
             · rw [k4, k3, k2]; rw [k1 _ (by omega)]; exact n3)
      · have c72_2 := c72_2
        refine v_aload_1 ok dX4_readShoe_75 (n := 76) rfl ?_
        refine v_iconst ok dX4_readShoe_76 (n := 77) rfl ?_
        refine v_iconst ok dX4_readShoe_77 (n := 78) rfl ?_
        refine v_iast ok hl rfl (by omega) (by decide) dX4_readShoe_78 (n := 79) rfl ?_
        refine v_goto ok dX4_readShoe_79 (n := 111) (by decide) ?_
        refine v_iconst ok dX4_readShoe_111 (n := 112) rfl ?_
        refine v_zret rt dX4_readShoe_112 (by omega) ?_
        first
        | (rw [if_neg (by omega)] at hz
           unfold zs2 at hz
           rw [ha2, if_pos (by omega)] at hz
           rw [hz]
           obtain ⟨w1, w1'⟩ | ⟨w1, w1', w1''⟩ := w1
           · omega
           refine ⟨rfl, (zTm_row hr t2 2 1).1, fun _ j hj => ?_⟩
           show _ = zrow _ _ _ _ j
           obtain rfl | rfl | rfl | rfl : j = 0 ∨ j = 1 ∨ j = 2 ∨ j = 3 := by omega
           · rw [(zTm_row hr t2 2 1).2.1 _ (by omega), k2]; rw [k1 _ (by omega)]; exact n0
           · rw [(zTm_row hr t2 2 1).2.1 _ (by omega), k2]; exact w1''
           · exact (zTm_row hr t2 2 1).2.2
           · rw [(zTm_row hr t2 2 1).2.1 _ (by omega), k2]; rw [k1 _ (by omega)]; exact n3)
        | (rw [if_neg (by omega)] at hz
           unfold zs2 at hz
           rw [ha2, if_neg (by omega)] at hz
           unfold zs3 at hz
           rw [ha3, if_pos (by omega)] at hz
           rw [hz]
           obtain ⟨w1, w1'⟩ | ⟨w1, w1', w1''⟩ := w1
           · omega
           refine ⟨rfl, (zTm_row hr t3 2 2).1, fun _ j hj => ?_⟩
           show _ = zrow _ _ _ _ j
           obtain rfl | rfl | rfl | rfl : j = 0 ∨ j = 1 ∨ j = 2 ∨ j = 3 := by omega
           · rw [(zTm_row hr t3 2 2).2.1 _ (by omega), k3, k2]; rw [k1 _ (by omega)]; exact n0
           · rw [(zTm_row hr t3 2 2).2.1 _ (by omega), k3, k2]; exact w1''
           · exact (zTm_row hr t3 2 2).2.2
           · rw [(zTm_row hr t3 2 2).2.1 _ (by omega), k3, k2]; rw [k1 _ (by omega)]; exact n3)
        | (rw [if_neg (by omega)] at hz
           unfold zs2 at hz
           rw [ha2, if_neg (by omega)] at hz
           unfold zs3 at hz
           rw [ha3, if_neg (by omega)] at hz
           unfold zs4 at hz
           rw [ha4, if_pos (by omega)] at hz
           rw [hz]
           obtain ⟨w1, w1'⟩ | ⟨w1, w1', w1''⟩ := w1
           · omega
           refine ⟨rfl, (zTm_row hr t4 2 3).1, fun _ j hj => ?_⟩
           show _ = zrow _ _ _ _ j
           obtain rfl | rfl | rfl | rfl : j = 0 ∨ j = 1 ∨ j = 2 ∨ j = 3 := by omega
           · rw [(zTm_row hr t4 2 3).2.1 _ (by omega), k4, k3, k2]; rw [k1 _ (by omega)]; exact n0
           · rw [(zTm_row hr t4 2 3).2.1 _ (by omega), k4, k3, k2]; exact w1''
           · exact (zTm_row hr t4 2 3).2.2
           · rw [(zTm_row hr t4 2 3).2.1 _ (by omega), k4, k3, k2]; rw [k1 _ (by omega)]; exact n3)
        | (rw [if_neg (by omega)] at hz
           unfold zs2 at hz
           rw [ha2, if_neg (by omega)] at hz
           unfold zs3 at hz
           rw [ha3, if_neg (by omega)] at hz
           unfold zs4 at hz
           rw [ha4, if_neg (by omega)] at hz
           rw [hz]
           obtain ⟨w1, w1'⟩ | ⟨w1, w1', w1''⟩ := w1
           · omega
           refine ⟨rfl, t4, fun _ j hj => ?_⟩
           show _ = zrow _ _ _ _ j
           obtain rfl | rfl | rfl | rfl : j = 0 ∨ j = 1 ∨ j = 2 ∨ j = 3 := by omega
           · rw [k4, k3, k2]; rw [k1 _ (by omega)]; exact n0
           · rw [k4, k3, k2]; exact w1''
           · rw [k4, k3, k2, k1 _ (by omega)]; exact n2
           · rw [k4, k3, k2]; rw [k1 _ (by omega)]; exact n3)
    · have c61_1 := c61_1
      refine v_iconst ok dX4_readShoe_64 (n := 65) rfl ?_
      refine v_zret rt dX4_readShoe_65 (by omega) ?_
      rw [if_pos (by omega)] at hz
      rw [hz]
      exact ⟨rfl, t1, fun q => by cases q⟩
  refine v_aload_1 ok dX4_readShoe_0 (n := 1) rfl ?_
  refine v_iconst ok dX4_readShoe_1 (n := 2) rfl ?_
  refine v_iconst ok dX4_readShoe_2 (n := 3) rfl ?_
  refine v_iast ok hl rfl (by omega) (by decide) dX4_readShoe_3 (n := 4) rfl ?_
  refine v_aload_1 ok dX4_readShoe_4 (n := 5) rfl ?_
  refine v_iconst ok dX4_readShoe_5 (n := 6) rfl ?_
  refine v_iconst ok dX4_readShoe_6 (n := 7) rfl ?_
  refine v_iast ok hl rfl (by omega) (by decide) dX4_readShoe_7 (n := 8) rfl ?_
  refine v_aload_1 ok dX4_readShoe_8 (n := 9) rfl ?_
  refine v_iconst ok dX4_readShoe_9 (n := 10) rfl ?_
  refine v_aload_0 ok dX4_readShoe_10 (n := 11) rfl ?_
  refine v_callVI ok (mi := mi_X4_next) mc_X4_next cv_X4_42 ly_55 rfl rfl rfl (by decide) ⟨Nat.zero_le _, Nat.zero_le _⟩ dX4_readShoe_11 (n := 14) rfl rfl rfl (Nat.le_of_ble_eq_true rfl) ((by have e := t_nextR (G := G) (ad := ad) hr hln hT hp s2.1; rw [hq] at e; exact e)) (fun x0 N0 g0 => ?_)
  obtain ⟨t0, k0, w0⟩ := g0
  have hx0 : (x0 = 108 ↔ q < M 55 2 ∧ M 56 q = 108) := by omega
  refine v_bipush ok (by decide) dX4_readShoe_14 (n := 16) rfl ?_
  refine v_icmp_ne ok dX4_readShoe_16 (tgt := 23) (by decide) (n := 19) rfl (by omega) (by omega) (fun c16_1 => ?_) (fun c16_1 => ?_)
  · have c16_1 := c16_1
    first
    | (exfalso; omega)
    | skip
      refine v_iconst ok dX4_readShoe_23 (n := 24) rfl ?_
      refine v_iast ok hl rfl (by omega) (by decide) dX4_readShoe_24 (n := 25) rfl ?_
      refine v_aload_0 ok dX4_readShoe_25 (n := 26) rfl ?_
      refine v_bipush ok (by decide) dX4_readShoe_26 (n := 28) rfl ?_
      refine v_callVI ok (mi := mi_X4_isPassed) mc_X4_isPassed cv_X4_46 ly_55 rfl rfl rfl (by decide) ⟨Nat.zero_le _, Nat.zero_le _⟩ dX4_readShoe_28 (n := 31) rfl rfl rfl (Nat.le_of_ble_eq_true rfl) (t_isPassedR hr (c := 108) (by omega) hln hT (by omega) (zTm_row hr t0 0 _).1) (fun x1 N1 g1 => ?_)
      obtain ⟨t1, k1, w1⟩ := g1
      have hz1 : zps (M 56) (M 55 2) q 108 = if q < M 55 2 ∧ M 56 q = 108 then (1, q + 1) else (0, q) := by
        unfold zps
        rw [bqq]
      rw [hz1] at t1 w1
      have hx1 : x1 = 0 ∨ x1 = 1 := by
        rw [w1]
        split
        · exact Or.inr rfl
        · exact Or.inl rfl
      refine v_if_ne ok dX4_readShoe_31 (tgt := 45) (by decide) (n := 34) rfl (by omega) (fun c31_2 => ?_) (fun c31_2 => ?_)
      · have c31_2 := c31_2
        have hc : q < M 55 2 ∧ M 56 q = 108 := by
          by_cases hc : q < M 55 2 ∧ M 56 q = 108
          · exact hc
          · rw [if_neg hc] at w1
            exact absurd w1 c31_2
        rw [if_pos hc] at t1 w1
        first
        | (exfalso; omega)
        | skip
          first
          | (exact tail N1 0 t1 (by rw [k1]; exact (zTm_row hr t0 0 0).2.2) (by rw [k1, (zTm_row hr t0 0 0).2.1 _ (by omega), k0, s2.2.1 _ (by omega)]; exact s1.2.2) (by rw [k1, (zTm_row hr t0 0 0).2.1 _ (by omega), k0]; exact s2.2.2) hc.1 (by unfold zrs; rw [hq, if_pos hc]))
          | (exact tail N2 1 t2 (by rw [k2, k1]; exact (zTm_row hr t0 0 1).2.2) (by rw [k2, k1, (zTm_row hr t0 0 1).2.1 _ (by omega), k0, s2.2.1 _ (by omega)]; exact s1.2.2) (by rw [k2, k1, (zTm_row hr t0 0 1).2.1 _ (by omega), k0]; exact s2.2.2) hc2.1 (by unfold zrs; rw [hq, if_neg hc, if_pos hc2]))
      · have c31_2 := c31_2
        have hc : ¬ (q < M 55 2 ∧ M 56 q = 108) := by
          intro hc
          rw [if_pos hc] at w1
          rw [w1] at c31_2
          exact absurd c31_2 (by show ¬ (1 : Int) = 0; decide)
        rw [if_neg hc] at t1 w1
        first
        | (exfalso; omega)
        | skip
          refine v_aload_0 ok dX4_readShoe_34 (n := 35) rfl ?_
          refine v_bipush ok (by decide) dX4_readShoe_35 (n := 37) rfl ?_
          refine v_callVI ok (mi := mi_X4_isPassed) mc_X4_isPassed cv_X4_46 ly_55 rfl rfl rfl (by decide) ⟨Nat.zero_le _, Nat.zero_le _⟩ dX4_readShoe_37 (n := 40) rfl rfl rfl (Nat.le_of_ble_eq_true rfl) (t_isPassedR hr (c := 114) (by omega) hln hT (by omega) t1) (fun x2 N2 g2 => ?_)
          obtain ⟨t2, k2, w2⟩ := g2
          have hz2 : zps (M 56) (M 55 2) q 114 = if q < M 55 2 ∧ M 56 q = 114 then (1, q + 1) else (0, q) := by
            unfold zps
            rw [bqq]
          rw [hz2] at t2 w2
          have hx2 : x2 = 0 ∨ x2 = 1 := by
            rw [w2]
            split
            · exact Or.inr rfl
            · exact Or.inl rfl
          refine v_if_ne ok dX4_readShoe_40 (tgt := 45) (by decide) (n := 43) rfl (by omega) (fun c40_3 => ?_) (fun c40_3 => ?_)
          · have c40_3 := c40_3
            have hc2 : q < M 55 2 ∧ M 56 q = 114 := by
              by_cases hc2 : q < M 55 2 ∧ M 56 q = 114
              · exact hc2
              · rw [if_neg hc2] at w2
                exact absurd w2 c40_3
            rw [if_pos hc2] at t2 w2
            first
            | (exact tail N1 0 t1 (by rw [k1]; exact (zTm_row hr t0 0 0).2.2) (by rw [k1, (zTm_row hr t0 0 0).2.1 _ (by omega), k0, s2.2.1 _ (by omega)]; exact s1.2.2) (by rw [k1, (zTm_row hr t0 0 0).2.1 _ (by omega), k0]; exact s2.2.2) hc.1 (by unfold zrs; rw [hq, if_pos hc]))
            | (exact tail N2 1 t2 (by rw [k2, k1]; exact (zTm_row hr t0 0 1).2.2) (by rw [k2, k1, (zTm_row hr t0 0 1).2.1 _ (by omega), k0, s2.2.1 _ (by omega)]; exact s1.2.2) (by rw [k2, k1, (zTm_row hr t0 0 1).2.1 _ (by omega), k0]; exact s2.2.2) hc2.1 (by unfold zrs; rw [hq, if_neg hc, if_pos hc2]))
          · have c40_3 := c40_3
            have hc2 : ¬ (q < M 55 2 ∧ M 56 q = 114) := by
              intro hc2
              rw [if_pos hc2] at w2
              rw [w2] at c40_3
              exact absurd c40_3 (by show ¬ (1 : Int) = 0; decide)
            rw [if_neg hc2] at t2 w2
            refine v_iconst ok dX4_readShoe_43 (n := 44) rfl ?_
            refine v_zret rt dX4_readShoe_44 (by omega) ?_
            have ez : zrs (M 56) (M 55 2) p = zno q := by
              unfold zrs
              rw [hq, if_neg hc, if_neg hc2]
            rw [ez]
            exact ⟨rfl, t2, fun q => by cases q⟩
  · have c16_1 := c16_1
    first
    | (exfalso; omega)
    | skip
      refine v_iconst ok dX4_readShoe_19 (n := 20) rfl ?_
      refine v_goto ok dX4_readShoe_20 (n := 24) (by decide) ?_
      refine v_iast ok hl rfl (by omega) (by decide) dX4_readShoe_24 (n := 25) rfl ?_
      refine v_aload_0 ok dX4_readShoe_25 (n := 26) rfl ?_
      refine v_bipush ok (by decide) dX4_readShoe_26 (n := 28) rfl ?_
      refine v_callVI ok (mi := mi_X4_isPassed) mc_X4_isPassed cv_X4_46 ly_55 rfl rfl rfl (by decide) ⟨Nat.zero_le _, Nat.zero_le _⟩ dX4_readShoe_28 (n := 31) rfl rfl rfl (Nat.le_of_ble_eq_true rfl) (t_isPassedR hr (c := 108) (by omega) hln hT (by omega) (zTm_row hr t0 0 _).1) (fun x1 N1 g1 => ?_)
      obtain ⟨t1, k1, w1⟩ := g1
      have hz1 : zps (M 56) (M 55 2) q 108 = if q < M 55 2 ∧ M 56 q = 108 then (1, q + 1) else (0, q) := by
        unfold zps
        rw [bqq]
      rw [hz1] at t1 w1
      have hx1 : x1 = 0 ∨ x1 = 1 := by
        rw [w1]
        split
        · exact Or.inr rfl
        · exact Or.inl rfl
      refine v_if_ne ok dX4_readShoe_31 (tgt := 45) (by decide) (n := 34) rfl (by omega) (fun c31_4 => ?_) (fun c31_4 => ?_)
      · have c31_4 := c31_4
        have hc : q < M 55 2 ∧ M 56 q = 108 := by
          by_cases hc : q < M 55 2 ∧ M 56 q = 108
          · exact hc
          · rw [if_neg hc] at w1
            exact absurd w1 c31_4
        rw [if_pos hc] at t1 w1
        first
        | (exfalso; omega)
        | skip
          first
          | (exact tail N1 0 t1 (by rw [k1]; exact (zTm_row hr t0 0 0).2.2) (by rw [k1, (zTm_row hr t0 0 0).2.1 _ (by omega), k0, s2.2.1 _ (by omega)]; exact s1.2.2) (by rw [k1, (zTm_row hr t0 0 0).2.1 _ (by omega), k0]; exact s2.2.2) hc.1 (by unfold zrs; rw [hq, if_pos hc]))
          | (exact tail N2 1 t2 (by rw [k2, k1]; exact (zTm_row hr t0 0 1).2.2) (by rw [k2, k1, (zTm_row hr t0 0 1).2.1 _ (by omega), k0, s2.2.1 _ (by omega)]; exact s1.2.2) (by rw [k2, k1, (zTm_row hr t0 0 1).2.1 _ (by omega), k0]; exact s2.2.2) hc2.1 (by unfold zrs; rw [hq, if_neg hc, if_pos hc2]))
      · have c31_4 := c31_4
        have hc : ¬ (q < M 55 2 ∧ M 56 q = 108) := by
          intro hc
          rw [if_pos hc] at w1
          rw [w1] at c31_4
          exact absurd c31_4 (by show ¬ (1 : Int) = 0; decide)
        rw [if_neg hc] at t1 w1
        first
        | (exfalso; omega)
        | skip
          refine v_aload_0 ok dX4_readShoe_34 (n := 35) rfl ?_
          refine v_bipush ok (by decide) dX4_readShoe_35 (n := 37) rfl ?_
          refine v_callVI ok (mi := mi_X4_isPassed) mc_X4_isPassed cv_X4_46 ly_55 rfl rfl rfl (by decide) ⟨Nat.zero_le _, Nat.zero_le _⟩ dX4_readShoe_37 (n := 40) rfl rfl rfl (Nat.le_of_ble_eq_true rfl) (t_isPassedR hr (c := 114) (by omega) hln hT (by omega) t1) (fun x2 N2 g2 => ?_)
          obtain ⟨t2, k2, w2⟩ := g2
          have hz2 : zps (M 56) (M 55 2) q 114 = if q < M 55 2 ∧ M 56 q = 114 then (1, q + 1) else (0, q) := by
            unfold zps
            rw [bqq]
          rw [hz2] at t2 w2
          have hx2 : x2 = 0 ∨ x2 = 1 := by
            rw [w2]
            split
            · exact Or.inr rfl
            · exact Or.inl rfl
          refine v_if_ne ok dX4_readShoe_40 (tgt := 45) (by decide) (n := 43) rfl (by omega) (fun c40_5 => ?_) (fun c40_5 => ?_)
          · have c40_5 := c40_5
            have hc2 : q < M 55 2 ∧ M 56 q = 114 := by
              by_cases hc2 : q < M 55 2 ∧ M 56 q = 114
              · exact hc2
              · rw [if_neg hc2] at w2
                exact absurd w2 c40_5
            rw [if_pos hc2] at t2 w2
            first
            | (exact tail N1 0 t1 (by rw [k1]; exact (zTm_row hr t0 0 0).2.2) (by rw [k1, (zTm_row hr t0 0 0).2.1 _ (by omega), k0, s2.2.1 _ (by omega)]; exact s1.2.2) (by rw [k1, (zTm_row hr t0 0 0).2.1 _ (by omega), k0]; exact s2.2.2) hc.1 (by unfold zrs; rw [hq, if_pos hc]))
            | (exact tail N2 1 t2 (by rw [k2, k1]; exact (zTm_row hr t0 0 1).2.2) (by rw [k2, k1, (zTm_row hr t0 0 1).2.1 _ (by omega), k0, s2.2.1 _ (by omega)]; exact s1.2.2) (by rw [k2, k1, (zTm_row hr t0 0 1).2.1 _ (by omega), k0]; exact s2.2.2) hc2.1 (by unfold zrs; rw [hq, if_neg hc, if_pos hc2]))
          · have c40_5 := c40_5
            have hc2 : ¬ (q < M 55 2 ∧ M 56 q = 114) := by
              intro hc2
              rw [if_pos hc2] at w2
              rw [w2] at c40_5
              exact absurd c40_5 (by show ¬ (1 : Int) = 0; decide)
            rw [if_neg hc2] at t2 w2
            refine v_iconst ok dX4_readShoe_43 (n := 44) rfl ?_
            refine v_zret rt dX4_readShoe_44 (by omega) ?_
            have ez : zrs (M 56) (M 55 2) p = zno q := by
              unfold zrs
              rw [hq, if_neg hc, if_neg hc2]
            rw [ez]
            exact ⟨rfl, t2, fun q => by cases q⟩

