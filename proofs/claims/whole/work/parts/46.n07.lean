/-! the model: a bride is read -/
/-- a memory on the way of a reading into the place t of read, at the byte p -/
def zRm (M : zM) (t : Int) (N : zM) (p : Int) : Prop := (∀ r, r ≠ 200 → r ≠ 210 → N r = M r) ∧ (∀ j, j ≠ 7 → N 200 j = M 200 j) ∧ N 200 7 = p ∧ ∀ i, i < t ∨ t + 4 ≤ i → N 210 i = M 210 i
theorem zRm_s {M N : zM} {t p q : Int} (h : zRm M t N p) : zRm M t (zset N 200 7 q) q := ⟨fun r h1 h2 => by rw [zset_o h1]; exact h.1 r h1 h2, fun j hj => by rw [zset_n hj]; exact h.2.1 j hj, zset_s, fun i hi => by rw [zset_o (by omega)]; exact h.2.2.2 i hi⟩
theorem zRm_w {M N : zM} {t p i v : Int} (h : zRm M t N p) (hi : t ≤ i ∧ i < t + 4) : zRm M t (zset N 210 i v) p := ⟨fun r h1 h2 => by rw [zset_o h2]; exact h.1 r h1 h2, fun j hj => by rw [zset_o (by omega)]; exact h.2.1 j hj, by rw [zset_o (by omega)]; exact h.2.2.1, fun j hj => by rw [zset_n (by omega)]; exact h.2.2.2 j hj⟩
theorem u_takesR {G : zG} {ad : Int → Nat} {M N : zM} {t p : Int} {c : Int} (hc : 33 ≤ c ∧ c ≤ 126) (hln : 0 ≤ M 200 6 ∧ M 200 6 ≤ 120) (hT : ∀ i, 0 ≤ i ∧ i < 120 → 0 ≤ M 206 i ∧ M 206 i ≤ 255) (hp : 0 ≤ p ∧ p ≤ M 200 6) (h : zRm M t N p) : zTI G (zw ad) mi_X8_takes [zr 200, zi c] N (fun x M' => x = (zps (M 206) (M 200 6) p c).1 ∧ zRm M t M' (zps (M 206) (M 200 6) p c).2 ∧ ∀ i, M' 210 i = N 210 i) := by
  obtain ⟨h1, h2, h3, h4⟩ := id h
  have e206 : N 206 = M 206 := h1 206 (by omega) (by omega)
  have e6 : N 200 6 = M 200 6 := h2 6 (by omega)
  refine (u_takes hc (by rw [e6]; exact hln) (by rw [e6, h3]; exact hp) (by rw [e206]; exact hT)).weaken ?_
  rintro x u ⟨rfl, hx⟩
  rw [e206, e6, h3] at hx ⊢
  exact ⟨hx, zRm_s h, fun i => by rw [zset_o (by omega)]⟩
theorem u_readDigitR {G : zG} {ad : Int → Nat} {M N : zM} {t p : Int} (hln : 0 ≤ M 200 6 ∧ M 200 6 ≤ 120) (hT : ∀ i, 0 ≤ i ∧ i < 120 → 0 ≤ M 206 i ∧ M 206 i ≤ 255) (hp : 0 ≤ p ∧ p ≤ M 200 6) (h : zRm M t N p) : zTI G (zw ad) mi_X8_readDigit [zr 200, zi 4] N (fun x M' => x = (zdg (M 206) (M 200 6) p).1 ∧ zRm M t M' (zdg (M 206) (M 200 6) p).2 ∧ ∀ i, M' 210 i = N 210 i) := by
  obtain ⟨h1, h2, h3, h4⟩ := id h
  have e206 : N 206 = M 206 := h1 206 (by omega) (by omega)
  have e6 : N 200 6 = M 200 6 := h2 6 (by omega)
  refine (u_readDigit (by rw [e6]; exact hln) (by rw [e6, h3]; exact hp) (by rw [e206]; exact hT)).weaken ?_
  rintro x u ⟨rfl, hx⟩
  rw [e206, e6, h3] at hx ⊢
  exact ⟨hx, zRm_s h, fun i => by rw [zset_o (by omega)]⟩
theorem u_readNumberR {G : zG} {ad : Int → Nat} {M N : zM} {t p : Int} {a b : Int} (hab : 0 ≤ a ∧ a ≤ b ∧ b ≤ 100) (hln : 0 ≤ M 200 6 ∧ M 200 6 ≤ 120) (hT : ∀ i, 0 ≤ i ∧ i < 120 → 0 ≤ M 206 i ∧ M 206 i ≤ 255) (hp : 0 ≤ p ∧ p ≤ M 200 6) (h : zRm M t N p) : zTI G (zw ad) mi_X8_readNumber [zr 200, zi a, zi b] N (fun x M' => x = (zrn (M 206) (M 200 6) p a b).1 ∧ zRm M t M' (zrn (M 206) (M 200 6) p a b).2 ∧ ∀ i, M' 210 i = N 210 i) := by
  obtain ⟨h1, h2, h3, h4⟩ := id h
  have e206 : N 206 = M 206 := h1 206 (by omega) (by omega)
  have e6 : N 200 6 = M 200 6 := h2 6 (by omega)
  refine (u_readNumber hab (by rw [e6]; exact hln) (by rw [e6, h3]; exact hp) (by rw [e206]; exact hT)).weaken ?_
  rintro x u ⟨rfl, hx⟩
  rw [e206, e6, h3] at hx ⊢
  exact ⟨hx, zRm_s h, fun i => by rw [zset_o (by omega)]⟩
set_option maxHeartbeats 4000000 in
set_option maxRecDepth 100000 in
theorem u_readBride {G : zG} {ad : Int → Nat} {M N : zM} {t p : Int} (ht : 0 ≤ t ∧ t ≤ 24) (hln : 0 ≤ M 200 6 ∧ M 200 6 ≤ 120) (hT : ∀ i, 0 ≤ i ∧ i < 120 → 0 ≤ M 206 i ∧ M 206 i ≤ 255) (hp : 0 ≤ p ∧ p ≤ M 200 6) (h : zRm M t N p)  : zTI G (zw ad) mi_X8_readBride [zr 200, zi t] N (fun x M' => x = (zrb (M 206) (M 200 6) p).1 ∧ zRm M t M' (zrb (M 206) (M 200 6) p).2.1 ∧ ((zrb (M 206) (M 200 6) p).1 = 1 → ∀ j, 0 ≤ j ∧ j < 4 → M' 210 (t + j) = (zrb (M 206) (M 200 6) p).2.2 j)) := by
  refine zTI.ofZ (own := RX8) (ls := [some (zr 200), some (zi t)]) (by decide +kernel) rfl rfl (Nat.le_of_ble_eq_true rfl) (fun γ ok rt => ?_)
  obtain ⟨a1, ha1⟩ : ∃ a, zrn (M 206) (M 200 6) p 20 60 = a := ⟨_, rfl⟩
  have ba1 := zrn_b (T := M 206) (p := p) (lo := 20) (hi := 60) hp.2 (by omega)
  rw [ha1] at ba1
  obtain ⟨a2, ha2⟩ : ∃ a, zps (M 206) (M 200 6) a1.2 47 = a := ⟨_, rfl⟩
  have ba2 := zps_b (T := M 206) (p := a1.2) (c := 47) ba1.2.1
  rw [ha2] at ba2
  obtain ⟨a3, ha3⟩ : ∃ a, zrn (M 206) (M 200 6) a2.2 20 60 = a := ⟨_, rfl⟩
  have ba3 := zrn_b (T := M 206) (p := a2.2) (lo := 20) (hi := 60) ba2.2.1 (by omega)
  rw [ha3] at ba3
  obtain ⟨a4, ha4⟩ : ∃ a, zps (M 206) (M 200 6) a3.2 115 = a := ⟨_, rfl⟩
  have ba4 := zps_b (T := M 206) (p := a3.2) (c := 115) ba3.2.1
  rw [ha4] at ba4
  obtain ⟨a5, ha5⟩ : ∃ a, zdg (M 206) (M 200 6) a4.2 = a := ⟨_, rfl⟩
  have ba5 := zdg_b (T := M 206) (p := a4.2) ba4.2.1
  rw [ha5] at ba5
  obtain ⟨a6, ha6⟩ : ∃ a, zps (M 206) (M 200 6) a5.2 104 = a := ⟨_, rfl⟩
  have ba6 := zps_b (T := M 206) (p := a5.2) (c := 104) ba5.2.1
  rw [ha6] at ba6
  obtain ⟨a7, ha7⟩ : ∃ a, zrn (M 206) (M 200 6) a6.2 0 11 = a := ⟨_, rfl⟩
  have ba7 := zrn_b (T := M 206) (p := a6.2) (lo := 0) (hi := 11) ba6.2.1 (by omega)
  rw [ha7] at ba7
  obtain ⟨e6, he6⟩ : ∃ a, zps (M 206) (M 200 6) a4.2 104 = a := ⟨_, rfl⟩
  have be6 := zps_b (T := M 206) (p := a4.2) (c := 104) ba4.2.1
  rw [he6] at be6
  obtain ⟨e7, he7⟩ : ∃ a, zrn (M 206) (M 200 6) e6.2 0 11 = a := ⟨_, rfl⟩
  have be7 := zrn_b (T := M 206) (p := e6.2) (lo := 0) (hi := 11) be6.2.1 (by omega)
  rw [he7] at be7
  have tlA : ∀ (N9 : zM), zRm M t N9 a5.2 → N9 210 t = a1.1 → N9 210 (t + 1) = a3.1 → N9 210 (t + 2) = a5.1 → 0 ≤ a1.1 → a2.1 ≠ 0 → 0 ≤ a3.1 → a4.1 = 1 → 0 ≤ a5.1 → zVV G γ (zw ad) (0, 0) 102 [some (zr 200), some (zi t)] [] N9 := by
    intro N9 t9 n0 n1 n2 d1 d2 d3 d4 d5
    refine v_aload_0 ok dX8_readBride_102 (n := 103) rfl ?_
    refine v_getR ok fd_X8_22 ly_200 rfl rfl rfl rf_200_9 dX8_readBride_103 (n := 106) rfl ?_
    refine v_iload_1 ok dX8_readBride_106 (n := 107) rfl ?_
    refine v_iconst ok dX8_readBride_107 (n := 108) rfl ?_
    refine v_iadd ok dX8_readBride_108 (n := 109) rfl ?_
    refine v_aload_0 ok dX8_readBride_109 (n := 110) rfl ?_
    refine v_bipush ok (by decide) dX8_readBride_110 (n := 112) rfl ?_
    have c112 := u_takesR (G := G) (ad := ad) (c := 104) (by omega) hln hT (by omega) t9
    rw [ha6] at c112
    refine v_callVI ok (mi := mi_X8_takes) mc_X8_takes cv_X8_167 ly_200 rfl rfl rfl (by decide) ⟨Nat.zero_le _, Nat.zero_le _⟩ dX8_readBride_112 (n := 115) rfl rfl rfl (Nat.le_of_ble_eq_true rfl) (c112) (fun x6 N6 g6 => ?_)
    obtain ⟨k6, t6, w6⟩ := g6
    subst k6
    refine v_if_eq ok dX8_readBride_115 (tgt := 128) (by decide) (n := 118) rfl (by omega) (fun c115_1 => ?_) (fun c115_1 => ?_)
    · have c115_1 := c115_1
      refine v_iconst ok dX8_readBride_128 (n := 129) rfl ?_
      refine v_iast ok ly_210 rfl (by omega) (by decide) dX8_readBride_129 (n := 130) rfl ?_
      refine v_aload_0 ok dX8_readBride_130 (n := 131) rfl ?_
      refine v_getR ok fd_X8_22 ly_200 rfl rfl rfl rf_200_9 dX8_readBride_131 (n := 134) rfl ?_
      refine v_iload_1 ok dX8_readBride_134 (n := 135) rfl ?_
      refine v_iconst ok dX8_readBride_135 (n := 136) rfl ?_
      refine v_iadd ok dX8_readBride_136 (n := 137) rfl ?_
      refine v_iald ok ly_210 rfl (by omega) (by decide) dX8_readBride_137 (n := 138) rfl ?_
      try simp (disch := omega) only [zset_s]
      refine v_if_lt ok dX8_readBride_138 (tgt := 145) (by decide) (n := 141) rfl (by omega) (fun c138_2 => ?_) (fun c138_2 => ?_)
      · have c138_2 := c138_2
        first
        | (exfalso; omega)
        | skip
          refine v_iconst ok dX8_readBride_145 (n := 146) rfl ?_
          refine v_zret rt dX8_readBride_146 (by omega) ?_
          first
          | (have ez : zrb (M 206) (M 200 6) p = (1, a7.2, zrow a1.1 a3.1 a5.1 a7.1) := by
               unfold zrb zb1
               rw [ha1, if_neg (by omega)]
               unfold zb2
               rw [ha2, if_neg (by omega)]
               unfold zb3
               rw [ha3, if_neg (by omega)]
               rw [ha4]
               unfold zop
               rw [if_pos (show a4.1 = 1 by omega), ha5]
               unfold zb4
               try dsimp only
               rw [if_neg (by omega)]
               rw [ha6]
               unfold zop
               rw [if_pos (show a6.1 = 1 by omega)]
               try dsimp only
               rw [ha7]
               unfold zb5
               try dsimp only
               rw [if_neg (by omega)]
             rw [ez]
             exact ⟨rfl, zRm_w t7 (by omega), fun _ j hj => by
             obtain rfl | rfl | rfl | rfl : j = 0 ∨ j = 1 ∨ j = 2 ∨ j = 3 := by omega
             · show _ = a1.1
               simp (disch := omega) only [Int.add_zero, zset_s, zset_n, w7, w6, n0, n1, n2]
             · show _ = a3.1
               simp (disch := omega) only [Int.add_zero, zset_s, zset_n, w7, w6, n0, n1, n2]
             · show _ = a5.1
               simp (disch := omega) only [Int.add_zero, zset_s, zset_n, w7, w6, n0, n1, n2]
             · show _ = a7.1
               simp (disch := omega) only [Int.add_zero, zset_s, zset_n, w7, w6, n0, n1, n2]⟩)
          | (have ez : zrb (M 206) (M 200 6) p = zno a7.2 := by
               unfold zrb zb1
               rw [ha1, if_neg (by omega)]
               unfold zb2
               rw [ha2, if_neg (by omega)]
               unfold zb3
               rw [ha3, if_neg (by omega)]
               rw [ha4]
               unfold zop
               rw [if_pos (show a4.1 = 1 by omega), ha5]
               unfold zb4
               try dsimp only
               rw [if_neg (by omega)]
               rw [ha6]
               unfold zop
               rw [if_pos (show a6.1 = 1 by omega)]
               try dsimp only
               rw [ha7]
               unfold zb5
               try dsimp only
               rw [if_pos (by omega)]
             rw [ez]
             exact ⟨rfl, zRm_w t7 (by omega), fun q => by cases q⟩)
          | (have ez : zrb (M 206) (M 200 6) p = (1, a6.2, zrow a1.1 a3.1 a5.1 0) := by
               unfold zrb zb1
               rw [ha1, if_neg (by omega)]
               unfold zb2
               rw [ha2, if_neg (by omega)]
               unfold zb3
               rw [ha3, if_neg (by omega)]
               rw [ha4]
               unfold zop
               rw [if_pos (show a4.1 = 1 by omega), ha5]
               unfold zb4
               try dsimp only
               rw [if_neg (by omega)]
               rw [ha6]
               unfold zop
               rw [if_neg (show ¬ a6.1 = 1 by omega)]
               try dsimp only
               unfold zb5
               try dsimp only
               rw [if_neg (by omega)]
             rw [ez]
             exact ⟨rfl, zRm_w t6 (by omega), fun _ j hj => by
             obtain rfl | rfl | rfl | rfl : j = 0 ∨ j = 1 ∨ j = 2 ∨ j = 3 := by omega
             · show _ = a1.1
               simp (disch := omega) only [Int.add_zero, zset_s, zset_n, w6, n0, n1, n2]
             · show _ = a3.1
               simp (disch := omega) only [Int.add_zero, zset_s, zset_n, w6, n0, n1, n2]
             · show _ = a5.1
               simp (disch := omega) only [Int.add_zero, zset_s, zset_n, w6, n0, n1, n2]
             · show _ = 0
               simp (disch := omega) only [Int.add_zero, zset_s, zset_n, w6, n0, n1, n2]⟩)
      · have c138_2 := c138_2
        first
        | (exfalso; omega)
        | skip
          refine v_iconst ok dX8_readBride_141 (n := 142) rfl ?_
          refine v_goto ok dX8_readBride_142 (n := 146) (by decide) ?_
          refine v_zret rt dX8_readBride_146 (by omega) ?_
          first
          | (have ez : zrb (M 206) (M 200 6) p = (1, a7.2, zrow a1.1 a3.1 a5.1 a7.1) := by
               unfold zrb zb1
               rw [ha1, if_neg (by omega)]
               unfold zb2
               rw [ha2, if_neg (by omega)]
               unfold zb3
               rw [ha3, if_neg (by omega)]
               rw [ha4]
               unfold zop
               rw [if_pos (show a4.1 = 1 by omega), ha5]
               unfold zb4
               try dsimp only
               rw [if_neg (by omega)]
               rw [ha6]
               unfold zop
               rw [if_pos (show a6.1 = 1 by omega)]
               try dsimp only
               rw [ha7]
               unfold zb5
               try dsimp only
               rw [if_neg (by omega)]
             rw [ez]
             exact ⟨rfl, zRm_w t7 (by omega), fun _ j hj => by
             obtain rfl | rfl | rfl | rfl : j = 0 ∨ j = 1 ∨ j = 2 ∨ j = 3 := by omega
             · show _ = a1.1
               simp (disch := omega) only [Int.add_zero, zset_s, zset_n, w7, w6, n0, n1, n2]
             · show _ = a3.1
               simp (disch := omega) only [Int.add_zero, zset_s, zset_n, w7, w6, n0, n1, n2]
             · show _ = a5.1
               simp (disch := omega) only [Int.add_zero, zset_s, zset_n, w7, w6, n0, n1, n2]
             · show _ = a7.1
               simp (disch := omega) only [Int.add_zero, zset_s, zset_n, w7, w6, n0, n1, n2]⟩)
          | (have ez : zrb (M 206) (M 200 6) p = zno a7.2 := by
               unfold zrb zb1
               rw [ha1, if_neg (by omega)]
               unfold zb2
               rw [ha2, if_neg (by omega)]
               unfold zb3
               rw [ha3, if_neg (by omega)]
               rw [ha4]
               unfold zop
               rw [if_pos (show a4.1 = 1 by omega), ha5]
               unfold zb4
               try dsimp only
               rw [if_neg (by omega)]
               rw [ha6]
               unfold zop
               rw [if_pos (show a6.1 = 1 by omega)]
               try dsimp only
               rw [ha7]
               unfold zb5
               try dsimp only
               rw [if_pos (by omega)]
             rw [ez]
             exact ⟨rfl, zRm_w t7 (by omega), fun q => by cases q⟩)
          | (have ez : zrb (M 206) (M 200 6) p = (1, a6.2, zrow a1.1 a3.1 a5.1 0) := by
               unfold zrb zb1
               rw [ha1, if_neg (by omega)]
               unfold zb2
               rw [ha2, if_neg (by omega)]
               unfold zb3
               rw [ha3, if_neg (by omega)]
               rw [ha4]
               unfold zop
               rw [if_pos (show a4.1 = 1 by omega), ha5]
               unfold zb4
               try dsimp only
               rw [if_neg (by omega)]
               rw [ha6]
               unfold zop
               rw [if_neg (show ¬ a6.1 = 1 by omega)]
               try dsimp only
               unfold zb5
               try dsimp only
               rw [if_neg (by omega)]
             rw [ez]
             exact ⟨rfl, zRm_w t6 (by omega), fun _ j hj => by
             obtain rfl | rfl | rfl | rfl : j = 0 ∨ j = 1 ∨ j = 2 ∨ j = 3 := by omega
             · show _ = a1.1
               simp (disch := omega) only [Int.add_zero, zset_s, zset_n, w6, n0, n1, n2]
             · show _ = a3.1
               simp (disch := omega) only [Int.add_zero, zset_s, zset_n, w6, n0, n1, n2]
             · show _ = a5.1
               simp (disch := omega) only [Int.add_zero, zset_s, zset_n, w6, n0, n1, n2]
             · show _ = 0
               simp (disch := omega) only [Int.add_zero, zset_s, zset_n, w6, n0, n1, n2]⟩)
    · have c115_1 := c115_1
      refine v_aload_0 ok dX8_readBride_118 (n := 119) rfl ?_
      refine v_iconst ok dX8_readBride_119 (n := 120) rfl ?_
      refine v_bipush ok (by decide) dX8_readBride_120 (n := 122) rfl ?_
      have c122 := u_readNumberR (G := G) (ad := ad) (a := 0) (b := 11) (by omega) hln hT (by omega) t6
      rw [ha7] at c122
      refine v_callVI ok (mi := mi_X8_readNumber) mc_X8_readNumber cv_X8_163 ly_200 rfl rfl rfl (by decide) ⟨Nat.zero_le _, Nat.zero_le _⟩ dX8_readBride_122 (n := 125) rfl rfl rfl (Nat.le_of_ble_eq_true rfl) (c122) (fun x7 N7 g7 => ?_)
      obtain ⟨k7, t7, w7⟩ := g7
      subst k7
      refine v_goto ok dX8_readBride_125 (n := 129) (by decide) ?_
      refine v_iast ok ly_210 rfl (by omega) (by decide) dX8_readBride_129 (n := 130) rfl ?_
      refine v_aload_0 ok dX8_readBride_130 (n := 131) rfl ?_
      refine v_getR ok fd_X8_22 ly_200 rfl rfl rfl rf_200_9 dX8_readBride_131 (n := 134) rfl ?_
      refine v_iload_1 ok dX8_readBride_134 (n := 135) rfl ?_
      refine v_iconst ok dX8_readBride_135 (n := 136) rfl ?_
      refine v_iadd ok dX8_readBride_136 (n := 137) rfl ?_
      refine v_iald ok ly_210 rfl (by omega) (by decide) dX8_readBride_137 (n := 138) rfl ?_
      try simp (disch := omega) only [zset_s]
      refine v_if_lt ok dX8_readBride_138 (tgt := 145) (by decide) (n := 141) rfl (by omega) (fun c138_3 => ?_) (fun c138_3 => ?_)
      · have c138_3 := c138_3
        first
        | (exfalso; omega)
        | skip
          refine v_iconst ok dX8_readBride_145 (n := 146) rfl ?_
          refine v_zret rt dX8_readBride_146 (by omega) ?_
          first
          | (have ez : zrb (M 206) (M 200 6) p = (1, a7.2, zrow a1.1 a3.1 a5.1 a7.1) := by
               unfold zrb zb1
               rw [ha1, if_neg (by omega)]
               unfold zb2
               rw [ha2, if_neg (by omega)]
               unfold zb3
               rw [ha3, if_neg (by omega)]
               rw [ha4]
               unfold zop
               rw [if_pos (show a4.1 = 1 by omega), ha5]
               unfold zb4
               try dsimp only
               rw [if_neg (by omega)]
               rw [ha6]
               unfold zop
               rw [if_pos (show a6.1 = 1 by omega)]
               try dsimp only
               rw [ha7]
               unfold zb5
               try dsimp only
               rw [if_neg (by omega)]
             rw [ez]
             exact ⟨rfl, zRm_w t7 (by omega), fun _ j hj => by
             obtain rfl | rfl | rfl | rfl : j = 0 ∨ j = 1 ∨ j = 2 ∨ j = 3 := by omega
             · show _ = a1.1
               simp (disch := omega) only [Int.add_zero, zset_s, zset_n, w7, w6, n0, n1, n2]
             · show _ = a3.1
               simp (disch := omega) only [Int.add_zero, zset_s, zset_n, w7, w6, n0, n1, n2]
             · show _ = a5.1
               simp (disch := omega) only [Int.add_zero, zset_s, zset_n, w7, w6, n0, n1, n2]
             · show _ = a7.1
               simp (disch := omega) only [Int.add_zero, zset_s, zset_n, w7, w6, n0, n1, n2]⟩)
          | (have ez : zrb (M 206) (M 200 6) p = zno a7.2 := by
               unfold zrb zb1
               rw [ha1, if_neg (by omega)]
               unfold zb2
               rw [ha2, if_neg (by omega)]
               unfold zb3
               rw [ha3, if_neg (by omega)]
               rw [ha4]
               unfold zop
               rw [if_pos (show a4.1 = 1 by omega), ha5]
               unfold zb4
               try dsimp only
               rw [if_neg (by omega)]
               rw [ha6]
               unfold zop
               rw [if_pos (show a6.1 = 1 by omega)]
               try dsimp only
               rw [ha7]
               unfold zb5
               try dsimp only
               rw [if_pos (by omega)]
             rw [ez]
             exact ⟨rfl, zRm_w t7 (by omega), fun q => by cases q⟩)
          | (have ez : zrb (M 206) (M 200 6) p = (1, a6.2, zrow a1.1 a3.1 a5.1 0) := by
               unfold zrb zb1
               rw [ha1, if_neg (by omega)]
               unfold zb2
               rw [ha2, if_neg (by omega)]
               unfold zb3
               rw [ha3, if_neg (by omega)]
               rw [ha4]
               unfold zop
               rw [if_pos (show a4.1 = 1 by omega), ha5]
               unfold zb4
               try dsimp only
               rw [if_neg (by omega)]
               rw [ha6]
               unfold zop
               rw [if_neg (show ¬ a6.1 = 1 by omega)]
               try dsimp only
               unfold zb5
               try dsimp only
               rw [if_neg (by omega)]
             rw [ez]
             exact ⟨rfl, zRm_w t6 (by omega), fun _ j hj => by
             obtain rfl | rfl | rfl | rfl : j = 0 ∨ j = 1 ∨ j = 2 ∨ j = 3 := by omega
             · show _ = a1.1
               simp (disch := omega) only [Int.add_zero, zset_s, zset_n, w6, n0, n1, n2]
             · show _ = a3.1
               simp (disch := omega) only [Int.add_zero, zset_s, zset_n, w6, n0, n1, n2]
             · show _ = a5.1
               simp (disch := omega) only [Int.add_zero, zset_s, zset_n, w6, n0, n1, n2]
             · show _ = 0
               simp (disch := omega) only [Int.add_zero, zset_s, zset_n, w6, n0, n1, n2]⟩)
      · have c138_3 := c138_3
        first
        | (exfalso; omega)
        | skip
          refine v_iconst ok dX8_readBride_141 (n := 142) rfl ?_
          refine v_goto ok dX8_readBride_142 (n := 146) (by decide) ?_
          refine v_zret rt dX8_readBride_146 (by omega) ?_
          first
          | (have ez : zrb (M 206) (M 200 6) p = (1, a7.2, zrow a1.1 a3.1 a5.1 a7.1) := by
               unfold zrb zb1
               rw [ha1, if_neg (by omega)]
               unfold zb2
               rw [ha2, if_neg (by omega)]
               unfold zb3
               rw [ha3, if_neg (by omega)]
               rw [ha4]
               unfold zop
               rw [if_pos (show a4.1 = 1 by omega), ha5]
               unfold zb4
               try dsimp only
               rw [if_neg (by omega)]
               rw [ha6]
               unfold zop
               rw [if_pos (show a6.1 = 1 by omega)]
               try dsimp only
               rw [ha7]
               unfold zb5
               try dsimp only
               rw [if_neg (by omega)]
             rw [ez]
             exact ⟨rfl, zRm_w t7 (by omega), fun _ j hj => by
             obtain rfl | rfl | rfl | rfl : j = 0 ∨ j = 1 ∨ j = 2 ∨ j = 3 := by omega
             · show _ = a1.1
               simp (disch := omega) only [Int.add_zero, zset_s, zset_n, w7, w6, n0, n1, n2]
             · show _ = a3.1
               simp (disch := omega) only [Int.add_zero, zset_s, zset_n, w7, w6, n0, n1, n2]
             · show _ = a5.1
               simp (disch := omega) only [Int.add_zero, zset_s, zset_n, w7, w6, n0, n1, n2]
             · show _ = a7.1
               simp (disch := omega) only [Int.add_zero, zset_s, zset_n, w7, w6, n0, n1, n2]⟩)
          | (have ez : zrb (M 206) (M 200 6) p = zno a7.2 := by
               unfold zrb zb1
               rw [ha1, if_neg (by omega)]
               unfold zb2
               rw [ha2, if_neg (by omega)]
               unfold zb3
               rw [ha3, if_neg (by omega)]
               rw [ha4]
               unfold zop
               rw [if_pos (show a4.1 = 1 by omega), ha5]
               unfold zb4
               try dsimp only
               rw [if_neg (by omega)]
               rw [ha6]
               unfold zop
               rw [if_pos (show a6.1 = 1 by omega)]
               try dsimp only
               rw [ha7]
               unfold zb5
               try dsimp only
               rw [if_pos (by omega)]
             rw [ez]
             exact ⟨rfl, zRm_w t7 (by omega), fun q => by cases q⟩)
          | (have ez : zrb (M 206) (M 200 6) p = (1, a6.2, zrow a1.1 a3.1 a5.1 0) := by
               unfold zrb zb1
               rw [ha1, if_neg (by omega)]
               unfold zb2
               rw [ha2, if_neg (by omega)]
               unfold zb3
               rw [ha3, if_neg (by omega)]
               rw [ha4]
               unfold zop
               rw [if_pos (show a4.1 = 1 by omega), ha5]
               unfold zb4
               try dsimp only
               rw [if_neg (by omega)]
               rw [ha6]
               unfold zop
               rw [if_neg (show ¬ a6.1 = 1 by omega)]
               try dsimp only
               unfold zb5
               try dsimp only
               rw [if_neg (by omega)]
             rw [ez]
             exact ⟨rfl, zRm_w t6 (by omega), fun _ j hj => by
             obtain rfl | rfl | rfl | rfl : j = 0 ∨ j = 1 ∨ j = 2 ∨ j = 3 := by omega
             · show _ = a1.1
               simp (disch := omega) only [Int.add_zero, zset_s, zset_n, w6, n0, n1, n2]
             · show _ = a3.1
               simp (disch := omega) only [Int.add_zero, zset_s, zset_n, w6, n0, n1, n2]
             · show _ = a5.1
               simp (disch := omega) only [Int.add_zero, zset_s, zset_n, w6, n0, n1, n2]
             · show _ = 0
               simp (disch := omega) only [Int.add_zero, zset_s, zset_n, w6, n0, n1, n2]⟩)
  have tlB : ∀ (N9 : zM), zRm M t N9 a4.2 → N9 210 t = a1.1 → N9 210 (t + 1) = a3.1 → N9 210 (t + 2) = 0 → 0 ≤ a1.1 → a2.1 ≠ 0 → 0 ≤ a3.1 → ¬ a4.1 = 1 → 0 ≤ 0 → zVV G γ (zw ad) (0, 0) 102 [some (zr 200), some (zi t)] [] N9 := by
    intro N9 t9 n0 n1 n2 d1 d2 d3 d4 d5
    refine v_aload_0 ok dX8_readBride_102 (n := 103) rfl ?_
    refine v_getR ok fd_X8_22 ly_200 rfl rfl rfl rf_200_9 dX8_readBride_103 (n := 106) rfl ?_
    refine v_iload_1 ok dX8_readBride_106 (n := 107) rfl ?_
    refine v_iconst ok dX8_readBride_107 (n := 108) rfl ?_
    refine v_iadd ok dX8_readBride_108 (n := 109) rfl ?_
    refine v_aload_0 ok dX8_readBride_109 (n := 110) rfl ?_
    refine v_bipush ok (by decide) dX8_readBride_110 (n := 112) rfl ?_
    have c112 := u_takesR (G := G) (ad := ad) (c := 104) (by omega) hln hT (by omega) t9
    rw [he6] at c112
    refine v_callVI ok (mi := mi_X8_takes) mc_X8_takes cv_X8_167 ly_200 rfl rfl rfl (by decide) ⟨Nat.zero_le _, Nat.zero_le _⟩ dX8_readBride_112 (n := 115) rfl rfl rfl (Nat.le_of_ble_eq_true rfl) (c112) (fun x6 N6 g6 => ?_)
    obtain ⟨k6, t6, w6⟩ := g6
    subst k6
    refine v_if_eq ok dX8_readBride_115 (tgt := 128) (by decide) (n := 118) rfl (by omega) (fun c115_1 => ?_) (fun c115_1 => ?_)
    · have c115_1 := c115_1
      refine v_iconst ok dX8_readBride_128 (n := 129) rfl ?_
      refine v_iast ok ly_210 rfl (by omega) (by decide) dX8_readBride_129 (n := 130) rfl ?_
      refine v_aload_0 ok dX8_readBride_130 (n := 131) rfl ?_
      refine v_getR ok fd_X8_22 ly_200 rfl rfl rfl rf_200_9 dX8_readBride_131 (n := 134) rfl ?_
      refine v_iload_1 ok dX8_readBride_134 (n := 135) rfl ?_
      refine v_iconst ok dX8_readBride_135 (n := 136) rfl ?_
      refine v_iadd ok dX8_readBride_136 (n := 137) rfl ?_
      refine v_iald ok ly_210 rfl (by omega) (by decide) dX8_readBride_137 (n := 138) rfl ?_
      try simp (disch := omega) only [zset_s]
      refine v_if_lt ok dX8_readBride_138 (tgt := 145) (by decide) (n := 141) rfl (by omega) (fun c138_2 => ?_) (fun c138_2 => ?_)
      · have c138_2 := c138_2
        first
        | (exfalso; omega)
        | skip
          refine v_iconst ok dX8_readBride_145 (n := 146) rfl ?_
          refine v_zret rt dX8_readBride_146 (by omega) ?_
          first
          | (have ez : zrb (M 206) (M 200 6) p = (1, e7.2, zrow a1.1 a3.1 0 e7.1) := by
               unfold zrb zb1
               rw [ha1, if_neg (by omega)]
               unfold zb2
               rw [ha2, if_neg (by omega)]
               unfold zb3
               rw [ha3, if_neg (by omega)]
               rw [ha4]
               unfold zop
               rw [if_neg (show ¬ a4.1 = 1 by omega)]
               unfold zb4
               try dsimp only
               rw [if_neg (by omega)]
               rw [he6]
               unfold zop
               rw [if_pos (show e6.1 = 1 by omega)]
               try dsimp only
               rw [he7]
               unfold zb5
               try dsimp only
               rw [if_neg (by omega)]
             rw [ez]
             exact ⟨rfl, zRm_w t7 (by omega), fun _ j hj => by
             obtain rfl | rfl | rfl | rfl : j = 0 ∨ j = 1 ∨ j = 2 ∨ j = 3 := by omega
             · show _ = a1.1
               simp (disch := omega) only [Int.add_zero, zset_s, zset_n, w7, w6, n0, n1, n2]
             · show _ = a3.1
               simp (disch := omega) only [Int.add_zero, zset_s, zset_n, w7, w6, n0, n1, n2]
             · show _ = 0
               simp (disch := omega) only [Int.add_zero, zset_s, zset_n, w7, w6, n0, n1, n2]
             · show _ = e7.1
               simp (disch := omega) only [Int.add_zero, zset_s, zset_n, w7, w6, n0, n1, n2]⟩)
          | (have ez : zrb (M 206) (M 200 6) p = zno e7.2 := by
               unfold zrb zb1
               rw [ha1, if_neg (by omega)]
               unfold zb2
               rw [ha2, if_neg (by omega)]
               unfold zb3
               rw [ha3, if_neg (by omega)]
               rw [ha4]
               unfold zop
               rw [if_neg (show ¬ a4.1 = 1 by omega)]
               unfold zb4
               try dsimp only
               rw [if_neg (by omega)]
               rw [he6]
               unfold zop
               rw [if_pos (show e6.1 = 1 by omega)]
               try dsimp only
               rw [he7]
               unfold zb5
               try dsimp only
               rw [if_pos (by omega)]
             rw [ez]
             exact ⟨rfl, zRm_w t7 (by omega), fun q => by cases q⟩)
          | (have ez : zrb (M 206) (M 200 6) p = (1, e6.2, zrow a1.1 a3.1 0 0) := by
               unfold zrb zb1
               rw [ha1, if_neg (by omega)]
               unfold zb2
               rw [ha2, if_neg (by omega)]
               unfold zb3
               rw [ha3, if_neg (by omega)]
               rw [ha4]
               unfold zop
               rw [if_neg (show ¬ a4.1 = 1 by omega)]
               unfold zb4
               try dsimp only
               rw [if_neg (by omega)]
               rw [he6]
               unfold zop
               rw [if_neg (show ¬ e6.1 = 1 by omega)]
               try dsimp only
               unfold zb5
               try dsimp only
               rw [if_neg (by omega)]
             rw [ez]
             exact ⟨rfl, zRm_w t6 (by omega), fun _ j hj => by
             obtain rfl | rfl | rfl | rfl : j = 0 ∨ j = 1 ∨ j = 2 ∨ j = 3 := by omega
             · show _ = a1.1
               simp (disch := omega) only [Int.add_zero, zset_s, zset_n, w6, n0, n1, n2]
             · show _ = a3.1
               simp (disch := omega) only [Int.add_zero, zset_s, zset_n, w6, n0, n1, n2]
             · show _ = 0
               simp (disch := omega) only [Int.add_zero, zset_s, zset_n, w6, n0, n1, n2]
             · show _ = 0
               simp (disch := omega) only [Int.add_zero, zset_s, zset_n, w6, n0, n1, n2]⟩)
      · have c138_2 := c138_2
        first
        | (exfalso; omega)
        | skip
          refine v_iconst ok dX8_readBride_141 (n := 142) rfl ?_
          refine v_goto ok dX8_readBride_142 (n := 146) (by decide) ?_
          refine v_zret rt dX8_readBride_146 (by omega) ?_
          first
          | (have ez : zrb (M 206) (M 200 6) p = (1, e7.2, zrow a1.1 a3.1 0 e7.1) := by
               unfold zrb zb1
               rw [ha1, if_neg (by omega)]
               unfold zb2
               rw [ha2, if_neg (by omega)]
               unfold zb3
               rw [ha3, if_neg (by omega)]
               rw [ha4]
               unfold zop
               rw [if_neg (show ¬ a4.1 = 1 by omega)]
               unfold zb4
               try dsimp only
               rw [if_neg (by omega)]
               rw [he6]
               unfold zop
               rw [if_pos (show e6.1 = 1 by omega)]
               try dsimp only
               rw [he7]
               unfold zb5
               try dsimp only
               rw [if_neg (by omega)]
             rw [ez]
             exact ⟨rfl, zRm_w t7 (by omega), fun _ j hj => by
             obtain rfl | rfl | rfl | rfl : j = 0 ∨ j = 1 ∨ j = 2 ∨ j = 3 := by omega
             · show _ = a1.1
               simp (disch := omega) only [Int.add_zero, zset_s, zset_n, w7, w6, n0, n1, n2]
             · show _ = a3.1
               simp (disch := omega) only [Int.add_zero, zset_s, zset_n, w7, w6, n0, n1, n2]
             · show _ = 0
               simp (disch := omega) only [Int.add_zero, zset_s, zset_n, w7, w6, n0, n1, n2]
             · show _ = e7.1
               simp (disch := omega) only [Int.add_zero, zset_s, zset_n, w7, w6, n0, n1, n2]⟩)
          | (have ez : zrb (M 206) (M 200 6) p = zno e7.2 := by
               unfold zrb zb1
               rw [ha1, if_neg (by omega)]
               unfold zb2
               rw [ha2, if_neg (by omega)]
               unfold zb3
               rw [ha3, if_neg (by omega)]
               rw [ha4]
               unfold zop
               rw [if_neg (show ¬ a4.1 = 1 by omega)]
               unfold zb4
               try dsimp only
               rw [if_neg (by omega)]
               rw [he6]
               unfold zop
               rw [if_pos (show e6.1 = 1 by omega)]
               try dsimp only
               rw [he7]
               unfold zb5
               try dsimp only
               rw [if_pos (by omega)]
             rw [ez]
             exact ⟨rfl, zRm_w t7 (by omega), fun q => by cases q⟩)
          | (have ez : zrb (M 206) (M 200 6) p = (1, e6.2, zrow a1.1 a3.1 0 0) := by
               unfold zrb zb1
               rw [ha1, if_neg (by omega)]
               unfold zb2
               rw [ha2, if_neg (by omega)]
               unfold zb3
               rw [ha3, if_neg (by omega)]
               rw [ha4]
               unfold zop
               rw [if_neg (show ¬ a4.1 = 1 by omega)]
               unfold zb4
               try dsimp only
               rw [if_neg (by omega)]
               rw [he6]
               unfold zop
               rw [if_neg (show ¬ e6.1 = 1 by omega)]
               try dsimp only
               unfold zb5
               try dsimp only
               rw [if_neg (by omega)]
             rw [ez]
             exact ⟨rfl, zRm_w t6 (by omega), fun _ j hj => by
             obtain rfl | rfl | rfl | rfl : j = 0 ∨ j = 1 ∨ j = 2 ∨ j = 3 := by omega
             · show _ = a1.1
               simp (disch := omega) only [Int.add_zero, zset_s, zset_n, w6, n0, n1, n2]
             · show _ = a3.1
               simp (disch := omega) only [Int.add_zero, zset_s, zset_n, w6, n0, n1, n2]
             · show _ = 0
               simp (disch := omega) only [Int.add_zero, zset_s, zset_n, w6, n0, n1, n2]
             · show _ = 0
               simp (disch := omega) only [Int.add_zero, zset_s, zset_n, w6, n0, n1, n2]⟩)
    · have c115_1 := c115_1
      refine v_aload_0 ok dX8_readBride_118 (n := 119) rfl ?_
      refine v_iconst ok dX8_readBride_119 (n := 120) rfl ?_
      refine v_bipush ok (by decide) dX8_readBride_120 (n := 122) rfl ?_
      have c122 := u_readNumberR (G := G) (ad := ad) (a := 0) (b := 11) (by omega) hln hT (by omega) t6
      rw [he7] at c122
      refine v_callVI ok (mi := mi_X8_readNumber) mc_X8_readNumber cv_X8_163 ly_200 rfl rfl rfl (by decide) ⟨Nat.zero_le _, Nat.zero_le _⟩ dX8_readBride_122 (n := 125) rfl rfl rfl (Nat.le_of_ble_eq_true rfl) (c122) (fun x7 N7 g7 => ?_)
      obtain ⟨k7, t7, w7⟩ := g7
      subst k7
      refine v_goto ok dX8_readBride_125 (n := 129) (by decide) ?_
      refine v_iast ok ly_210 rfl (by omega) (by decide) dX8_readBride_129 (n := 130) rfl ?_
      refine v_aload_0 ok dX8_readBride_130 (n := 131) rfl ?_
      refine v_getR ok fd_X8_22 ly_200 rfl rfl rfl rf_200_9 dX8_readBride_131 (n := 134) rfl ?_
      refine v_iload_1 ok dX8_readBride_134 (n := 135) rfl ?_
      refine v_iconst ok dX8_readBride_135 (n := 136) rfl ?_
      refine v_iadd ok dX8_readBride_136 (n := 137) rfl ?_
      refine v_iald ok ly_210 rfl (by omega) (by decide) dX8_readBride_137 (n := 138) rfl ?_
      try simp (disch := omega) only [zset_s]
      refine v_if_lt ok dX8_readBride_138 (tgt := 145) (by decide) (n := 141) rfl (by omega) (fun c138_3 => ?_) (fun c138_3 => ?_)
      · have c138_3 := c138_3
        first
        | (exfalso; omega)
        | skip
          refine v_iconst ok dX8_readBride_145 (n := 146) rfl ?_
          refine v_zret rt dX8_readBride_146 (by omega) ?_
          first
          | (have ez : zrb (M 206) (M 200 6) p = (1, e7.2, zrow a1.1 a3.1 0 e7.1) := by
               unfold zrb zb1
               rw [ha1, if_neg (by omega)]
               unfold zb2
               rw [ha2, if_neg (by omega)]
               unfold zb3
               rw [ha3, if_neg (by omega)]
               rw [ha4]
               unfold zop
               rw [if_neg (show ¬ a4.1 = 1 by omega)]
               unfold zb4
               try dsimp only
               rw [if_neg (by omega)]
               rw [he6]
               unfold zop
               rw [if_pos (show e6.1 = 1 by omega)]
               try dsimp only
               rw [he7]
               unfold zb5
               try dsimp only
               rw [if_neg (by omega)]
             rw [ez]
             exact ⟨rfl, zRm_w t7 (by omega), fun _ j hj => by
             obtain rfl | rfl | rfl | rfl : j = 0 ∨ j = 1 ∨ j = 2 ∨ j = 3 := by omega
             · show _ = a1.1
               simp (disch := omega) only [Int.add_zero, zset_s, zset_n, w7, w6, n0, n1, n2]
             · show _ = a3.1
               simp (disch := omega) only [Int.add_zero, zset_s, zset_n, w7, w6, n0, n1, n2]
             · show _ = 0
               simp (disch := omega) only [Int.add_zero, zset_s, zset_n, w7, w6, n0, n1, n2]
             · show _ = e7.1
               simp (disch := omega) only [Int.add_zero, zset_s, zset_n, w7, w6, n0, n1, n2]⟩)
          | (have ez : zrb (M 206) (M 200 6) p = zno e7.2 := by
               unfold zrb zb1
               rw [ha1, if_neg (by omega)]
               unfold zb2
               rw [ha2, if_neg (by omega)]
               unfold zb3
               rw [ha3, if_neg (by omega)]
               rw [ha4]
               unfold zop
               rw [if_neg (show ¬ a4.1 = 1 by omega)]
               unfold zb4
               try dsimp only
               rw [if_neg (by omega)]
               rw [he6]
               unfold zop
               rw [if_pos (show e6.1 = 1 by omega)]
               try dsimp only
               rw [he7]
               unfold zb5
               try dsimp only
               rw [if_pos (by omega)]
             rw [ez]
             exact ⟨rfl, zRm_w t7 (by omega), fun q => by cases q⟩)
          | (have ez : zrb (M 206) (M 200 6) p = (1, e6.2, zrow a1.1 a3.1 0 0) := by
               unfold zrb zb1
               rw [ha1, if_neg (by omega)]
               unfold zb2
               rw [ha2, if_neg (by omega)]
               unfold zb3
               rw [ha3, if_neg (by omega)]
               rw [ha4]
               unfold zop
               rw [if_neg (show ¬ a4.1 = 1 by omega)]
               unfold zb4
               try dsimp only
               rw [if_neg (by omega)]
               rw [he6]
               unfold zop
               rw [if_neg (show ¬ e6.1 = 1 by omega)]
               try dsimp only
               unfold zb5
               try dsimp only
               rw [if_neg (by omega)]
             rw [ez]
             exact ⟨rfl, zRm_w t6 (by omega), fun _ j hj => by
             obtain rfl | rfl | rfl | rfl : j = 0 ∨ j = 1 ∨ j = 2 ∨ j = 3 := by omega
             · show _ = a1.1
               simp (disch := omega) only [Int.add_zero, zset_s, zset_n, w6, n0, n1, n2]
             · show _ = a3.1
               simp (disch := omega) only [Int.add_zero, zset_s, zset_n, w6, n0, n1, n2]
             · show _ = 0
               simp (disch := omega) only [Int.add_zero, zset_s, zset_n, w6, n0, n1, n2]
             · show _ = 0
               simp (disch := omega) only [Int.add_zero, zset_s, zset_n, w6, n0, n1, n2]⟩)
      · have c138_3 := c138_3
        first
        | (exfalso; omega)
        | skip
          refine v_iconst ok dX8_readBride_141 (n := 142) rfl ?_
          refine v_goto ok dX8_readBride_142 (n := 146) (by decide) ?_
          refine v_zret rt dX8_readBride_146 (by omega) ?_
          first
          | (have ez : zrb (M 206) (M 200 6) p = (1, e7.2, zrow a1.1 a3.1 0 e7.1) := by
               unfold zrb zb1
               rw [ha1, if_neg (by omega)]
               unfold zb2
               rw [ha2, if_neg (by omega)]
               unfold zb3
               rw [ha3, if_neg (by omega)]
               rw [ha4]
               unfold zop
               rw [if_neg (show ¬ a4.1 = 1 by omega)]
               unfold zb4
               try dsimp only
               rw [if_neg (by omega)]
               rw [he6]
               unfold zop
               rw [if_pos (show e6.1 = 1 by omega)]
               try dsimp only
               rw [he7]
               unfold zb5
               try dsimp only
               rw [if_neg (by omega)]
             rw [ez]
             exact ⟨rfl, zRm_w t7 (by omega), fun _ j hj => by
             obtain rfl | rfl | rfl | rfl : j = 0 ∨ j = 1 ∨ j = 2 ∨ j = 3 := by omega
             · show _ = a1.1
               simp (disch := omega) only [Int.add_zero, zset_s, zset_n, w7, w6, n0, n1, n2]
             · show _ = a3.1
               simp (disch := omega) only [Int.add_zero, zset_s, zset_n, w7, w6, n0, n1, n2]
             · show _ = 0
               simp (disch := omega) only [Int.add_zero, zset_s, zset_n, w7, w6, n0, n1, n2]
             · show _ = e7.1
               simp (disch := omega) only [Int.add_zero, zset_s, zset_n, w7, w6, n0, n1, n2]⟩)
          | (have ez : zrb (M 206) (M 200 6) p = zno e7.2 := by
               unfold zrb zb1
               rw [ha1, if_neg (by omega)]
               unfold zb2
               rw [ha2, if_neg (by omega)]
               unfold zb3
               rw [ha3, if_neg (by omega)]
               rw [ha4]
               unfold zop
               rw [if_neg (show ¬ a4.1 = 1 by omega)]
               unfold zb4
               try dsimp only
               rw [if_neg (by omega)]
               rw [he6]
               unfold zop
               rw [if_pos (show e6.1 = 1 by omega)]
               try dsimp only
               rw [he7]
               unfold zb5
               try dsimp only
               rw [if_pos (by omega)]
             rw [ez]
             exact ⟨rfl, zRm_w t7 (by omega), fun q => by cases q⟩)
          | (have ez : zrb (M 206) (M 200 6) p = (1, e6.2, zrow a1.1 a3.1 0 0) := by
               unfold zrb zb1
               rw [ha1, if_neg (by omega)]
               unfold zb2
               rw [ha2, if_neg (by omega)]
               unfold zb3
               rw [ha3, if_neg (by omega)]
               rw [ha4]
               unfold zop
               rw [if_neg (show ¬ a4.1 = 1 by omega)]
               unfold zb4
               try dsimp only
               rw [if_neg (by omega)]
               rw [he6]
               unfold zop
               rw [if_neg (show ¬ e6.1 = 1 by omega)]
               try dsimp only
               unfold zb5
               try dsimp only
               rw [if_neg (by omega)]
             rw [ez]
             exact ⟨rfl, zRm_w t6 (by omega), fun _ j hj => by
             obtain rfl | rfl | rfl | rfl : j = 0 ∨ j = 1 ∨ j = 2 ∨ j = 3 := by omega
             · show _ = a1.1
               simp (disch := omega) only [Int.add_zero, zset_s, zset_n, w6, n0, n1, n2]
             · show _ = a3.1
               simp (disch := omega) only [Int.add_zero, zset_s, zset_n, w6, n0, n1, n2]
             · show _ = 0
               simp (disch := omega) only [Int.add_zero, zset_s, zset_n, w6, n0, n1, n2]
             · show _ = 0
               simp (disch := omega) only [Int.add_zero, zset_s, zset_n, w6, n0, n1, n2]⟩)
  refine v_aload_0 ok dX8_readBride_0 (n := 1) rfl ?_
  refine v_getR ok fd_X8_22 ly_200 rfl rfl rfl rf_200_9 dX8_readBride_1 (n := 4) rfl ?_
  refine v_iload_1 ok dX8_readBride_4 (n := 5) rfl ?_
  refine v_aload_0 ok dX8_readBride_5 (n := 6) rfl ?_
  refine v_bipush ok (by decide) dX8_readBride_6 (n := 8) rfl ?_
  refine v_bipush ok (by decide) dX8_readBride_8 (n := 10) rfl ?_
  have c10 := u_readNumberR (G := G) (ad := ad) (a := 20) (b := 60) (by omega) hln hT hp h
  rw [ha1] at c10
  refine v_callVI ok (mi := mi_X8_readNumber) mc_X8_readNumber cv_X8_163 ly_200 rfl rfl rfl (by decide) ⟨Nat.zero_le _, Nat.zero_le _⟩ dX8_readBride_10 (n := 13) rfl rfl rfl (Nat.le_of_ble_eq_true rfl) (c10) (fun x1 N1 g1 => ?_)
  obtain ⟨k1, t1, w1⟩ := g1
  subst k1
  refine v_iast ok ly_210 rfl (by omega) (by decide) dX8_readBride_13 (n := 14) rfl ?_
  refine v_aload_0 ok dX8_readBride_14 (n := 15) rfl ?_
  refine v_getR ok fd_X8_22 ly_200 rfl rfl rfl rf_200_9 dX8_readBride_15 (n := 18) rfl ?_
  refine v_iload_1 ok dX8_readBride_18 (n := 19) rfl ?_
  refine v_iald ok ly_210 rfl (by omega) (by decide) dX8_readBride_19 (n := 20) rfl ?_
  try simp (disch := omega) only [zset_s]
  refine v_if_lt ok dX8_readBride_20 (tgt := 32) (by decide) (n := 23) rfl (by omega) (fun c20_1 => ?_) (fun c20_1 => ?_)
  · have c20_1 := c20_1
    refine v_iconst ok dX8_readBride_32 (n := 33) rfl ?_
    refine v_zret rt dX8_readBride_33 (by omega) ?_
    first
    | (have ez : zrb (M 206) (M 200 6) p = zno a1.2 := by
         unfold zrb zb1
         rw [ha1, if_pos (by omega)]
       rw [ez]
       exact ⟨rfl, zRm_w t1 (by omega), fun q => by cases q⟩)
    | (have ez : zrb (M 206) (M 200 6) p = zno a2.2 := by
         unfold zrb zb1
         rw [ha1, if_neg (by omega)]
         unfold zb2
         rw [ha2, if_pos (by omega)]
       rw [ez]
       exact ⟨rfl, t2, fun q => by cases q⟩)
  · have c20_1 := c20_1
    refine v_aload_0 ok dX8_readBride_23 (n := 24) rfl ?_
    refine v_bipush ok (by decide) dX8_readBride_24 (n := 26) rfl ?_
    have c26 := u_takesR (G := G) (ad := ad) (c := 47) (by omega) hln hT (by omega) (zRm_w (i := t) (v := a1.1) t1 (by omega))
    rw [ha2] at c26
    refine v_callVI ok (mi := mi_X8_takes) mc_X8_takes cv_X8_167 ly_200 rfl rfl rfl (by decide) ⟨Nat.zero_le _, Nat.zero_le _⟩ dX8_readBride_26 (n := 29) rfl rfl rfl (Nat.le_of_ble_eq_true rfl) (c26) (fun x2 N2 g2 => ?_)
    obtain ⟨k2, t2, w2⟩ := g2
    subst k2
    refine v_if_ne ok dX8_readBride_29 (tgt := 34) (by decide) (n := 32) rfl (by omega) (fun c29_2 => ?_) (fun c29_2 => ?_)
    · have c29_2 := c29_2
      refine v_aload_0 ok dX8_readBride_34 (n := 35) rfl ?_
      refine v_getR ok fd_X8_22 ly_200 rfl rfl rfl rf_200_9 dX8_readBride_35 (n := 38) rfl ?_
      refine v_iload_1 ok dX8_readBride_38 (n := 39) rfl ?_
      refine v_iconst ok dX8_readBride_39 (n := 40) rfl ?_
      refine v_iadd ok dX8_readBride_40 (n := 41) rfl ?_
      refine v_aload_0 ok dX8_readBride_41 (n := 42) rfl ?_
      refine v_bipush ok (by decide) dX8_readBride_42 (n := 44) rfl ?_
      refine v_bipush ok (by decide) dX8_readBride_44 (n := 46) rfl ?_
      have c46 := u_readNumberR (G := G) (ad := ad) (a := 20) (b := 60) (by omega) hln hT (by omega) t2
      rw [ha3] at c46
      refine v_callVI ok (mi := mi_X8_readNumber) mc_X8_readNumber cv_X8_163 ly_200 rfl rfl rfl (by decide) ⟨Nat.zero_le _, Nat.zero_le _⟩ dX8_readBride_46 (n := 49) rfl rfl rfl (Nat.le_of_ble_eq_true rfl) (c46) (fun x3 N3 g3 => ?_)
      obtain ⟨k3, t3, w3⟩ := g3
      subst k3
      refine v_iast ok ly_210 rfl (by omega) (by decide) dX8_readBride_49 (n := 50) rfl ?_
      refine v_aload_0 ok dX8_readBride_50 (n := 51) rfl ?_
      refine v_getR ok fd_X8_22 ly_200 rfl rfl rfl rf_200_9 dX8_readBride_51 (n := 54) rfl ?_
      refine v_iload_1 ok dX8_readBride_54 (n := 55) rfl ?_
      refine v_iconst ok dX8_readBride_55 (n := 56) rfl ?_
      refine v_iadd ok dX8_readBride_56 (n := 57) rfl ?_
      refine v_iald ok ly_210 rfl (by omega) (by decide) dX8_readBride_57 (n := 58) rfl ?_
      try simp (disch := omega) only [zset_s]
      refine v_if_ge ok dX8_readBride_58 (tgt := 63) (by decide) (n := 61) rfl (by omega) (fun c58_3 => ?_) (fun c58_3 => ?_)
      · have c58_3 := c58_3
        refine v_aload_0 ok dX8_readBride_63 (n := 64) rfl ?_
        refine v_getR ok fd_X8_22 ly_200 rfl rfl rfl rf_200_9 dX8_readBride_64 (n := 67) rfl ?_
        refine v_iload_1 ok dX8_readBride_67 (n := 68) rfl ?_
        refine v_iconst ok dX8_readBride_68 (n := 69) rfl ?_
        refine v_iadd ok dX8_readBride_69 (n := 70) rfl ?_
        refine v_aload_0 ok dX8_readBride_70 (n := 71) rfl ?_
        refine v_bipush ok (by decide) dX8_readBride_71 (n := 73) rfl ?_
        have c73 := u_takesR (G := G) (ad := ad) (c := 115) (by omega) hln hT (by omega) (zRm_w (i := t + 1) (v := a3.1) t3 (by omega))
        rw [ha4] at c73
        refine v_callVI ok (mi := mi_X8_takes) mc_X8_takes cv_X8_167 ly_200 rfl rfl rfl (by decide) ⟨Nat.zero_le _, Nat.zero_le _⟩ dX8_readBride_73 (n := 76) rfl rfl rfl (Nat.le_of_ble_eq_true rfl) (c73) (fun x4 N4 g4 => ?_)
        obtain ⟨k4, t4, w4⟩ := g4
        subst k4
        refine v_if_eq ok dX8_readBride_76 (tgt := 87) (by decide) (n := 79) rfl (by omega) (fun c76_4 => ?_) (fun c76_4 => ?_)
        · have c76_4 := c76_4
          refine v_iconst ok dX8_readBride_87 (n := 88) rfl ?_
          refine v_iast ok ly_210 rfl (by omega) (by decide) dX8_readBride_88 (n := 89) rfl ?_
          refine v_aload_0 ok dX8_readBride_89 (n := 90) rfl ?_
          refine v_getR ok fd_X8_22 ly_200 rfl rfl rfl rf_200_9 dX8_readBride_90 (n := 93) rfl ?_
          refine v_iload_1 ok dX8_readBride_93 (n := 94) rfl ?_
          refine v_iconst ok dX8_readBride_94 (n := 95) rfl ?_
          refine v_iadd ok dX8_readBride_95 (n := 96) rfl ?_
          refine v_iald ok ly_210 rfl (by omega) (by decide) dX8_readBride_96 (n := 97) rfl ?_
          try simp (disch := omega) only [zset_s]
          refine v_if_ge ok dX8_readBride_97 (tgt := 102) (by decide) (n := 100) rfl (by omega) (fun c97_5 => ?_) (fun c97_5 => ?_)
          · have c97_5 := c97_5
            first
            | (exfalso; omega)
            | skip
              first
              | exact tlA _ (zRm_w t5 (by omega)) (by simp (disch := omega) only [zset_s, zset_n, w5, w4, w3, w2]) (by simp (disch := omega) only [zset_s, zset_n, w5, w4, w3, w2]) (by simp (disch := omega) only [zset_s]) (by omega) (by omega) (by omega) (by omega) (by omega)
              | exact tlB _ (zRm_w t4 (by omega)) (by simp (disch := omega) only [zset_s, zset_n, w4, w3, w2]) (by simp (disch := omega) only [zset_s, zset_n, w4, w3, w2]) (by simp (disch := omega) only [zset_s]) (by omega) (by omega) (by omega) (by omega) (by omega)
          · have c97_5 := c97_5
            first
            | (exfalso; omega)
            | skip
              refine v_iconst ok dX8_readBride_100 (n := 101) rfl ?_
              refine v_zret rt dX8_readBride_101 (by omega) ?_
              first
              | (have ez : zrb (M 206) (M 200 6) p = zno a5.2 := by
                   unfold zrb zb1
                   rw [ha1, if_neg (by omega)]
                   unfold zb2
                   rw [ha2, if_neg (by omega)]
                   unfold zb3
                   rw [ha3, if_neg (by omega)]
                   rw [ha4]
                   unfold zop
                   rw [if_pos (show a4.1 = 1 by omega), ha5]
                   unfold zb4
                   try dsimp only
                   rw [if_pos (by omega)]
                 rw [ez]
                 exact ⟨rfl, zRm_w t5 (by omega), fun q => by cases q⟩)
        · have c76_4 := c76_4
          refine v_aload_0 ok dX8_readBride_79 (n := 80) rfl ?_
          refine v_iconst ok dX8_readBride_80 (n := 81) rfl ?_
          have c81 := u_readDigitR (G := G) (ad := ad) hln hT (by omega) t4
          rw [ha5] at c81
          refine v_callVI ok (mi := mi_X8_readDigit) mc_X8_readDigit cv_X8_170 ly_200 rfl rfl rfl (by decide) ⟨Nat.zero_le _, Nat.zero_le _⟩ dX8_readBride_81 (n := 84) rfl rfl rfl (Nat.le_of_ble_eq_true rfl) (c81) (fun x5 N5 g5 => ?_)
          obtain ⟨k5, t5, w5⟩ := g5
          subst k5
          refine v_goto ok dX8_readBride_84 (n := 88) (by decide) ?_
          refine v_iast ok ly_210 rfl (by omega) (by decide) dX8_readBride_88 (n := 89) rfl ?_
          refine v_aload_0 ok dX8_readBride_89 (n := 90) rfl ?_
          refine v_getR ok fd_X8_22 ly_200 rfl rfl rfl rf_200_9 dX8_readBride_90 (n := 93) rfl ?_
          refine v_iload_1 ok dX8_readBride_93 (n := 94) rfl ?_
          refine v_iconst ok dX8_readBride_94 (n := 95) rfl ?_
          refine v_iadd ok dX8_readBride_95 (n := 96) rfl ?_
          refine v_iald ok ly_210 rfl (by omega) (by decide) dX8_readBride_96 (n := 97) rfl ?_
          try simp (disch := omega) only [zset_s]
          refine v_if_ge ok dX8_readBride_97 (tgt := 102) (by decide) (n := 100) rfl (by omega) (fun c97_6 => ?_) (fun c97_6 => ?_)
          · have c97_6 := c97_6
            first
            | (exfalso; omega)
            | skip
              first
              | exact tlA _ (zRm_w t5 (by omega)) (by simp (disch := omega) only [zset_s, zset_n, w5, w4, w3, w2]) (by simp (disch := omega) only [zset_s, zset_n, w5, w4, w3, w2]) (by simp (disch := omega) only [zset_s]) (by omega) (by omega) (by omega) (by omega) (by omega)
              | exact tlB _ (zRm_w t4 (by omega)) (by simp (disch := omega) only [zset_s, zset_n, w4, w3, w2]) (by simp (disch := omega) only [zset_s, zset_n, w4, w3, w2]) (by simp (disch := omega) only [zset_s]) (by omega) (by omega) (by omega) (by omega) (by omega)
          · have c97_6 := c97_6
            first
            | (exfalso; omega)
            | skip
              refine v_iconst ok dX8_readBride_100 (n := 101) rfl ?_
              refine v_zret rt dX8_readBride_101 (by omega) ?_
              first
              | (have ez : zrb (M 206) (M 200 6) p = zno a5.2 := by
                   unfold zrb zb1
                   rw [ha1, if_neg (by omega)]
                   unfold zb2
                   rw [ha2, if_neg (by omega)]
                   unfold zb3
                   rw [ha3, if_neg (by omega)]
                   rw [ha4]
                   unfold zop
                   rw [if_pos (show a4.1 = 1 by omega), ha5]
                   unfold zb4
                   try dsimp only
                   rw [if_pos (by omega)]
                 rw [ez]
                 exact ⟨rfl, zRm_w t5 (by omega), fun q => by cases q⟩)
      · have c58_3 := c58_3
        refine v_iconst ok dX8_readBride_61 (n := 62) rfl ?_
        refine v_zret rt dX8_readBride_62 (by omega) ?_
        first
        | (have ez : zrb (M 206) (M 200 6) p = zno a3.2 := by
             unfold zrb zb1
             rw [ha1, if_neg (by omega)]
             unfold zb2
             rw [ha2, if_neg (by omega)]
             unfold zb3
             rw [ha3, if_pos (by omega)]
           rw [ez]
           exact ⟨rfl, zRm_w t3 (by omega), fun q => by cases q⟩)
    · have c29_2 := c29_2
      refine v_iconst ok dX8_readBride_32 (n := 33) rfl ?_
      refine v_zret rt dX8_readBride_33 (by omega) ?_
      first
      | (have ez : zrb (M 206) (M 200 6) p = zno a1.2 := by
           unfold zrb zb1
           rw [ha1, if_pos (by omega)]
         rw [ez]
         exact ⟨rfl, zRm_w t1 (by omega), fun q => by cases q⟩)
      | (have ez : zrb (M 206) (M 200 6) p = zno a2.2 := by
           unfold zrb zb1
           rw [ha1, if_neg (by omega)]
           unfold zb2
           rw [ha2, if_pos (by omega)]
         rw [ez]
         exact ⟨rfl, t2, fun q => by cases q⟩)

