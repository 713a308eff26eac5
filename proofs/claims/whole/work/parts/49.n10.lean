/-! the model: the shoes of a side -/
/-- the shoe s of the model is there, of the side d -/
abbrev zMP (M : zM) (d : Int) : Int → Prop := fun s => M 202 (4 * s) = d ∧ M 202 (4 * s + 3) = 0
/-- the first cnt places hold the shoes that are there of the first s -/
def zwhc (M : zM) (d : Int) (w : Int → Int) (s : Int) : Prop := ∀ k, 0 ≤ k ∧ k < zcnt (zMP M d) s.toNat → (0 ≤ w k ∧ w k < s) ∧ zMP M d (w k) ∧ zcnt (zMP M d) (w k).toNat = k
theorem zwhc_n {M : zM} {d : Int} {w : Int → Int} {s : Int} (hs : 0 ≤ s) (h : zwhc M d w s) (hp : ¬ zMP M d s) : zcnt (zMP M d) (s + 1).toNat = zcnt (zMP M d) s.toNat ∧ zwhc M d w (s + 1) := by
  have e : zcnt (zMP M d) (s + 1).toNat = zcnt (zMP M d) s.toNat := by
    rw [show (s + 1).toNat = s.toNat + 1 by omega]
    conv => lhs; unfold zcnt
    rw [show ((s.toNat : Nat) : Int) = s by omega, if_neg hp, Int.add_zero]
  refine ⟨e, fun k hk => ?_⟩
  rw [e] at hk
  have := h k hk
  exact ⟨by omega, this.2⟩
theorem zwhc_y {M : zM} {d : Int} {w : Int → Int} {s : Int} (hs : 0 ≤ s) (h : zwhc M d w s) (hp : zMP M d s) : zcnt (zMP M d) (s + 1).toNat = zcnt (zMP M d) s.toNat + 1 ∧ zwhc M d (fun j => if j = zcnt (zMP M d) s.toNat then s else w j) (s + 1) := by
  have e : zcnt (zMP M d) (s + 1).toNat = zcnt (zMP M d) s.toNat + 1 := by
    rw [show (s + 1).toNat = s.toNat + 1 by omega]
    conv => lhs; unfold zcnt
    rw [show ((s.toNat : Nat) : Int) = s by omega, if_pos hp]
  refine ⟨e, fun k hk => ?_⟩
  rw [e] at hk
  by_cases hkk : k = zcnt (zMP M d) s.toNat
  · dsimp only
    rw [if_pos hkk]
    exact ⟨by omega, hp, hkk.symm⟩
  · dsimp only
    rw [if_neg hkk]
    have := h k (by omega)
    exact ⟨by omega, this.2⟩
def zask2 (M : zM) (w : Int → Int) (b k : Int) : Int := zask (zfo (zQB M b) (M 202 (4 * w k)) (M 201 (4 * b + 3))) (M 202 (4 * w k + 1)) (M 202 (4 * w k + 2)) (M 205 0) (M 205 1)
set_option maxHeartbeats 4000000 in
set_option maxRecDepth 100000 in
theorem u_findSide {G : zG} {ad : Int → Nat} {M : zM} {d : Int} (hd : 0 ≤ d ∧ d ≤ 1) (hnb : 0 ≤ M 200 2 ∧ M 200 2 ≤ 7) (hns : 0 ≤ M 200 3 ∧ M 200 3 ≤ 16) (hB : ∀ b, 0 ≤ b ∧ b < M 200 2 → zMB M b) (hS : ∀ s, 0 ≤ s ∧ s < M 200 3 → zMS M s) (h0 : 0 ≤ M 205 0 ∧ M 205 0 ≤ 6) (h1 : 0 ≤ M 205 1 ∧ M 205 1 ≤ 6)  : zTV G (zw ad) mi_X8_findSide [zr 200, zi d] M (fun M' => (∀ r, r ≠ 200 → r ≠ 211 → r ≠ 213 → M' r = M r) ∧ (∀ j, j ≠ 11 → M' 200 j = M 200 j) ∧ M' 200 11 = zcnt (zMP M d)  (M 200 3).toNat ∧ zwhc M d (M' 211) (M 200 3) ∧ ∀ b k, 0 ≤ b ∧ b < M 200 2 → 0 ≤ k ∧ k < zcnt (zMP M d)  (M 200 3).toNat → M' 213 (16 * b + k) = zask2 M (M' 211) b k) := by
  refine zTV.of (own := RX8) (ls := [some (zr 200), some (zi d), none, none]) (by decide +kernel) rfl rfl (Nat.le_of_ble_eq_true rfl) (fun γ ok rt => ?_)
  have k66 : ∀ (M1 : zM), (∀ r, r ≠ 200 → r ≠ 211 → M1 r = M r) → (∀ j, j ≠ 11 → M1 200 j = M 200 j) → M1 200 11 = zcnt (zMP M d)  (M 200 3).toNat → zwhc M d (M1 211) (M 200 3) → zVV G γ (zw ad) (0, 0) 66 [some (zr 200), some (zi d), some (zi (M 200 3)), none] [] M1 := by
    intro M1 fm f2 hc hw
    have cb := zcnt_b (zMP M d) (M 200 3).toNat
    have lpo : ∀ (zn : Nat) (b : Int) (l3 : Option zV) (Mx : zM), zn = (7 - b).toNat → (0 ≤ b ∧ b ≤ M 200 2) → (∀ r, r ≠ 213 → Mx r = M1 r) → (∀ c j, 0 ≤ c ∧ c < M 200 2 → 0 ≤ j ∧ j < M1 200 11 → c < b → Mx 213 (16 * c + j) = zask2 M (M1 211) c j) → zVV G γ (zw ad) (0, 0) 68 [some (zr 200), some (zi d), some (zi b), l3] [] Mx := by
      refine zrec _ (fun zn ih => ?_)
      intro b l3 Mx hzn hb fx ha
      refine v_iload_2 ok dX8_findSide_68 (n := 69) rfl ?_
      refine v_aload_0 ok dX8_findSide_69 (n := 70) rfl ?_
      refine v_getI ok fd_X8_81 ly_200 rfl rfl (jI := 2) rfl dX8_findSide_70 (n := 73) rfl ?_
      try simp (disch := omega) only [fx, fm, f2]
      refine v_icmp_ge ok dX8_findSide_73 (tgt := 130) (by decide) (n := 76) rfl (by omega) (by omega) (fun c73_1 => ?_) (fun c73_1 => ?_)
      · have c73_1 := c73_1
        refine v_vret rt dX8_findSide_130 ?_
        refine ⟨fun r h1 h2 h3 => by rw [fx r h3, fm r h1 h2], fun j hj => by rw [fx 200 (by omega), f2 j hj], by rw [fx 200 (by omega)]; exact hc, by rw [fx 211 (by omega)]; exact hw, ?_⟩
        rw [fx 211 (by omega)]
        exact fun b k hb hk => ha b k hb (by omega) (by omega)
      · have c73_1 := c73_1
        have ih2 := ih
        have lpi : ∀ (zn : Nat) (k : Int) (Mx : zM), zn = (16 - k).toNat → (0 ≤ k ∧ k ≤ M1 200 11) → (∀ r, r ≠ 213 → Mx r = M1 r) → (∀ c j, 0 ≤ c ∧ c < M 200 2 → 0 ≤ j ∧ j < M1 200 11 → (c < b ∨ (c = b ∧ j < k)) → Mx 213 (16 * c + j) = zask2 M (M1 211) c j) → zVV G γ (zw ad) (0, 0) 78 [some (zr 200), some (zi d), some (zi b), some (zi k)] [] Mx := by
          refine zrec _ (fun zn ih => ?_)
          intro k Mx hzn hk fx ha
          refine v_iload_3 ok dX8_findSide_78 (n := 79) rfl ?_
          refine v_aload_0 ok dX8_findSide_79 (n := 80) rfl ?_
          refine v_getI ok fd_X8_186 ly_200 rfl rfl (jI := 11) rfl dX8_findSide_80 (n := 83) rfl ?_
          try simp (disch := omega) only [fx, fm, f2]
          refine v_icmp_ge ok dX8_findSide_83 (tgt := 124) (by decide) (n := 86) rfl (by omega) (by omega) (fun c83_1 => ?_) (fun c83_1 => ?_)
          · have c83_1 := c83_1
            refine v_iinc_2 ok (by decide) rfl dX8_findSide_124 (n := 127) rfl ?_
            refine v_goto ok dX8_findSide_127 (n := 68) (by decide) ?_
            exact ih2 _ (by omega) (b + 1) _ _ rfl (by omega) fx (fun c j hc hj hcj => ha c j hc hj (by omega))
          · have c83_1 := c83_1
            have hwk := hw k (by omega)
            have hBb := hB b (by omega)
            refine v_aload_0 ok dX8_findSide_86 (n := 87) rfl ?_
            refine v_getR ok fd_X8_28 ly_200 rfl rfl rfl rf_200_12 dX8_findSide_87 (n := 90) rfl ?_
            refine v_bipush ok (by decide) dX8_findSide_90 (n := 92) rfl ?_
            refine v_iload_2 ok dX8_findSide_92 (n := 93) rfl ?_
            refine v_imul ok dX8_findSide_93 (n := 94) rfl ?_
            refine v_iload_3 ok dX8_findSide_94 (n := 95) rfl ?_
            refine v_iadd ok dX8_findSide_95 (n := 96) rfl ?_
            refine v_aload_0 ok dX8_findSide_96 (n := 97) rfl ?_
            refine v_aload_0 ok dX8_findSide_97 (n := 98) rfl ?_
            refine v_getR ok fd_X8_25 ly_200 rfl rfl rfl rf_200_10 dX8_findSide_98 (n := 101) rfl ?_
            refine v_iload_3 ok dX8_findSide_101 (n := 102) rfl ?_
            refine v_iald ok ly_211 rfl (by omega) (by decide) dX8_findSide_102 (n := 103) rfl ?_
            try simp (disch := omega) only [fx, fm, f2]
            refine v_iload_2 ok dX8_findSide_103 (n := 104) rfl ?_
            refine v_aload_0 ok dX8_findSide_104 (n := 105) rfl ?_
            refine v_getR ok fd_X8_7 ly_200 rfl rfl rfl rf_200_0 dX8_findSide_105 (n := 108) rfl ?_
            refine v_iconst ok dX8_findSide_108 (n := 109) rfl ?_
            refine v_iload_2 ok dX8_findSide_109 (n := 110) rfl ?_
            refine v_imul ok dX8_findSide_110 (n := 111) rfl ?_
            refine v_iconst ok dX8_findSide_111 (n := 112) rfl ?_
            refine v_iadd ok dX8_findSide_112 (n := 113) rfl ?_
            refine v_iald ok ly_201 rfl (by omega) (by decide) dX8_findSide_113 (n := 114) rfl ?_
            try simp (disch := omega) only [fx, fm, f2]
            have e114 := u_askedOf (G := G) (ad := ad) (M := Mx) (s := M1 211 k) (b := b) (h := M 201 (4 * b + 3)) (by omega) (by omega) hBb.2.2.2 (by unfold zMB; rw [fx 201 (by omega), fm 201 (by omega) (by omega)]; exact hBb) (by unfold zMS; rw [fx 202 (by omega), fm 202 (by omega) (by omega)]; exact hS _ (by omega)) (by rw [fx 205 (by omega), fm 205 (by omega) (by omega)]; exact h0) (by rw [fx 205 (by omega), fm 205 (by omega) (by omega)]; exact h1)
            unfold zQB at e114
            rw [fx 201 (by omega), fm 201 (by omega) (by omega), fx 202 (by omega), fm 202 (by omega) (by omega), fx 205 (by omega), fm 205 (by omega) (by omega)] at e114
            refine v_callVI ok (mi := mi_X8_askedOf) mc_X8_askedOf cv_X8_138 ly_200 rfl rfl rfl (by decide) ⟨Nat.zero_le _, Nat.zero_le _⟩ dX8_findSide_114 (n := 117) rfl rfl rfl (Nat.le_of_ble_eq_true rfl) (e114) (fun x9 N9 g9 => ?_)
            obtain ⟨k9, w9⟩ := g9
            subst k9
            replace w9 : x9 = zask2 M (M1 211) b k := w9
            subst w9
            refine v_iast ok ly_213 rfl (by omega) (by decide) dX8_findSide_117 (n := 118) rfl ?_
            refine v_iinc_3 ok (by decide) rfl dX8_findSide_118 (n := 121) rfl ?_
            refine v_goto ok dX8_findSide_121 (n := 78) (by decide) ?_
            exact ih _ (by omega) (k + 1) _ rfl (by omega) (fun r hr => by rw [zset_o hr]; exact fx r hr) (fun c j hc hj hcj => by
              by_cases e : c = b ∧ j = k
              · rw [e.1, e.2, zset_s]
              · rw [zset_n (by omega)]
                exact ha c j hc hj (by omega))
        refine v_iconst ok dX8_findSide_76 (n := 77) rfl ?_
        refine v_istore_3 ok (by decide) rfl dX8_findSide_77 (n := 78) rfl ?_
        exact lpi _ 0 _ rfl (by omega) fx (fun c j hc hj hcj => ha c j hc hj (by omega))
    refine v_iconst ok dX8_findSide_66 (n := 67) rfl ?_
    refine v_istore_2 ok (by decide) rfl dX8_findSide_67 (n := 68) rfl ?_
    exact lpo _ 0 _ _ rfl (by omega) (fun r hr => rfl) (fun c j hc hj hcj => by omega)
  have lp1 : ∀ (zn : Nat) (s : Int) (Mx : zM), zn = (16 - s).toNat → (0 ≤ s ∧ s ≤ M 200 3) → (∀ r, r ≠ 200 → r ≠ 211 → Mx r = M r) → (∀ j, j ≠ 11 → Mx 200 j = M 200 j) → (Mx 200 11 = zcnt (zMP M d)  s.toNat) → (zwhc M d (Mx 211) s) → zVV G γ (zw ad) (0, 0) 7 [some (zr 200), some (zi d), some (zi s), none] [] Mx := by
    refine zrec _ (fun zn ih => ?_)
    intro s Mx hzn hs fx f2 hc hw
    refine v_iload_2 ok dX8_findSide_7 (n := 8) rfl ?_
    refine v_aload_0 ok dX8_findSide_8 (n := 9) rfl ?_
    refine v_getI ok fd_X8_89 ly_200 rfl rfl (jI := 3) rfl dX8_findSide_9 (n := 12) rfl ?_
    try simp (disch := omega) only [fx, f2, zset_o]
    refine v_icmp_ge ok dX8_findSide_12 (tgt := 66) (by decide) (n := 15) rfl (by omega) (by omega) (fun c12_1 => ?_) (fun c12_1 => ?_)
    · have c12_1 := c12_1
      rw [show s = M 200 3 by omega] at hc hw ⊢
      exact k66 _ fx f2 hc hw
    · have c12_1 := c12_1
      obtain ⟨s0, s1, s2, s3⟩ := hS s (by omega)
      have cb := zcnt_b (zMP M d) s.toNat
      refine v_aload_0 ok dX8_findSide_15 (n := 16) rfl ?_
      refine v_getR ok fd_X8_13 ly_200 rfl rfl rfl rf_200_1 dX8_findSide_16 (n := 19) rfl ?_
      refine v_iconst ok dX8_findSide_19 (n := 20) rfl ?_
      refine v_iload_2 ok dX8_findSide_20 (n := 21) rfl ?_
      refine v_imul ok dX8_findSide_21 (n := 22) rfl ?_
      refine v_iald ok ly_202 rfl (by omega) (by decide) dX8_findSide_22 (n := 23) rfl ?_
      try simp (disch := omega) only [fx, f2, zset_o]
      refine v_iload_1 ok dX8_findSide_23 (n := 24) rfl ?_
      refine v_icmp_ne ok dX8_findSide_24 (tgt := 60) (by decide) (n := 27) rfl (by omega) (by omega) (fun c24_2 => ?_) (fun c24_2 => ?_)
      · have c24_2 := c24_2
        have hy := zwhc_n hs.1 hw (fun q => absurd q.1 (by assumption))
        refine v_iinc_2 ok (by decide) rfl dX8_findSide_60 (n := 63) rfl ?_
        refine v_goto ok dX8_findSide_63 (n := 7) (by decide) ?_
        first
        | exact ih _ (by omega) (s + 1) Mx rfl (by omega) fx f2 (by rw [hc, hy.1]) hy.2
        | (refine ih _ (by omega) (s + 1) _ rfl (by omega) (fun r h1 h2 => by rw [zset_o h1, zset_o h2]; exact fx r h1 h2) (fun j hj => by rw [zset_n hj, zset_o (by omega)]; exact f2 j hj) (by rw [zset_s, hy.1]) ?_
           have e : (zset (zset Mx 211 (zcnt (zMP M d) s.toNat) s) 200 11 (zcnt (zMP M d) s.toNat + 1)) 211 = fun j => if j = zcnt (zMP M d) s.toNat then s else Mx 211 j := by
             funext j
             rw [zset_o (by omega)]
             by_cases hj : j = zcnt (zMP M d) s.toNat
             · rw [if_pos hj, hj, zset_s]
             · rw [if_neg hj, zset_n hj]
           rw [e]
           exact hy.2)
      · have c24_2 := c24_2
        refine v_aload_0 ok dX8_findSide_27 (n := 28) rfl ?_
        refine v_getR ok fd_X8_13 ly_200 rfl rfl rfl rf_200_1 dX8_findSide_28 (n := 31) rfl ?_
        refine v_iconst ok dX8_findSide_31 (n := 32) rfl ?_
        refine v_iload_2 ok dX8_findSide_32 (n := 33) rfl ?_
        refine v_imul ok dX8_findSide_33 (n := 34) rfl ?_
        refine v_iconst ok dX8_findSide_34 (n := 35) rfl ?_
        refine v_iadd ok dX8_findSide_35 (n := 36) rfl ?_
        refine v_iald ok ly_202 rfl (by omega) (by decide) dX8_findSide_36 (n := 37) rfl ?_
        try simp (disch := omega) only [fx, f2, zset_o]
        refine v_if_ne ok dX8_findSide_37 (tgt := 60) (by decide) (n := 40) rfl (by omega) (fun c37_3 => ?_) (fun c37_3 => ?_)
        · have c37_3 := c37_3
          have hy := zwhc_n hs.1 hw (fun q => absurd q.2 (by assumption))
          refine v_iinc_2 ok (by decide) rfl dX8_findSide_60 (n := 63) rfl ?_
          refine v_goto ok dX8_findSide_63 (n := 7) (by decide) ?_
          first
          | exact ih _ (by omega) (s + 1) Mx rfl (by omega) fx f2 (by rw [hc, hy.1]) hy.2
          | (refine ih _ (by omega) (s + 1) _ rfl (by omega) (fun r h1 h2 => by rw [zset_o h1, zset_o h2]; exact fx r h1 h2) (fun j hj => by rw [zset_n hj, zset_o (by omega)]; exact f2 j hj) (by rw [zset_s, hy.1]) ?_
             have e : (zset (zset Mx 211 (zcnt (zMP M d) s.toNat) s) 200 11 (zcnt (zMP M d) s.toNat + 1)) 211 = fun j => if j = zcnt (zMP M d) s.toNat then s else Mx 211 j := by
               funext j
               rw [zset_o (by omega)]
               by_cases hj : j = zcnt (zMP M d) s.toNat
               · rw [if_pos hj, hj, zset_s]
               · rw [if_neg hj, zset_n hj]
             rw [e]
             exact hy.2)
        · have c37_3 := c37_3
          have hy := zwhc_y hs.1 hw ⟨by assumption, by assumption⟩
          refine v_aload_0 ok dX8_findSide_40 (n := 41) rfl ?_
          refine v_getR ok fd_X8_25 ly_200 rfl rfl rfl rf_200_10 dX8_findSide_41 (n := 44) rfl ?_
          refine v_aload_0 ok dX8_findSide_44 (n := 45) rfl ?_
          refine v_getI ok fd_X8_186 ly_200 rfl rfl (jI := 11) rfl dX8_findSide_45 (n := 48) rfl ?_
          try simp (disch := omega) only [fx, f2, zset_o]
          try rw [hc]
          refine v_iload_2 ok dX8_findSide_48 (n := 49) rfl ?_
          refine v_iast ok ly_211 rfl (by omega) (by decide) dX8_findSide_49 (n := 50) rfl ?_
          refine v_aload_0 ok dX8_findSide_50 (n := 51) rfl ?_
          refine v_dup ok rfl dX8_findSide_51 (n := 52) rfl ?_
          refine v_getI ok fd_X8_186 ly_200 rfl rfl (jI := 11) rfl dX8_findSide_52 (n := 55) rfl ?_
          try simp (disch := omega) only [fx, f2, zset_o]
          try rw [hc]
          refine v_iconst ok dX8_findSide_55 (n := 56) rfl ?_
          refine v_iadd ok dX8_findSide_56 (n := 57) rfl ?_
          refine v_putI ok fw_X8_186 ly_200 rfl rfl (jI := 11) rfl dX8_findSide_57 (n := 60) rfl ?_
          refine v_iinc_2 ok (by decide) rfl dX8_findSide_60 (n := 63) rfl ?_
          refine v_goto ok dX8_findSide_63 (n := 7) (by decide) ?_
          first
          | exact ih _ (by omega) (s + 1) Mx rfl (by omega) fx f2 (by rw [hc, hy.1]) hy.2
          | (refine ih _ (by omega) (s + 1) _ rfl (by omega) (fun r h1 h2 => by rw [zset_o h1, zset_o h2]; exact fx r h1 h2) (fun j hj => by rw [zset_n hj, zset_o (by omega)]; exact f2 j hj) (by rw [zset_s, hy.1]) ?_
             have e : (zset (zset Mx 211 (zcnt (zMP M d) s.toNat) s) 200 11 (zcnt (zMP M d) s.toNat + 1)) 211 = fun j => if j = zcnt (zMP M d) s.toNat then s else Mx 211 j := by
               funext j
               rw [zset_o (by omega)]
               by_cases hj : j = zcnt (zMP M d) s.toNat
               · rw [if_pos hj, hj, zset_s]
               · rw [if_neg hj, zset_n hj]
             rw [e]
             exact hy.2)
  refine v_aload_0 ok dX8_findSide_0 (n := 1) rfl ?_
  refine v_iconst ok dX8_findSide_1 (n := 2) rfl ?_
  refine v_putI ok fw_X8_186 ly_200 rfl rfl (jI := 11) rfl dX8_findSide_2 (n := 5) rfl ?_
  refine v_iconst ok dX8_findSide_5 (n := 6) rfl ?_
  refine v_istore_2 ok (by decide) rfl dX8_findSide_6 (n := 7) rfl ?_
  exact lp1 _ 0 _ rfl (by omega) (fun r h1 h2 => zset_o h1) (fun j hj => zset_n hj) (by rw [zset_s]; rfl) (fun k hk => by have : zcnt (zMP M d) (0 : Int).toNat = 0 := rfl; omega)

