/-! the model: the least sums by sets of shoes -/
theorem zin_g {h t n : Int} (hn : 0 ≤ n ∧ n ≤ 29) (hh : 0 ≤ h ∧ h < zp2 n) (ht : 0 ≤ t ∧ t < n) (hb : zbit h t = 0) : h + zp2 t < zp2 n := by
  have h6 : zp2 n ≤ 536870912 := zp2_le (b := 29) hn.2
  have h1 := zp2_pos t
  have h2 : zp2 t ≤ 536870912 := zp2_le (b := 29) (by omega)
  have e := zor_in (x := h) (b := t) (by omega) (by omega) hb
  have e2 := zor_n (x := h) (y := zp2 t) (by omega) (by omega)
  have e3 : (zp2 t).toNat = 2 ^ t.toNat := by rw [zp2_nat]; exact Int.toNat_natCast _
  have e4 : zp2 n = ((2 ^ n.toNat : Nat) : Int) := zp2_nat n
  have hlt : h.toNat ||| (zp2 t).toNat < 2 ^ n.toNat := Nat.or_lt_two_pow (by omega) (by rw [e3]; exact Nat.pow_lt_pow_right (by omega) (by omega))
  omega
/-- the least sum after the set h, over the first k shoes -/
def zlfk (a L : Int → Int) (h : Int) : Nat → Int
  | 0 => 1000000
  | k + 1 => if zbit h k = 0 ∧ 0 ≤ a k then (if a k + L (h + zp2 k) < zlfk a L h k then a k + L (h + zp2 k) else zlfk a L h k) else zlfk a L h k
def zlfv (B : Int → Int → Int) (nb w : Int) (L : Int → Int) (h : Int) : Int := if zone h = nb then 0 else if nb ≤ zone h then 1000000 else zlfk (B (zone h)) L h w.toNat
theorem zlfk_c {a L L' : Int → Int} {h : Int} (k : Nat) (hL : ∀ t : Nat, t < k → zbit h t = 0 → L' (h + zp2 t) = L (h + zp2 t)) : zlfk a L' h k = zlfk a L h k := by
  induction k with
  | zero => rfl
  | succ k ih =>
    have ih := ih (fun t ht => hL t (by omega))
    unfold zlfk
    by_cases hb : zbit h k = 0 ∧ 0 ≤ a k
    · rw [if_pos hb, if_pos hb, ih, hL k (by omega) hb.1]
    · rw [if_neg hb, if_neg hb, ih]
def zLst (B : Int → Int → Int) (nb w : Int) (L : Int → Int) (h : Int) : Prop := ∀ j, h < j ∧ j ≤ zp2 w - 1 → L j = zlfv B nb w L j ∧ 0 ≤ L j ∧ L j ≤ 1000000
theorem zlfv_c {B : Int → Int → Int} {nb w h j v : Int} {M : zM} (hj : h ≤ j) : zlfv B nb w (zset M 214 h v 214) j = zlfv B nb w (M 214) j := by
  unfold zlfv
  rw [zlfk_c _ (fun t ht hb => by have hp := zp2_pos t; exact zset_n (by omega))]
theorem zLst_s {B : Int → Int → Int} {nb w h v : Int} {M : zM} (H : zLst B nb w (M 214) h) (hv : v = zlfv B nb w (M 214) h) (hb : 0 ≤ v ∧ v ≤ 1000000) : zLst B nb w (zset M 214 h v 214) (h + -1) := by
  intro j hj
  rw [zlfv_c (by omega)]
  by_cases e : j = h
  · subst e
    rw [zset_s, ← hv]
    exact ⟨rfl, hb⟩
  · rw [zset_n e]
    exact H j (by omega)
theorem zLst_o {B : Int → Int → Int} {nb w h v : Int} {M : zM} (H : zLst B nb w (M 214) h) : zLst B nb w (zset M 214 h v 214) h := by
  intro j hj
  rw [zlfv_c (by omega), zset_n (by omega)]
  exact H j hj
set_option maxHeartbeats 4000000 in
set_option maxRecDepth 100000 in
theorem u_findLeast {G : zG} {ad : Int → Nat} {M : zM} (hnb : 0 ≤ M 200 2 ∧ M 200 2 ≤ 7) (hw : 0 ≤ M 200 11 ∧ M 200 11 ≤ 16) (hA : ∀ b k, 0 ≤ b ∧ b < M 200 2 → 0 ≤ k ∧ k < M 200 11 → -4 ≤ M 213 (16 * b + k) ∧ M 213 (16 * b + k) ≤ 6)  : zTI G (zw ad) mi_X8_findLeast [zr 200] M (fun x M' => (∀ r, r ≠ 214 → M' r = M r) ∧ zLst (fun b k => M 213 (16 * b + k)) (M 200 2) (M 200 11) (M' 214) (-1) ∧ x = M' 214 0) := by
  refine zTI.of (own := RX8) (ls := [some (zr 200), none, none, none, none]) (by decide +kernel) rfl rfl (Nat.le_of_ble_eq_true rfl) (fun γ ok rt => ?_)
  have p1 := zp2_pos (M 200 11)
  have p2 : zp2 (M 200 11) ≤ 65536 := zp2_le (b := 16) hw.2
  have lph : ∀ (zn : Nat) (h : Int) (l2 l3 l4 : Option zV) (Mx : zM), zn = (h + 1).toNat → (-1 ≤ h ∧ h ≤ zp2 (M 200 11) - 1) → (∀ r, r ≠ 214 → Mx r = M r) → (zLst (fun b k => M 213 (16 * b + k)) (M 200 2) (M 200 11) (Mx 214) h) → zVV G γ (zw ad) (0, 0) 9 [some (zr 200), some (zi h), l2, l3, l4] [] Mx := by
    refine zrec _ (fun zn ih => ?_)
    intro h l2 l3 l4 Mx hzn hh fx tb
    refine v_iload_1 ok dX8_findLeast_9 (n := 10) rfl ?_
    refine v_if_lt ok dX8_findLeast_10 (tgt := 142) (by decide) (n := 13) rfl (by omega) (fun c10_1 => ?_) (fun c10_1 => ?_)
    · have c10_1 := c10_1
      refine v_aload_0 ok dX8_findLeast_142 (n := 143) rfl ?_
      refine v_getR ok fd_X8_32 ly_200 rfl rfl rfl rf_200_13 dX8_findLeast_143 (n := 146) rfl ?_
      refine v_iconst ok dX8_findLeast_146 (n := 147) rfl ?_
      refine v_iald ok ly_214 rfl (by omega) (by decide) dX8_findLeast_147 (n := 148) rfl ?_
      try simp (disch := omega) only [fx]
      refine v_iret rt dX8_findLeast_148 ?_
      exact ⟨fx, by rw [show h = -1 by omega] at tb; exact tb, rfl⟩
    · have c10_1 := c10_1
      have hz := zone_b h
      have ih2 := ih
      have lpk : ∀ (zn : Nat) (k : Int) (l4 : Option zV) (Mx : zM), zn = (17 - k).toNat → (0 ≤ k ∧ k ≤ M 200 11) → (∀ r, r ≠ 214 → Mx r = M r) → (zLst (fun b k => M 213 (16 * b + k)) (M 200 2) (M 200 11) (Mx 214) h) → ((M 200 2 ≤ zone h ∧ Mx 214 h = zlfv (fun b k => M 213 (16 * b + k)) (M 200 2) (M 200 11) (Mx 214) h) ∨ (zone h < M 200 2 ∧ Mx 214 h = zlfk ((fun b k => M 213 (16 * b + k)) (zone h)) (Mx 214) h k.toNat)) → (0 ≤ Mx 214 h ∧ Mx 214 h ≤ 1000000) → zVV G γ (zw ad) (0, 0) 40 [some (zr 200), some (zi h), some (zi (zone h)), some (zi k), l4] [] Mx := by
        refine zrec _ (fun zn ih => ?_)
        intro k l4 Mx hzn hk fx tb hv hvb
        refine v_iload_3 ok dX8_findLeast_40 (n := 41) rfl ?_
        refine v_aload_0 ok dX8_findLeast_41 (n := 42) rfl ?_
        refine v_getI ok fd_X8_186 ly_200 rfl rfl (jI := 11) rfl dX8_findLeast_42 (n := 45) rfl ?_
        try simp (disch := omega) only [fx]
        refine v_icmp_ge ok dX8_findLeast_45 (tgt := 136) (by decide) (n := 48) rfl (by omega) (by omega) (fun c45_1 => ?_) (fun c45_1 => ?_)
        · have c45_1 := c45_1
          refine v_iinc_1 ok (by decide) rfl dX8_findLeast_136 (n := 139) rfl ?_
          refine v_goto ok dX8_findLeast_139 (n := 9) (by decide) ?_
          refine ih2 _ (by omega) (h + -1) _ _ _ _ rfl (by omega) fx ?_
          have e := zLst_s (v := Mx 214 h) tb (by
            rcases hv with ⟨_, e⟩ | ⟨e1, e⟩
            · exact e
            · rw [e]
              unfold zlfv
              rw [if_neg (by omega), if_neg (by omega), show k = M 200 11 by omega]) hvb
          rw [zset_id] at e
          exact e
        · have c45_1 := c45_1
          refine v_iload_2 ok dX8_findLeast_48 (n := 49) rfl ?_
          refine v_aload_0 ok dX8_findLeast_49 (n := 50) rfl ?_
          refine v_getI ok fd_X8_81 ly_200 rfl rfl (jI := 2) rfl dX8_findLeast_50 (n := 53) rfl ?_
          try simp (disch := omega) only [fx]
          refine v_icmp_ge ok dX8_findLeast_53 (tgt := 136) (by decide) (n := 56) rfl (by omega) (by omega) (fun c53_2 => ?_) (fun c53_2 => ?_)
          · have c53_2 := c53_2
            refine v_iinc_1 ok (by decide) rfl dX8_findLeast_136 (n := 139) rfl ?_
            refine v_goto ok dX8_findLeast_139 (n := 9) (by decide) ?_
            refine ih2 _ (by omega) (h + -1) _ _ _ _ rfl (by omega) fx ?_
            have e := zLst_s (v := Mx 214 h) tb (by
              rcases hv with ⟨_, e⟩ | ⟨e1, e⟩
              · exact e
              · rw [e]
                unfold zlfv
                rw [if_neg (by omega), if_neg (by omega), show k = M 200 11 by omega]) hvb
            rw [zset_id] at e
            exact e
          · have c53_2 := c53_2
            have hab := hA (zone h) k (by omega) (by omega)
            have zbb := zbit_b h k
            refine v_iload_1 ok dX8_findLeast_56 (n := 57) rfl ?_
            refine v_iload_3 ok dX8_findLeast_57 (n := 58) rfl ?_
            refine v_ishr ok dX8_findLeast_58 (n := 59) rfl ?_
            refine v_iconst ok dX8_findLeast_59 (n := 60) rfl ?_
            refine v_iand ok dX8_findLeast_60 (n := 61) rfl ?_
            rw [zand_bit (by omega) (by omega)]
            refine v_if_ne ok dX8_findLeast_61 (tgt := 130) (by decide) (n := 64) rfl (by omega) (fun c61_3 => ?_) (fun c61_3 => ?_)
            · have c61_3 := c61_3
              have hst : zlfk ((fun b k => M 213 (16 * b + k)) (zone h)) (Mx 214) h (k + 1).toNat = if zbit h k = 0 ∧ 0 ≤ M 213 (16 * zone h + k) then (if M 213 (16 * zone h + k) + Mx 214 (h + zp2 k) < zlfk ((fun b k => M 213 (16 * b + k)) (zone h)) (Mx 214) h k.toNat then M 213 (16 * zone h + k) + Mx 214 (h + zp2 k) else zlfk ((fun b k => M 213 (16 * b + k)) (zone h)) (Mx 214) h k.toNat) else zlfk ((fun b k => M 213 (16 * b + k)) (zone h)) (Mx 214) h k.toNat := by
                rw [show (k + 1).toNat = k.toNat + 1 by omega]
                conv => lhs; unfold zlfk
                rw [show ((k.toNat : Nat) : Int) = k by omega]
              have hcc : ∀ v, zlfk ((fun b k => M 213 (16 * b + k)) (zone h)) (zset Mx 214 h v 214) h (k + 1).toNat = zlfk ((fun b k => M 213 (16 * b + k)) (zone h)) (Mx 214) h (k + 1).toNat := fun v => zlfk_c _ (fun t ht hb => by have hp := zp2_pos t; exact zset_n (by omega))
              refine v_iinc_3 ok (by decide) rfl dX8_findLeast_130 (n := 133) rfl ?_
              refine v_goto ok dX8_findLeast_133 (n := 40) (by decide) ?_
              first
              | exact ih _ (by omega) (k + 1) _ Mx rfl (by omega) fx tb (Or.inr ⟨by omega, by rw [hst, if_neg (by omega)]; omega⟩) hvb
              | exact ih _ (by omega) (k + 1) _ _ rfl (by omega) (fun r hr => by rw [zset_o hr]; exact fx r hr) (zLst_o tb) (Or.inr ⟨by omega, by rw [zset_s, hcc, hst, if_pos (by omega), if_pos (by omega)]⟩) (by rw [zset_s]; omega)
              | exact ih _ (by omega) (k + 1) _ _ rfl (by omega) (fun r hr => by rw [zset_o hr]; exact fx r hr) (zLst_o tb) (Or.inr ⟨by omega, by rw [zset_s, hcc, hst, if_pos (by omega), if_neg (by omega)]; omega⟩) (by rw [zset_s]; omega)
            · have c61_3 := c61_3
              refine v_aload_0 ok dX8_findLeast_64 (n := 65) rfl ?_
              refine v_getR ok fd_X8_28 ly_200 rfl rfl rfl rf_200_12 dX8_findLeast_65 (n := 68) rfl ?_
              refine v_bipush ok (by decide) dX8_findLeast_68 (n := 70) rfl ?_
              refine v_iload_2 ok dX8_findLeast_70 (n := 71) rfl ?_
              refine v_imul ok dX8_findLeast_71 (n := 72) rfl ?_
              refine v_iload_3 ok dX8_findLeast_72 (n := 73) rfl ?_
              refine v_iadd ok dX8_findLeast_73 (n := 74) rfl ?_
              refine v_iald ok ly_213 rfl (by omega) (by decide) dX8_findLeast_74 (n := 75) rfl ?_
              try simp (disch := omega) only [fx]
              refine v_if_lt ok dX8_findLeast_75 (tgt := 130) (by decide) (n := 78) rfl (by omega) (fun c75_4 => ?_) (fun c75_4 => ?_)
              · have c75_4 := c75_4
                have hst : zlfk ((fun b k => M 213 (16 * b + k)) (zone h)) (Mx 214) h (k + 1).toNat = if zbit h k = 0 ∧ 0 ≤ M 213 (16 * zone h + k) then (if M 213 (16 * zone h + k) + Mx 214 (h + zp2 k) < zlfk ((fun b k => M 213 (16 * b + k)) (zone h)) (Mx 214) h k.toNat then M 213 (16 * zone h + k) + Mx 214 (h + zp2 k) else zlfk ((fun b k => M 213 (16 * b + k)) (zone h)) (Mx 214) h k.toNat) else zlfk ((fun b k => M 213 (16 * b + k)) (zone h)) (Mx 214) h k.toNat := by
                  rw [show (k + 1).toNat = k.toNat + 1 by omega]
                  conv => lhs; unfold zlfk
                  rw [show ((k.toNat : Nat) : Int) = k by omega]
                have hcc : ∀ v, zlfk ((fun b k => M 213 (16 * b + k)) (zone h)) (zset Mx 214 h v 214) h (k + 1).toNat = zlfk ((fun b k => M 213 (16 * b + k)) (zone h)) (Mx 214) h (k + 1).toNat := fun v => zlfk_c _ (fun t ht hb => by have hp := zp2_pos t; exact zset_n (by omega))
                refine v_iinc_3 ok (by decide) rfl dX8_findLeast_130 (n := 133) rfl ?_
                refine v_goto ok dX8_findLeast_133 (n := 40) (by decide) ?_
                first
                | exact ih _ (by omega) (k + 1) _ Mx rfl (by omega) fx tb (Or.inr ⟨by omega, by rw [hst, if_neg (by omega)]; omega⟩) hvb
                | exact ih _ (by omega) (k + 1) _ _ rfl (by omega) (fun r hr => by rw [zset_o hr]; exact fx r hr) (zLst_o tb) (Or.inr ⟨by omega, by rw [zset_s, hcc, hst, if_pos (by omega), if_pos (by omega)]⟩) (by rw [zset_s]; omega)
                | exact ih _ (by omega) (k + 1) _ _ rfl (by omega) (fun r hr => by rw [zset_o hr]; exact fx r hr) (zLst_o tb) (Or.inr ⟨by omega, by rw [zset_s, hcc, hst, if_pos (by omega), if_neg (by omega)]; omega⟩) (by rw [zset_s]; omega)
              · have c75_4 := c75_4
                refine v_aload_0 ok dX8_findLeast_78 (n := 79) rfl ?_
                refine v_getR ok fd_X8_28 ly_200 rfl rfl rfl rf_200_12 dX8_findLeast_79 (n := 82) rfl ?_
                refine v_bipush ok (by decide) dX8_findLeast_82 (n := 84) rfl ?_
                refine v_iload_2 ok dX8_findLeast_84 (n := 85) rfl ?_
                refine v_imul ok dX8_findLeast_85 (n := 86) rfl ?_
                refine v_iload_3 ok dX8_findLeast_86 (n := 87) rfl ?_
                refine v_iadd ok dX8_findLeast_87 (n := 88) rfl ?_
                refine v_iald ok ly_213 rfl (by omega) (by decide) dX8_findLeast_88 (n := 89) rfl ?_
                try simp (disch := omega) only [fx]
                refine v_aload_0 ok dX8_findLeast_89 (n := 90) rfl ?_
                refine v_getR ok fd_X8_32 ly_200 rfl rfl rfl rf_200_13 dX8_findLeast_90 (n := 93) rfl ?_
                refine v_iload_1 ok dX8_findLeast_93 (n := 94) rfl ?_
                refine v_iconst ok dX8_findLeast_94 (n := 95) rfl ?_
                refine v_iload_3 ok dX8_findLeast_95 (n := 96) rfl ?_
                refine v_ishl ok dX8_findLeast_96 (n := 97) rfl ?_
                rw [zshl_1 (by omega)]
                refine v_ior ok dX8_findLeast_97 (n := 98) rfl ?_
                rw [zor_in (by omega) (by omega) (by assumption)]
                have hil := zin_g (n := M 200 11) (by omega) (by omega) (by omega) (show zbit h k = 0 by assumption)
                have hip := zp2_pos k
                have htb := (tb (h + zp2 k) (by omega)).2
                refine v_iald ok ly_214 rfl (by omega) (by decide) dX8_findLeast_98 (n := 99) rfl ?_
                try simp (disch := omega) only [fx]
                refine v_iadd ok dX8_findLeast_99 (n := 100) rfl ?_
                refine v_istore_4 ok (by decide) rfl dX8_findLeast_100 (n := 102) rfl ?_
                refine v_aload_0 ok dX8_findLeast_102 (n := 103) rfl ?_
                refine v_getR ok fd_X8_32 ly_200 rfl rfl rfl rf_200_13 dX8_findLeast_103 (n := 106) rfl ?_
                refine v_iload_1 ok dX8_findLeast_106 (n := 107) rfl ?_
                refine v_iload_4 ok dX8_findLeast_107 (n := 109) rfl ?_
                refine v_aload_0 ok dX8_findLeast_109 (n := 110) rfl ?_
                refine v_getR ok fd_X8_32 ly_200 rfl rfl rfl rf_200_13 dX8_findLeast_110 (n := 113) rfl ?_
                refine v_iload_1 ok dX8_findLeast_113 (n := 114) rfl ?_
                refine v_iald ok ly_214 rfl (by omega) (by decide) dX8_findLeast_114 (n := 115) rfl ?_
                try simp (disch := omega) only [fx]
                refine v_icmp_ge ok dX8_findLeast_115 (tgt := 123) (by decide) (n := 118) rfl (by omega) (by omega) (fun c115_5 => ?_) (fun c115_5 => ?_)
                · have c115_5 := c115_5
                  refine v_aload_0 ok dX8_findLeast_123 (n := 124) rfl ?_
                  refine v_getR ok fd_X8_32 ly_200 rfl rfl rfl rf_200_13 dX8_findLeast_124 (n := 127) rfl ?_
                  refine v_iload_1 ok dX8_findLeast_127 (n := 128) rfl ?_
                  refine v_iald ok ly_214 rfl (by omega) (by decide) dX8_findLeast_128 (n := 129) rfl ?_
                  try simp (disch := omega) only [fx]
                  refine v_iast ok ly_214 rfl (by omega) (by decide) dX8_findLeast_129 (n := 130) rfl ?_
                  have hst : zlfk ((fun b k => M 213 (16 * b + k)) (zone h)) (Mx 214) h (k + 1).toNat = if zbit h k = 0 ∧ 0 ≤ M 213 (16 * zone h + k) then (if M 213 (16 * zone h + k) + Mx 214 (h + zp2 k) < zlfk ((fun b k => M 213 (16 * b + k)) (zone h)) (Mx 214) h k.toNat then M 213 (16 * zone h + k) + Mx 214 (h + zp2 k) else zlfk ((fun b k => M 213 (16 * b + k)) (zone h)) (Mx 214) h k.toNat) else zlfk ((fun b k => M 213 (16 * b + k)) (zone h)) (Mx 214) h k.toNat := by
                    rw [show (k + 1).toNat = k.toNat + 1 by omega]
                    conv => lhs; unfold zlfk
                    rw [show ((k.toNat : Nat) : Int) = k by omega]
                  have hcc : ∀ v, zlfk ((fun b k => M 213 (16 * b + k)) (zone h)) (zset Mx 214 h v 214) h (k + 1).toNat = zlfk ((fun b k => M 213 (16 * b + k)) (zone h)) (Mx 214) h (k + 1).toNat := fun v => zlfk_c _ (fun t ht hb => by have hp := zp2_pos t; exact zset_n (by omega))
                  refine v_iinc_3 ok (by decide) rfl dX8_findLeast_130 (n := 133) rfl ?_
                  refine v_goto ok dX8_findLeast_133 (n := 40) (by decide) ?_
                  first
                  | exact ih _ (by omega) (k + 1) _ Mx rfl (by omega) fx tb (Or.inr ⟨by omega, by rw [hst, if_neg (by omega)]; omega⟩) hvb
                  | exact ih _ (by omega) (k + 1) _ _ rfl (by omega) (fun r hr => by rw [zset_o hr]; exact fx r hr) (zLst_o tb) (Or.inr ⟨by omega, by rw [zset_s, hcc, hst, if_pos (by omega), if_pos (by omega)]⟩) (by rw [zset_s]; omega)
                  | exact ih _ (by omega) (k + 1) _ _ rfl (by omega) (fun r hr => by rw [zset_o hr]; exact fx r hr) (zLst_o tb) (Or.inr ⟨by omega, by rw [zset_s, hcc, hst, if_pos (by omega), if_neg (by omega)]; omega⟩) (by rw [zset_s]; omega)
                · have c115_5 := c115_5
                  refine v_iload_4 ok dX8_findLeast_118 (n := 120) rfl ?_
                  refine v_goto ok dX8_findLeast_120 (n := 129) (by decide) ?_
                  refine v_iast ok ly_214 rfl (by omega) (by decide) dX8_findLeast_129 (n := 130) rfl ?_
                  have hst : zlfk ((fun b k => M 213 (16 * b + k)) (zone h)) (Mx 214) h (k + 1).toNat = if zbit h k = 0 ∧ 0 ≤ M 213 (16 * zone h + k) then (if M 213 (16 * zone h + k) + Mx 214 (h + zp2 k) < zlfk ((fun b k => M 213 (16 * b + k)) (zone h)) (Mx 214) h k.toNat then M 213 (16 * zone h + k) + Mx 214 (h + zp2 k) else zlfk ((fun b k => M 213 (16 * b + k)) (zone h)) (Mx 214) h k.toNat) else zlfk ((fun b k => M 213 (16 * b + k)) (zone h)) (Mx 214) h k.toNat := by
                    rw [show (k + 1).toNat = k.toNat + 1 by omega]
                    conv => lhs; unfold zlfk
                    rw [show ((k.toNat : Nat) : Int) = k by omega]
                  have hcc : ∀ v, zlfk ((fun b k => M 213 (16 * b + k)) (zone h)) (zset Mx 214 h v 214) h (k + 1).toNat = zlfk ((fun b k => M 213 (16 * b + k)) (zone h)) (Mx 214) h (k + 1).toNat := fun v => zlfk_c _ (fun t ht hb => by have hp := zp2_pos t; exact zset_n (by omega))
                  refine v_iinc_3 ok (by decide) rfl dX8_findLeast_130 (n := 133) rfl ?_
                  refine v_goto ok dX8_findLeast_133 (n := 40) (by decide) ?_
                  first
                  | exact ih _ (by omega) (k + 1) _ Mx rfl (by omega) fx tb (Or.inr ⟨by omega, by rw [hst, if_neg (by omega)]; omega⟩) hvb
                  | exact ih _ (by omega) (k + 1) _ _ rfl (by omega) (fun r hr => by rw [zset_o hr]; exact fx r hr) (zLst_o tb) (Or.inr ⟨by omega, by rw [zset_s, hcc, hst, if_pos (by omega), if_pos (by omega)]⟩) (by rw [zset_s]; omega)
                  | exact ih _ (by omega) (k + 1) _ _ rfl (by omega) (fun r hr => by rw [zset_o hr]; exact fx r hr) (zLst_o tb) (Or.inr ⟨by omega, by rw [zset_s, hcc, hst, if_pos (by omega), if_neg (by omega)]; omega⟩) (by rw [zset_s]; omega)
      refine v_iload_1 ok dX8_findLeast_13 (n := 14) rfl ?_
      refine v_callSI ok (mi := mi_X8_ones) mc_X8_ones cs_X8_189 (by decide) ⟨Nat.zero_le _, Nat.zero_le _⟩ dX8_findLeast_14 (n := 17) rfl rfl rfl (Nat.le_of_ble_eq_true rfl) (u_ones (by omega)) (fun x2 N2 g2 => ?_)
      obtain ⟨g2, rfl⟩ := g2
      subst N2
      refine v_istore_2 ok (by decide) rfl dX8_findLeast_17 (n := 18) rfl ?_
      refine v_aload_0 ok dX8_findLeast_18 (n := 19) rfl ?_
      refine v_getR ok fd_X8_32 ly_200 rfl rfl rfl rf_200_13 dX8_findLeast_19 (n := 22) rfl ?_
      refine v_iload_1 ok dX8_findLeast_22 (n := 23) rfl ?_
      refine v_iload_2 ok dX8_findLeast_23 (n := 24) rfl ?_
      refine v_aload_0 ok dX8_findLeast_24 (n := 25) rfl ?_
      refine v_getI ok fd_X8_81 ly_200 rfl rfl (jI := 2) rfl dX8_findLeast_25 (n := 28) rfl ?_
      try simp (disch := omega) only [fx]
      refine v_icmp_ne ok dX8_findLeast_28 (tgt := 35) (by decide) (n := 31) rfl (by omega) (by omega) (fun c28_2 => ?_) (fun c28_2 => ?_)
      · have c28_2 := c28_2
        refine v_ldc ok (c := 1000000) kc_X8_192 (by decide) dX8_findLeast_35 (n := 37) rfl ?_
        refine v_iast ok ly_214 rfl (by omega) (by decide) dX8_findLeast_37 (n := 38) rfl ?_
        refine v_iconst ok dX8_findLeast_38 (n := 39) rfl ?_
        refine v_istore_3 ok (by decide) rfl dX8_findLeast_39 (n := 40) rfl ?_
        refine lpk _ 0 _ _ rfl (by omega) (fun r hr => by rw [zset_o hr]; exact fx r hr) (zLst_o tb) ?_ (by rw [zset_s]; omega)
        by_cases e1 : zone h = M 200 2
        · refine Or.inl ⟨by omega, ?_⟩
          rw [zset_s]
          unfold zlfv
          first
          | (exfalso; omega)
          | rw [if_pos e1]
        · by_cases e2 : M 200 2 ≤ zone h
          · refine Or.inl ⟨e2, ?_⟩
            rw [zset_s]
            unfold zlfv
            first
            | (exfalso; omega)
            | rw [if_neg e1, if_pos e2]
          · refine Or.inr ⟨by omega, ?_⟩
            rw [zset_s]
            first
            | rfl
            | (exfalso; omega)
      · have c28_2 := c28_2
        refine v_iconst ok dX8_findLeast_31 (n := 32) rfl ?_
        refine v_goto ok dX8_findLeast_32 (n := 37) (by decide) ?_
        refine v_iast ok ly_214 rfl (by omega) (by decide) dX8_findLeast_37 (n := 38) rfl ?_
        refine v_iconst ok dX8_findLeast_38 (n := 39) rfl ?_
        refine v_istore_3 ok (by decide) rfl dX8_findLeast_39 (n := 40) rfl ?_
        refine lpk _ 0 _ _ rfl (by omega) (fun r hr => by rw [zset_o hr]; exact fx r hr) (zLst_o tb) ?_ (by rw [zset_s]; omega)
        by_cases e1 : zone h = M 200 2
        · refine Or.inl ⟨by omega, ?_⟩
          rw [zset_s]
          unfold zlfv
          first
          | (exfalso; omega)
          | rw [if_pos e1]
        · by_cases e2 : M 200 2 ≤ zone h
          · refine Or.inl ⟨e2, ?_⟩
            rw [zset_s]
            unfold zlfv
            first
            | (exfalso; omega)
            | rw [if_neg e1, if_pos e2]
          · refine Or.inr ⟨by omega, ?_⟩
            rw [zset_s]
            first
            | rfl
            | (exfalso; omega)
  refine v_iconst ok dX8_findLeast_0 (n := 1) rfl ?_
  refine v_aload_0 ok dX8_findLeast_1 (n := 2) rfl ?_
  refine v_getI ok fd_X8_186 ly_200 rfl rfl (jI := 11) rfl dX8_findLeast_2 (n := 5) rfl ?_
  refine v_ishl ok dX8_findLeast_5 (n := 6) rfl ?_
  rw [zshl_1 (by omega)]
  refine v_iconst ok dX8_findLeast_6 (n := 7) rfl ?_
  refine v_isub ok dX8_findLeast_7 (n := 8) rfl ?_
  refine v_istore_1 ok (by decide) rfl dX8_findLeast_8 (n := 9) rfl ?_
  exact lph _ _ _ _ _ M rfl (by omega) (fun r hr => rfl) (fun j hj => by omega)

