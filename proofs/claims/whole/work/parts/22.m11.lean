/-! the class: ways -/
theorem zcmp_b (x y : Int) : -2147483648 ≤ zcmp x y ∧ zcmp x y ≤ 2147483647 := by
  unfold zcmp
  split
  · omega
  · split <;> omega
theorem zcmp_z {x y : Int} (h : zcmp x y = 0) : x = y := by
  unfold zcmp at h
  split at h
  · omega
  · split at h <;> omega
theorem zcmp_nz {x y : Int} (h : zcmp x y ≠ 0) : x ≠ y := by
  intro e
  subst e
  apply h
  unfold zcmp
  rw [if_neg (by omega), if_pos rfl]
theorem zcmp_neg {x y : Int} (h : zcmp x y < 0) : x < y := by
  unfold zcmp at h
  split at h
  · omega
  · split at h <;> omega
theorem zcmp_nneg {x y : Int} (h : 0 ≤ zcmp x y) : y ≤ x := by
  unfold zcmp at h
  split at h
  · omega
  · split at h <;> omega
/-- a price v for a set, when it may be had by 'before' and p too (-1: no way) -/
def zrel (v before p : Int) : Int := if before = -1 ∨ p = -1 then v else if v = -1 ∨ before + p < v then before + p else v
def zrl (L pr : Int → Int) (set : Int) : Nat → Int
  | 0 => L set
  | b + 1 => zrel (zrl L pr set b) (if zbit set b = 1 then L (set - zp2 b) else -1) (pr b)
theorem zrl_b {L pr : Int → Int} {set B P : Int} (hs : 0 ≤ set ∧ set ≤ 127) (hL : ∀ j, 0 ≤ j ∧ j ≤ 127 → -1 ≤ L j ∧ L j ≤ B) (n : Nat) (hp : ∀ b : Nat, b < n → -1 ≤ pr b ∧ pr b ≤ P) (hB : 0 ≤ B ∧ 0 ≤ P) : -1 ≤ zrl L pr set n ∧ zrl L pr set n ≤ B + P := by
  induction n with
  | zero =>
    have := hL set hs
    show -1 ≤ L set ∧ L set ≤ B + P
    omega
  | succ n ih =>
    have ih := ih (fun b hb => hp b (by omega))
    have h1 := hp n (by omega)
    have h2 : -1 ≤ (if zbit set n = 1 then L (set - zp2 n) else -1) ∧ (if zbit set n = 1 then L (set - zp2 n) else -1) ≤ B := by
      split
      · next h =>
        have h3 := zbit_lt hs.1 h
        have h4 := zp2_pos n
        exact hL _ (by omega)
      · omega
    show -1 ≤ zrel _ _ _ ∧ zrel _ _ _ ≤ B + P
    generalize (if zbit set n = 1 then L (set - zp2 n) else -1) = bf at h2 ⊢
    unfold zrel
    split
    · exact ih
    · split <;> omega
/-- one shoe more: of the sets above 'set' -/
def zadm (M : zM) (R n set : Int) : zM := fun r j => if r = 76 ∧ set < j ∧ j < zp2 n then zrl (M 76) (M R) j n.toNat else M r j
theorem zadm_o {M : zM} {R n set r : Int} (h : r ≠ 76) : zadm M R n set r = M r := by
  funext j
  exact if_neg fun q => h q.1
theorem zadm_l {M : zM} {R n set j : Int} (h : j ≤ set) : zadm M R n set 76 j = M 76 j := if_neg (by omega)
theorem zadm_0 {M : zM} {R n : Int} : zadm M R n (zp2 n - 1) = M := by
  funext r j
  exact if_neg (by omega)
theorem zadm_s {M : zM} {R n set : Int} (h : set < zp2 n) : zset (zadm M R n set) 76 set (zrl (M 76) (M R) set n.toNat) = zadm M R n (set + -1) := by
  funext r j
  unfold zset
  by_cases h1 : r = 76 ∧ j = set
  · rw [if_pos h1]
    unfold zadm
    rw [if_pos (by omega), h1.2]
  · rw [if_neg h1]
    unfold zadm
    by_cases h2 : r = 76 ∧ set < j ∧ j < zp2 n
    · rw [if_pos h2, if_pos (by omega)]
    · rw [if_neg h2, if_neg (by omega)]
set_option maxHeartbeats 4000000 in
set_option maxRecDepth 100000 in
theorem t_addShoe {G : zG} {ad : Int → Nat} {M : zM} {r n B : Int} (hl : zlay r = (2, 7, 0)) (hr : 78 ≤ r ∧ r ≤ 93) (hn : 0 ≤ n ∧ n ≤ 7) (hB : 0 ≤ B ∧ B ≤ 1125899906842624) (hL : ∀ j, 0 ≤ j ∧ j ≤ 127 → -1 ≤ M 76 j ∧ M 76 j ≤ B) (hP : ∀ b, 0 ≤ b ∧ b < n → -1 ≤ M r b ∧ M r b ≤ 8589934592) : zTV G (zw ad) mi_X6_addShoe [zr 74, zr r, zi n] M (fun M' => M' = zadm M r n 0) := by
  refine zTV.of (own := RX6) (ls := [some (zr 74), some (zr r), some (zi n), none, none, none, none]) (by decide +kernel) rfl rfl (Nat.le_of_ble_eq_true rfl) (fun γ ok rt => ?_)
  have h128 : zp2 n ≤ 128 := zp2_le (b := 7) hn.2
  have hpos := zp2_pos n
  have lpo : ∀ (zn : Nat) (e : Int) (a4 a5 a6 : Option zV), zn = (e + 1).toNat → (0 ≤ e ∧ e < zp2 n) → zVV G γ (zw ad) (0, 0) 6 [some (zr 74), some (zr r), some (zi n), some (zi e), a4, a5, a6] [] (zadm M r n e) := by
    refine zrec _ (fun zn ih => ?_)
    intro e a4 a5 a6 hzn he
    refine v_iload_3 ok dX6_addShoe_6 (n := 7) rfl ?_
    refine v_if_le ok dX6_addShoe_7 (tgt := 126) (by decide) (n := 10) rfl (by omega) (fun c7_1 => ?_) (fun c7_1 => ?_)
    · have c7_1 := c7_1
      refine v_vret rt dX6_addShoe_126 ?_
      rw [show e = 0 by omega]
    · have c7_1 := c7_1
      have ih0 := ih
      have lpi : ∀ (zn : Nat) (b : Int) (a5 a6 : Option zV), zn = (7 - b).toNat → (0 ≤ b ∧ b ≤ n) → zVV G γ (zw ad) (0, 0) 13 [some (zr 74), some (zr r), some (zi n), some (zi e), some (zi b), a5, a6] [] (zset (zadm M r n e) 76 e (zrl (M 76) (M r) e b.toNat)) := by
        refine zrec _ (fun zn ih => ?_)
        intro b a5 a6 hzn hb
        refine v_iload_4 ok dX6_addShoe_13 (n := 15) rfl ?_
        refine v_iload_2 ok dX6_addShoe_15 (n := 16) rfl ?_
        refine v_icmp_ge ok dX6_addShoe_16 (tgt := 120) (by decide) (n := 19) rfl (by omega) (by omega) (fun c16_1 => ?_) (fun c16_1 => ?_)
        · have c16_1 := c16_1
          rw [show b = n by omega, zadm_s he.2]
          refine v_iinc_3 ok (by decide) rfl dX6_addShoe_120 (n := 123) rfl ?_
          refine v_goto ok dX6_addShoe_123 (n := 6) (by decide) ?_
          exact ih0 _ (by omega) _ _ _ _ rfl (by omega)
        · have c16_1 := c16_1
          have jn : ∀ bf : Int, bf = (if zbit e b = 1 then M 76 (e - zp2 b) else -1) → ∀ a5 a6 : Option zV, zVV G γ (zw ad) (0, 0) 46 [some (zr 74), some (zr r), some (zi n), some (zi e), some (zi b), a5, a6] [zj bf] (zset (zadm M r n e) 76 e (zrl (M 76) (M r) e b.toNat)) := by
            intro bf hbf a5 a6
            have hbb : -1 ≤ bf ∧ bf ≤ B := by
              rw [hbf]
              split
              · next h =>
                have h3 := zbit_lt he.1 h
                have h4 := zp2_pos b
                exact hL _ (by omega)
              · omega
            have hpb := hP b (by omega)
            have hvb := zrl_b (L := M 76) (pr := M r) (set := e) (B := B) (P := 8589934592) (by omega) hL b.toNat (fun q hq => hP q (by omega)) (by omega)
            have hst : zrl (M 76) (M r) e (b + 1).toNat = zrel (zrl (M 76) (M r) e b.toNat) (if zbit e b = 1 then M 76 (e - zp2 b) else -1) (M r b) := by
              rw [show (b + 1).toNat = b.toNat + 1 by omega]
              show zrel _ (if zbit e ((b.toNat : Nat) : Int) = 1 then M 76 (e - zp2 ((b.toNat : Nat) : Int)) else -1) (M r ((b.toNat : Nat) : Int)) = _
              rw [show ((b.toNat : Nat) : Int) = b by omega]
            refine v_lstore_5 ok (by decide) rfl dX6_addShoe_46 (n := 48) rfl ?_
            refine v_lload_5 ok dX6_addShoe_48 (n := 50) rfl ?_
            refine v_ldc2 ok (c := -1) kc_X6_41 (by decide) dX6_addShoe_50 (n := 53) rfl ?_
            refine v_lcmp ok (by omega) (by omega) dX6_addShoe_53 (n := 54) rfl ?_
            refine v_if_eq ok dX6_addShoe_54 (tgt := 114) (by decide) (n := 57) rfl (zcmp_b _ _) (fun c54_1 => ?_) (fun c54_1 => ?_)
            · have c54_1 := zcmp_z c54_1
              first
              | (have ez : zrl (M 76) (M r) e (b + 1).toNat = zrl (M 76) (M r) e b.toNat := by
                   rw [hst, ← hbf]
                   unfold zrel
                   rw [if_pos (by omega)]
                 refine v_iinc_4 ok (by decide) rfl dX6_addShoe_114 (n := 117) rfl ?_
                 refine v_goto ok dX6_addShoe_117 (n := 13) (by decide) ?_
                 rw [← ez]
                 exact ih _ (by omega) _ _ _ rfl (by omega))
              | (have ez : zrl (M 76) (M r) e (b + 1).toNat = zrl (M 76) (M r) e b.toNat := by
                   rw [hst, ← hbf]
                   unfold zrel
                   rw [if_neg (by omega), if_neg (by omega)]
                 refine v_iinc_4 ok (by decide) rfl dX6_addShoe_114 (n := 117) rfl ?_
                 refine v_goto ok dX6_addShoe_117 (n := 13) (by decide) ?_
                 rw [← ez]
                 exact ih _ (by omega) _ _ _ rfl (by omega))
              | (have ez : zrl (M 76) (M r) e (b + 1).toNat = bf + M r b := by
                   rw [hst, ← hbf]
                   unfold zrel
                   rw [if_neg (by omega), if_pos (by omega)]
                 rw [zset_zset]
                 refine v_iinc_4 ok (by decide) rfl dX6_addShoe_114 (n := 117) rfl ?_
                 refine v_goto ok dX6_addShoe_117 (n := 13) (by decide) ?_
                 rw [← ez]
                 exact ih _ (by omega) _ _ _ rfl (by omega))
            · have c54_1 := zcmp_nz c54_1
              refine v_aload_1 ok dX6_addShoe_57 (n := 58) rfl ?_
              refine v_iload_4 ok dX6_addShoe_58 (n := 60) rfl ?_
              refine v_lald ok hl rfl (by omega) (by decide) dX6_addShoe_60 (n := 61) rfl ?_
              try simp (disch := omega) only [zset_s, zset_ne, zset_o, zadm_o, zadm_l]
              refine v_ldc2 ok (c := -1) kc_X6_41 (by decide) dX6_addShoe_61 (n := 64) rfl ?_
              refine v_lcmp ok (by omega) (by omega) dX6_addShoe_64 (n := 65) rfl ?_
              refine v_if_ne ok dX6_addShoe_65 (tgt := 71) (by decide) (n := 68) rfl (zcmp_b _ _) (fun c65_2 => ?_) (fun c65_2 => ?_)
              · have c65_2 := zcmp_nz c65_2
                refine v_aload_0 ok dX6_addShoe_71 (n := 72) rfl ?_
                refine v_getR ok fd_X6_16 ly_74 rfl rfl rfl rf_74_1 dX6_addShoe_72 (n := 75) rfl ?_
                refine v_iload_3 ok dX6_addShoe_75 (n := 76) rfl ?_
                refine v_lald ok ly_76 rfl (by omega) (by decide) dX6_addShoe_76 (n := 77) rfl ?_
                try simp (disch := omega) only [zset_s, zset_ne, zset_o, zadm_o, zadm_l]
                refine v_ldc2 ok (c := -1) kc_X6_41 (by decide) dX6_addShoe_77 (n := 80) rfl ?_
                refine v_lcmp ok (by omega) (by omega) dX6_addShoe_80 (n := 81) rfl ?_
                refine v_if_eq ok dX6_addShoe_81 (tgt := 101) (by decide) (n := 84) rfl (zcmp_b _ _) (fun c81_3 => ?_) (fun c81_3 => ?_)
                · have c81_3 := zcmp_z c81_3
                  refine v_aload_0 ok dX6_addShoe_101 (n := 102) rfl ?_
                  refine v_getR ok fd_X6_16 ly_74 rfl rfl rfl rf_74_1 dX6_addShoe_102 (n := 105) rfl ?_
                  refine v_iload_3 ok dX6_addShoe_105 (n := 106) rfl ?_
                  refine v_lload_5 ok dX6_addShoe_106 (n := 108) rfl ?_
                  refine v_aload_1 ok dX6_addShoe_108 (n := 109) rfl ?_
                  refine v_iload_4 ok dX6_addShoe_109 (n := 111) rfl ?_
                  refine v_lald ok hl rfl (by omega) (by decide) dX6_addShoe_111 (n := 112) rfl ?_
                  try simp (disch := omega) only [zset_s, zset_ne, zset_o, zadm_o, zadm_l]
                  refine v_ladd ok dX6_addShoe_112 (n := 113) rfl ?_
                  refine v_last ok ly_76 rfl (by omega) (by decide) dX6_addShoe_113 (n := 114) rfl ?_
                  first
                  | (have ez : zrl (M 76) (M r) e (b + 1).toNat = zrl (M 76) (M r) e b.toNat := by
                       rw [hst, ← hbf]
                       unfold zrel
                       rw [if_pos (by omega)]
                     refine v_iinc_4 ok (by decide) rfl dX6_addShoe_114 (n := 117) rfl ?_
                     refine v_goto ok dX6_addShoe_117 (n := 13) (by decide) ?_
                     rw [← ez]
                     exact ih _ (by omega) _ _ _ rfl (by omega))
                  | (have ez : zrl (M 76) (M r) e (b + 1).toNat = zrl (M 76) (M r) e b.toNat := by
                       rw [hst, ← hbf]
                       unfold zrel
                       rw [if_neg (by omega), if_neg (by omega)]
                     refine v_iinc_4 ok (by decide) rfl dX6_addShoe_114 (n := 117) rfl ?_
                     refine v_goto ok dX6_addShoe_117 (n := 13) (by decide) ?_
                     rw [← ez]
                     exact ih _ (by omega) _ _ _ rfl (by omega))
                  | (have ez : zrl (M 76) (M r) e (b + 1).toNat = bf + M r b := by
                       rw [hst, ← hbf]
                       unfold zrel
                       rw [if_neg (by omega), if_pos (by omega)]
                     rw [zset_zset]
                     refine v_iinc_4 ok (by decide) rfl dX6_addShoe_114 (n := 117) rfl ?_
                     refine v_goto ok dX6_addShoe_117 (n := 13) (by decide) ?_
                     rw [← ez]
                     exact ih _ (by omega) _ _ _ rfl (by omega))
                · have c81_3 := zcmp_nz c81_3
                  refine v_lload_5 ok dX6_addShoe_84 (n := 86) rfl ?_
                  refine v_aload_1 ok dX6_addShoe_86 (n := 87) rfl ?_
                  refine v_iload_4 ok dX6_addShoe_87 (n := 89) rfl ?_
                  refine v_lald ok hl rfl (by omega) (by decide) dX6_addShoe_89 (n := 90) rfl ?_
                  try simp (disch := omega) only [zset_s, zset_ne, zset_o, zadm_o, zadm_l]
                  refine v_ladd ok dX6_addShoe_90 (n := 91) rfl ?_
                  refine v_aload_0 ok dX6_addShoe_91 (n := 92) rfl ?_
                  refine v_getR ok fd_X6_16 ly_74 rfl rfl rfl rf_74_1 dX6_addShoe_92 (n := 95) rfl ?_
                  refine v_iload_3 ok dX6_addShoe_95 (n := 96) rfl ?_
                  refine v_lald ok ly_76 rfl (by omega) (by decide) dX6_addShoe_96 (n := 97) rfl ?_
                  try simp (disch := omega) only [zset_s, zset_ne, zset_o, zadm_o, zadm_l]
                  refine v_lcmp ok (by omega) (by omega) dX6_addShoe_97 (n := 98) rfl ?_
                  refine v_if_ge ok dX6_addShoe_98 (tgt := 114) (by decide) (n := 101) rfl (zcmp_b _ _) (fun c98_4 => ?_) (fun c98_4 => ?_)
                  · have c98_4 := zcmp_nneg c98_4
                    first
                    | (have ez : zrl (M 76) (M r) e (b + 1).toNat = zrl (M 76) (M r) e b.toNat := by
                         rw [hst, ← hbf]
                         unfold zrel
                         rw [if_pos (by omega)]
                       refine v_iinc_4 ok (by decide) rfl dX6_addShoe_114 (n := 117) rfl ?_
                       refine v_goto ok dX6_addShoe_117 (n := 13) (by decide) ?_
                       rw [← ez]
                       exact ih _ (by omega) _ _ _ rfl (by omega))
                    | (have ez : zrl (M 76) (M r) e (b + 1).toNat = zrl (M 76) (M r) e b.toNat := by
                         rw [hst, ← hbf]
                         unfold zrel
                         rw [if_neg (by omega), if_neg (by omega)]
                       refine v_iinc_4 ok (by decide) rfl dX6_addShoe_114 (n := 117) rfl ?_
                       refine v_goto ok dX6_addShoe_117 (n := 13) (by decide) ?_
                       rw [← ez]
                       exact ih _ (by omega) _ _ _ rfl (by omega))
                    | (have ez : zrl (M 76) (M r) e (b + 1).toNat = bf + M r b := by
                         rw [hst, ← hbf]
                         unfold zrel
                         rw [if_neg (by omega), if_pos (by omega)]
                       rw [zset_zset]
                       refine v_iinc_4 ok (by decide) rfl dX6_addShoe_114 (n := 117) rfl ?_
                       refine v_goto ok dX6_addShoe_117 (n := 13) (by decide) ?_
                       rw [← ez]
                       exact ih _ (by omega) _ _ _ rfl (by omega))
                  · have c98_4 := zcmp_neg c98_4
                    refine v_aload_0 ok dX6_addShoe_101 (n := 102) rfl ?_
                    refine v_getR ok fd_X6_16 ly_74 rfl rfl rfl rf_74_1 dX6_addShoe_102 (n := 105) rfl ?_
                    refine v_iload_3 ok dX6_addShoe_105 (n := 106) rfl ?_
                    refine v_lload_5 ok dX6_addShoe_106 (n := 108) rfl ?_
                    refine v_aload_1 ok dX6_addShoe_108 (n := 109) rfl ?_
                    refine v_iload_4 ok dX6_addShoe_109 (n := 111) rfl ?_
                    refine v_lald ok hl rfl (by omega) (by decide) dX6_addShoe_111 (n := 112) rfl ?_
                    try simp (disch := omega) only [zset_s, zset_ne, zset_o, zadm_o, zadm_l]
                    refine v_ladd ok dX6_addShoe_112 (n := 113) rfl ?_
                    refine v_last ok ly_76 rfl (by omega) (by decide) dX6_addShoe_113 (n := 114) rfl ?_
                    first
                    | (have ez : zrl (M 76) (M r) e (b + 1).toNat = zrl (M 76) (M r) e b.toNat := by
                         rw [hst, ← hbf]
                         unfold zrel
                         rw [if_pos (by omega)]
                       refine v_iinc_4 ok (by decide) rfl dX6_addShoe_114 (n := 117) rfl ?_
                       refine v_goto ok dX6_addShoe_117 (n := 13) (by decide) ?_
                       rw [← ez]
                       exact ih _ (by omega) _ _ _ rfl (by omega))
                    | (have ez : zrl (M 76) (M r) e (b + 1).toNat = zrl (M 76) (M r) e b.toNat := by
                         rw [hst, ← hbf]
                         unfold zrel
                         rw [if_neg (by omega), if_neg (by omega)]
                       refine v_iinc_4 ok (by decide) rfl dX6_addShoe_114 (n := 117) rfl ?_
                       refine v_goto ok dX6_addShoe_117 (n := 13) (by decide) ?_
                       rw [← ez]
                       exact ih _ (by omega) _ _ _ rfl (by omega))
                    | (have ez : zrl (M 76) (M r) e (b + 1).toNat = bf + M r b := by
                         rw [hst, ← hbf]
                         unfold zrel
                         rw [if_neg (by omega), if_pos (by omega)]
                       rw [zset_zset]
                       refine v_iinc_4 ok (by decide) rfl dX6_addShoe_114 (n := 117) rfl ?_
                       refine v_goto ok dX6_addShoe_117 (n := 13) (by decide) ?_
                       rw [← ez]
                       exact ih _ (by omega) _ _ _ rfl (by omega))
              · have c65_2 := zcmp_z c65_2
                refine v_goto ok dX6_addShoe_68 (n := 114) (by decide) ?_
                first
                | (have ez : zrl (M 76) (M r) e (b + 1).toNat = zrl (M 76) (M r) e b.toNat := by
                     rw [hst, ← hbf]
                     unfold zrel
                     rw [if_pos (by omega)]
                   refine v_iinc_4 ok (by decide) rfl dX6_addShoe_114 (n := 117) rfl ?_
                   refine v_goto ok dX6_addShoe_117 (n := 13) (by decide) ?_
                   rw [← ez]
                   exact ih _ (by omega) _ _ _ rfl (by omega))
                | (have ez : zrl (M 76) (M r) e (b + 1).toNat = zrl (M 76) (M r) e b.toNat := by
                     rw [hst, ← hbf]
                     unfold zrel
                     rw [if_neg (by omega), if_neg (by omega)]
                   refine v_iinc_4 ok (by decide) rfl dX6_addShoe_114 (n := 117) rfl ?_
                   refine v_goto ok dX6_addShoe_117 (n := 13) (by decide) ?_
                   rw [← ez]
                   exact ih _ (by omega) _ _ _ rfl (by omega))
                | (have ez : zrl (M 76) (M r) e (b + 1).toNat = bf + M r b := by
                     rw [hst, ← hbf]
                     unfold zrel
                     rw [if_neg (by omega), if_pos (by omega)]
                   rw [zset_zset]
                   refine v_iinc_4 ok (by decide) rfl dX6_addShoe_114 (n := 117) rfl ?_
                   refine v_goto ok dX6_addShoe_117 (n := 13) (by decide) ?_
                   rw [← ez]
                   exact ih _ (by omega) _ _ _ rfl (by omega))
          refine v_iload_3 ok dX6_addShoe_19 (n := 20) rfl ?_
          refine v_iload_4 ok dX6_addShoe_20 (n := 22) rfl ?_
          refine v_ishr ok dX6_addShoe_22 (n := 23) rfl ?_
          refine v_iconst ok dX6_addShoe_23 (n := 24) rfl ?_
          refine v_iand ok dX6_addShoe_24 (n := 25) rfl ?_
          rw [zand_bit (by omega) (by omega)]
          refine v_iconst ok dX6_addShoe_25 (n := 26) rfl ?_
          refine v_icmp_ne ok dX6_addShoe_26 (tgt := 43) (by decide) (n := 29) rfl (by have := zbit_b e b; omega) (by have := zbit_b e b; omega) (fun c26_2 => ?_) (fun c26_2 => ?_)
          · have c26_2 := c26_2
            refine v_ldc2 ok (c := -1) kc_X6_41 (by decide) dX6_addShoe_43 (n := 46) rfl ?_
            first
            | exact jn _ (by rw [if_pos (by omega)]) _ _
            | exact jn _ (by rw [if_neg (by omega)]) _ _
          · have c26_2 := c26_2
            refine v_aload_0 ok dX6_addShoe_29 (n := 30) rfl ?_
            refine v_getR ok fd_X6_16 ly_74 rfl rfl rfl rf_74_1 dX6_addShoe_30 (n := 33) rfl ?_
            refine v_iload_3 ok dX6_addShoe_33 (n := 34) rfl ?_
            refine v_iconst ok dX6_addShoe_34 (n := 35) rfl ?_
            refine v_iload_4 ok dX6_addShoe_35 (n := 37) rfl ?_
            refine v_ishl ok dX6_addShoe_37 (n := 38) rfl ?_
            refine v_ixor ok dX6_addShoe_38 (n := 39) rfl ?_
            rw [zshl_1 (by omega), zxor_out (by omega) (by omega) (by have := zbit_b e b; omega)]
            have hbl := zbit_lt he.1 (show zbit e b = 1 by have := zbit_b e b; omega)
            have hbp := zp2_pos b
            refine v_lald ok ly_76 rfl (by omega) (by decide) dX6_addShoe_39 (n := 40) rfl ?_
            try simp (disch := omega) only [zset_s, zset_ne, zset_o, zadm_o, zadm_l]
            refine v_goto ok dX6_addShoe_40 (n := 46) (by decide) ?_
            first
            | exact jn _ (by rw [if_pos (by omega)]) _ _
            | exact jn _ (by rw [if_neg (by omega)]) _ _
      refine v_iconst ok dX6_addShoe_10 (n := 11) rfl ?_
      refine v_istore_4 ok (by decide) rfl dX6_addShoe_11 (n := 13) rfl ?_
      have e5 := lpi _ 0 a5 a6 rfl (by omega)
      rw [show zset (zadm M r n e) 76 e (zrl (M 76) (M r) e (0 : Int).toNat) = zadm M r n e from by
        have e6 : zrl (M 76) (M r) e (0 : Int).toNat = zadm M r n e 76 e := (zadm_l (Int.le_refl e)).symm
        rw [e6, zset_self]] at e5
      exact e5
  refine v_iconst ok dX6_addShoe_0 (n := 1) rfl ?_
  refine v_iload_2 ok dX6_addShoe_1 (n := 2) rfl ?_
  refine v_ishl ok dX6_addShoe_2 (n := 3) rfl ?_
  rw [zshl_1 (by omega)]
  refine v_iconst ok dX6_addShoe_3 (n := 4) rfl ?_
  refine v_isub ok dX6_addShoe_4 (n := 5) rfl ?_
  refine v_istore_3 ok (by decide) rfl dX6_addShoe_5 (n := 6) rfl ?_
  have e := lpo _ (zp2 n - 1) none none none rfl (by omega)
  rw [zadm_0] at e
  exact e

