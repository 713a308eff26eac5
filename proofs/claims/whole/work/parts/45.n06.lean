/-! the model: type -/
theorem zandJ_255 (x : Int) : 0 ≤ zandJ x 255 ∧ zandJ x 255 ≤ 255 := by
  have h : (Int64.ofInt x &&& Int64.ofInt 255).toBitVec.toNat ≤ 255 := by
    show ((Int64.ofInt x).toBitVec &&& (Int64.ofInt 255).toBitVec).toNat ≤ 255
    rw [BitVec.toNat_and]
    exact Nat.le_trans Nat.and_le_right (by decide)
  unfold zandJ
  rw [zJ_of rfl (by omega)]
  omega
/-- byte i of a long, as the model takes it -/
def zbyM (w i : Int) : Int := zandJ (zshrJ w (8 * i)) 255
theorem zbyM_b (w i : Int) : 0 ≤ zbyM w i ∧ zbyM w i ≤ 255 := zandJ_255 _
def zapM (M : zM) (w n i : Int) : zM := fun r j => if r = 206 ∧ M 200 6 ≤ j ∧ j < M 200 6 + (n - 1 - i) then zbyM w (n - 1 - (j - M 200 6)) else if r = 200 ∧ j = 6 then M 200 6 + (n - 1 - i) else M r j
theorem zapM_l {M : zM} {w n i : Int} : zapM M w n i 200 6 = M 200 6 + (n - 1 - i) := by
  unfold zapM
  rw [if_neg (by omega), if_pos ⟨rfl, rfl⟩]
theorem zapM_0 {M : zM} {w n : Int} : zapM M w n (n - 1) = M := by
  funext r j
  unfold zapM
  rw [if_neg (by omega)]
  split
  · next h => rw [h.1, h.2]; omega
  · rfl
theorem zapM_s {M : zM} {w n i : Int} (h : i ≤ n - 1) : zset (zset (zapM M w n i) 206 (M 200 6 + (n - 1 - i)) (zbyM w i)) 200 6 (M 200 6 + (n - 1 - i) + 1) = zapM M w n (i + -1) := by
  funext r j
  unfold zset
  by_cases h1 : r = 200 ∧ j = 6
  · rw [if_pos h1]
    unfold zapM
    rw [if_neg (by omega), if_pos h1]
    omega
  · rw [if_neg h1]
    by_cases h2 : r = 206 ∧ j = M 200 6 + (n - 1 - i)
    · rw [if_pos h2]
      unfold zapM
      rw [if_pos (by omega)]
      rw [show n - 1 - (j - M 200 6) = i by omega]
    · rw [if_neg h2]
      unfold zapM
      by_cases h3 : r = 206 ∧ M 200 6 ≤ j ∧ j < M 200 6 + (n - 1 - i)
      · rw [if_pos h3, if_pos (by omega)]
      · rw [if_neg h3, if_neg (by omega), if_neg h1, if_neg (by omega)]
set_option maxHeartbeats 4000000 in
set_option maxRecDepth 100000 in
theorem u_type {G : zG} {ad : Int → Nat} {M : zM} {v n : Int} (hn : -2147483648 ≤ n ∧ n ≤ 2147483647) (hl : 0 ≤ M 200 6 ∧ M 200 6 ≤ 120)  : zTI G (zw ad) mi_X8_type [zr 200, zj v, zi n] M (fun x M' => ((¬ ((1 ≤ n ∧ n ≤ 8) ∧ (∀ t, 0 ≤ t ∧ t < n → 32 ≤ zbyM v t ∧ zbyM v t ≤ 126))) ∧ x = -1 ∧ M' = M) ∨ ((((1 ≤ n ∧ n ≤ 8) ∧ (∀ t, 0 ≤ t ∧ t < n → 32 ≤ zbyM v t ∧ zbyM v t ≤ 126)) ∧ 120 < M 200 6 + n) ∧ x = -3 ∧ M' = M) ∨ ((((1 ≤ n ∧ n ≤ 8) ∧ (∀ t, 0 ≤ t ∧ t < n → 32 ≤ zbyM v t ∧ zbyM v t ≤ 126)) ∧ M 200 6 + n ≤ 120) ∧ x = M 200 6 + n ∧ M' = zapM M v n (-1))) := by
  refine zTI.of (own := RX8) (ls := [some (zr 200), some (zj v), none, some (zi n), none]) (by decide +kernel) rfl rfl (Nat.le_of_ble_eq_true rfl) (fun γ ok rt => ?_)
  refine v_iload_3 ok dX8_type_0 (n := 1) rfl ?_
  refine v_i2l ok (by omega) dX8_type_1 (n := 2) rfl ?_
  refine v_lconst1 ok dX8_type_2 (n := 3) rfl ?_
  refine v_ldc2 ok (c := 8) kc_X8_141 (by decide) dX8_type_3 (n := 6) rfl ?_
  refine v_callSI ok (mi := mi_X8_in) mc_X8_in cs_X8_85 (by decide) ⟨Nat.zero_le _, Nat.zero_le _⟩ dX8_type_6 (n := 9) rfl rfl rfl (Nat.le_of_ble_eq_true rfl) (u_in (by omega) (by omega) (by omega)) (fun x5 M5 h5 => ?_)
  obtain ⟨e5_, h5⟩ := h5
  subst M5
  refine v_if_ne ok dX8_type_9 (tgt := 14) (by decide) (n := 12) rfl (by omega) (fun c9_1 => ?_) (fun c9_1 => ?_)
  · have c9_1 := c9_1
    have lp1 : ∀ (zn : Nat) (i : Int), zn = (i + 1).toNat → (-1 ≤ i ∧ i ≤ n - 1) → (∀ t, i < t ∧ t < n → 32 ≤ zbyM v t ∧ zbyM v t ≤ 126) → zVV G γ (zw ad) (0, 0) 19 [some (zr 200), some (zj v), none, some (zi n), some (zi i)] [] M := by
      refine zrec _ (fun zn ih => ?_)
      intro i hzn hi ha
      refine v_iload_4 ok dX8_type_19 (n := 21) rfl ?_
      refine v_if_lt ok dX8_type_21 (tgt := 55) (by decide) (n := 24) rfl (by omega) (fun c21_1 => ?_) (fun c21_1 => ?_)
      · have c21_1 := c21_1
        have hP : (1 ≤ n ∧ n ≤ 8) ∧ (∀ t, 0 ≤ t ∧ t < n → 32 ≤ zbyM v t ∧ zbyM v t ≤ 126) := ⟨by omega, fun t ht => ha t (by omega)⟩
        refine v_aload_0 ok dX8_type_55 (n := 56) rfl ?_
        refine v_getI ok fd_X8_149 ly_200 rfl rfl (jI := 6) rfl dX8_type_56 (n := 59) rfl ?_
        refine v_iload_3 ok dX8_type_59 (n := 60) rfl ?_
        refine v_iadd ok dX8_type_60 (n := 61) rfl ?_
        refine v_bipush ok (by decide) dX8_type_61 (n := 63) rfl ?_
        refine v_icmp_le ok dX8_type_63 (tgt := 69) (by decide) (n := 66) rfl (by omega) (by omega) (fun c63_2 => ?_) (fun c63_2 => ?_)
        · have c63_2 := c63_2
          have lp2 : ∀ (zn : Nat) (i : Int), zn = (i + 1).toNat → (-1 ≤ i ∧ i ≤ n - 1) → zVV G γ (zw ad) (0, 0) 74 [some (zr 200), some (zj v), none, some (zi n), some (zi i)] [] (zapM M v n i) := by
            refine zrec _ (fun zn ih => ?_)
            intro i hzn hi
            have el : zapM M v n i 200 6 = M 200 6 + (n - 1 - i) := zapM_l
            refine v_iload_4 ok dX8_type_74 (n := 76) rfl ?_
            refine v_if_lt ok dX8_type_76 (tgt := 116) (by decide) (n := 79) rfl (by omega) (fun c76_1 => ?_) (fun c76_1 => ?_)
            · have c76_1 := c76_1
              refine v_aload_0 ok dX8_type_116 (n := 117) rfl ?_
              refine v_getI ok fd_X8_149 ly_200 rfl rfl (jI := 6) rfl dX8_type_117 (n := 120) rfl ?_
              try simp (disch := omega) only [zset_s, zset_ne, zset_o, zapM_l]
              refine v_iret rt dX8_type_120 ?_
              have hie : i = -1 := by omega
              subst hie
              exact Or.inr (Or.inr ⟨⟨hP, by omega⟩, by omega, rfl⟩)
            · have c76_1 := c76_1
              refine v_aload_0 ok dX8_type_79 (n := 80) rfl ?_
              refine v_getR ok fd_X8_19 ly_200 rfl rfl rfl rf_200_5 dX8_type_80 (n := 83) rfl ?_
              refine v_aload_0 ok dX8_type_83 (n := 84) rfl ?_
              refine v_getI ok fd_X8_149 ly_200 rfl rfl (jI := 6) rfl dX8_type_84 (n := 87) rfl ?_
              try simp (disch := omega) only [zset_s, zset_ne, zset_o, zapM_l]
              refine v_lload_1 ok dX8_type_87 (n := 88) rfl ?_
              refine v_bipush ok (by decide) dX8_type_88 (n := 90) rfl ?_
              refine v_iload_4 ok dX8_type_90 (n := 92) rfl ?_
              refine v_imul ok dX8_type_92 (n := 93) rfl ?_
              refine v_lshr ok dX8_type_93 (n := 94) rfl ?_
              refine v_ldc2 ok (c := 255) kc_X8_143 (by decide) dX8_type_94 (n := 97) rfl ?_
              refine v_land ok dX8_type_97 (n := 98) rfl ?_
              rw [show zandJ (zshrJ v (8 * i)) 255 = zbyM v i from rfl]
              refine v_l2i ok dX8_type_98 (n := 99) rfl ?_
              refine v_iast ok ly_206 rfl (by omega) (by decide) dX8_type_99 (n := 100) rfl ?_
              refine v_aload_0 ok dX8_type_100 (n := 101) rfl ?_
              refine v_dup ok rfl dX8_type_101 (n := 102) rfl ?_
              refine v_getI ok fd_X8_149 ly_200 rfl rfl (jI := 6) rfl dX8_type_102 (n := 105) rfl ?_
              try simp (disch := omega) only [zset_s, zset_ne, zset_o, zapM_l]
              refine v_iconst ok dX8_type_105 (n := 106) rfl ?_
              refine v_iadd ok dX8_type_106 (n := 107) rfl ?_
              refine v_putI ok fw_X8_149 ly_200 rfl rfl (jI := 6) rfl dX8_type_107 (n := 110) rfl ?_
              rw [zapM_s hi.2]
              refine v_iinc_4 ok (by decide) rfl dX8_type_110 (n := 113) rfl ?_
              refine v_goto ok dX8_type_113 (n := 74) (by decide) ?_
              exact ih _ (by omega) _ rfl (by omega)
          refine v_iload_3 ok dX8_type_69 (n := 70) rfl ?_
          refine v_iconst ok dX8_type_70 (n := 71) rfl ?_
          refine v_isub ok dX8_type_71 (n := 72) rfl ?_
          refine v_istore_4 ok (by decide) rfl dX8_type_72 (n := 74) rfl ?_
          have e := lp2 _ (n - 1) rfl (by omega)
          rw [zapM_0] at e
          exact e
        · have c63_2 := c63_2
          refine v_bipush ok (by decide) dX8_type_66 (n := 68) rfl ?_
          refine v_iret rt dX8_type_68 ?_
          exact Or.inr (Or.inl ⟨⟨hP, by omega⟩, rfl, rfl⟩)
      · have c21_1 := c21_1
        refine v_lload_1 ok dX8_type_24 (n := 25) rfl ?_
        refine v_bipush ok (by decide) dX8_type_25 (n := 27) rfl ?_
        refine v_iload_4 ok dX8_type_27 (n := 29) rfl ?_
        refine v_imul ok dX8_type_29 (n := 30) rfl ?_
        refine v_lshr ok dX8_type_30 (n := 31) rfl ?_
        refine v_ldc2 ok (c := 255) kc_X8_143 (by decide) dX8_type_31 (n := 34) rfl ?_
        refine v_land ok dX8_type_34 (n := 35) rfl ?_
        rw [show zandJ (zshrJ v (8 * i)) 255 = zbyM v i from rfl]
        refine v_ldc2 ok (c := 32) kc_X8_145 (by decide) dX8_type_35 (n := 38) rfl ?_
        refine v_ldc2 ok (c := 126) kc_X8_147 (by decide) dX8_type_38 (n := 41) rfl ?_
        have hby := zbyM_b v i
        refine v_callSI ok (mi := mi_X8_in) mc_X8_in cs_X8_85 (by decide) ⟨Nat.zero_le _, Nat.zero_le _⟩ dX8_type_41 (n := 44) rfl rfl rfl (Nat.le_of_ble_eq_true rfl) (u_in (by omega) (by omega) (by omega)) (fun x8 M8 h8 => ?_)
        obtain ⟨e8_, h8⟩ := h8
        subst M8
        refine v_if_ne ok dX8_type_44 (tgt := 49) (by decide) (n := 47) rfl (by omega) (fun c44_3 => ?_) (fun c44_3 => ?_)
        · have c44_3 := c44_3
          refine v_iinc_4 ok (by decide) rfl dX8_type_49 (n := 52) rfl ?_
          refine v_goto ok dX8_type_52 (n := 19) (by decide) ?_
          exact ih _ (by omega) _ rfl (by omega) (fun t ht => by
            by_cases e : t = i
            · subst e; omega
            · exact ha t (by omega))
        · have c44_3 := c44_3
          refine v_iconst ok dX8_type_47 (n := 48) rfl ?_
          refine v_iret rt dX8_type_48 ?_
          exact Or.inl ⟨fun q => by have := q.2 i (by omega); omega, rfl, rfl⟩
    refine v_iload_3 ok dX8_type_14 (n := 15) rfl ?_
    refine v_iconst ok dX8_type_15 (n := 16) rfl ?_
    refine v_isub ok dX8_type_16 (n := 17) rfl ?_
    refine v_istore_4 ok (by decide) rfl dX8_type_17 (n := 19) rfl ?_
    exact lp1 _ (n - 1) rfl (by omega) (fun t ht => by omega)
  · have c9_1 := c9_1
    refine v_iconst ok dX8_type_12 (n := 13) rfl ?_
    refine v_iret rt dX8_type_13 ?_
    exact Or.inl ⟨fun q => by have := q.1; omega, rfl, rfl⟩

