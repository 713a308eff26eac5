/-! the class: its tape -/
theorem zset_self {M : zM} {r i : Int} : zset M r i (M r i) = M := by
  funext r' j
  unfold zset
  split
  · next h => rw [h.1, h.2]
  · rfl
theorem zset_zset {M : zM} {r i x y : Int} : zset (zset M r i x) r i y = zset M r i y := by
  funext r' j
  unfold zset
  split <;> rfl
theorem zand_255 (x : Int) : 0 ≤ zand x 255 ∧ zand x 255 ≤ 255 := by
  unfold zand
  rw [pk_and (Int32.ofInt x) (m := Int32.ofInt 255) 8 (by decide), nI_toInt (by omega)]
  omega
/-- byte i of a long, the lowest 0 -/
def zbyt (w i : Int) : Int := zand (zushrJ w (8 * i)) 255
theorem zbyt_b (w i : Int) : 0 ≤ zbyt w i ∧ zbyt w i ≤ 255 := zand_255 _
def zapp (M : zM) (w n i : Int) : zM := fun r j => if r = 56 ∧ M 55 2 ≤ j ∧ j < M 55 2 + (n - 1 - i) then zbyt w (n - 1 - (j - M 55 2)) else if r = 55 ∧ j = 2 then M 55 2 + (n - 1 - i) else M r j
theorem zapp_l {M : zM} {w n i : Int} : zapp M w n i 55 2 = M 55 2 + (n - 1 - i) := by
  unfold zapp
  rw [if_neg (by omega), if_pos ⟨rfl, rfl⟩]
theorem zapp_0 {M : zM} {w n : Int} : zapp M w n (n - 1) = M := by
  funext r j
  unfold zapp
  rw [if_neg (by omega)]
  split
  · next h => rw [h.1, h.2]; omega
  · rfl
theorem zapp_s {M : zM} {w n i : Int} (h : i ≤ n - 1) : zset (zset (zapp M w n i) 56 (M 55 2 + (n - 1 - i)) (zbyt w i)) 55 2 (M 55 2 + (n - 1 - i) + 1) = zapp M w n (i + -1) := by
  funext r j
  unfold zset
  by_cases h1 : r = 55 ∧ j = 2
  · rw [if_pos h1]
    unfold zapp
    rw [if_neg (by omega), if_pos h1]
    omega
  · rw [if_neg h1]
    by_cases h2 : r = 56 ∧ j = M 55 2 + (n - 1 - i)
    · rw [if_pos h2]
      unfold zapp
      rw [if_pos (by omega)]
      rw [show n - 1 - (j - M 55 2) = i by omega]
    · rw [if_neg h2]
      unfold zapp
      by_cases h3 : r = 56 ∧ M 55 2 ≤ j ∧ j < M 55 2 + (n - 1 - i)
      · rw [if_pos h3, if_pos (by omega)]
      · rw [if_neg h3, if_neg (by omega), if_neg h1, if_neg (by omega)]
set_option maxHeartbeats 4000000 in
set_option maxRecDepth 100000 in
theorem t_isTypable {G : zG} {ad : Int → Nat} {M : zM} {v n : Int} (hn : 1 ≤ n ∧ n ≤ 8) : zTI G (zw ad) mi_X4_isTypable [zj v, zi n] M (fun x M' => M' = M ∧ ((x = 1 ∧ (∀ t, 0 ≤ t ∧ t < n → 32 ≤ zbyt v t ∧ zbyt v t ≤ 126)) ∨ (x = 0 ∧ ¬ (∀ t, 0 ≤ t ∧ t < n → 32 ≤ zbyt v t ∧ zbyt v t ≤ 126)))) := by
  refine zTI.ofZ (own := RX4) (ls := [some (zj v), none, some (zi n), none]) (by decide +kernel) rfl rfl (Nat.le_of_ble_eq_true rfl) (fun γ ok rt => ?_)
  have lp : ∀ (zn : Nat) (i : Int), zn = (8 - i).toNat → (0 ≤ i ∧ i ≤ n) → (∀ t, 0 ≤ t ∧ t < i → 32 ≤ zbyt v t ∧ zbyt v t ≤ 126) → zVV G γ (zw ad) (0, 0) 2 [some (zj v), none, some (zi n), some (zi i)] [] M := by
    refine zrec _ (fun zn ih => ?_)
    intro i hzn hi ha
    refine v_iload_3 ok dX4_isTypable_2 (n := 3) rfl ?_
    refine v_iload_2 ok dX4_isTypable_3 (n := 4) rfl ?_
    refine v_icmp_ge ok dX4_isTypable_4 (tgt := 36) (by decide) (n := 7) rfl (by omega) (by omega) (fun c4_1 => ?_) (fun c4_1 => ?_)
    · have c4_1 := c4_1
      refine v_iconst ok dX4_isTypable_36 (n := 37) rfl ?_
      refine v_zret rt dX4_isTypable_37 (by omega) ?_
      exact ⟨rfl, Or.inl ⟨rfl, fun t ht => ha t (by omega)⟩⟩
    · have c4_1 := c4_1
      refine v_lload_0 ok dX4_isTypable_7 (n := 8) rfl ?_
      refine v_bipush ok (by decide) dX4_isTypable_8 (n := 10) rfl ?_
      refine v_iload_3 ok dX4_isTypable_10 (n := 11) rfl ?_
      refine v_imul ok dX4_isTypable_11 (n := 12) rfl ?_
      refine v_lushr ok dX4_isTypable_12 (n := 13) rfl ?_
      refine v_l2i ok dX4_isTypable_13 (n := 14) rfl ?_
      refine v_sipush ok (by decide) dX4_isTypable_14 (n := 17) rfl ?_
      refine v_iand ok dX4_isTypable_17 (n := 18) rfl ?_
      refine v_bipush ok (by decide) dX4_isTypable_18 (n := 20) rfl ?_
      refine v_bipush ok (by decide) dX4_isTypable_20 (n := 22) rfl ?_
      refine v_callSI ok (mi := mi_X7_isFrom) mc_X7_isFrom cs_X4_27 (by decide) ⟨Nat.zero_le _, Nat.zero_le _⟩ dX4_isTypable_22 (n := 25) rfl rfl rfl (Nat.le_of_ble_eq_true rfl) (t_isFrom (by have := zbyt_b v i; unfold zbyt at this; omega) (by omega) (by omega)) (fun x8 M8 h8 => ?_)
      obtain ⟨e8_, h8⟩ := h8
      subst M8
      have e9 : zand (zushrJ v (8 * i)) 255 = zbyt v i := rfl
      rw [e9] at h8
      refine v_if_ne ok dX4_isTypable_25 (tgt := 30) (by decide) (n := 28) rfl (by omega) (fun c25_2 => ?_) (fun c25_2 => ?_)
      · have c25_2 := c25_2
        refine v_iinc_3 ok (by decide) rfl dX4_isTypable_30 (n := 33) rfl ?_
        refine v_goto ok dX4_isTypable_33 (n := 2) (by decide) ?_
        refine ih _ (by omega) _ rfl (by omega) (fun t ht => ?_)
        by_cases hti : t = i
        · subst hti
          omega
        · exact ha t (by omega)
      · have c25_2 := c25_2
        refine v_iconst ok dX4_isTypable_28 (n := 29) rfl ?_
        refine v_zret rt dX4_isTypable_29 (by omega) ?_
        exact ⟨rfl, Or.inr ⟨rfl, fun q => by have := q i (by omega); omega⟩⟩
  refine v_iconst ok dX4_isTypable_0 (n := 1) rfl ?_
  refine v_istore_3 ok (by decide) rfl dX4_isTypable_1 (n := 2) rfl ?_
  exact lp _ 0 rfl (by omega) (fun t ht => by omega)

set_option maxHeartbeats 4000000 in
set_option maxRecDepth 100000 in
theorem t_append {G : zG} {ad : Int → Nat} {M : zM} {v n : Int} (hn : 1 ≤ n ∧ n ≤ 8) (hl : 0 ≤ M 55 2 ∧ M 55 2 + n ≤ 120) : zTV G (zw ad) mi_X4_append [zr 55, zj v, zi n] M (fun M' => M' = zapp M v n (-1)) := by
  refine zTV.of (own := RX4) (ls := [some (zr 55), some (zj v), none, some (zi n), none]) (by decide +kernel) rfl rfl (Nat.le_of_ble_eq_true rfl) (fun γ ok rt => ?_)
  have lp : ∀ (zn : Nat) (i : Int), zn = (i + 1).toNat → (-1 ≤ i ∧ i ≤ n - 1) → zVV G γ (zw ad) (0, 0) 5 [some (zr 55), some (zj v), none, some (zi n), some (zi i)] [] (zapp M v n i) := by
    refine zrec _ (fun zn ih => ?_)
    intro i hzn hi
    have el : zapp M v n i 55 2 = M 55 2 + (n - 1 - i) := zapp_l
    refine v_iload_4 ok dX4_append_5 (n := 7) rfl ?_
    refine v_if_lt ok dX4_append_7 (tgt := 47) (by decide) (n := 10) rfl (by omega) (fun c7_1 => ?_) (fun c7_1 => ?_)
    · have c7_1 := c7_1
      refine v_vret rt dX4_append_47 ?_
      rw [show i = -1 by omega]
    · have c7_1 := c7_1
      refine v_aload_0 ok dX4_append_10 (n := 11) rfl ?_
      refine v_getR ok fd_X4_9 ly_55 rfl rfl rfl rf_55_0 dX4_append_11 (n := 14) rfl ?_
      refine v_aload_0 ok dX4_append_14 (n := 15) rfl ?_
      refine v_getI ok fd_X4_20 ly_55 rfl rfl (jI := 2) rfl dX4_append_15 (n := 18) rfl ?_
      try simp (disch := omega) only [zset_s, zset_ne, zset_o, zapp_l]
      refine v_lload_1 ok dX4_append_18 (n := 19) rfl ?_
      refine v_bipush ok (by decide) dX4_append_19 (n := 21) rfl ?_
      refine v_iload_4 ok dX4_append_21 (n := 23) rfl ?_
      refine v_imul ok dX4_append_23 (n := 24) rfl ?_
      refine v_lushr ok dX4_append_24 (n := 25) rfl ?_
      refine v_l2i ok dX4_append_25 (n := 26) rfl ?_
      refine v_sipush ok (by decide) dX4_append_26 (n := 29) rfl ?_
      refine v_iand ok dX4_append_29 (n := 30) rfl ?_
      refine v_iast ok ly_56 rfl (by omega) (by decide) dX4_append_30 (n := 31) rfl ?_
      refine v_aload_0 ok dX4_append_31 (n := 32) rfl ?_
      refine v_dup ok rfl dX4_append_32 (n := 33) rfl ?_
      refine v_getI ok fd_X4_20 ly_55 rfl rfl (jI := 2) rfl dX4_append_33 (n := 36) rfl ?_
      try simp (disch := omega) only [zset_s, zset_ne, zset_o, zapp_l]
      refine v_iconst ok dX4_append_36 (n := 37) rfl ?_
      refine v_iadd ok dX4_append_37 (n := 38) rfl ?_
      refine v_putI ok fw_X4_20 ly_55 rfl rfl (jI := 2) rfl dX4_append_38 (n := 41) rfl ?_
      refine v_iinc_4 ok (by decide) rfl dX4_append_41 (n := 44) rfl ?_
      refine v_goto ok dX4_append_44 (n := 5) (by decide) ?_
      have e9 : zand (zushrJ v (8 * i)) 255 = zbyt v i := rfl
      rw [e9, zapp_s hi.2]
      exact ih _ (by omega) _ rfl (by omega)
  refine v_iload_3 ok dX4_append_0 (n := 1) rfl ?_
  refine v_iconst ok dX4_append_1 (n := 2) rfl ?_
  refine v_isub ok dX4_append_2 (n := 3) rfl ?_
  refine v_istore_4 ok (by decide) rfl dX4_append_3 (n := 5) rfl ?_
  have e := lp _ (n - 1) rfl (by omega)
  rw [zapp_0] at e
  exact e

set_option maxHeartbeats 4000000 in
set_option maxRecDepth 100000 in
theorem t_type {G : zG} {ad : Int → Nat} {M : zM} {v n : Int} (hn : -2147483648 ≤ n ∧ n ≤ 2147483647) (hl : 0 ≤ M 55 2 ∧ M 55 2 ≤ 120) : zTI G (zw ad) mi_X7_type [zr 0, zj v, zi n] M (fun x M' => ((¬ ((1 ≤ n ∧ n ≤ 8) ∧ (∀ t, 0 ≤ t ∧ t < n → 32 ≤ zbyt v t ∧ zbyt v t ≤ 126))) ∧ x = -1 ∧ M' = M) ∨ ((((1 ≤ n ∧ n ≤ 8) ∧ (∀ t, 0 ≤ t ∧ t < n → 32 ≤ zbyt v t ∧ zbyt v t ≤ 126)) ∧ 120 < M 55 2 + n) ∧ x = -3 ∧ M' = M) ∨ ((((1 ≤ n ∧ n ≤ 8) ∧ (∀ t, 0 ≤ t ∧ t < n → 32 ≤ zbyt v t ∧ zbyt v t ≤ 126)) ∧ M 55 2 + n ≤ 120) ∧ x = M 55 2 + n ∧ M' = zapp M v n (-1))) := by
  refine zTI.of (own := RX7) (ls := [some (zr 0), some (zj v), none, some (zi n)]) (by decide +kernel) rfl rfl (Nat.le_of_ble_eq_true rfl) (fun γ ok rt => ?_)
  refine v_iload_3 ok dX7_type_0 (n := 1) rfl ?_
  refine v_iconst ok dX7_type_1 (n := 2) rfl ?_
  refine v_bipush ok (by decide) dX7_type_2 (n := 4) rfl ?_
  refine v_callSI ok (mi := mi_X7_isFrom) mc_X7_isFrom cs_X7_81 (by decide) ⟨Nat.zero_le _, Nat.zero_le _⟩ dX7_type_4 (n := 7) rfl rfl rfl (Nat.le_of_ble_eq_true rfl) (t_isFrom hn (by omega) (by omega)) (fun x5 M5 h5 => ?_)
  obtain ⟨e5_, h5⟩ := h5
  subst M5
  refine v_if_eq ok dX7_type_7 (tgt := 18) (by decide) (n := 10) rfl (by omega) (fun c7_1 => ?_) (fun c7_1 => ?_)
  · have c7_1 := c7_1
    refine v_iconst ok dX7_type_18 (n := 19) rfl ?_
    refine v_iret rt dX7_type_19 ?_
    first
    | exact Or.inl ⟨fun q => by omega, rfl, rfl⟩
    | exact Or.inl ⟨fun q => h6 q.2, rfl, rfl⟩
  · have c7_1 := c7_1
    refine v_lload_1 ok dX7_type_10 (n := 11) rfl ?_
    refine v_iload_3 ok dX7_type_11 (n := 12) rfl ?_
    refine v_callSI ok (mi := mi_X4_isTypable) mc_X4_isTypable cs_X7_114 (by decide) ⟨Nat.zero_le _, Nat.zero_le _⟩ dX7_type_12 (n := 15) rfl rfl rfl (Nat.le_of_ble_eq_true rfl) (t_isTypable (by omega)) (fun x6 M6 h6 => ?_)
    obtain ⟨e6_, h6⟩ := h6
    subst M6
    refine v_if_ne ok dX7_type_15 (tgt := 20) (by decide) (n := 18) rfl (by omega) (fun c15_2 => ?_) (fun c15_2 => ?_)
    · have c15_2 := c15_2
      obtain ⟨e6, h6⟩ | ⟨e6, h6⟩ := h6
      rotate_left
      · omega
      refine v_aload_0 ok dX7_type_20 (n := 21) rfl ?_
      refine v_getR ok fd_X7_26 ly_0 rfl rfl rfl rf_0_3 dX7_type_21 (n := 24) rfl ?_
      refine v_getI ok fd_X7_118 ly_55 rfl rfl (jI := 2) rfl dX7_type_24 (n := 27) rfl ?_
      try simp only [zapp_l]
      refine v_iload_3 ok dX7_type_27 (n := 28) rfl ?_
      refine v_iadd ok dX7_type_28 (n := 29) rfl ?_
      refine v_bipush ok (by decide) dX7_type_29 (n := 31) rfl ?_
      refine v_icmp_le ok dX7_type_31 (tgt := 37) (by decide) (n := 34) rfl (by omega) (by omega) (fun c31_3 => ?_) (fun c31_3 => ?_)
      · have c31_3 := c31_3
        refine v_aload_0 ok dX7_type_37 (n := 38) rfl ?_
        refine v_getR ok fd_X7_26 ly_0 rfl rfl rfl rf_0_3 dX7_type_38 (n := 41) rfl ?_
        refine v_lload_1 ok dX7_type_41 (n := 42) rfl ?_
        refine v_iload_3 ok dX7_type_42 (n := 43) rfl ?_
        refine v_callVV ok (mi := mi_X4_append) mc_X4_append cv_X7_121 ly_55 rfl rfl rfl (by decide) ⟨Nat.zero_le _, Nat.zero_le _⟩ dX7_type_43 (n := 46) rfl rfl rfl (Nat.le_of_ble_eq_true rfl) (t_append (by omega) (by omega)) (fun M8 h8 => ?_)
        subst h8
        refine v_aload_0 ok dX7_type_46 (n := 47) rfl ?_
        refine v_getR ok fd_X7_26 ly_0 rfl rfl rfl rf_0_3 dX7_type_47 (n := 50) rfl ?_
        refine v_getI ok fd_X7_118 ly_55 rfl rfl (jI := 2) rfl dX7_type_50 (n := 53) rfl ?_
        try simp only [zapp_l]
        refine v_iret rt dX7_type_53 ?_
        exact Or.inr (Or.inr ⟨⟨⟨by omega, h6⟩, by omega⟩, by omega, rfl⟩)
      · have c31_3 := c31_3
        refine v_bipush ok (by decide) dX7_type_34 (n := 36) rfl ?_
        refine v_iret rt dX7_type_36 ?_
        exact Or.inr (Or.inl ⟨⟨⟨by omega, h6⟩, by omega⟩, rfl, rfl⟩)
    · have c15_2 := c15_2
      obtain ⟨e6, h6⟩ | ⟨e6, h6⟩ := h6
      · omega
      refine v_iconst ok dX7_type_18 (n := 19) rfl ?_
      refine v_iret rt dX7_type_19 ?_
      first
      | exact Or.inl ⟨fun q => by omega, rfl, rfl⟩
      | exact Or.inl ⟨fun q => h6 q.2, rfl, rfl⟩

set_option maxHeartbeats 4000000 in
set_option maxRecDepth 100000 in
theorem t_next {G : zG} {ad : Int → Nat} {M : zM} (hl : 0 ≤ M 55 2 ∧ M 55 2 ≤ 120) (hp : 0 ≤ M 55 3 ∧ M 55 3 ≤ M 55 2) (hT : ∀ i, 0 ≤ i ∧ i < M 55 2 → 32 ≤ M 56 i ∧ M 56 i ≤ 126)  : zTI G (zw ad) mi_X4_next [zr 55] M (fun x M' => M' = zset M 55 3 (zsk (M 56) (M 55 2) (M 55 3)) ∧ x = if zsk (M 56) (M 55 2) (M 55 3) < M 55 2 then M 56 (zsk (M 56) (M 55 2) (M 55 3)) else 0) := by
  refine zTI.of (own := RX4) (ls := [some (zr 55)]) (by decide +kernel) rfl rfl (Nat.le_of_ble_eq_true rfl) (fun γ ok rt => ?_)
  have lp : ∀ (zn : Nat) (p : Int), zn = (120 - p).toNat → (0 ≤ p ∧ p ≤ M 55 2) → (zsk (M 56) (M 55 2) p = zsk (M 56) (M 55 2) (M 55 3)) → zVV G γ (zw ad) (0, 0) 0 [some (zr 55)] [] (zset M 55 3 p) := by
    refine zrec _ (fun zn ih => ?_)
    intro p hzn hi he
    refine v_aload_0 ok dX4_next_0 (n := 1) rfl ?_
    refine v_getI ok fd_X4_24 ly_55 rfl rfl (jI := 3) rfl dX4_next_1 (n := 4) rfl ?_
    try simp (disch := omega) only [zset_s, zset_ne, zset_o]
    refine v_aload_0 ok dX4_next_4 (n := 5) rfl ?_
    refine v_getI ok fd_X4_20 ly_55 rfl rfl (jI := 2) rfl dX4_next_5 (n := 8) rfl ?_
    try simp (disch := omega) only [zset_s, zset_ne, zset_o]
    refine v_icmp_ge ok dX4_next_8 (tgt := 38) (by decide) (n := 11) rfl (by omega) (by omega) (fun c8_1 => ?_) (fun c8_1 => ?_)
    · have c8_1 := c8_1
      have ep : zsk (M 56) (M 55 2) (M 55 3) = p := by rw [← he]; exact zsk_n (by omega)
      refine v_aload_0 ok dX4_next_38 (n := 39) rfl ?_
      refine v_getI ok fd_X4_24 ly_55 rfl rfl (jI := 3) rfl dX4_next_39 (n := 42) rfl ?_
      try simp (disch := omega) only [zset_s, zset_ne, zset_o]
      refine v_aload_0 ok dX4_next_42 (n := 43) rfl ?_
      refine v_getI ok fd_X4_20 ly_55 rfl rfl (jI := 2) rfl dX4_next_43 (n := 46) rfl ?_
      try simp (disch := omega) only [zset_s, zset_ne, zset_o]
      refine v_icmp_ge ok dX4_next_46 (tgt := 61) (by decide) (n := 49) rfl (by omega) (by omega) (fun c46_2 => ?_) (fun c46_2 => ?_)
      · have c46_2 := c46_2
        first
        | (exfalso; omega)
        | skip
          refine v_iconst ok dX4_next_61 (n := 62) rfl ?_
          refine v_iret rt dX4_next_62 ?_
          refine ⟨by rw [ep], ?_⟩
          rw [ep]
          first
          | rw [if_pos (by omega)]
          | rw [if_neg (by omega)]
      · have c46_2 := c46_2
        first
        | (exfalso; omega)
        | skip
          refine v_aload_0 ok dX4_next_49 (n := 50) rfl ?_
          refine v_getR ok fd_X4_9 ly_55 rfl rfl rfl rf_55_0 dX4_next_50 (n := 53) rfl ?_
          refine v_aload_0 ok dX4_next_53 (n := 54) rfl ?_
          refine v_getI ok fd_X4_24 ly_55 rfl rfl (jI := 3) rfl dX4_next_54 (n := 57) rfl ?_
          try simp (disch := omega) only [zset_s, zset_ne, zset_o]
          refine v_iald ok ly_56 rfl (by omega) (by decide) dX4_next_57 (n := 58) rfl ?_
          try simp (disch := omega) only [zset_s, zset_ne, zset_o]
          refine v_goto ok dX4_next_58 (n := 62) (by decide) ?_
          refine v_iret rt dX4_next_62 ?_
          refine ⟨by rw [ep], ?_⟩
          rw [ep]
          first
          | rw [if_pos (by omega)]
          | rw [if_neg (by omega)]
    · have c8_1 := c8_1
      refine v_aload_0 ok dX4_next_11 (n := 12) rfl ?_
      refine v_getR ok fd_X4_9 ly_55 rfl rfl rfl rf_55_0 dX4_next_12 (n := 15) rfl ?_
      refine v_aload_0 ok dX4_next_15 (n := 16) rfl ?_
      refine v_getI ok fd_X4_24 ly_55 rfl rfl (jI := 3) rfl dX4_next_16 (n := 19) rfl ?_
      try simp (disch := omega) only [zset_s, zset_ne, zset_o]
      refine v_iald ok ly_56 rfl (by omega) (by decide) dX4_next_19 (n := 20) rfl ?_
      try simp (disch := omega) only [zset_s, zset_ne, zset_o]
      have hTp := hT p (by omega)
      refine v_bipush ok (by decide) dX4_next_20 (n := 22) rfl ?_
      refine v_icmp_ne ok dX4_next_22 (tgt := 38) (by decide) (n := 25) rfl (by omega) (by omega) (fun c22_3 => ?_) (fun c22_3 => ?_)
      · have c22_3 := c22_3
        have ep : zsk (M 56) (M 55 2) (M 55 3) = p := by rw [← he]; exact zsk_n (by omega)
        refine v_aload_0 ok dX4_next_38 (n := 39) rfl ?_
        refine v_getI ok fd_X4_24 ly_55 rfl rfl (jI := 3) rfl dX4_next_39 (n := 42) rfl ?_
        try simp (disch := omega) only [zset_s, zset_ne, zset_o]
        refine v_aload_0 ok dX4_next_42 (n := 43) rfl ?_
        refine v_getI ok fd_X4_20 ly_55 rfl rfl (jI := 2) rfl dX4_next_43 (n := 46) rfl ?_
        try simp (disch := omega) only [zset_s, zset_ne, zset_o]
        refine v_icmp_ge ok dX4_next_46 (tgt := 61) (by decide) (n := 49) rfl (by omega) (by omega) (fun c46_4 => ?_) (fun c46_4 => ?_)
        · have c46_4 := c46_4
          first
          | (exfalso; omega)
          | skip
            refine v_iconst ok dX4_next_61 (n := 62) rfl ?_
            refine v_iret rt dX4_next_62 ?_
            refine ⟨by rw [ep], ?_⟩
            rw [ep]
            first
            | rw [if_pos (by omega)]
            | rw [if_neg (by omega)]
        · have c46_4 := c46_4
          first
          | (exfalso; omega)
          | skip
            refine v_aload_0 ok dX4_next_49 (n := 50) rfl ?_
            refine v_getR ok fd_X4_9 ly_55 rfl rfl rfl rf_55_0 dX4_next_50 (n := 53) rfl ?_
            refine v_aload_0 ok dX4_next_53 (n := 54) rfl ?_
            refine v_getI ok fd_X4_24 ly_55 rfl rfl (jI := 3) rfl dX4_next_54 (n := 57) rfl ?_
            try simp (disch := omega) only [zset_s, zset_ne, zset_o]
            refine v_iald ok ly_56 rfl (by omega) (by decide) dX4_next_57 (n := 58) rfl ?_
            try simp (disch := omega) only [zset_s, zset_ne, zset_o]
            refine v_goto ok dX4_next_58 (n := 62) (by decide) ?_
            refine v_iret rt dX4_next_62 ?_
            refine ⟨by rw [ep], ?_⟩
            rw [ep]
            first
            | rw [if_pos (by omega)]
            | rw [if_neg (by omega)]
      · have c22_3 := c22_3
        refine v_aload_0 ok dX4_next_25 (n := 26) rfl ?_
        refine v_dup ok rfl dX4_next_26 (n := 27) rfl ?_
        refine v_getI ok fd_X4_24 ly_55 rfl rfl (jI := 3) rfl dX4_next_27 (n := 30) rfl ?_
        try simp (disch := omega) only [zset_s, zset_ne, zset_o]
        refine v_iconst ok dX4_next_30 (n := 31) rfl ?_
        refine v_iadd ok dX4_next_31 (n := 32) rfl ?_
        refine v_putI ok fw_X4_24 ly_55 rfl rfl (jI := 3) rfl dX4_next_32 (n := 35) rfl ?_
        refine v_goto ok dX4_next_35 (n := 0) (by decide) ?_
        rw [zset_zset]
        exact ih _ (by omega) _ rfl (by omega) (by rw [← zsk_y ⟨by omega, by omega⟩]; exact he)
  have e := lp _ (M 55 3) rfl (by omega) rfl
  rw [zset_self] at e
  exact e

set_option maxHeartbeats 4000000 in
set_option maxRecDepth 100000 in
theorem t_isPassed {G : zG} {ad : Int → Nat} {M : zM} {c : Int} (hc : 1 ≤ c ∧ c ≤ 126) (hl : 0 ≤ M 55 2 ∧ M 55 2 ≤ 120) (hp : 0 ≤ M 55 3 ∧ M 55 3 ≤ M 55 2) (hT : ∀ i, 0 ≤ i ∧ i < M 55 2 → 32 ≤ M 56 i ∧ M 56 i ≤ 126)  : zTI G (zw ad) mi_X4_isPassed [zr 55, zi c] M (fun x M' => x = (zps (M 56) (M 55 2) (M 55 3) c).1 ∧ M' = zset M 55 3 (zps (M 56) (M 55 2) (M 55 3) c).2) := by
  refine zTI.ofZ (own := RX4) (ls := [some (zr 55), some (zi c)]) (by decide +kernel) rfl rfl (Nat.le_of_ble_eq_true rfl) (fun γ ok rt => ?_)
  refine v_aload_0 ok dX4_isPassed_0 (n := 1) rfl ?_
  refine v_callVI ok (mi := mi_X4_next) mc_X4_next cv_X4_42 ly_55 rfl rfl rfl (by decide) ⟨Nat.zero_le _, Nat.zero_le _⟩ dX4_isPassed_1 (n := 4) rfl rfl rfl (Nat.le_of_ble_eq_true rfl) (t_next hl hp hT) (fun x5 M5 h5 => ?_)
  obtain ⟨e5, e6⟩ := h5
  subst e5
  have hb := zsk_bd (T := M 56) hp.2
  have hx5 : (zsk (M 56) (M 55 2) (M 55 3) < M 55 2 ∧ x5 = M 56 (zsk (M 56) (M 55 2) (M 55 3))) ∨ (¬ zsk (M 56) (M 55 2) (M 55 3) < M 55 2 ∧ x5 = 0) := by
    rw [e6]
    split
    · next h => exact Or.inl ⟨h, rfl⟩
    · next h => exact Or.inr ⟨h, rfl⟩
  have hTq := hT (zsk (M 56) (M 55 2) (M 55 3))
  refine v_iload_1 ok dX4_isPassed_4 (n := 5) rfl ?_
  refine v_icmp_eq ok dX4_isPassed_5 (tgt := 10) (by decide) (n := 8) rfl (by omega) (by omega) (fun c5_1 => ?_) (fun c5_1 => ?_)
  · have c5_1 := c5_1
    refine v_aload_0 ok dX4_isPassed_10 (n := 11) rfl ?_
    refine v_dup ok rfl dX4_isPassed_11 (n := 12) rfl ?_
    refine v_getI ok fd_X4_24 ly_55 rfl rfl (jI := 3) rfl dX4_isPassed_12 (n := 15) rfl ?_
    try simp (disch := omega) only [zset_s, zset_ne, zset_o]
    refine v_iconst ok dX4_isPassed_15 (n := 16) rfl ?_
    refine v_iadd ok dX4_isPassed_16 (n := 17) rfl ?_
    refine v_putI ok fw_X4_24 ly_55 rfl rfl (jI := 3) rfl dX4_isPassed_17 (n := 20) rfl ?_
    refine v_iconst ok dX4_isPassed_20 (n := 21) rfl ?_
    refine v_zret rt dX4_isPassed_21 (by omega) ?_
    unfold zps
    rw [if_pos (by omega), zset_zset]
    exact ⟨rfl, rfl⟩
  · have c5_1 := c5_1
    refine v_iconst ok dX4_isPassed_8 (n := 9) rfl ?_
    refine v_zret rt dX4_isPassed_9 (by omega) ?_
    unfold zps
    rw [if_neg (by omega)]
    exact ⟨rfl, rfl⟩

