/-! the class: brides(), heap() -/

theorem zal_b {f : Int → zTR} {T : Int → Int} {len : Int} (hf : ∀ p, p ≤ len → p ≤ (f p).2.1 ∧ (f p).2.1 ≤ len) : ∀ (n : Nat) (k p : Int) (R : Int → Int → Int), 0 ≤ k → 0 ≤ p ∧ p ≤ len → (zal f T len n k p R).1 ≤ k + n ∧ -20 - len ≤ (zal f T len n k p R).1 := by
  intro n
  induction n with
  | zero =>
    intro k p R hk hp
    show -20 - p ≤ k + ((0 : Nat) : Int) ∧ -20 - len ≤ -20 - p
    omega
  | succ n ih =>
    intro k p R hk hp
    rw [zal_s]
    have h1 := hf p hp.2
    have h2 := zsk_bd (T := T) h1.2
    split
    · show -20 - (f p).2.1 ≤ _ ∧ _ ≤ -20 - (f p).2.1
      omega
    · split
      · show k + 1 ≤ _ ∧ _ ≤ k + 1
        omega
      · split
        · show -20 - zsk T len (f p).2.1 ≤ _ ∧ _ ≤ -20 - zsk T len (f p).2.1
          omega
        · have := ih (k + 1) (zsk T len (f p).2.1 + 1) (fun i j => if i = k then (f p).2.2 j else R i j) (by omega) (by omega)
          omega
/-- of the rows of a text that is one, each came out of f -/
theorem zal_rows {f : Int → zTR} {T : Int → Int} {len : Int} {P : (Int → Int) → Prop} (hl : 0 ≤ len) (hf : ∀ p, (f p).1 ≠ 0 → P (f p).2.2) (hb : ∀ p, p ≤ len → p ≤ (f p).2.1 ∧ (f p).2.1 ≤ len) : ∀ (n : Nat) (k p : Int) (R : Int → Int → Int), 0 ≤ k → 0 ≤ p ∧ p ≤ len → (∀ i, 0 ≤ i ∧ i < k → P (R i)) → ∀ i, 0 ≤ i ∧ i < (zal f T len n k p R).1 → P ((zal f T len n k p R).2 i) := by
  intro n
  induction n with
  | zero =>
    intro k p R hk hp hR i hi
    have h2 : i < -20 - p := hi.2
    omega
  | succ n ih =>
    intro k p R hk hp hR
    rw [zal_s]
    have h1 := hb p hp.2
    have h2 := zsk_bd (T := T) h1.2
    split
    · intro i hi
      have h3 : i < -20 - (f p).2.1 := hi.2
      omega
    · next hne =>
      have hR2 : ∀ i, 0 ≤ i ∧ i < k + 1 → P ((fun i j => if i = k then (f p).2.2 j else R i j) i) := by
        intro i hi
        by_cases hik : i = k
        · have e : (fun i j => if i = k then (f p).2.2 j else R i j) i = (f p).2.2 := by
            funext j
            exact if_pos hik
          rw [e]
          exact hf p hne
        · have e : (fun i j => if i = k then (f p).2.2 j else R i j) i = R i := by
            funext j
            exact if_neg hik
          rw [e]
          exact hR i (by omega)
      split
      · exact hR2
      · split
        · intro i hi
          have h3 : i < -20 - zsk T len (f p).2.1 := hi.2
          omega
        · exact ih _ _ _ (by omega) (by omega) hR2
theorem zrb_row {T : Int → Int} {len p : Int} (hp : p ≤ len) (h : (zrb T len p).1 ≠ 0) : zBR (zrb T len p).2.2 := by
  unfold zrb zb1 at h ⊢
  have h1 := zrn_b (T := T) (hi := 60) hp (show (0 : Int) ≤ 20 by omega)
  split at h
  · exact absurd rfl h
  · next c1 =>
    rw [if_neg c1]
    unfold zb2 at h ⊢
    have h2 := zps_b (T := T) (c := 47) h1.2.1
    split at h
    · exact absurd rfl h
    · next c2 =>
      rw [if_neg c2]
      unfold zb3 at h ⊢
      have h3 := zrn_b (T := T) (hi := 60) h2.2.1 (show (0 : Int) ≤ 20 by omega)
      split at h
      · exact absurd rfl h
      · next c3 =>
        rw [if_neg c3]
        unfold zb4 at h ⊢
        have h4 := zop_b (T := T) (c := 115) (f := zdg T len) h3.2.1 (fun q hq => ⟨(zdg_b hq).1, (zdg_b hq).2.1⟩)
        have h4v : (zop (zps T len (zrn T len (zps T len (zrn T len p 20 60).2 47).2 20 60).2 115) (zdg T len)).1 ≤ 4 := by
          unfold zop
          split
          · have := zdg_b (T := T) (zps_b (T := T) (c := 115) h3.2.1).2.1
            omega
          · exact (by decide : (0 : Int) ≤ 4)
        split at h
        · exact absurd rfl h
        · next c4 =>
          rw [if_neg c4]
          unfold zb5 at h ⊢
          have h5v : ∀ q, q ≤ len → (zop (zps T len q 104) (fun q => zrn T len q 0 11)).1 ≤ 11 := by
            intro q hq
            unfold zop
            split
            · have := zrn_b (T := T) (lo := 0) (hi := 11) (zps_b (T := T) (c := 104) hq).2.1 (by omega)
              show (zrn T len (zps T len q 104).2 0 11).1 ≤ 11
              omega
            · exact (by decide : (0 : Int) ≤ 11)
          have h5 := h5v _ h4.2
          split at h
          · exact absurd rfl h
          · next c5 =>
            rw [if_neg c5]
            refine ⟨?_, ?_, ?_, ?_⟩
            · show 20 ≤ (zrn T len p 20 60).1 ∧ (zrn T len p 20 60).1 ≤ 60
              omega
            · show 20 ≤ (zrn T len (zps T len (zrn T len p 20 60).2 47).2 20 60).1 ∧ (zrn T len (zps T len (zrn T len p 20 60).2 47).2 20 60).1 ≤ 60
              omega
            · exact ⟨Int.not_lt.mp c4, h4v⟩
            · exact ⟨Int.not_lt.mp c5, h5⟩
theorem zrs_row {T : Int → Int} {len p : Int} (hp : p ≤ len) (h : (zrs T len p).1 ≠ 0) : zSR (zrs T len p).2.2 := by
  have key : ∀ d : Int, (d = 0 ∨ d = 1) → zsk T len p < len → (zs1 T len d (zrn T len (zsk T len p + 1) 20 70)).1 ≠ 0 → zSR (zs1 T len d (zrn T len (zsk T len p + 1) 20 70)).2.2 := by
    intro d hd hq h
    have h1 := zrn_b (T := T) (len := len) (p := zsk T len p + 1) (lo := 20) (hi := 70) (by omega) (by omega)
    have row : ∀ k : Int, 0 ≤ k ∧ k ≤ 3 → ¬ (zrn T len (zsk T len p + 1) 20 70).1 < 0 → zSR (zrow d (zrn T len (zsk T len p + 1) 20 70).1 k 0) := by
      intro k hk hn
      refine ⟨?_, ?_, ?_, ?_⟩
      · show 0 ≤ d ∧ d ≤ 1
        omega
      · show 20 ≤ (zrn T len (zsk T len p + 1) 20 70).1 ∧ (zrn T len (zsk T len p + 1) 20 70).1 ≤ 70
        omega
      · exact hk
      · exact (by decide : (0 : Int) ≤ 0 ∧ (0 : Int) ≤ 1)
    unfold zs1 at h ⊢
    split at h
    · exact absurd rfl h
    · next c1 =>
      rw [if_neg c1]
      unfold zs2 zs3 zs4
      split
      · exact row 1 (by omega) c1
      · split
        · exact row 2 (by omega) c1
        · split
          · exact row 3 (by omega) c1
          · exact row 0 (by omega) c1
  unfold zrs at h ⊢
  split at h
  · next c =>
    rw [if_pos c]
    exact key 0 (Or.inl rfl) c.1 h
  · next c =>
    rw [if_neg c]
    split at h
    · next c2 =>
      rw [if_pos c2]
      exact key 1 (Or.inr rfl) c2.1 h
    · exact absurd rfl h
set_option maxHeartbeats 4000000 in
set_option maxRecDepth 100000 in
theorem t_brides {G : zG} {ad : Int → Nat} {M : zM} (hln : 0 ≤ M 55 2 ∧ M 55 2 ≤ 120) (hT : ∀ i, 0 ≤ i ∧ i < M 55 2 → 32 ≤ M 56 i ∧ M 56 i ≤ 126)  : zTI G (zw ad) mi_X7_brides [zr 0] M (fun x M' => x = (zal (zrb (M 56) (M 55 2)) (M 56) (M 55 2) 7 0 0 (fun _ _ => 0)).1 ∧ (∀ r, (r < 58 ∨ 73 < r) → r ≠ 55 → r ≠ 1 → (r < 5 ∨ 11 < r) → M' r = M r) ∧ (∀ j, j ≠ 3 → M' 1 j = M 1 j) ∧ M' 55 2 = 0 ∧ ((x ≤ 0 ∧ M' 1 3 = M 1 3 ∧ ∀ r, 5 ≤ r → r ≤ 11 → M' r = M r) ∨ (0 < x ∧ x ≤ 7 ∧ M' 1 3 = x ∧ ∀ k, 0 ≤ k ∧ k < x → ∀ j, 0 ≤ j ∧ j < 4 → M' (5 + k) j = (zal (zrb (M 56) (M 55 2)) (M 56) (M 55 2) 7 0 0 (fun _ _ => 0)).2 k j))) := by
  refine zTI.of (own := RX7) (ls := [some (zr 0), none]) (by decide +kernel) rfl rfl (Nat.le_of_ble_eq_true rfl) (fun γ ok rt => ?_)
  refine v_aload_0 ok dX7_brides_0 (n := 1) rfl ?_
  refine v_getR ok fd_X7_26 ly_0 rfl rfl rfl rf_0_3 dX7_brides_1 (n := 4) rfl ?_
  refine v_callVI ok (mi := mi_X4_readBrides) mc_X4_readBrides cv_X7_125 ly_55 rfl rfl rfl (by decide) ⟨Nat.zero_le _, Nat.zero_le _⟩ dX7_brides_4 (n := 7) rfl rfl rfl (Nat.le_of_ble_eq_true rfl) (t_readBrides hln hT) (fun x1 N1 g1 => ?_)
  obtain ⟨w1, F1, r1⟩ := g1
  have hb := zal_b (T := M 56) (len := M 55 2) (f := zrb (M 56) (M 55 2)) (fun p hp => ⟨(zrb_b hp).1, (zrb_b hp).2.1⟩) 7 0 0 (fun _ _ => 0) (by omega) (by omega)
  rw [← w1] at hb
  refine v_istore_1 ok (by decide) rfl dX7_brides_7 (n := 8) rfl ?_
  refine v_aload_0 ok dX7_brides_8 (n := 9) rfl ?_
  refine v_getR ok fd_X7_26 ly_0 rfl rfl rfl rf_0_3 dX7_brides_9 (n := 12) rfl ?_
  refine v_iconst ok dX7_brides_12 (n := 13) rfl ?_
  refine v_putI ok fw_X7_118 ly_55 rfl rfl (jI := 2) rfl dX7_brides_13 (n := 16) rfl ?_
  refine v_iload_1 ok dX7_brides_16 (n := 17) rfl ?_
  refine v_if_le ok dX7_brides_17 (tgt := 35) (by decide) (n := 20) rfl (by omega) (fun c17_1 => ?_) (fun c17_1 => ?_)
  · have c17_1 := c17_1
    refine v_iload_1 ok dX7_brides_35 (n := 36) rfl ?_
    refine v_iret rt dX7_brides_36 ?_
    first
    | (refine ⟨w1, fun r q1 q2 q3 q4 => ?_, fun j hj => ?_, zset_s, Or.inl ⟨by omega, ?_, fun r q1 q2 => ?_⟩⟩
       · rw [zset_o q2]; exact F1.1 r q1 q2
       · rw [zset_o (by omega), F1.1 1 (by omega) (by omega)]
       · rw [zset_o (by omega), F1.1 1 (by omega) (by omega)]
       · rw [zset_o (by omega)]; exact F1.1 r (by omega) (by omega))
    | (have hx := r1 (by omega)
       refine ⟨w1, fun r q1 q2 q3 q4 => ?_, fun j hj => ?_, ?_, Or.inr ⟨by omega, by omega, zset_s, fun k hk j hj => ?_⟩⟩
       · rw [zset_o q3]
         funext j
         unfold zcpR
         rw [if_neg (by omega), zset_o q2]
         exact congrFun (F1.1 r q1 q2) j
       · rw [zset_n hj]
         unfold zcpR
         rw [if_neg (by omega), zset_o (by omega), F1.1 1 (by omega) (by omega)]
       · rw [zset_o (by omega)]
         unfold zcpR
         rw [if_neg (by omega)]
         exact zset_s
       · rw [zset_o (by omega)]
         unfold zcpR
         rw [if_pos (by omega), zset_o (by omega), show 58 + (5 + k - 5) = 58 + k by omega]
         exact hx k hk j hj)
  · have c17_1 := c17_1
    refine v_aload_0 ok dX7_brides_20 (n := 21) rfl ?_
    refine v_getR ok fd_X7_10 ly_0 rfl rfl rfl rf_0_0 dX7_brides_21 (n := 24) rfl ?_
    refine v_aload_0 ok dX7_brides_24 (n := 25) rfl ?_
    refine v_getR ok fd_X7_26 ly_0 rfl rfl rfl rf_0_3 dX7_brides_25 (n := 28) rfl ?_
    refine v_getR ok fd_X7_129 ly_55 rfl rfl rfl rf_55_1 dX7_brides_28 (n := 31) rfl ?_
    refine v_iload_1 ok dX7_brides_31 (n := 32) rfl ?_
    refine v_callVV ok (mi := mi_X1_takeBrides) mc_X1_takeBrides cv_X7_132 ly_1 rfl rfl rfl (by decide) ⟨Nat.zero_le _, Nat.zero_le _⟩ dX7_brides_32 (n := 35) rfl rfl rfl (Nat.le_of_ble_eq_true rfl) (t_takeBridesT (by omega)) (fun N2 g2 => ?_)
    subst g2
    refine v_iload_1 ok dX7_brides_35 (n := 36) rfl ?_
    refine v_iret rt dX7_brides_36 ?_
    first
    | (refine ⟨w1, fun r q1 q2 q3 q4 => ?_, fun j hj => ?_, zset_s, Or.inl ⟨by omega, ?_, fun r q1 q2 => ?_⟩⟩
       · rw [zset_o q2]; exact F1.1 r q1 q2
       · rw [zset_o (by omega), F1.1 1 (by omega) (by omega)]
       · rw [zset_o (by omega), F1.1 1 (by omega) (by omega)]
       · rw [zset_o (by omega)]; exact F1.1 r (by omega) (by omega))
    | (have hx := r1 (by omega)
       refine ⟨w1, fun r q1 q2 q3 q4 => ?_, fun j hj => ?_, ?_, Or.inr ⟨by omega, by omega, zset_s, fun k hk j hj => ?_⟩⟩
       · rw [zset_o q3]
         funext j
         unfold zcpR
         rw [if_neg (by omega), zset_o q2]
         exact congrFun (F1.1 r q1 q2) j
       · rw [zset_n hj]
         unfold zcpR
         rw [if_neg (by omega), zset_o (by omega), F1.1 1 (by omega) (by omega)]
       · rw [zset_o (by omega)]
         unfold zcpR
         rw [if_neg (by omega)]
         exact zset_s
       · rw [zset_o (by omega)]
         unfold zcpR
         rw [if_pos (by omega), zset_o (by omega), show 58 + (5 + k - 5) = 58 + k by omega]
         exact hx k hk j hj)

set_option maxHeartbeats 4000000 in
set_option maxRecDepth 100000 in
theorem t_heap {G : zG} {ad : Int → Nat} {M : zM} (hln : 0 ≤ M 55 2 ∧ M 55 2 ≤ 120) (hT : ∀ i, 0 ≤ i ∧ i < M 55 2 → 32 ≤ M 56 i ∧ M 56 i ≤ 126)  : zTI G (zw ad) mi_X7_heap [zr 0] M (fun x M' => x = (zal (zrs (M 56) (M 55 2)) (M 56) (M 55 2) 16 0 0 (fun _ _ => 0)).1 ∧ (∀ r, (r < 58 ∨ 73 < r) → r ≠ 55 → r ≠ 1 → (r < 12 ∨ 27 < r) → M' r = M r) ∧ (∀ j, j ≠ 4 → M' 1 j = M 1 j) ∧ M' 55 2 = 0 ∧ ((x ≤ 0 ∧ M' 1 4 = M 1 4 ∧ ∀ r, 12 ≤ r → r ≤ 27 → M' r = M r) ∨ (0 < x ∧ x ≤ 16 ∧ M' 1 4 = x ∧ ∀ k, 0 ≤ k ∧ k < x → ∀ j, 0 ≤ j ∧ j < 4 → M' (12 + k) j = (zal (zrs (M 56) (M 55 2)) (M 56) (M 55 2) 16 0 0 (fun _ _ => 0)).2 k j))) := by
  refine zTI.of (own := RX7) (ls := [some (zr 0), none]) (by decide +kernel) rfl rfl (Nat.le_of_ble_eq_true rfl) (fun γ ok rt => ?_)
  refine v_aload_0 ok dX7_heap_0 (n := 1) rfl ?_
  refine v_getR ok fd_X7_26 ly_0 rfl rfl rfl rf_0_3 dX7_heap_1 (n := 4) rfl ?_
  refine v_callVI ok (mi := mi_X4_readHeap) mc_X4_readHeap cv_X7_136 ly_55 rfl rfl rfl (by decide) ⟨Nat.zero_le _, Nat.zero_le _⟩ dX7_heap_4 (n := 7) rfl rfl rfl (Nat.le_of_ble_eq_true rfl) (t_readHeap hln hT) (fun x1 N1 g1 => ?_)
  obtain ⟨w1, F1, r1⟩ := g1
  have hb := zal_b (T := M 56) (len := M 55 2) (f := zrs (M 56) (M 55 2)) (fun p hp => ⟨(zrs_b hp).1, (zrs_b hp).2.1⟩) 16 0 0 (fun _ _ => 0) (by omega) (by omega)
  rw [← w1] at hb
  refine v_istore_1 ok (by decide) rfl dX7_heap_7 (n := 8) rfl ?_
  refine v_aload_0 ok dX7_heap_8 (n := 9) rfl ?_
  refine v_getR ok fd_X7_26 ly_0 rfl rfl rfl rf_0_3 dX7_heap_9 (n := 12) rfl ?_
  refine v_iconst ok dX7_heap_12 (n := 13) rfl ?_
  refine v_putI ok fw_X7_118 ly_55 rfl rfl (jI := 2) rfl dX7_heap_13 (n := 16) rfl ?_
  refine v_iload_1 ok dX7_heap_16 (n := 17) rfl ?_
  refine v_if_le ok dX7_heap_17 (tgt := 35) (by decide) (n := 20) rfl (by omega) (fun c17_1 => ?_) (fun c17_1 => ?_)
  · have c17_1 := c17_1
    refine v_iload_1 ok dX7_heap_35 (n := 36) rfl ?_
    refine v_iret rt dX7_heap_36 ?_
    first
    | (refine ⟨w1, fun r q1 q2 q3 q4 => ?_, fun j hj => ?_, zset_s, Or.inl ⟨by omega, ?_, fun r q1 q2 => ?_⟩⟩
       · rw [zset_o q2]; exact F1.1 r q1 q2
       · rw [zset_o (by omega), F1.1 1 (by omega) (by omega)]
       · rw [zset_o (by omega), F1.1 1 (by omega) (by omega)]
       · rw [zset_o (by omega)]; exact F1.1 r (by omega) (by omega))
    | (have hx := r1 (by omega)
       refine ⟨w1, fun r q1 q2 q3 q4 => ?_, fun j hj => ?_, ?_, Or.inr ⟨by omega, by omega, zset_s, fun k hk j hj => ?_⟩⟩
       · rw [zset_o q3]
         funext j
         unfold zcpR
         rw [if_neg (by omega), zset_o q2]
         exact congrFun (F1.1 r q1 q2) j
       · rw [zset_n hj]
         unfold zcpR
         rw [if_neg (by omega), zset_o (by omega), F1.1 1 (by omega) (by omega)]
       · rw [zset_o (by omega)]
         unfold zcpR
         rw [if_neg (by omega)]
         exact zset_s
       · rw [zset_o (by omega)]
         unfold zcpR
         rw [if_pos (by omega), zset_o (by omega), show 58 + (12 + k - 12) = 58 + k by omega]
         exact hx k hk j hj)
  · have c17_1 := c17_1
    refine v_aload_0 ok dX7_heap_20 (n := 21) rfl ?_
    refine v_getR ok fd_X7_10 ly_0 rfl rfl rfl rf_0_0 dX7_heap_21 (n := 24) rfl ?_
    refine v_aload_0 ok dX7_heap_24 (n := 25) rfl ?_
    refine v_getR ok fd_X7_26 ly_0 rfl rfl rfl rf_0_3 dX7_heap_25 (n := 28) rfl ?_
    refine v_getR ok fd_X7_129 ly_55 rfl rfl rfl rf_55_1 dX7_heap_28 (n := 31) rfl ?_
    refine v_iload_1 ok dX7_heap_31 (n := 32) rfl ?_
    refine v_callVV ok (mi := mi_X1_takeShoes) mc_X1_takeShoes cv_X7_139 ly_1 rfl rfl rfl (by decide) ⟨Nat.zero_le _, Nat.zero_le _⟩ dX7_heap_32 (n := 35) rfl rfl rfl (Nat.le_of_ble_eq_true rfl) (t_takeShoesT (by omega)) (fun N2 g2 => ?_)
    subst g2
    refine v_iload_1 ok dX7_heap_35 (n := 36) rfl ?_
    refine v_iret rt dX7_heap_36 ?_
    first
    | (refine ⟨w1, fun r q1 q2 q3 q4 => ?_, fun j hj => ?_, zset_s, Or.inl ⟨by omega, ?_, fun r q1 q2 => ?_⟩⟩
       · rw [zset_o q2]; exact F1.1 r q1 q2
       · rw [zset_o (by omega), F1.1 1 (by omega) (by omega)]
       · rw [zset_o (by omega), F1.1 1 (by omega) (by omega)]
       · rw [zset_o (by omega)]; exact F1.1 r (by omega) (by omega))
    | (have hx := r1 (by omega)
       refine ⟨w1, fun r q1 q2 q3 q4 => ?_, fun j hj => ?_, ?_, Or.inr ⟨by omega, by omega, zset_s, fun k hk j hj => ?_⟩⟩
       · rw [zset_o q3]
         funext j
         unfold zcpR
         rw [if_neg (by omega), zset_o q2]
         exact congrFun (F1.1 r q1 q2) j
       · rw [zset_n hj]
         unfold zcpR
         rw [if_neg (by omega), zset_o (by omega), F1.1 1 (by omega) (by omega)]
       · rw [zset_o (by omega)]
         unfold zcpR
         rw [if_neg (by omega)]
         exact zset_s
       · rw [zset_o (by omega)]
         unfold zcpR
         rw [if_pos (by omega), zset_o (by omega), show 58 + (12 + k - 12) = 58 + k by omega]
         exact hx k hk j hj)

