/-! the model: texts of brides, heaps -/
/-- read, place and reads apart, N is M -/
def zRf (M N : zM) : Prop := (∀ r, r ≠ 200 → r ≠ 210 → N r = M r) ∧ (∀ j, j ≠ 7 → j ≠ 8 → N 200 j = M 200 j)
theorem zRf_m {M N N1 : zM} {t p q : Int} (h : zRf M N) (h1 : zRm N t N1 p) : zRf M N1 := ⟨fun r a b => by rw [h1.1 r a b, h.1 r a b], fun j a b => by rw [h1.2.1 j a, h.2 j a b]⟩
theorem zRf_s {M N : zM} {j v : Int} (h : zRf M N) (hj : j = 7 ∨ j = 8) : zRf M (zset N 200 j v) := ⟨fun r a b => by rw [zset_o a, h.1 r a b], fun i a b => by rw [zset_n (by omega), h.2 i a b]⟩
theorem zrn_k {T : Int → Int} {len p lo hi : Int} (hp : p ≤ len) (hl : 0 ≤ lo) (h : (zrn T len p lo hi).1 < 0) : zsk T len (zrn T len p lo hi).2 = (zrn T len p lo hi).2 := by
  have h1 := zsk_bd (T := T) hp
  have h2 := znu_b (T := T) (len := len) _ (zsk T len p) 0 rfl h1.2 (by omega)
  revert h
  unfold zrn
  split
  · intro _
    exact zsk_sk hp
  · intro h
    have h : (znu T len (zsk T len p) 0).1 < 0 := h
    omega
theorem zps_k {T : Int → Int} {len p c : Int} (hp : p ≤ len) (h : (zps T len p c).1 = 0) : zsk T len (zps T len p c).2 = (zps T len p c).2 := by
  revert h
  unfold zps
  split
  · intro h
    have h : (1 : Int) = 0 := h
    omega
  · intro _
    exact zsk_sk hp
theorem zdg_k {T : Int → Int} {len p : Int} (hp : p ≤ len) (h : (zdg T len p).1 < 0) : zsk T len (zdg T len p).2 = (zdg T len p).2 := by
  revert h
  unfold zdg
  split
  · intro h
    have h : T (zsk T len p) - 48 < 0 := h
    omega
  · intro _
    exact zsk_sk hp
theorem zop_k {T : Int → Int} {len p c : Int} {f : Int → Int × Int} (hp : p ≤ len) (hf : ∀ q, q ≤ len → (f q).1 < 0 → zsk T len (f q).2 = (f q).2) (h : (zop (zps T len p c) f).1 < 0) : zsk T len (zop (zps T len p c) f).2 = (zop (zps T len p c) f).2 := by
  have h1 := zps_b (T := T) (c := c) hp
  revert h
  unfold zop
  split
  · exact hf _ h1.2.1
  · intro h
    have h : (0 : Int) < 0 := h
    omega
theorem zrb_k {T : Int → Int} {len p : Int} (hp : p ≤ len) (h : (zrb T len p).1 = 0) : zsk T len (zrb T len p).2.1 = (zrb T len p).2.1 := by
  have b1 := zrn_b (T := T) (hi := 60) hp (show (0 : Int) ≤ 20 by omega)
  revert h
  unfold zrb zb1
  split
  · next g => exact fun _ => zrn_k hp (by omega) g
  · have b2 := zps_b (T := T) (c := 47) b1.2.1
    unfold zb2
    split
    · next g => exact fun _ => zps_k b1.2.1 g
    · have b3 := zrn_b (T := T) (hi := 60) b2.2.1 (show (0 : Int) ≤ 20 by omega)
      unfold zb3
      split
      · next g => exact fun _ => zrn_k b2.2.1 (by omega) g
      · have b4 := zop_b (T := T) (c := 115) (f := zdg T len) b3.2.1 (fun q hq => by have := zdg_b (T := T) hq; omega)
        unfold zb4
        split
        · next g => exact fun _ => zop_k b3.2.1 (fun q hq hh => zdg_k hq hh) g
        · unfold zb5
          split
          · next g => exact fun _ => zop_k b4.2 (fun q hq hh => zrn_k hq (by omega) hh) g
          · intro h
            have h : (1 : Int) = 0 := h
            omega
theorem zrs_k {T : Int → Int} {len p : Int} (hp : p ≤ len) (h : (zrs T len p).1 = 0) : zsk T len (zrs T len p).2.1 = (zrs T len p).2.1 := by
  have b0 := zsk_bd (T := T) hp
  have key : ∀ d, zsk T len p < len → (zs1 T len d (zrn T len (zsk T len p + 1) 20 70)).1 = 0 → zsk T len (zs1 T len d (zrn T len (zsk T len p + 1) 20 70)).2.1 = (zs1 T len d (zrn T len (zsk T len p + 1) 20 70)).2.1 := by
    intro d hd h
    revert h
    unfold zs1
    split
    · next g => exact fun _ => zrn_k (by omega) (by omega) g
    · unfold zs2
      split
      · intro h
        have h : (1 : Int) = 0 := h
        omega
      · unfold zs3
        split
        · intro h
          have h : (1 : Int) = 0 := h
          omega
        · unfold zs4
          split
          · intro h
            have h : (1 : Int) = 0 := h
            omega
          · intro h
            have h : (1 : Int) = 0 := h
            omega
  revert h
  unfold zrs
  split
  · next g => exact key 0 g.1
  · split
    · next g => exact key 1 g.1
    · exact fun _ => zsk_sk hp
set_option maxHeartbeats 4000000 in
set_option maxRecDepth 100000 in
theorem u_readAllB {G : zG} {ad : Int → Nat} {M : zM} (hln : 0 ≤ M 200 6 ∧ M 200 6 ≤ 120) (hT : ∀ i, 0 ≤ i ∧ i < 120 → 0 ≤ M 206 i ∧ M 206 i ≤ 255)  : zTI G (zw ad) mi_X8_readAll [zr 200, zi 1] M (fun x M' => zRf M M' ∧ (0 ≤ M' 200 7 ∧ M' 200 7 ≤ M 200 6) ∧ ((x = 0 ∧ (zal (zrb (M 206) (M 200 6)) (M 206) (M 200 6) 7 0 0 (fun _ _ => 0)).1 = -20 - zsk (M 206) (M 200 6) (M' 200 7)) ∨ (x = 1 ∧ (zal (zrb (M 206) (M 200 6)) (M 206) (M 200 6) 7 0 0 (fun _ _ => 0)).1 = M' 200 8 ∧ 0 < (zal (zrb (M 206) (M 200 6)) (M 206) (M 200 6) 7 0 0 (fun _ _ => 0)).1 ∧ (zal (zrb (M 206) (M 200 6)) (M 206) (M 200 6) 7 0 0 (fun _ _ => 0)).1 ≤ 7 ∧ ∀ k, 0 ≤ k ∧ k < (zal (zrb (M 206) (M 200 6)) (M 206) (M 200 6) 7 0 0 (fun _ _ => 0)).1 → ∀ j, 0 ≤ j ∧ j < 4 → M' 210 (4 * k + j) = (zal (zrb (M 206) (M 200 6)) (M 206) (M 200 6) 7 0 0 (fun _ _ => 0)).2 k j))) := by
  refine zTI.ofZ (own := RX8) (ls := [some (zr 200), some (zi 1), none, none, none]) (by decide +kernel) rfl rfl (Nat.le_of_ble_eq_true rfl) (fun γ ok rt => ?_)
  obtain ⟨Z, hZ⟩ : ∃ Z, zal (zrb (M 206) (M 200 6)) (M 206) (M 200 6) 7 0 0 (fun _ _ => 0) = Z := ⟨_, rfl⟩
  rw [hZ] at rt
  have lp : ∀ (zn : Nat) (i p : Int) (l4 : Option zV) (N : zM) (Rw : Int → Int → Int), zn = (6 - i).toNat → (0 ≤ i ∧ i ≤ 6) → (zRf M N) → (N 200 7 = p ∧ 0 ≤ p ∧ p ≤ M 200 6) → (∀ k, 0 ≤ k ∧ k < i → ∀ j, 0 ≤ j ∧ j < 4 → N 210 (4 * k + j) = Rw k j) → (zal (zrb (M 206) (M 200 6)) (M 206) (M 200 6) (7 - i).toNat i p Rw = Z) → zVV G γ (zw ad) (0, 0) 19 [some (zr 200), some (zi 1), some (zi 7), some (zi i), l4] [] N := by
    refine zrec _ (fun zn ih => ?_)
    intro i p l4 N Rw hzn hi hN hp hw he
    obtain ⟨f3, hp⟩ := hp
    have f206 : N 206 = M 206 := hN.1 206 (by omega) (by omega)
    have f6 : N 200 6 = M 200 6 := hN.2 6 (by omega) (by omega)
    rw [show (7 - i).toNat = (6 - i).toNat + 1 by omega, zal_s] at he
    obtain ⟨z1, hz1⟩ : ∃ z, zrb (M 206) (M 200 6) p = z := ⟨_, rfl⟩
    have bz := zrb_b (T := M 206) hp.2
    have bk := zrb_k (T := M 206) hp.2
    rw [hz1] at he bz bk
    obtain ⟨q2, hq2⟩ : ∃ q, zsk (M 206) (M 200 6) z1.2.1 = q := ⟨_, rfl⟩
    have bq := zsk_bd (T := M 206) bz.2.1
    have bqq := zsk_sk (T := M 206) bz.2.1
    rw [hq2] at he bq bqq
    have e32 := u_readBride (G := G) (ad := ad) (M := N) (N := N) (t := 4 * i) (p := p) (by omega) (by rw [f6]; exact hln) (by rw [f206]; exact hT) (by rw [f6]; exact hp) ⟨fun _ _ _ => rfl, fun _ _ => rfl, f3, fun _ _ => rfl⟩
    rw [f206, f6, hz1] at e32
    refine v_iload_3 ok dX8_readAll_19 (n := 20) rfl ?_
    refine v_iload_2 ok dX8_readAll_20 (n := 21) rfl ?_
    refine v_icmp_ge ok dX8_readAll_21 (tgt := 105) (by decide) (n := 24) rfl (by omega) (by omega) (fun c21_1 => ?_) (fun c21_1 => ?_)
    · have c21_1 := c21_1
      omega
    · have c21_1 := c21_1
      refine v_iload_1 ok dX8_readAll_24 (n := 25) rfl ?_
      refine v_if_eq ok dX8_readAll_25 (tgt := 41) (by decide) (n := 28) rfl (by omega) (fun c25_2 => ?_) (fun c25_2 => ?_)
      · have c25_2 := c25_2
        omega
      · have c25_2 := c25_2
        refine v_aload_0 ok dX8_readAll_28 (n := 29) rfl ?_
        refine v_iconst ok dX8_readAll_29 (n := 30) rfl ?_
        refine v_iload_3 ok dX8_readAll_30 (n := 31) rfl ?_
        refine v_imul ok dX8_readAll_31 (n := 32) rfl ?_
        refine v_callVI ok (mi := mi_X8_readBride) mc_X8_readBride cv_X8_173 ly_200 rfl rfl rfl (by decide) ⟨Nat.zero_le _, Nat.zero_le _⟩ dX8_readAll_32 (n := 35) rfl rfl rfl (Nat.le_of_ble_eq_true rfl) (e32) (fun x1 N1 g1 => ?_)
        obtain ⟨w1, t1, r1⟩ := g1
        have F1 := zRf_m (q := 0) hN t1
        have h206 : N1 206 = M 206 := F1.1 206 (by omega) (by omega)
        have h6 : N1 200 6 = M 200 6 := F1.2 6 (by omega) (by omega)
        have h7 : N1 200 7 = z1.2.1 := t1.2.2.1
        refine v_if_eq ok dX8_readAll_35 (tgt := 51) (by decide) (n := 38) rfl (by omega) (fun c35_3 => ?_) (fun c35_3 => ?_)
        · have c35_3 := c35_3
          refine v_iconst ok dX8_readAll_51 (n := 52) rfl ?_
          refine v_zret rt dX8_readAll_52 (by omega) ?_
          rw [if_pos (by omega)] at he
          rw [← he]
          exact ⟨F1, by omega, Or.inl ⟨rfl, by rw [h7, bk (by omega)]⟩⟩
        · have c35_3 := c35_3
          refine v_goto ok dX8_readAll_38 (n := 53) (by decide) ?_
          refine v_aload_0 ok dX8_readAll_53 (n := 54) rfl ?_
          refine v_iload_3 ok dX8_readAll_54 (n := 55) rfl ?_
          refine v_iconst ok dX8_readAll_55 (n := 56) rfl ?_
          refine v_iadd ok dX8_readAll_56 (n := 57) rfl ?_
          refine v_putI ok fw_X8_179 ly_200 rfl rfl (jI := 8) rfl dX8_readAll_57 (n := 60) rfl ?_
          have e61 := u_nextByte (G := G) (ad := ad) (M := zset N1 200 8 (i + 1)) (by rw [zset_n (by omega), h6]; exact hln) (by rw [zset_n (by omega), zset_n (by omega), h6, h7]; omega) (by rw [zset_o (by omega), h206]; exact hT)
          rw [zset_o (by omega), h206, zset_n (by omega), zset_n (by omega), h6, h7, hq2] at e61
          refine v_aload_0 ok dX8_readAll_60 (n := 61) rfl ?_
          refine v_callVI ok (mi := mi_X8_nextByte) mc_X8_nextByte cv_X8_155 ly_200 rfl rfl rfl (by decide) ⟨Nat.zero_le _, Nat.zero_le _⟩ dX8_readAll_61 (n := 64) rfl rfl rfl (Nat.le_of_ble_eq_true rfl) (e61) (fun x2 N2 g2 => ?_)
          obtain ⟨e2, w2⟩ := g2
          subst e2
          rw [if_neg (by omega)] at he
          have hrow : ∀ k, 0 ≤ k ∧ k < i + 1 → ∀ j, 0 ≤ j ∧ j < 4 → N1 210 (4 * k + j) = (fun a j => if a = i then z1.2.2 j else Rw a j) k j := by
            intro k hk j hj
            show _ = if k = i then z1.2.2 j else Rw k j
            by_cases hki : k = i
            · rw [if_pos hki, hki]
              exact r1 (by omega) j hj
            · rw [if_neg hki, t1.2.2.2 _ (by omega)]
              exact hw k (by omega) j hj
          have hx2 : (q2 < M 200 6 ∧ 0 ≤ x2 ∧ x2 ≤ 255 ∧ x2 = M 206 q2) ∨ (¬ q2 < M 200 6 ∧ x2 = -1) := by
            rcases w2 with ⟨h1, h2⟩ | ⟨h1, h2⟩
            · have := hT q2 (by omega)
              exact Or.inl ⟨h1, by omega, by omega, h2⟩
            · exact Or.inr ⟨h1, h2⟩
          refine v_istore_4 ok (by decide) rfl dX8_readAll_64 (n := 66) rfl ?_
          refine v_iload_4 ok dX8_readAll_66 (n := 68) rfl ?_
          refine v_if_ge ok dX8_readAll_68 (tgt := 73) (by decide) (n := 71) rfl (by omega) (fun c68_4 => ?_) (fun c68_4 => ?_)
          · have c68_4 := c68_4
            refine v_iload_4 ok dX8_readAll_73 (n := 75) rfl ?_
            refine v_bipush ok (by decide) dX8_readAll_75 (n := 77) rfl ?_
            refine v_icmp_ne ok dX8_readAll_77 (tgt := 87) (by decide) (n := 80) rfl (by omega) (by omega) (fun c77_5 => ?_) (fun c77_5 => ?_)
            · have c77_5 := c77_5
              refine v_iconst ok dX8_readAll_87 (n := 88) rfl ?_
              refine v_zret rt dX8_readAll_88 (by omega) ?_
              rw [if_neg (by omega), if_pos (by omega)] at he
              rw [← he]
              exact ⟨zRf_s (zRf_s F1 (by omega)) (by omega), by rw [zset_s]; omega, Or.inl ⟨rfl, by rw [zset_s, bqq]⟩⟩
            · have c77_5 := c77_5
              refine v_iload_3 ok dX8_readAll_80 (n := 81) rfl ?_
              refine v_iload_2 ok dX8_readAll_81 (n := 82) rfl ?_
              refine v_iconst ok dX8_readAll_82 (n := 83) rfl ?_
              refine v_isub ok dX8_readAll_83 (n := 84) rfl ?_
              refine v_icmp_ne ok dX8_readAll_84 (tgt := 89) (by decide) (n := 87) rfl (by omega) (by omega) (fun c84_6 => ?_) (fun c84_6 => ?_)
              · have c84_6 := c84_6
                refine v_aload_0 ok dX8_readAll_89 (n := 90) rfl ?_
                refine v_dup ok rfl dX8_readAll_90 (n := 91) rfl ?_
                refine v_getI ok fd_X8_152 ly_200 rfl rfl (jI := 7) rfl dX8_readAll_91 (n := 94) rfl ?_
                rw [zset_s]
                refine v_iconst ok dX8_readAll_94 (n := 95) rfl ?_
                refine v_iadd ok dX8_readAll_95 (n := 96) rfl ?_
                refine v_putI ok fw_X8_152 ly_200 rfl rfl (jI := 7) rfl dX8_readAll_96 (n := 99) rfl ?_
                refine v_iinc_3 ok (by decide) rfl dX8_readAll_99 (n := 102) rfl ?_
                refine v_goto ok dX8_readAll_102 (n := 19) (by decide) ?_
                rw [if_neg (by omega), if_neg (by omega)] at he
                exact ih _ (by omega) (i + 1) (q2 + 1) _ _ (fun a j => if a = i then z1.2.2 j else Rw a j) rfl (by omega) (zRf_s (zRf_s (zRf_s F1 (by omega)) (by omega)) (by omega)) ⟨zset_s, by omega, by omega⟩ (fun k hk j hj => by rw [zset_o (by omega), zset_o (by omega), zset_o (by omega)]; exact hrow k hk j hj) (by rw [show (7 - (i + 1)).toNat = (6 - i).toNat by omega]; exact he)
              · have c84_6 := c84_6
                refine v_iconst ok dX8_readAll_87 (n := 88) rfl ?_
                refine v_zret rt dX8_readAll_88 (by omega) ?_
                rw [if_neg (by omega), if_pos (by omega)] at he
                rw [← he]
                exact ⟨zRf_s (zRf_s F1 (by omega)) (by omega), by rw [zset_s]; omega, Or.inl ⟨rfl, by rw [zset_s, bqq]⟩⟩
          · have c68_4 := c68_4
            refine v_iconst ok dX8_readAll_71 (n := 72) rfl ?_
            refine v_zret rt dX8_readAll_72 (by omega) ?_
            rw [if_pos (by omega)] at he
            rw [← he]
            refine ⟨zRf_s (zRf_s F1 (by omega)) (by omega), by rw [zset_s]; omega, Or.inr ⟨rfl, ?_, by show 0 < i + 1; omega, by show i + 1 ≤ 7; omega, fun k hk j hj => ?_⟩⟩
            · rw [zset_n (by omega), zset_s]
            · rw [zset_o (by omega), zset_o (by omega)]
              exact hrow k hk j hj
  refine v_aload_0 ok dX8_readAll_0 (n := 1) rfl ?_
  refine v_iconst ok dX8_readAll_1 (n := 2) rfl ?_
  refine v_putI ok fw_X8_152 ly_200 rfl rfl (jI := 7) rfl dX8_readAll_2 (n := 5) rfl ?_
  refine v_iload_1 ok dX8_readAll_5 (n := 6) rfl ?_
  refine v_if_eq ok dX8_readAll_6 (tgt := 14) (by decide) (n := 9) rfl (by omega) (fun c6_1 => ?_) (fun c6_1 => ?_)
  · have c6_1 := c6_1
    omega
  · have c6_1 := c6_1
    refine v_bipush ok (by decide) dX8_readAll_9 (n := 11) rfl ?_
    refine v_goto ok dX8_readAll_11 (n := 16) (by decide) ?_
    refine v_istore_2 ok (by decide) rfl dX8_readAll_16 (n := 17) rfl ?_
    refine v_iconst ok dX8_readAll_17 (n := 18) rfl ?_
    refine v_istore_3 ok (by decide) rfl dX8_readAll_18 (n := 19) rfl ?_
    exact lp _ 0 0 _ _ (fun _ _ => 0) rfl (by omega) (zRf_s ⟨fun _ _ _ => rfl, fun _ _ _ => rfl⟩ (by omega)) ⟨zset_s, by omega, by omega⟩ (fun k hk => by omega) hZ

set_option maxHeartbeats 4000000 in
set_option maxRecDepth 100000 in
theorem u_readAllS {G : zG} {ad : Int → Nat} {M : zM} (hln : 0 ≤ M 200 6 ∧ M 200 6 ≤ 120) (hT : ∀ i, 0 ≤ i ∧ i < 120 → 0 ≤ M 206 i ∧ M 206 i ≤ 255)  : zTI G (zw ad) mi_X8_readAll [zr 200, zi 0] M (fun x M' => zRf M M' ∧ (0 ≤ M' 200 7 ∧ M' 200 7 ≤ M 200 6) ∧ ((x = 0 ∧ (zal (zrs (M 206) (M 200 6)) (M 206) (M 200 6) 16 0 0 (fun _ _ => 0)).1 = -20 - zsk (M 206) (M 200 6) (M' 200 7)) ∨ (x = 1 ∧ (zal (zrs (M 206) (M 200 6)) (M 206) (M 200 6) 16 0 0 (fun _ _ => 0)).1 = M' 200 8 ∧ 0 < (zal (zrs (M 206) (M 200 6)) (M 206) (M 200 6) 16 0 0 (fun _ _ => 0)).1 ∧ (zal (zrs (M 206) (M 200 6)) (M 206) (M 200 6) 16 0 0 (fun _ _ => 0)).1 ≤ 16 ∧ ∀ k, 0 ≤ k ∧ k < (zal (zrs (M 206) (M 200 6)) (M 206) (M 200 6) 16 0 0 (fun _ _ => 0)).1 → ∀ j, 0 ≤ j ∧ j < 3 → M' 210 (4 * k + j) = (zal (zrs (M 206) (M 200 6)) (M 206) (M 200 6) 16 0 0 (fun _ _ => 0)).2 k j))) := by
  refine zTI.ofZ (own := RX8) (ls := [some (zr 200), some (zi 0), none, none, none]) (by decide +kernel) rfl rfl (Nat.le_of_ble_eq_true rfl) (fun γ ok rt => ?_)
  obtain ⟨Z, hZ⟩ : ∃ Z, zal (zrs (M 206) (M 200 6)) (M 206) (M 200 6) 16 0 0 (fun _ _ => 0) = Z := ⟨_, rfl⟩
  rw [hZ] at rt
  have lp : ∀ (zn : Nat) (i p : Int) (l4 : Option zV) (N : zM) (Rw : Int → Int → Int), zn = (15 - i).toNat → (0 ≤ i ∧ i ≤ 15) → (zRf M N) → (N 200 7 = p ∧ 0 ≤ p ∧ p ≤ M 200 6) → (∀ k, 0 ≤ k ∧ k < i → ∀ j, 0 ≤ j ∧ j < 3 → N 210 (4 * k + j) = Rw k j) → (zal (zrs (M 206) (M 200 6)) (M 206) (M 200 6) (16 - i).toNat i p Rw = Z) → zVV G γ (zw ad) (0, 0) 19 [some (zr 200), some (zi 0), some (zi 16), some (zi i), l4] [] N := by
    refine zrec _ (fun zn ih => ?_)
    intro i p l4 N Rw hzn hi hN hp hw he
    obtain ⟨f3, hp⟩ := hp
    have f206 : N 206 = M 206 := hN.1 206 (by omega) (by omega)
    have f6 : N 200 6 = M 200 6 := hN.2 6 (by omega) (by omega)
    rw [show (16 - i).toNat = (15 - i).toNat + 1 by omega, zal_s] at he
    obtain ⟨z1, hz1⟩ : ∃ z, zrs (M 206) (M 200 6) p = z := ⟨_, rfl⟩
    have bz := zrs_b (T := M 206) hp.2
    have bk := zrs_k (T := M 206) hp.2
    rw [hz1] at he bz bk
    obtain ⟨q2, hq2⟩ : ∃ q, zsk (M 206) (M 200 6) z1.2.1 = q := ⟨_, rfl⟩
    have bq := zsk_bd (T := M 206) bz.2.1
    have bqq := zsk_sk (T := M 206) bz.2.1
    rw [hq2] at he bq bqq
    have e32 := u_readShoe (G := G) (ad := ad) (M := N) (N := N) (t := 4 * i) (p := p) (by omega) (by rw [f6]; exact hln) (by rw [f206]; exact hT) (by rw [f6]; exact hp) ⟨fun _ _ _ => rfl, fun _ _ => rfl, f3, fun _ _ => rfl⟩
    rw [f206, f6, hz1] at e32
    refine v_iload_3 ok dX8_readAll_19 (n := 20) rfl ?_
    refine v_iload_2 ok dX8_readAll_20 (n := 21) rfl ?_
    refine v_icmp_ge ok dX8_readAll_21 (tgt := 105) (by decide) (n := 24) rfl (by omega) (by omega) (fun c21_1 => ?_) (fun c21_1 => ?_)
    · have c21_1 := c21_1
      omega
    · have c21_1 := c21_1
      refine v_iload_1 ok dX8_readAll_24 (n := 25) rfl ?_
      refine v_if_eq ok dX8_readAll_25 (tgt := 41) (by decide) (n := 28) rfl (by omega) (fun c25_2 => ?_) (fun c25_2 => ?_)
      · have c25_2 := c25_2
        refine v_aload_0 ok dX8_readAll_41 (n := 42) rfl ?_
        refine v_iconst ok dX8_readAll_42 (n := 43) rfl ?_
        refine v_iload_3 ok dX8_readAll_43 (n := 44) rfl ?_
        refine v_imul ok dX8_readAll_44 (n := 45) rfl ?_
        refine v_callVI ok (mi := mi_X8_readShoe) mc_X8_readShoe cv_X8_176 ly_200 rfl rfl rfl (by decide) ⟨Nat.zero_le _, Nat.zero_le _⟩ dX8_readAll_45 (n := 48) rfl rfl rfl (Nat.le_of_ble_eq_true rfl) (e32) (fun x1 N1 g1 => ?_)
        obtain ⟨w1, t1, r1⟩ := g1
        have F1 := zRf_m (q := 0) hN t1
        have h206 : N1 206 = M 206 := F1.1 206 (by omega) (by omega)
        have h6 : N1 200 6 = M 200 6 := F1.2 6 (by omega) (by omega)
        have h7 : N1 200 7 = z1.2.1 := t1.2.2.1
        refine v_if_ne ok dX8_readAll_48 (tgt := 53) (by decide) (n := 51) rfl (by omega) (fun c48_3 => ?_) (fun c48_3 => ?_)
        · have c48_3 := c48_3
          refine v_aload_0 ok dX8_readAll_53 (n := 54) rfl ?_
          refine v_iload_3 ok dX8_readAll_54 (n := 55) rfl ?_
          refine v_iconst ok dX8_readAll_55 (n := 56) rfl ?_
          refine v_iadd ok dX8_readAll_56 (n := 57) rfl ?_
          refine v_putI ok fw_X8_179 ly_200 rfl rfl (jI := 8) rfl dX8_readAll_57 (n := 60) rfl ?_
          have e61 := u_nextByte (G := G) (ad := ad) (M := zset N1 200 8 (i + 1)) (by rw [zset_n (by omega), h6]; exact hln) (by rw [zset_n (by omega), zset_n (by omega), h6, h7]; omega) (by rw [zset_o (by omega), h206]; exact hT)
          rw [zset_o (by omega), h206, zset_n (by omega), zset_n (by omega), h6, h7, hq2] at e61
          refine v_aload_0 ok dX8_readAll_60 (n := 61) rfl ?_
          refine v_callVI ok (mi := mi_X8_nextByte) mc_X8_nextByte cv_X8_155 ly_200 rfl rfl rfl (by decide) ⟨Nat.zero_le _, Nat.zero_le _⟩ dX8_readAll_61 (n := 64) rfl rfl rfl (Nat.le_of_ble_eq_true rfl) (e61) (fun x2 N2 g2 => ?_)
          obtain ⟨e2, w2⟩ := g2
          subst e2
          rw [if_neg (by omega)] at he
          have hrow : ∀ k, 0 ≤ k ∧ k < i + 1 → ∀ j, 0 ≤ j ∧ j < 3 → N1 210 (4 * k + j) = (fun a j => if a = i then z1.2.2 j else Rw a j) k j := by
            intro k hk j hj
            show _ = if k = i then z1.2.2 j else Rw k j
            by_cases hki : k = i
            · rw [if_pos hki, hki]
              exact r1 (by omega) j hj
            · rw [if_neg hki, t1.2.2.2 _ (by omega)]
              exact hw k (by omega) j hj
          have hx2 : (q2 < M 200 6 ∧ 0 ≤ x2 ∧ x2 ≤ 255 ∧ x2 = M 206 q2) ∨ (¬ q2 < M 200 6 ∧ x2 = -1) := by
            rcases w2 with ⟨h1, h2⟩ | ⟨h1, h2⟩
            · have := hT q2 (by omega)
              exact Or.inl ⟨h1, by omega, by omega, h2⟩
            · exact Or.inr ⟨h1, h2⟩
          refine v_istore_4 ok (by decide) rfl dX8_readAll_64 (n := 66) rfl ?_
          refine v_iload_4 ok dX8_readAll_66 (n := 68) rfl ?_
          refine v_if_ge ok dX8_readAll_68 (tgt := 73) (by decide) (n := 71) rfl (by omega) (fun c68_4 => ?_) (fun c68_4 => ?_)
          · have c68_4 := c68_4
            refine v_iload_4 ok dX8_readAll_73 (n := 75) rfl ?_
            refine v_bipush ok (by decide) dX8_readAll_75 (n := 77) rfl ?_
            refine v_icmp_ne ok dX8_readAll_77 (tgt := 87) (by decide) (n := 80) rfl (by omega) (by omega) (fun c77_5 => ?_) (fun c77_5 => ?_)
            · have c77_5 := c77_5
              refine v_iconst ok dX8_readAll_87 (n := 88) rfl ?_
              refine v_zret rt dX8_readAll_88 (by omega) ?_
              rw [if_neg (by omega), if_pos (by omega)] at he
              rw [← he]
              exact ⟨zRf_s (zRf_s F1 (by omega)) (by omega), by rw [zset_s]; omega, Or.inl ⟨rfl, by rw [zset_s, bqq]⟩⟩
            · have c77_5 := c77_5
              refine v_iload_3 ok dX8_readAll_80 (n := 81) rfl ?_
              refine v_iload_2 ok dX8_readAll_81 (n := 82) rfl ?_
              refine v_iconst ok dX8_readAll_82 (n := 83) rfl ?_
              refine v_isub ok dX8_readAll_83 (n := 84) rfl ?_
              refine v_icmp_ne ok dX8_readAll_84 (tgt := 89) (by decide) (n := 87) rfl (by omega) (by omega) (fun c84_6 => ?_) (fun c84_6 => ?_)
              · have c84_6 := c84_6
                refine v_aload_0 ok dX8_readAll_89 (n := 90) rfl ?_
                refine v_dup ok rfl dX8_readAll_90 (n := 91) rfl ?_
                refine v_getI ok fd_X8_152 ly_200 rfl rfl (jI := 7) rfl dX8_readAll_91 (n := 94) rfl ?_
                rw [zset_s]
                refine v_iconst ok dX8_readAll_94 (n := 95) rfl ?_
                refine v_iadd ok dX8_readAll_95 (n := 96) rfl ?_
                refine v_putI ok fw_X8_152 ly_200 rfl rfl (jI := 7) rfl dX8_readAll_96 (n := 99) rfl ?_
                refine v_iinc_3 ok (by decide) rfl dX8_readAll_99 (n := 102) rfl ?_
                refine v_goto ok dX8_readAll_102 (n := 19) (by decide) ?_
                rw [if_neg (by omega), if_neg (by omega)] at he
                exact ih _ (by omega) (i + 1) (q2 + 1) _ _ (fun a j => if a = i then z1.2.2 j else Rw a j) rfl (by omega) (zRf_s (zRf_s (zRf_s F1 (by omega)) (by omega)) (by omega)) ⟨zset_s, by omega, by omega⟩ (fun k hk j hj => by rw [zset_o (by omega), zset_o (by omega), zset_o (by omega)]; exact hrow k hk j hj) (by rw [show (16 - (i + 1)).toNat = (15 - i).toNat by omega]; exact he)
              · have c84_6 := c84_6
                refine v_iconst ok dX8_readAll_87 (n := 88) rfl ?_
                refine v_zret rt dX8_readAll_88 (by omega) ?_
                rw [if_neg (by omega), if_pos (by omega)] at he
                rw [← he]
                exact ⟨zRf_s (zRf_s F1 (by omega)) (by omega), by rw [zset_s]; omega, Or.inl ⟨rfl, by rw [zset_s, bqq]⟩⟩
          · have c68_4 := c68_4
            refine v_iconst ok dX8_readAll_71 (n := 72) rfl ?_
            refine v_zret rt dX8_readAll_72 (by omega) ?_
            rw [if_pos (by omega)] at he
            rw [← he]
            refine ⟨zRf_s (zRf_s F1 (by omega)) (by omega), by rw [zset_s]; omega, Or.inr ⟨rfl, ?_, by show 0 < i + 1; omega, by show i + 1 ≤ 16; omega, fun k hk j hj => ?_⟩⟩
            · rw [zset_n (by omega), zset_s]
            · rw [zset_o (by omega), zset_o (by omega)]
              exact hrow k hk j hj
        · have c48_3 := c48_3
          refine v_iconst ok dX8_readAll_51 (n := 52) rfl ?_
          refine v_zret rt dX8_readAll_52 (by omega) ?_
          rw [if_pos (by omega)] at he
          rw [← he]
          exact ⟨F1, by omega, Or.inl ⟨rfl, by rw [h7, bk (by omega)]⟩⟩
      · have c25_2 := c25_2
        omega
  refine v_aload_0 ok dX8_readAll_0 (n := 1) rfl ?_
  refine v_iconst ok dX8_readAll_1 (n := 2) rfl ?_
  refine v_putI ok fw_X8_152 ly_200 rfl rfl (jI := 7) rfl dX8_readAll_2 (n := 5) rfl ?_
  refine v_iload_1 ok dX8_readAll_5 (n := 6) rfl ?_
  refine v_if_eq ok dX8_readAll_6 (tgt := 14) (by decide) (n := 9) rfl (by omega) (fun c6_1 => ?_) (fun c6_1 => ?_)
  · have c6_1 := c6_1
    refine v_bipush ok (by decide) dX8_readAll_14 (n := 16) rfl ?_
    refine v_istore_2 ok (by decide) rfl dX8_readAll_16 (n := 17) rfl ?_
    refine v_iconst ok dX8_readAll_17 (n := 18) rfl ?_
    refine v_istore_3 ok (by decide) rfl dX8_readAll_18 (n := 19) rfl ?_
    exact lp _ 0 0 _ _ (fun _ _ => 0) rfl (by omega) (zRf_s ⟨fun _ _ _ => rfl, fun _ _ _ => rfl⟩ (by omega)) ⟨zset_s, by omega, by omega⟩ (fun k hk => by omega) hZ
  · have c6_1 := c6_1
    omega

set_option maxHeartbeats 4000000 in
set_option maxRecDepth 100000 in
theorem u_brides {G : zG} {ad : Int → Nat} {M : zM} (hln : 0 ≤ M 200 6 ∧ M 200 6 ≤ 120) (hT : ∀ i, 0 ≤ i ∧ i < 120 → 0 ≤ M 206 i ∧ M 206 i ≤ 255)  : zTI G (zw ad) mi_X8_brides [zr 200] M (fun x M' => x = (zal (zrb (M 206) (M 200 6)) (M 206) (M 200 6) 7 0 0 (fun _ _ => 0)).1 ∧ (∀ r, r ≠ 200 → r ≠ 210 → r ≠ 201 → M' r = M r) ∧ (∀ j, j ≠ 6 → j ≠ 7 → j ≠ 8 → j ≠ 2 → M' 200 j = M 200 j) ∧ M' 200 6 = 0 ∧ ((x ≤ 0 ∧ M' 200 2 = M 200 2 ∧ ∀ i, M' 201 i = M 201 i) ∨ (0 < x ∧ x ≤ 7 ∧ M' 200 2 = x ∧ ∀ k, 0 ≤ k ∧ k < x → (∀ j, 0 ≤ j ∧ j < 4 → M' 201 (4 * k + j) = (zal (zrb (M 206) (M 200 6)) (M 206) (M 200 6) 7 0 0 (fun _ _ => 0)).2 k j)))) := by
  refine zTI.of (own := RX8) (ls := [some (zr 200), none, none]) (by decide +kernel) rfl rfl (Nat.le_of_ble_eq_true rfl) (fun γ ok rt => ?_)
  refine v_aload_0 ok dX8_brides_0 (n := 1) rfl ?_
  refine v_iconst ok dX8_brides_1 (n := 2) rfl ?_
  refine v_callVI ok (mi := mi_X8_readAll) mc_X8_readAll cv_X8_182 ly_200 rfl rfl rfl (by decide) ⟨Nat.zero_le _, Nat.zero_le _⟩ dX8_brides_2 (n := 5) rfl rfl rfl (Nat.le_of_ble_eq_true rfl) (u_readAllB hln hT) (fun x1 N1 g1 => ?_)
  obtain ⟨F1, p1, g1⟩ := g1
  have f206 : N1 206 = M 206 := F1.1 206 (by omega) (by omega)
  have f6 : N1 200 6 = M 200 6 := F1.2 6 (by omega) (by omega)
  have fr : N1 201 = M 201 := F1.1 201 (by omega) (by omega)
  have hx1 : x1 = 0 ∨ x1 = 1 := by omega
  refine v_istore_1 ok (by decide) rfl dX8_brides_5 (n := 6) rfl ?_
  refine v_iload_1 ok dX8_brides_6 (n := 7) rfl ?_
  refine v_if_ne ok dX8_brides_7 (tgt := 15) (by decide) (n := 10) rfl (by omega) (fun c7_1 => ?_) (fun c7_1 => ?_)
  · have c7_1 := c7_1
    refine v_aload_0 ok dX8_brides_15 (n := 16) rfl ?_
    refine v_iconst ok dX8_brides_16 (n := 17) rfl ?_
    refine v_putI ok fw_X8_149 ly_200 rfl rfl (jI := 6) rfl dX8_brides_17 (n := 20) rfl ?_
    refine v_iload_1 ok dX8_brides_20 (n := 21) rfl ?_
    refine v_if_ne ok dX8_brides_21 (tgt := 32) (by decide) (n := 24) rfl (by omega) (fun c21_2 => ?_) (fun c21_2 => ?_)
    · have c21_2 := c21_2
      first
      | (exfalso; omega)
      | skip
        refine v_aload_0 ok dX8_brides_32 (n := 33) rfl ?_
        refine v_aload_0 ok dX8_brides_33 (n := 34) rfl ?_
        refine v_getI ok fd_X8_179 ly_200 rfl rfl (jI := 8) rfl dX8_brides_34 (n := 37) rfl ?_
        try simp (disch := omega) only [zset_s, zset_n, zset_o]
        refine v_putI ok fw_X8_81 ly_200 rfl rfl (jI := 2) rfl dX8_brides_37 (n := 40) rfl ?_
        refine v_iconst ok dX8_brides_40 (n := 41) rfl ?_
        refine v_istore_2 ok (by decide) rfl dX8_brides_41 (n := 42) rfl ?_
        have hg := g1.resolve_left (by omega)
        obtain ⟨hx, h1, h2, h3, hr⟩ := hg
        subst hx
        have lp : ∀ (zn : Nat) (i : Int) (Nx : zM), zn = (29 - i).toNat → (0 ≤ i ∧ i ≤ 4 * N1 200 8) → (∀ r, r ≠ 201 → Nx r = zset (zset N1 200 6 0) 200 2 (N1 200 8) r) → (∀ t, 0 ≤ t ∧ t < i → Nx 201 t = N1 210 t) → zVV G γ (zw ad) (0, 0) 42 [some (zr 200), some (zi 1), some (zi i)] [] Nx := by
          refine zrec _ (fun zn ih => ?_)
          intro i Nx hzn hi fx hc
          refine v_iload_2 ok dX8_brides_42 (n := 43) rfl ?_
          refine v_iconst ok dX8_brides_43 (n := 44) rfl ?_
          refine v_aload_0 ok dX8_brides_44 (n := 45) rfl ?_
          refine v_getI ok fd_X8_81 ly_200 rfl rfl (jI := 2) rfl dX8_brides_45 (n := 48) rfl ?_
          try simp (disch := omega) only [fx, zset_s, zset_n, zset_o]
          refine v_imul ok dX8_brides_48 (n := 49) rfl ?_
          refine v_icmp_ge ok dX8_brides_49 (tgt := 70) (by decide) (n := 52) rfl (by omega) (by omega) (fun c49_1 => ?_) (fun c49_1 => ?_)
          · have c49_1 := c49_1
            refine v_aload_0 ok dX8_brides_70 (n := 71) rfl ?_
            refine v_getI ok fd_X8_81 ly_200 rfl rfl (jI := 2) rfl dX8_brides_71 (n := 74) rfl ?_
            try simp (disch := omega) only [fx, zset_s, zset_n, zset_o]
            refine v_iret rt dX8_brides_74 ?_
            refine ⟨h1.symm, fun r a b c => by rw [fx r c, zset_o a, zset_o a]; exact F1.1 r a b, fun j a b c d => by rw [fx 200 (by omega), zset_n d, zset_n a]; exact F1.2 j b c, by rw [fx 200 (by omega), zset_n (by omega), zset_s], Or.inr ⟨by omega, by omega, by rw [fx 200 (by omega), zset_s], fun k hk j hj => ?_⟩⟩
            rw [hc (4 * k + j) (by omega)]
            exact hr k (by omega) j hj
          · have c49_1 := c49_1
            refine v_aload_0 ok dX8_brides_52 (n := 53) rfl ?_
            refine v_getR ok fd_X8_7 ly_200 rfl rfl rfl rf_200_0 dX8_brides_53 (n := 56) rfl ?_
            refine v_iload_2 ok dX8_brides_56 (n := 57) rfl ?_
            refine v_aload_0 ok dX8_brides_57 (n := 58) rfl ?_
            refine v_getR ok fd_X8_22 ly_200 rfl rfl rfl rf_200_9 dX8_brides_58 (n := 61) rfl ?_
            refine v_iload_2 ok dX8_brides_61 (n := 62) rfl ?_
            refine v_iald ok ly_210 rfl (by omega) (by decide) dX8_brides_62 (n := 63) rfl ?_
            try simp (disch := omega) only [fx, zset_s, zset_n, zset_o]
            refine v_iast ok ly_201 rfl (by omega) (by decide) dX8_brides_63 (n := 64) rfl ?_
            refine v_iinc_2 ok (by decide) rfl dX8_brides_64 (n := 67) rfl ?_
            refine v_goto ok dX8_brides_67 (n := 42) (by decide) ?_
            refine ih _ (by omega) (i + 1) _ rfl (by omega) (fun r hr => by rw [zset_o hr]; exact fx r hr) (fun t ht => ?_)
            by_cases e : t = i
            · rw [e, zset_s]
            · rw [zset_n e]
              exact hc t (by omega)
        exact lp _ 0 _ rfl (by omega) (fun _ _ => rfl) (fun t ht => by omega)
    · have c21_2 := c21_2
      first
      | (exfalso; omega)
      | skip
        refine v_bipush ok (by decide) dX8_brides_24 (n := 26) rfl ?_
        refine v_aload_0 ok dX8_brides_26 (n := 27) rfl ?_
        refine v_getI ok fd_X8_152 ly_200 rfl rfl (jI := 7) rfl dX8_brides_27 (n := 30) rfl ?_
        try simp (disch := omega) only [zset_s, zset_n, zset_o]
        refine v_isub ok dX8_brides_30 (n := 31) rfl ?_
        refine v_iret rt dX8_brides_31 ?_
        rcases g1 with ⟨_, g⟩ | ⟨g, _⟩
        · refine ⟨g.symm, fun r a b c => by rw [zset_o a, zset_o a]; exact F1.1 r a b, fun j a b c d => by rw [zset_n a, zset_n b]; exact F1.2 j b c, zset_s, Or.inl ⟨by omega, by rw [zset_n (by omega), zset_n (by omega)]; exact F1.2 _ (by omega) (by omega), fun i => by rw [zset_o (by omega), zset_o (by omega), fr]⟩⟩
        · exfalso
          omega
  · have c7_1 := c7_1
    refine v_aload_0 ok dX8_brides_10 (n := 11) rfl ?_
    have e11 := u_nextByte (G := G) (ad := ad) (M := N1) (by rw [f6]; exact hln) (by rw [f6]; exact p1) (by rw [f206]; exact hT)
    rw [f206, f6] at e11
    have bs := zsk_bd (T := M 206) p1.2
    refine v_callVI ok (mi := mi_X8_nextByte) mc_X8_nextByte cv_X8_155 ly_200 rfl rfl rfl (by decide) ⟨Nat.zero_le _, Nat.zero_le _⟩ dX8_brides_11 (n := 14) rfl rfl rfl (Nat.le_of_ble_eq_true rfl) (e11) (fun x2 N2 g2 => ?_)
    obtain ⟨e2, _⟩ := g2
    subst e2
    refine v_pop ok rfl dX8_brides_14 (n := 15) rfl ?_
    refine v_aload_0 ok dX8_brides_15 (n := 16) rfl ?_
    refine v_iconst ok dX8_brides_16 (n := 17) rfl ?_
    refine v_putI ok fw_X8_149 ly_200 rfl rfl (jI := 6) rfl dX8_brides_17 (n := 20) rfl ?_
    refine v_iload_1 ok dX8_brides_20 (n := 21) rfl ?_
    refine v_if_ne ok dX8_brides_21 (tgt := 32) (by decide) (n := 24) rfl (by omega) (fun c21_3 => ?_) (fun c21_3 => ?_)
    · have c21_3 := c21_3
      first
      | (exfalso; omega)
      | skip
        refine v_aload_0 ok dX8_brides_32 (n := 33) rfl ?_
        refine v_aload_0 ok dX8_brides_33 (n := 34) rfl ?_
        refine v_getI ok fd_X8_179 ly_200 rfl rfl (jI := 8) rfl dX8_brides_34 (n := 37) rfl ?_
        try simp (disch := omega) only [zset_s, zset_n, zset_o]
        refine v_putI ok fw_X8_81 ly_200 rfl rfl (jI := 2) rfl dX8_brides_37 (n := 40) rfl ?_
        refine v_iconst ok dX8_brides_40 (n := 41) rfl ?_
        refine v_istore_2 ok (by decide) rfl dX8_brides_41 (n := 42) rfl ?_
        have hg := g1.resolve_left (by omega)
        obtain ⟨hx, h1, h2, h3, hr⟩ := hg
        subst hx
        have lp : ∀ (zn : Nat) (i : Int) (Nx : zM), zn = (29 - i).toNat → (0 ≤ i ∧ i ≤ 4 * N1 200 8) → (∀ r, r ≠ 201 → Nx r = zset (zset N1 200 6 0) 200 2 (N1 200 8) r) → (∀ t, 0 ≤ t ∧ t < i → Nx 201 t = N1 210 t) → zVV G γ (zw ad) (0, 0) 42 [some (zr 200), some (zi 1), some (zi i)] [] Nx := by
          refine zrec _ (fun zn ih => ?_)
          intro i Nx hzn hi fx hc
          refine v_iload_2 ok dX8_brides_42 (n := 43) rfl ?_
          refine v_iconst ok dX8_brides_43 (n := 44) rfl ?_
          refine v_aload_0 ok dX8_brides_44 (n := 45) rfl ?_
          refine v_getI ok fd_X8_81 ly_200 rfl rfl (jI := 2) rfl dX8_brides_45 (n := 48) rfl ?_
          try simp (disch := omega) only [fx, zset_s, zset_n, zset_o]
          refine v_imul ok dX8_brides_48 (n := 49) rfl ?_
          refine v_icmp_ge ok dX8_brides_49 (tgt := 70) (by decide) (n := 52) rfl (by omega) (by omega) (fun c49_1 => ?_) (fun c49_1 => ?_)
          · have c49_1 := c49_1
            refine v_aload_0 ok dX8_brides_70 (n := 71) rfl ?_
            refine v_getI ok fd_X8_81 ly_200 rfl rfl (jI := 2) rfl dX8_brides_71 (n := 74) rfl ?_
            try simp (disch := omega) only [fx, zset_s, zset_n, zset_o]
            refine v_iret rt dX8_brides_74 ?_
            refine ⟨h1.symm, fun r a b c => by rw [fx r c, zset_o a, zset_o a]; exact F1.1 r a b, fun j a b c d => by rw [fx 200 (by omega), zset_n d, zset_n a]; exact F1.2 j b c, by rw [fx 200 (by omega), zset_n (by omega), zset_s], Or.inr ⟨by omega, by omega, by rw [fx 200 (by omega), zset_s], fun k hk j hj => ?_⟩⟩
            rw [hc (4 * k + j) (by omega)]
            exact hr k (by omega) j hj
          · have c49_1 := c49_1
            refine v_aload_0 ok dX8_brides_52 (n := 53) rfl ?_
            refine v_getR ok fd_X8_7 ly_200 rfl rfl rfl rf_200_0 dX8_brides_53 (n := 56) rfl ?_
            refine v_iload_2 ok dX8_brides_56 (n := 57) rfl ?_
            refine v_aload_0 ok dX8_brides_57 (n := 58) rfl ?_
            refine v_getR ok fd_X8_22 ly_200 rfl rfl rfl rf_200_9 dX8_brides_58 (n := 61) rfl ?_
            refine v_iload_2 ok dX8_brides_61 (n := 62) rfl ?_
            refine v_iald ok ly_210 rfl (by omega) (by decide) dX8_brides_62 (n := 63) rfl ?_
            try simp (disch := omega) only [fx, zset_s, zset_n, zset_o]
            refine v_iast ok ly_201 rfl (by omega) (by decide) dX8_brides_63 (n := 64) rfl ?_
            refine v_iinc_2 ok (by decide) rfl dX8_brides_64 (n := 67) rfl ?_
            refine v_goto ok dX8_brides_67 (n := 42) (by decide) ?_
            refine ih _ (by omega) (i + 1) _ rfl (by omega) (fun r hr => by rw [zset_o hr]; exact fx r hr) (fun t ht => ?_)
            by_cases e : t = i
            · rw [e, zset_s]
            · rw [zset_n e]
              exact hc t (by omega)
        exact lp _ 0 _ rfl (by omega) (fun _ _ => rfl) (fun t ht => by omega)
    · have c21_3 := c21_3
      first
      | (exfalso; omega)
      | skip
        refine v_bipush ok (by decide) dX8_brides_24 (n := 26) rfl ?_
        refine v_aload_0 ok dX8_brides_26 (n := 27) rfl ?_
        refine v_getI ok fd_X8_152 ly_200 rfl rfl (jI := 7) rfl dX8_brides_27 (n := 30) rfl ?_
        try simp (disch := omega) only [zset_s, zset_n, zset_o]
        refine v_isub ok dX8_brides_30 (n := 31) rfl ?_
        refine v_iret rt dX8_brides_31 ?_
        rcases g1 with ⟨_, g⟩ | ⟨g, _⟩
        · refine ⟨g.symm, fun r a b c => by rw [zset_o a, zset_o a]; exact F1.1 r a b, fun j a b c d => by rw [zset_n a, zset_n b]; exact F1.2 j b c, zset_s, Or.inl ⟨by omega, by rw [zset_n (by omega), zset_n (by omega)]; exact F1.2 _ (by omega) (by omega), fun i => by rw [zset_o (by omega), zset_o (by omega), fr]⟩⟩
        · exfalso
          omega

set_option maxHeartbeats 4000000 in
set_option maxRecDepth 100000 in
theorem u_heap {G : zG} {ad : Int → Nat} {M : zM} (hln : 0 ≤ M 200 6 ∧ M 200 6 ≤ 120) (hT : ∀ i, 0 ≤ i ∧ i < 120 → 0 ≤ M 206 i ∧ M 206 i ≤ 255)  : zTI G (zw ad) mi_X8_heap [zr 200] M (fun x M' => x = (zal (zrs (M 206) (M 200 6)) (M 206) (M 200 6) 16 0 0 (fun _ _ => 0)).1 ∧ (∀ r, r ≠ 200 → r ≠ 210 → r ≠ 202 → M' r = M r) ∧ (∀ j, j ≠ 6 → j ≠ 7 → j ≠ 8 → j ≠ 3 → M' 200 j = M 200 j) ∧ M' 200 6 = 0 ∧ ((x ≤ 0 ∧ M' 200 3 = M 200 3 ∧ ∀ i, M' 202 i = M 202 i) ∨ (0 < x ∧ x ≤ 16 ∧ M' 200 3 = x ∧ ∀ k, 0 ≤ k ∧ k < x → (∀ j, 0 ≤ j ∧ j < 3 → M' 202 (4 * k + j) = (zal (zrs (M 206) (M 200 6)) (M 206) (M 200 6) 16 0 0 (fun _ _ => 0)).2 k j) ∧ M' 202 (4 * k + 3) = 0))) := by
  refine zTI.of (own := RX8) (ls := [some (zr 200), none, none]) (by decide +kernel) rfl rfl (Nat.le_of_ble_eq_true rfl) (fun γ ok rt => ?_)
  refine v_aload_0 ok dX8_heap_0 (n := 1) rfl ?_
  refine v_iconst ok dX8_heap_1 (n := 2) rfl ?_
  refine v_callVI ok (mi := mi_X8_readAll) mc_X8_readAll cv_X8_182 ly_200 rfl rfl rfl (by decide) ⟨Nat.zero_le _, Nat.zero_le _⟩ dX8_heap_2 (n := 5) rfl rfl rfl (Nat.le_of_ble_eq_true rfl) (u_readAllS hln hT) (fun x1 N1 g1 => ?_)
  obtain ⟨F1, p1, g1⟩ := g1
  have f206 : N1 206 = M 206 := F1.1 206 (by omega) (by omega)
  have f6 : N1 200 6 = M 200 6 := F1.2 6 (by omega) (by omega)
  have fr : N1 202 = M 202 := F1.1 202 (by omega) (by omega)
  have hx1 : x1 = 0 ∨ x1 = 1 := by omega
  refine v_istore_1 ok (by decide) rfl dX8_heap_5 (n := 6) rfl ?_
  refine v_iload_1 ok dX8_heap_6 (n := 7) rfl ?_
  refine v_if_ne ok dX8_heap_7 (tgt := 15) (by decide) (n := 10) rfl (by omega) (fun c7_1 => ?_) (fun c7_1 => ?_)
  · have c7_1 := c7_1
    refine v_aload_0 ok dX8_heap_15 (n := 16) rfl ?_
    refine v_iconst ok dX8_heap_16 (n := 17) rfl ?_
    refine v_putI ok fw_X8_149 ly_200 rfl rfl (jI := 6) rfl dX8_heap_17 (n := 20) rfl ?_
    refine v_iload_1 ok dX8_heap_20 (n := 21) rfl ?_
    refine v_if_ne ok dX8_heap_21 (tgt := 32) (by decide) (n := 24) rfl (by omega) (fun c21_2 => ?_) (fun c21_2 => ?_)
    · have c21_2 := c21_2
      first
      | (exfalso; omega)
      | skip
        refine v_aload_0 ok dX8_heap_32 (n := 33) rfl ?_
        refine v_iconst ok dX8_heap_33 (n := 34) rfl ?_
        refine v_putI ok fw_X8_89 ly_200 rfl rfl (jI := 3) rfl dX8_heap_34 (n := 37) rfl ?_
        refine v_iconst ok dX8_heap_37 (n := 38) rfl ?_
        refine v_istore_2 ok (by decide) rfl dX8_heap_38 (n := 39) rfl ?_
        have hg := g1.resolve_left (by omega)
        obtain ⟨hx, h1, h2, h3, hr⟩ := hg
        subst hx
        have lp : ∀ (zn : Nat) (i : Int) (Nx : zM), zn = (17 - i).toNat → (0 ≤ i ∧ i ≤ N1 200 8) → (∀ r, r ≠ 200 → r ≠ 202 → Nx r = N1 r) → (∀ j, j ≠ 3 → Nx 200 j = zset N1 200 6 0 200 j) → (Nx 200 3 = i) → (∀ k, 0 ≤ k ∧ k < i → (∀ j, 0 ≤ j ∧ j < 3 → Nx 202 (4 * k + j) = N1 210 (4 * k + j)) ∧ Nx 202 (4 * k + 3) = 0) → zVV G γ (zw ad) (0, 0) 39 [some (zr 200), some (zi 1), some (zi i)] [] Nx := by
          refine zrec _ (fun zn ih => ?_)
          intro i Nx hzn hi fx f2 f3 hc
          refine v_iload_2 ok dX8_heap_39 (n := 40) rfl ?_
          refine v_aload_0 ok dX8_heap_40 (n := 41) rfl ?_
          refine v_getI ok fd_X8_179 ly_200 rfl rfl (jI := 8) rfl dX8_heap_41 (n := 44) rfl ?_
          try simp (disch := omega) only [fx, f2, f3, zset_n]
          refine v_icmp_ge ok dX8_heap_44 (tgt := 85) (by decide) (n := 47) rfl (by omega) (by omega) (fun c44_1 => ?_) (fun c44_1 => ?_)
          · have c44_1 := c44_1
            refine v_aload_0 ok dX8_heap_85 (n := 86) rfl ?_
            refine v_getI ok fd_X8_89 ly_200 rfl rfl (jI := 3) rfl dX8_heap_86 (n := 89) rfl ?_
            try simp (disch := omega) only [fx, f2, f3, zset_n]
            refine v_iret rt dX8_heap_89 ?_
            refine ⟨by omega, fun r a b c => by rw [fx r a c]; exact F1.1 r a b, fun j a b c d => by rw [f2 j d, zset_n a]; exact F1.2 j b c, by rw [f2 6 (by omega), zset_s], Or.inr ⟨by omega, by omega, f3, fun k hk => ⟨fun j hj => ?_, (hc k (by omega)).2⟩⟩⟩
            rw [(hc k (by omega)).1 j hj]
            exact hr k (by omega) j hj
          · have c44_1 := c44_1
            refine v_aload_0 ok dX8_heap_47 (n := 48) rfl ?_
            refine v_aload_0 ok dX8_heap_48 (n := 49) rfl ?_
            refine v_getR ok fd_X8_22 ly_200 rfl rfl rfl rf_200_9 dX8_heap_49 (n := 52) rfl ?_
            refine v_iconst ok dX8_heap_52 (n := 53) rfl ?_
            refine v_iload_2 ok dX8_heap_53 (n := 54) rfl ?_
            refine v_imul ok dX8_heap_54 (n := 55) rfl ?_
            refine v_iald ok ly_210 rfl (by omega) (by decide) dX8_heap_55 (n := 56) rfl ?_
            try simp (disch := omega) only [fx, f2, f3, zset_n]
            refine v_aload_0 ok dX8_heap_56 (n := 57) rfl ?_
            refine v_getR ok fd_X8_22 ly_200 rfl rfl rfl rf_200_9 dX8_heap_57 (n := 60) rfl ?_
            refine v_iconst ok dX8_heap_60 (n := 61) rfl ?_
            refine v_iload_2 ok dX8_heap_61 (n := 62) rfl ?_
            refine v_imul ok dX8_heap_62 (n := 63) rfl ?_
            refine v_iconst ok dX8_heap_63 (n := 64) rfl ?_
            refine v_iadd ok dX8_heap_64 (n := 65) rfl ?_
            refine v_iald ok ly_210 rfl (by omega) (by decide) dX8_heap_65 (n := 66) rfl ?_
            try simp (disch := omega) only [fx, f2, f3, zset_n]
            refine v_aload_0 ok dX8_heap_66 (n := 67) rfl ?_
            refine v_getR ok fd_X8_22 ly_200 rfl rfl rfl rf_200_9 dX8_heap_67 (n := 70) rfl ?_
            refine v_iconst ok dX8_heap_70 (n := 71) rfl ?_
            refine v_iload_2 ok dX8_heap_71 (n := 72) rfl ?_
            refine v_imul ok dX8_heap_72 (n := 73) rfl ?_
            refine v_iconst ok dX8_heap_73 (n := 74) rfl ?_
            refine v_iadd ok dX8_heap_74 (n := 75) rfl ?_
            refine v_iald ok ly_210 rfl (by omega) (by decide) dX8_heap_75 (n := 76) rfl ?_
            try simp (disch := omega) only [fx, f2, f3, zset_n]
            refine v_callVV ok (mi := mi_X8_addShoe) mc_X8_addShoe cv_X8_112 ly_200 rfl rfl rfl (by decide) ⟨Nat.zero_le _, Nat.zero_le _⟩ dX8_heap_76 (n := 79) rfl rfl rfl (Nat.le_of_ble_eq_true rfl) (u_addShoe (by rw [f3]; omega)) (fun N5 g5 => ?_)
            subst g5
            rw [f3]
            refine v_iinc_2 ok (by decide) rfl dX8_heap_79 (n := 82) rfl ?_
            refine v_goto ok dX8_heap_82 (n := 39) (by decide) ?_
            refine ih _ (by omega) (i + 1) _ rfl (by omega) (fun r a b => by rw [zset_o a, zset_o b, zset_o b, zset_o b, zset_o b]; exact fx r a b) (fun j hj => by rw [zset_n hj, zset_o (by omega), zset_o (by omega), zset_o (by omega), zset_o (by omega)]; exact f2 j hj) (by rw [zset_s]) (fun k hk => ?_)
            rw [zset_o (by omega)]
            by_cases e : k = i
            · subst e
              refine ⟨fun j hj => ?_, by rw [zset_s]⟩
              obtain rfl | rfl | rfl : j = 0 ∨ j = 1 ∨ j = 2 := by omega
              · simp (disch := omega) only [Int.add_zero, zset_s, zset_n, zset_o]
              · simp (disch := omega) only [zset_s, zset_n, zset_o]
              · simp (disch := omega) only [zset_s, zset_n, zset_o]
            · have := hc k (by omega)
              refine ⟨fun j hj => ?_, ?_⟩
              · rw [zset_n (by omega), zset_n (by omega), zset_n (by omega), zset_n (by omega)]
                exact this.1 j hj
              · rw [zset_n (by omega), zset_n (by omega), zset_n (by omega), zset_n (by omega)]
                exact this.2
        exact lp _ 0 _ rfl (by omega) (fun r a b => by rw [zset_o a, zset_o a]) (fun j hj => by rw [zset_n hj]) (by rw [zset_s]) (fun k hk => by omega)
    · have c21_2 := c21_2
      first
      | (exfalso; omega)
      | skip
        refine v_bipush ok (by decide) dX8_heap_24 (n := 26) rfl ?_
        refine v_aload_0 ok dX8_heap_26 (n := 27) rfl ?_
        refine v_getI ok fd_X8_152 ly_200 rfl rfl (jI := 7) rfl dX8_heap_27 (n := 30) rfl ?_
        try simp (disch := omega) only [zset_s, zset_n, zset_o]
        refine v_isub ok dX8_heap_30 (n := 31) rfl ?_
        refine v_iret rt dX8_heap_31 ?_
        rcases g1 with ⟨_, g⟩ | ⟨g, _⟩
        · refine ⟨g.symm, fun r a b c => by rw [zset_o a, zset_o a]; exact F1.1 r a b, fun j a b c d => by rw [zset_n a, zset_n b]; exact F1.2 j b c, zset_s, Or.inl ⟨by omega, by rw [zset_n (by omega), zset_n (by omega)]; exact F1.2 _ (by omega) (by omega), fun i => by rw [zset_o (by omega), zset_o (by omega), fr]⟩⟩
        · exfalso
          omega
  · have c7_1 := c7_1
    refine v_aload_0 ok dX8_heap_10 (n := 11) rfl ?_
    have e11 := u_nextByte (G := G) (ad := ad) (M := N1) (by rw [f6]; exact hln) (by rw [f6]; exact p1) (by rw [f206]; exact hT)
    rw [f206, f6] at e11
    have bs := zsk_bd (T := M 206) p1.2
    refine v_callVI ok (mi := mi_X8_nextByte) mc_X8_nextByte cv_X8_155 ly_200 rfl rfl rfl (by decide) ⟨Nat.zero_le _, Nat.zero_le _⟩ dX8_heap_11 (n := 14) rfl rfl rfl (Nat.le_of_ble_eq_true rfl) (e11) (fun x2 N2 g2 => ?_)
    obtain ⟨e2, _⟩ := g2
    subst e2
    refine v_pop ok rfl dX8_heap_14 (n := 15) rfl ?_
    refine v_aload_0 ok dX8_heap_15 (n := 16) rfl ?_
    refine v_iconst ok dX8_heap_16 (n := 17) rfl ?_
    refine v_putI ok fw_X8_149 ly_200 rfl rfl (jI := 6) rfl dX8_heap_17 (n := 20) rfl ?_
    refine v_iload_1 ok dX8_heap_20 (n := 21) rfl ?_
    refine v_if_ne ok dX8_heap_21 (tgt := 32) (by decide) (n := 24) rfl (by omega) (fun c21_3 => ?_) (fun c21_3 => ?_)
    · have c21_3 := c21_3
      first
      | (exfalso; omega)
      | skip
        refine v_aload_0 ok dX8_heap_32 (n := 33) rfl ?_
        refine v_iconst ok dX8_heap_33 (n := 34) rfl ?_
        refine v_putI ok fw_X8_89 ly_200 rfl rfl (jI := 3) rfl dX8_heap_34 (n := 37) rfl ?_
        refine v_iconst ok dX8_heap_37 (n := 38) rfl ?_
        refine v_istore_2 ok (by decide) rfl dX8_heap_38 (n := 39) rfl ?_
        have hg := g1.resolve_left (by omega)
        obtain ⟨hx, h1, h2, h3, hr⟩ := hg
        subst hx
        have lp : ∀ (zn : Nat) (i : Int) (Nx : zM), zn = (17 - i).toNat → (0 ≤ i ∧ i ≤ N1 200 8) → (∀ r, r ≠ 200 → r ≠ 202 → Nx r = N1 r) → (∀ j, j ≠ 3 → Nx 200 j = zset N1 200 6 0 200 j) → (Nx 200 3 = i) → (∀ k, 0 ≤ k ∧ k < i → (∀ j, 0 ≤ j ∧ j < 3 → Nx 202 (4 * k + j) = N1 210 (4 * k + j)) ∧ Nx 202 (4 * k + 3) = 0) → zVV G γ (zw ad) (0, 0) 39 [some (zr 200), some (zi 1), some (zi i)] [] Nx := by
          refine zrec _ (fun zn ih => ?_)
          intro i Nx hzn hi fx f2 f3 hc
          refine v_iload_2 ok dX8_heap_39 (n := 40) rfl ?_
          refine v_aload_0 ok dX8_heap_40 (n := 41) rfl ?_
          refine v_getI ok fd_X8_179 ly_200 rfl rfl (jI := 8) rfl dX8_heap_41 (n := 44) rfl ?_
          try simp (disch := omega) only [fx, f2, f3, zset_n]
          refine v_icmp_ge ok dX8_heap_44 (tgt := 85) (by decide) (n := 47) rfl (by omega) (by omega) (fun c44_1 => ?_) (fun c44_1 => ?_)
          · have c44_1 := c44_1
            refine v_aload_0 ok dX8_heap_85 (n := 86) rfl ?_
            refine v_getI ok fd_X8_89 ly_200 rfl rfl (jI := 3) rfl dX8_heap_86 (n := 89) rfl ?_
            try simp (disch := omega) only [fx, f2, f3, zset_n]
            refine v_iret rt dX8_heap_89 ?_
            refine ⟨by omega, fun r a b c => by rw [fx r a c]; exact F1.1 r a b, fun j a b c d => by rw [f2 j d, zset_n a]; exact F1.2 j b c, by rw [f2 6 (by omega), zset_s], Or.inr ⟨by omega, by omega, f3, fun k hk => ⟨fun j hj => ?_, (hc k (by omega)).2⟩⟩⟩
            rw [(hc k (by omega)).1 j hj]
            exact hr k (by omega) j hj
          · have c44_1 := c44_1
            refine v_aload_0 ok dX8_heap_47 (n := 48) rfl ?_
            refine v_aload_0 ok dX8_heap_48 (n := 49) rfl ?_
            refine v_getR ok fd_X8_22 ly_200 rfl rfl rfl rf_200_9 dX8_heap_49 (n := 52) rfl ?_
            refine v_iconst ok dX8_heap_52 (n := 53) rfl ?_
            refine v_iload_2 ok dX8_heap_53 (n := 54) rfl ?_
            refine v_imul ok dX8_heap_54 (n := 55) rfl ?_
            refine v_iald ok ly_210 rfl (by omega) (by decide) dX8_heap_55 (n := 56) rfl ?_
            try simp (disch := omega) only [fx, f2, f3, zset_n]
            refine v_aload_0 ok dX8_heap_56 (n := 57) rfl ?_
            refine v_getR ok fd_X8_22 ly_200 rfl rfl rfl rf_200_9 dX8_heap_57 (n := 60) rfl ?_
            refine v_iconst ok dX8_heap_60 (n := 61) rfl ?_
            refine v_iload_2 ok dX8_heap_61 (n := 62) rfl ?_
            refine v_imul ok dX8_heap_62 (n := 63) rfl ?_
            refine v_iconst ok dX8_heap_63 (n := 64) rfl ?_
            refine v_iadd ok dX8_heap_64 (n := 65) rfl ?_
            refine v_iald ok ly_210 rfl (by omega) (by decide) dX8_heap_65 (n := 66) rfl ?_
            try simp (disch := omega) only [fx, f2, f3, zset_n]
            refine v_aload_0 ok dX8_heap_66 (n := 67) rfl ?_
            refine v_getR ok fd_X8_22 ly_200 rfl rfl rfl rf_200_9 dX8_heap_67 (n := 70) rfl ?_
            refine v_iconst ok dX8_heap_70 (n := 71) rfl ?_
            refine v_iload_2 ok dX8_heap_71 (n := 72) rfl ?_
            refine v_imul ok dX8_heap_72 (n := 73) rfl ?_
            refine v_iconst ok dX8_heap_73 (n := 74) rfl ?_
            refine v_iadd ok dX8_heap_74 (n := 75) rfl ?_
            refine v_iald ok ly_210 rfl (by omega) (by decide) dX8_heap_75 (n := 76) rfl ?_
            try simp (disch := omega) only [fx, f2, f3, zset_n]
            refine v_callVV ok (mi := mi_X8_addShoe) mc_X8_addShoe cv_X8_112 ly_200 rfl rfl rfl (by decide) ⟨Nat.zero_le _, Nat.zero_le _⟩ dX8_heap_76 (n := 79) rfl rfl rfl (Nat.le_of_ble_eq_true rfl) (u_addShoe (by rw [f3]; omega)) (fun N5 g5 => ?_)
            subst g5
            rw [f3]
            refine v_iinc_2 ok (by decide) rfl dX8_heap_79 (n := 82) rfl ?_
            refine v_goto ok dX8_heap_82 (n := 39) (by decide) ?_
            refine ih _ (by omega) (i + 1) _ rfl (by omega) (fun r a b => by rw [zset_o a, zset_o b, zset_o b, zset_o b, zset_o b]; exact fx r a b) (fun j hj => by rw [zset_n hj, zset_o (by omega), zset_o (by omega), zset_o (by omega), zset_o (by omega)]; exact f2 j hj) (by rw [zset_s]) (fun k hk => ?_)
            rw [zset_o (by omega)]
            by_cases e : k = i
            · subst e
              refine ⟨fun j hj => ?_, by rw [zset_s]⟩
              obtain rfl | rfl | rfl : j = 0 ∨ j = 1 ∨ j = 2 := by omega
              · simp (disch := omega) only [Int.add_zero, zset_s, zset_n, zset_o]
              · simp (disch := omega) only [zset_s, zset_n, zset_o]
              · simp (disch := omega) only [zset_s, zset_n, zset_o]
            · have := hc k (by omega)
              refine ⟨fun j hj => ?_, ?_⟩
              · rw [zset_n (by omega), zset_n (by omega), zset_n (by omega), zset_n (by omega)]
                exact this.1 j hj
              · rw [zset_n (by omega), zset_n (by omega), zset_n (by omega), zset_n (by omega)]
                exact this.2
        exact lp _ 0 _ rfl (by omega) (fun r a b => by rw [zset_o a, zset_o a]) (fun j hj => by rw [zset_n hj]) (by rw [zset_s]) (fun k hk => by omega)
    · have c21_3 := c21_3
      first
      | (exfalso; omega)
      | skip
        refine v_bipush ok (by decide) dX8_heap_24 (n := 26) rfl ?_
        refine v_aload_0 ok dX8_heap_26 (n := 27) rfl ?_
        refine v_getI ok fd_X8_152 ly_200 rfl rfl (jI := 7) rfl dX8_heap_27 (n := 30) rfl ?_
        try simp (disch := omega) only [zset_s, zset_n, zset_o]
        refine v_isub ok dX8_heap_30 (n := 31) rfl ?_
        refine v_iret rt dX8_heap_31 ?_
        rcases g1 with ⟨_, g⟩ | ⟨g, _⟩
        · refine ⟨g.symm, fun r a b c => by rw [zset_o a, zset_o a]; exact F1.1 r a b, fun j a b c d => by rw [zset_n a, zset_n b]; exact F1.2 j b c, zset_s, Or.inl ⟨by omega, by rw [zset_n (by omega), zset_n (by omega)]; exact F1.2 _ (by omega) (by omega), fun i => by rw [zset_o (by omega), zset_o (by omega), fr]⟩⟩
        · exfalso
          omega

