/-! the class: texts of brides, heaps -/
/-- the tape's place and spare rows apart, N is M -/
def zTf (M N : zM) : Prop := (∀ q, (q < 58 ∨ 73 < q) → q ≠ 55 → N q = M q) ∧ (∀ j, j ≠ 3 → N 55 j = M 55 j)
theorem zal_s {f : Int → zTR} {T : Int → Int} {len : Int} {n : Nat} {k p : Int} {R : Int → Int → Int} : zal f T len (n + 1) k p R = (if (f p).1 = 0 then (-20 - (f p).2.1, R) else
    if len ≤ zsk T len (f p).2.1 then (k + 1, fun i j => if i = k then (f p).2.2 j else R i j) else
    if n = 0 ∨ T (zsk T len (f p).2.1) ≠ 44 then (-20 - zsk T len (f p).2.1, fun i j => if i = k then (f p).2.2 j else R i j) else
    zal f T len n (k + 1) (zsk T len (f p).2.1 + 1) (fun i j => if i = k then (f p).2.2 j else R i j)) := rfl
theorem zTf_put {M N N1 : zM} {r p : Int} (hr : 58 ≤ r ∧ r ≤ 73) (h : zTf M N) (h1 : zTm N r N1 p) : zTf M N1 := ⟨fun q a b => by rw [h1.1 q (by omega) b, h.1 q a b], fun j hj => by rw [h1.2.1 j hj, h.2 j hj]⟩
theorem zTf_set {M N : zM} (h : zTf M N) (p : Int) : zTf M (zset N 55 3 p) := ⟨fun q a b => by rw [zset_o b, h.1 q a b], fun j hj => by rw [zset_ne (Or.inr hj), h.2 j hj]⟩
set_option maxHeartbeats 4000000 in
set_option maxRecDepth 100000 in
theorem t_readB {G : zG} {ad : Int → Nat} {M : zM} (hln : 0 ≤ M 55 2 ∧ M 55 2 ≤ 120) (hT : ∀ i, 0 ≤ i ∧ i < M 55 2 → 32 ≤ M 56 i ∧ M 56 i ≤ 126)  : zTI G (zw ad) mi_X4_read [zr 55, zi 0, zi 7] M (fun x M' => x = (zal (zrb (M 56) (M 55 2)) (M 56) (M 55 2) 7 0 0 (fun _ _ => 0)).1 ∧ zTf M M' ∧ (0 < x → ∀ k, 0 ≤ k ∧ k < x → ∀ j, 0 ≤ j ∧ j < 4 → M' (58 + k) j = (zal (zrb (M 56) (M 55 2)) (M 56) (M 55 2) 7 0 0 (fun _ _ => 0)).2 k j)) := by
  refine zTI.of (own := RX4) (ls := [some (zr 55), some (zi 0), some (zi 7), none, none]) (by decide +kernel) rfl rfl (Nat.le_of_ble_eq_true rfl) (fun γ ok rt => ?_)
  obtain ⟨Z, hZ⟩ : ∃ Z, zal (zrb (M 56) (M 55 2)) (M 56) (M 55 2) 7 0 0 (fun _ _ => 0) = Z := ⟨_, rfl⟩
  rw [hZ] at rt
  have lp : ∀ (zn : Nat) (i p : Int) (N : zM) (Rw : Int → Int → Int) (l4 : Option zV), zn = (6 - i).toNat → (0 ≤ i ∧ i ≤ 6) → (zTf M N) → (N 55 3 = p ∧ 0 ≤ p ∧ p ≤ M 55 2) → (∀ k, 0 ≤ k ∧ k < i → ∀ j, 0 ≤ j ∧ j < 4 → N (58 + k) j = Rw k j) → (zal (zrb (M 56) (M 55 2)) (M 56) (M 55 2) (7 - i).toNat i p Rw = Z) → zVV G γ (zw ad) (0, 0) 7 [some (zr 55), some (zi 0), some (zi 7), some (zi i), l4] [] N := by
    refine zrec _ (fun zn ih => ?_)
    intro i p N Rw l4 hzn hi hN hp hw he
    obtain ⟨f3, hp⟩ := hp
    have f56 : N 56 = M 56 := hN.1 56 (by omega) (by omega)
    have f2 : N 55 2 = M 55 2 := hN.2 2 (by omega)
    rw [show (7 - i).toNat = (6 - i).toNat + 1 by omega, zal_s] at he
    obtain ⟨z1, hz1⟩ : ∃ z, zrb (M 56) (M 55 2) p = z := ⟨_, rfl⟩
    have bz := zrb_b (T := M 56) hp.2
    rw [hz1] at he bz
    obtain ⟨q2, hq2⟩ : ∃ q, zsk (M 56) (M 55 2) z1.2.1 = q := ⟨_, rfl⟩
    have bq := zsk_bd (T := M 56) bz.2.1
    have bqq := zsk_sk (T := M 56) bz.2.1
    rw [hq2] at he bq bqq
    refine v_iload_3 ok dX4_read_7 (n := 8) rfl ?_
    refine v_iload_2 ok dX4_read_8 (n := 9) rfl ?_
    refine v_icmp_ge ok dX4_read_9 (tgt := 87) (by decide) (n := 12) rfl (by omega) (by omega) (fun c9_1 => ?_) (fun c9_1 => ?_)
    · have c9_1 := c9_1
      omega
    · have c9_1 := c9_1
      refine v_iload_1 ok dX4_read_12 (n := 13) rfl ?_
      refine v_if_eq ok dX4_read_13 (tgt := 29) (by decide) (n := 16) rfl (by omega) (fun c13_2 => ?_) (fun c13_2 => ?_)
      · have c13_2 := c13_2
        refine v_aload_0 ok dX4_read_29 (n := 30) rfl ?_
        refine v_aload_0 ok dX4_read_30 (n := 31) rfl ?_
        refine v_getR ok fd_X4_17 ly_55 rfl rfl rfl rf_55_1 dX4_read_31 (n := 34) rfl ?_
        refine v_iload_3 ok dX4_read_34 (n := 35) rfl ?_
        refine v_aald ok ly_57 (by decide) rfl (by omega) (by decide) rfl dX4_read_35 (n := 36) rfl ?_
        refine v_callVI ok (mi := mi_X4_readBride) mc_X4_readBride cv_X4_39 ly_55 rfl rfl rfl (by decide) ⟨Nat.zero_le _, Nat.zero_le _⟩ dX4_read_36 (n := 39) rfl rfl rfl (Nat.le_of_ble_eq_true rfl) ((by have e := t_readBride (G := G) (ad := ad) (M := N) (M1 := N) (r := 58 + i) (p := p) (lf_tro (by omega)) (by omega) (by rw [f2]; exact hln) (by rw [f2, f56]; exact hT) (by rw [f2]; exact hp) ⟨fun _ _ _ => rfl, fun _ _ => rfl, f3⟩; rw [f56, f2, hz1] at e; exact e)) (fun x1 N1 g1 => ?_)
        obtain ⟨w1, t1, r1⟩ := g1
        have F1 := zTf_put (by omega) hN t1
        have h56 : N1 56 = M 56 := F1.1 56 (by omega) (by omega)
        have h2 : N1 55 2 = M 55 2 := F1.2 2 (by omega)
        have h3 : N1 55 3 = z1.2.1 := t1.2.2
        refine v_istore_4 ok (by decide) rfl dX4_read_39 (n := 41) rfl ?_
        refine v_iload_4 ok dX4_read_41 (n := 43) rfl ?_
        refine v_if_eq ok dX4_read_43 (tgt := 57) (by decide) (n := 46) rfl (by omega) (fun c43_3 => ?_) (fun c43_3 => ?_)
        · have c43_3 := c43_3
          refine v_iload_4 ok dX4_read_57 (n := 59) rfl ?_
          refine v_if_eq ok dX4_read_59 (tgt := 87) (by decide) (n := 62) rfl (by omega) (fun c59_4 => ?_) (fun c59_4 => ?_)
          · have c59_4 := c59_4
            first
            | (exfalso; omega)
            | skip
              refine v_bipush ok (by decide) dX4_read_87 (n := 89) rfl ?_
              refine v_aload_0 ok dX4_read_89 (n := 90) rfl ?_
              refine v_getI ok fd_X4_24 ly_55 rfl rfl (jI := 3) rfl dX4_read_90 (n := 93) rfl ?_
              refine v_isub ok dX4_read_93 (n := 94) rfl ?_
              refine v_iret rt dX4_read_94 ?_
              first
              | (rw [if_pos (by omega)] at he
                 rw [h3, ← he]
                 exact ⟨rfl, F1, fun q => by omega⟩)
              | (rw [if_neg (by omega)] at he
                 rw [if_pos (Or.inl (by omega))] at he
                 rw [← he, zset_s]
                 exact ⟨rfl, zTf_set F1 _, fun q => by omega⟩)
              | (rw [if_neg (by omega)] at he
                 have hc : ¬ (q2 < M 55 2 ∧ M 56 q2 = 44) := by
                   intro hc
                   rw [if_pos hc] at w3
                   have : x3 = 1 := w3
                   omega
                 rw [if_neg hc]
                 rw [if_pos (Or.inr (fun z => hc ⟨by omega, z⟩))] at he
                 rw [← he, zset_s]
                 exact ⟨rfl, zTf_set F1 _, fun q => by omega⟩)
          · have c59_4 := c59_4
            first
            | (exfalso; omega)
            | skip
              refine v_iload_3 ok dX4_read_62 (n := 63) rfl ?_
              refine v_iload_2 ok dX4_read_63 (n := 64) rfl ?_
              refine v_iconst ok dX4_read_64 (n := 65) rfl ?_
              refine v_isub ok dX4_read_65 (n := 66) rfl ?_
              refine v_icmp_eq ok dX4_read_66 (tgt := 87) (by decide) (n := 69) rfl (by omega) (by omega) (fun c66_5 => ?_) (fun c66_5 => ?_)
              · have c66_5 := c66_5
                refine v_bipush ok (by decide) dX4_read_87 (n := 89) rfl ?_
                refine v_aload_0 ok dX4_read_89 (n := 90) rfl ?_
                refine v_getI ok fd_X4_24 ly_55 rfl rfl (jI := 3) rfl dX4_read_90 (n := 93) rfl ?_
                refine v_isub ok dX4_read_93 (n := 94) rfl ?_
                refine v_iret rt dX4_read_94 ?_
                first
                | (rw [if_pos (by omega)] at he
                   rw [h3, ← he]
                   exact ⟨rfl, F1, fun q => by omega⟩)
                | (rw [if_neg (by omega)] at he
                   rw [if_pos (Or.inl (by omega))] at he
                   rw [← he, zset_s]
                   exact ⟨rfl, zTf_set F1 _, fun q => by omega⟩)
                | (rw [if_neg (by omega)] at he
                   have hc : ¬ (q2 < M 55 2 ∧ M 56 q2 = 44) := by
                     intro hc
                     rw [if_pos hc] at w3
                     have : x3 = 1 := w3
                     omega
                   rw [if_neg hc]
                   rw [if_pos (Or.inr (fun z => hc ⟨by omega, z⟩))] at he
                   rw [← he, zset_s]
                   exact ⟨rfl, zTf_set F1 _, fun q => by omega⟩)
              · have c66_5 := c66_5
                refine v_aload_0 ok dX4_read_69 (n := 70) rfl ?_
                refine v_bipush ok (by decide) dX4_read_70 (n := 72) rfl ?_
                refine v_callVI ok (mi := mi_X4_isPassed) mc_X4_isPassed cv_X4_46 ly_55 rfl rfl rfl (by decide) ⟨Nat.zero_le _, Nat.zero_le _⟩ dX4_read_72 (n := 75) rfl rfl rfl (Nat.le_of_ble_eq_true rfl) ((by have e := t_isPassed (G := G) (ad := ad) (M := zset N1 55 3 q2) (c := 44) (by omega) (by rw [zset_ne (by omega), h2]; exact hln) (by rw [zset_s, zset_ne (by omega), h2]; omega) (by rw [zset_ne (by omega), h2, zset_o (by omega), h56]; exact hT); rw [zset_o (by omega), h56, zset_ne (by omega), h2, zset_s] at e; exact e)) (fun x3 N3 g3 => ?_)
                obtain ⟨w3, e3⟩ := g3
                have hz3 : zps (M 56) (M 55 2) q2 44 = if q2 < M 55 2 ∧ M 56 q2 = 44 then (1, q2 + 1) else (0, q2) := by
                  unfold zps
                  rw [bqq]
                rw [hz3, zset_zset] at e3
                rw [hz3] at w3
                subst e3
                have hx3 : x3 = 0 ∨ x3 = 1 := by
                  rw [w3]
                  split
                  · exact Or.inr rfl
                  · exact Or.inl rfl
                refine v_if_ne ok dX4_read_75 (tgt := 81) (by decide) (n := 78) rfl (by omega) (fun c75_6 => ?_) (fun c75_6 => ?_)
                · have c75_6 := c75_6
                  refine v_iinc_3 ok (by decide) rfl dX4_read_81 (n := 84) rfl ?_
                  refine v_goto ok dX4_read_84 (n := 7) (by decide) ?_
                  rw [if_neg (by omega)] at he
                  have hc : q2 < M 55 2 ∧ M 56 q2 = 44 := by
                    by_cases hc : q2 < M 55 2 ∧ M 56 q2 = 44
                    · exact hc
                    · rw [if_neg hc] at w3
                      have : x3 = 0 := w3
                      omega
                  rw [if_pos hc]
                  rw [if_neg (by omega)] at he
                  exact ih _ (by omega) _ (q2 + 1) _ (fun a j => if a = i then z1.2.2 j else Rw a j) _ rfl (by omega) (zTf_set F1 _) ⟨zset_s, by omega, by omega⟩ (fun k hk j hj => by rw [zset_o (by omega)]; exact hrow k hk j hj) (by rw [show (7 - (i + 1)).toNat = (6 - i).toNat by omega]; exact he)
                · have c75_6 := c75_6
                  refine v_goto ok dX4_read_78 (n := 87) (by decide) ?_
                  refine v_bipush ok (by decide) dX4_read_87 (n := 89) rfl ?_
                  refine v_aload_0 ok dX4_read_89 (n := 90) rfl ?_
                  refine v_getI ok fd_X4_24 ly_55 rfl rfl (jI := 3) rfl dX4_read_90 (n := 93) rfl ?_
                  refine v_isub ok dX4_read_93 (n := 94) rfl ?_
                  refine v_iret rt dX4_read_94 ?_
                  first
                  | (rw [if_pos (by omega)] at he
                     rw [h3, ← he]
                     exact ⟨rfl, F1, fun q => by omega⟩)
                  | (rw [if_neg (by omega)] at he
                     rw [if_pos (Or.inl (by omega))] at he
                     rw [← he, zset_s]
                     exact ⟨rfl, zTf_set F1 _, fun q => by omega⟩)
                  | (rw [if_neg (by omega)] at he
                     have hc : ¬ (q2 < M 55 2 ∧ M 56 q2 = 44) := by
                       intro hc
                       rw [if_pos hc] at w3
                       have : x3 = 1 := w3
                       omega
                     rw [if_neg hc]
                     rw [if_pos (Or.inr (fun z => hc ⟨by omega, z⟩))] at he
                     rw [← he, zset_s]
                     exact ⟨rfl, zTf_set F1 _, fun q => by omega⟩)
        · have c43_3 := c43_3
          refine v_aload_0 ok dX4_read_46 (n := 47) rfl ?_
          refine v_callVI ok (mi := mi_X4_next) mc_X4_next cv_X4_42 ly_55 rfl rfl rfl (by decide) ⟨Nat.zero_le _, Nat.zero_le _⟩ dX4_read_47 (n := 50) rfl rfl rfl (Nat.le_of_ble_eq_true rfl) ((by have e := t_next (G := G) (ad := ad) (M := N1) (by rw [h2]; exact hln) (by rw [h2, h3]; omega) (by rw [h2, h56]; exact hT); rw [h56, h2, h3, hq2] at e; exact e)) (fun x2 N2 g2 => ?_)
          obtain ⟨e2, w2⟩ := g2
          subst e2
          have hx2 : (q2 < M 55 2 ∧ 32 ≤ x2 ∧ x2 ≤ 126) ∨ (¬ q2 < M 55 2 ∧ x2 = 0) := by
            rw [w2]
            split
            · next h => exact Or.inl ⟨h, hT _ (by omega)⟩
            · next h => exact Or.inr ⟨h, rfl⟩
          rw [if_neg (by omega)] at he
          have hrow : ∀ k, 0 ≤ k ∧ k < i + 1 → ∀ j, 0 ≤ j ∧ j < 4 → N1 (58 + k) j = (fun a j => if a = i then z1.2.2 j else Rw a j) k j := by
            intro k hk j hj
            show _ = if k = i then z1.2.2 j else Rw k j
            by_cases hki : k = i
            · rw [if_pos hki, hki]
              exact r1 (by omega) j hj
            · rw [if_neg hki, t1.1 _ (by omega) (by omega)]
              exact hw k (by omega) j hj
          refine v_if_ne ok dX4_read_50 (tgt := 57) (by decide) (n := 53) rfl (by omega) (fun c50_7 => ?_) (fun c50_7 => ?_)
          · have c50_7 := c50_7
            refine v_iload_4 ok dX4_read_57 (n := 59) rfl ?_
            refine v_if_eq ok dX4_read_59 (tgt := 87) (by decide) (n := 62) rfl (by omega) (fun c59_8 => ?_) (fun c59_8 => ?_)
            · have c59_8 := c59_8
              first
              | (exfalso; omega)
              | skip
                refine v_bipush ok (by decide) dX4_read_87 (n := 89) rfl ?_
                refine v_aload_0 ok dX4_read_89 (n := 90) rfl ?_
                refine v_getI ok fd_X4_24 ly_55 rfl rfl (jI := 3) rfl dX4_read_90 (n := 93) rfl ?_
                refine v_isub ok dX4_read_93 (n := 94) rfl ?_
                refine v_iret rt dX4_read_94 ?_
                first
                | (rw [if_pos (by omega)] at he
                   rw [h3, ← he]
                   exact ⟨rfl, F1, fun q => by omega⟩)
                | (rw [if_neg (by omega)] at he
                   rw [if_pos (Or.inl (by omega))] at he
                   rw [← he, zset_s]
                   exact ⟨rfl, zTf_set F1 _, fun q => by omega⟩)
                | (rw [if_neg (by omega)] at he
                   have hc : ¬ (q2 < M 55 2 ∧ M 56 q2 = 44) := by
                     intro hc
                     rw [if_pos hc] at w3
                     have : x3 = 1 := w3
                     omega
                   rw [if_neg hc]
                   rw [if_pos (Or.inr (fun z => hc ⟨by omega, z⟩))] at he
                   rw [← he, zset_s]
                   exact ⟨rfl, zTf_set F1 _, fun q => by omega⟩)
            · have c59_8 := c59_8
              first
              | (exfalso; omega)
              | skip
                refine v_iload_3 ok dX4_read_62 (n := 63) rfl ?_
                refine v_iload_2 ok dX4_read_63 (n := 64) rfl ?_
                refine v_iconst ok dX4_read_64 (n := 65) rfl ?_
                refine v_isub ok dX4_read_65 (n := 66) rfl ?_
                refine v_icmp_eq ok dX4_read_66 (tgt := 87) (by decide) (n := 69) rfl (by omega) (by omega) (fun c66_9 => ?_) (fun c66_9 => ?_)
                · have c66_9 := c66_9
                  refine v_bipush ok (by decide) dX4_read_87 (n := 89) rfl ?_
                  refine v_aload_0 ok dX4_read_89 (n := 90) rfl ?_
                  refine v_getI ok fd_X4_24 ly_55 rfl rfl (jI := 3) rfl dX4_read_90 (n := 93) rfl ?_
                  refine v_isub ok dX4_read_93 (n := 94) rfl ?_
                  refine v_iret rt dX4_read_94 ?_
                  first
                  | (rw [if_pos (by omega)] at he
                     rw [h3, ← he]
                     exact ⟨rfl, F1, fun q => by omega⟩)
                  | (rw [if_neg (by omega)] at he
                     rw [if_pos (Or.inl (by omega))] at he
                     rw [← he, zset_s]
                     exact ⟨rfl, zTf_set F1 _, fun q => by omega⟩)
                  | (rw [if_neg (by omega)] at he
                     have hc : ¬ (q2 < M 55 2 ∧ M 56 q2 = 44) := by
                       intro hc
                       rw [if_pos hc] at w3
                       have : x3 = 1 := w3
                       omega
                     rw [if_neg hc]
                     rw [if_pos (Or.inr (fun z => hc ⟨by omega, z⟩))] at he
                     rw [← he, zset_s]
                     exact ⟨rfl, zTf_set F1 _, fun q => by omega⟩)
                · have c66_9 := c66_9
                  refine v_aload_0 ok dX4_read_69 (n := 70) rfl ?_
                  refine v_bipush ok (by decide) dX4_read_70 (n := 72) rfl ?_
                  refine v_callVI ok (mi := mi_X4_isPassed) mc_X4_isPassed cv_X4_46 ly_55 rfl rfl rfl (by decide) ⟨Nat.zero_le _, Nat.zero_le _⟩ dX4_read_72 (n := 75) rfl rfl rfl (Nat.le_of_ble_eq_true rfl) ((by have e := t_isPassed (G := G) (ad := ad) (M := zset N1 55 3 q2) (c := 44) (by omega) (by rw [zset_ne (by omega), h2]; exact hln) (by rw [zset_s, zset_ne (by omega), h2]; omega) (by rw [zset_ne (by omega), h2, zset_o (by omega), h56]; exact hT); rw [zset_o (by omega), h56, zset_ne (by omega), h2, zset_s] at e; exact e)) (fun x3 N3 g3 => ?_)
                  obtain ⟨w3, e3⟩ := g3
                  have hz3 : zps (M 56) (M 55 2) q2 44 = if q2 < M 55 2 ∧ M 56 q2 = 44 then (1, q2 + 1) else (0, q2) := by
                    unfold zps
                    rw [bqq]
                  rw [hz3, zset_zset] at e3
                  rw [hz3] at w3
                  subst e3
                  have hx3 : x3 = 0 ∨ x3 = 1 := by
                    rw [w3]
                    split
                    · exact Or.inr rfl
                    · exact Or.inl rfl
                  refine v_if_ne ok dX4_read_75 (tgt := 81) (by decide) (n := 78) rfl (by omega) (fun c75_10 => ?_) (fun c75_10 => ?_)
                  · have c75_10 := c75_10
                    refine v_iinc_3 ok (by decide) rfl dX4_read_81 (n := 84) rfl ?_
                    refine v_goto ok dX4_read_84 (n := 7) (by decide) ?_
                    rw [if_neg (by omega)] at he
                    have hc : q2 < M 55 2 ∧ M 56 q2 = 44 := by
                      by_cases hc : q2 < M 55 2 ∧ M 56 q2 = 44
                      · exact hc
                      · rw [if_neg hc] at w3
                        have : x3 = 0 := w3
                        omega
                    rw [if_pos hc]
                    rw [if_neg (by omega)] at he
                    exact ih _ (by omega) _ (q2 + 1) _ (fun a j => if a = i then z1.2.2 j else Rw a j) _ rfl (by omega) (zTf_set F1 _) ⟨zset_s, by omega, by omega⟩ (fun k hk j hj => by rw [zset_o (by omega)]; exact hrow k hk j hj) (by rw [show (7 - (i + 1)).toNat = (6 - i).toNat by omega]; exact he)
                  · have c75_10 := c75_10
                    refine v_goto ok dX4_read_78 (n := 87) (by decide) ?_
                    refine v_bipush ok (by decide) dX4_read_87 (n := 89) rfl ?_
                    refine v_aload_0 ok dX4_read_89 (n := 90) rfl ?_
                    refine v_getI ok fd_X4_24 ly_55 rfl rfl (jI := 3) rfl dX4_read_90 (n := 93) rfl ?_
                    refine v_isub ok dX4_read_93 (n := 94) rfl ?_
                    refine v_iret rt dX4_read_94 ?_
                    first
                    | (rw [if_pos (by omega)] at he
                       rw [h3, ← he]
                       exact ⟨rfl, F1, fun q => by omega⟩)
                    | (rw [if_neg (by omega)] at he
                       rw [if_pos (Or.inl (by omega))] at he
                       rw [← he, zset_s]
                       exact ⟨rfl, zTf_set F1 _, fun q => by omega⟩)
                    | (rw [if_neg (by omega)] at he
                       have hc : ¬ (q2 < M 55 2 ∧ M 56 q2 = 44) := by
                         intro hc
                         rw [if_pos hc] at w3
                         have : x3 = 1 := w3
                         omega
                       rw [if_neg hc]
                       rw [if_pos (Or.inr (fun z => hc ⟨by omega, z⟩))] at he
                       rw [← he, zset_s]
                       exact ⟨rfl, zTf_set F1 _, fun q => by omega⟩)
          · have c50_7 := c50_7
            refine v_iload_3 ok dX4_read_53 (n := 54) rfl ?_
            refine v_iconst ok dX4_read_54 (n := 55) rfl ?_
            refine v_iadd ok dX4_read_55 (n := 56) rfl ?_
            refine v_iret rt dX4_read_56 ?_
            rw [if_pos (by omega)] at he
            rw [← he]
            refine ⟨rfl, zTf_set F1 _, fun _ k hk j hj => ?_⟩
            rw [zset_o (by omega)]
            exact hrow k hk j hj
      · have c13_2 := c13_2
        omega
  refine v_aload_0 ok dX4_read_0 (n := 1) rfl ?_
  refine v_iconst ok dX4_read_1 (n := 2) rfl ?_
  refine v_putI ok fw_X4_24 ly_55 rfl rfl (jI := 3) rfl dX4_read_2 (n := 5) rfl ?_
  refine v_iconst ok dX4_read_5 (n := 6) rfl ?_
  refine v_istore_3 ok (by decide) rfl dX4_read_6 (n := 7) rfl ?_
  exact lp _ 0 0 _ (fun _ _ => 0) none rfl (by omega) (zTf_set ⟨fun _ _ _ => rfl, fun _ _ => rfl⟩ 0) ⟨zset_s, by omega, by omega⟩ (fun k hk => by omega) hZ

set_option maxHeartbeats 4000000 in
set_option maxRecDepth 100000 in
theorem t_readBrides {G : zG} {ad : Int → Nat} {M : zM} (hln : 0 ≤ M 55 2 ∧ M 55 2 ≤ 120) (hT : ∀ i, 0 ≤ i ∧ i < M 55 2 → 32 ≤ M 56 i ∧ M 56 i ≤ 126)  : zTI G (zw ad) mi_X4_readBrides [zr 55] M (fun x M' => x = (zal (zrb (M 56) (M 55 2)) (M 56) (M 55 2) 7 0 0 (fun _ _ => 0)).1 ∧ zTf M M' ∧ (0 < x → ∀ k, 0 ≤ k ∧ k < x → ∀ j, 0 ≤ j ∧ j < 4 → M' (58 + k) j = (zal (zrb (M 56) (M 55 2)) (M 56) (M 55 2) 7 0 0 (fun _ _ => 0)).2 k j)) := by
  refine zTI.of (own := RX4) (ls := [some (zr 55)]) (by decide +kernel) rfl rfl (Nat.le_of_ble_eq_true rfl) (fun γ ok rt => ?_)
  refine v_aload_0 ok dX4_readBrides_0 (n := 1) rfl ?_
  refine v_iconst ok dX4_readBrides_1 (n := 2) rfl ?_
  refine v_bipush ok (by decide) dX4_readBrides_2 (n := 4) rfl ?_
  refine v_callVI ok (mi := mi_X4_read) mc_X4_read cv_X4_31 ly_55 rfl rfl rfl (by decide) ⟨Nat.zero_le _, Nat.zero_le _⟩ dX4_readBrides_4 (n := 7) rfl rfl rfl (Nat.le_of_ble_eq_true rfl) (t_readB hln hT) (fun x1 N1 g1 => ?_)
  refine v_iret rt dX4_readBrides_7 ?_
  exact g1

set_option maxHeartbeats 4000000 in
set_option maxRecDepth 100000 in
theorem t_readH {G : zG} {ad : Int → Nat} {M : zM} (hln : 0 ≤ M 55 2 ∧ M 55 2 ≤ 120) (hT : ∀ i, 0 ≤ i ∧ i < M 55 2 → 32 ≤ M 56 i ∧ M 56 i ≤ 126)  : zTI G (zw ad) mi_X4_read [zr 55, zi 1, zi 16] M (fun x M' => x = (zal (zrs (M 56) (M 55 2)) (M 56) (M 55 2) 16 0 0 (fun _ _ => 0)).1 ∧ zTf M M' ∧ (0 < x → ∀ k, 0 ≤ k ∧ k < x → ∀ j, 0 ≤ j ∧ j < 4 → M' (58 + k) j = (zal (zrs (M 56) (M 55 2)) (M 56) (M 55 2) 16 0 0 (fun _ _ => 0)).2 k j)) := by
  refine zTI.of (own := RX4) (ls := [some (zr 55), some (zi 1), some (zi 16), none, none]) (by decide +kernel) rfl rfl (Nat.le_of_ble_eq_true rfl) (fun γ ok rt => ?_)
  obtain ⟨Z, hZ⟩ : ∃ Z, zal (zrs (M 56) (M 55 2)) (M 56) (M 55 2) 16 0 0 (fun _ _ => 0) = Z := ⟨_, rfl⟩
  rw [hZ] at rt
  have lp : ∀ (zn : Nat) (i p : Int) (N : zM) (Rw : Int → Int → Int) (l4 : Option zV), zn = (15 - i).toNat → (0 ≤ i ∧ i ≤ 15) → (zTf M N) → (N 55 3 = p ∧ 0 ≤ p ∧ p ≤ M 55 2) → (∀ k, 0 ≤ k ∧ k < i → ∀ j, 0 ≤ j ∧ j < 4 → N (58 + k) j = Rw k j) → (zal (zrs (M 56) (M 55 2)) (M 56) (M 55 2) (16 - i).toNat i p Rw = Z) → zVV G γ (zw ad) (0, 0) 7 [some (zr 55), some (zi 1), some (zi 16), some (zi i), l4] [] N := by
    refine zrec _ (fun zn ih => ?_)
    intro i p N Rw l4 hzn hi hN hp hw he
    obtain ⟨f3, hp⟩ := hp
    have f56 : N 56 = M 56 := hN.1 56 (by omega) (by omega)
    have f2 : N 55 2 = M 55 2 := hN.2 2 (by omega)
    rw [show (16 - i).toNat = (15 - i).toNat + 1 by omega, zal_s] at he
    obtain ⟨z1, hz1⟩ : ∃ z, zrs (M 56) (M 55 2) p = z := ⟨_, rfl⟩
    have bz := zrs_b (T := M 56) hp.2
    rw [hz1] at he bz
    obtain ⟨q2, hq2⟩ : ∃ q, zsk (M 56) (M 55 2) z1.2.1 = q := ⟨_, rfl⟩
    have bq := zsk_bd (T := M 56) bz.2.1
    have bqq := zsk_sk (T := M 56) bz.2.1
    rw [hq2] at he bq bqq
    refine v_iload_3 ok dX4_read_7 (n := 8) rfl ?_
    refine v_iload_2 ok dX4_read_8 (n := 9) rfl ?_
    refine v_icmp_ge ok dX4_read_9 (tgt := 87) (by decide) (n := 12) rfl (by omega) (by omega) (fun c9_1 => ?_) (fun c9_1 => ?_)
    · have c9_1 := c9_1
      omega
    · have c9_1 := c9_1
      refine v_iload_1 ok dX4_read_12 (n := 13) rfl ?_
      refine v_if_eq ok dX4_read_13 (tgt := 29) (by decide) (n := 16) rfl (by omega) (fun c13_2 => ?_) (fun c13_2 => ?_)
      · have c13_2 := c13_2
        omega
      · have c13_2 := c13_2
        refine v_aload_0 ok dX4_read_16 (n := 17) rfl ?_
        refine v_aload_0 ok dX4_read_17 (n := 18) rfl ?_
        refine v_getR ok fd_X4_17 ly_55 rfl rfl rfl rf_55_1 dX4_read_18 (n := 21) rfl ?_
        refine v_iload_3 ok dX4_read_21 (n := 22) rfl ?_
        refine v_aald ok ly_57 (by decide) rfl (by omega) (by decide) rfl dX4_read_22 (n := 23) rfl ?_
        refine v_callVI ok (mi := mi_X4_readShoe) mc_X4_readShoe cv_X4_35 ly_55 rfl rfl rfl (by decide) ⟨Nat.zero_le _, Nat.zero_le _⟩ dX4_read_23 (n := 26) rfl rfl rfl (Nat.le_of_ble_eq_true rfl) ((by have e := t_readShoe (G := G) (ad := ad) (M := N) (M1 := N) (r := 58 + i) (p := p) (lf_tro (by omega)) (by omega) (by rw [f2]; exact hln) (by rw [f2, f56]; exact hT) (by rw [f2]; exact hp) ⟨fun _ _ _ => rfl, fun _ _ => rfl, f3⟩; rw [f56, f2, hz1] at e; exact e)) (fun x1 N1 g1 => ?_)
        obtain ⟨w1, t1, r1⟩ := g1
        have F1 := zTf_put (by omega) hN t1
        have h56 : N1 56 = M 56 := F1.1 56 (by omega) (by omega)
        have h2 : N1 55 2 = M 55 2 := F1.2 2 (by omega)
        have h3 : N1 55 3 = z1.2.1 := t1.2.2
        refine v_goto ok dX4_read_26 (n := 39) (by decide) ?_
        refine v_istore_4 ok (by decide) rfl dX4_read_39 (n := 41) rfl ?_
        refine v_iload_4 ok dX4_read_41 (n := 43) rfl ?_
        refine v_if_eq ok dX4_read_43 (tgt := 57) (by decide) (n := 46) rfl (by omega) (fun c43_3 => ?_) (fun c43_3 => ?_)
        · have c43_3 := c43_3
          refine v_iload_4 ok dX4_read_57 (n := 59) rfl ?_
          refine v_if_eq ok dX4_read_59 (tgt := 87) (by decide) (n := 62) rfl (by omega) (fun c59_4 => ?_) (fun c59_4 => ?_)
          · have c59_4 := c59_4
            first
            | (exfalso; omega)
            | skip
              refine v_bipush ok (by decide) dX4_read_87 (n := 89) rfl ?_
              refine v_aload_0 ok dX4_read_89 (n := 90) rfl ?_
              refine v_getI ok fd_X4_24 ly_55 rfl rfl (jI := 3) rfl dX4_read_90 (n := 93) rfl ?_
              refine v_isub ok dX4_read_93 (n := 94) rfl ?_
              refine v_iret rt dX4_read_94 ?_
              first
              | (rw [if_pos (by omega)] at he
                 rw [h3, ← he]
                 exact ⟨rfl, F1, fun q => by omega⟩)
              | (rw [if_neg (by omega)] at he
                 rw [if_pos (Or.inl (by omega))] at he
                 rw [← he, zset_s]
                 exact ⟨rfl, zTf_set F1 _, fun q => by omega⟩)
              | (rw [if_neg (by omega)] at he
                 have hc : ¬ (q2 < M 55 2 ∧ M 56 q2 = 44) := by
                   intro hc
                   rw [if_pos hc] at w3
                   have : x3 = 1 := w3
                   omega
                 rw [if_neg hc]
                 rw [if_pos (Or.inr (fun z => hc ⟨by omega, z⟩))] at he
                 rw [← he, zset_s]
                 exact ⟨rfl, zTf_set F1 _, fun q => by omega⟩)
          · have c59_4 := c59_4
            first
            | (exfalso; omega)
            | skip
              refine v_iload_3 ok dX4_read_62 (n := 63) rfl ?_
              refine v_iload_2 ok dX4_read_63 (n := 64) rfl ?_
              refine v_iconst ok dX4_read_64 (n := 65) rfl ?_
              refine v_isub ok dX4_read_65 (n := 66) rfl ?_
              refine v_icmp_eq ok dX4_read_66 (tgt := 87) (by decide) (n := 69) rfl (by omega) (by omega) (fun c66_5 => ?_) (fun c66_5 => ?_)
              · have c66_5 := c66_5
                refine v_bipush ok (by decide) dX4_read_87 (n := 89) rfl ?_
                refine v_aload_0 ok dX4_read_89 (n := 90) rfl ?_
                refine v_getI ok fd_X4_24 ly_55 rfl rfl (jI := 3) rfl dX4_read_90 (n := 93) rfl ?_
                refine v_isub ok dX4_read_93 (n := 94) rfl ?_
                refine v_iret rt dX4_read_94 ?_
                first
                | (rw [if_pos (by omega)] at he
                   rw [h3, ← he]
                   exact ⟨rfl, F1, fun q => by omega⟩)
                | (rw [if_neg (by omega)] at he
                   rw [if_pos (Or.inl (by omega))] at he
                   rw [← he, zset_s]
                   exact ⟨rfl, zTf_set F1 _, fun q => by omega⟩)
                | (rw [if_neg (by omega)] at he
                   have hc : ¬ (q2 < M 55 2 ∧ M 56 q2 = 44) := by
                     intro hc
                     rw [if_pos hc] at w3
                     have : x3 = 1 := w3
                     omega
                   rw [if_neg hc]
                   rw [if_pos (Or.inr (fun z => hc ⟨by omega, z⟩))] at he
                   rw [← he, zset_s]
                   exact ⟨rfl, zTf_set F1 _, fun q => by omega⟩)
              · have c66_5 := c66_5
                refine v_aload_0 ok dX4_read_69 (n := 70) rfl ?_
                refine v_bipush ok (by decide) dX4_read_70 (n := 72) rfl ?_
                refine v_callVI ok (mi := mi_X4_isPassed) mc_X4_isPassed cv_X4_46 ly_55 rfl rfl rfl (by decide) ⟨Nat.zero_le _, Nat.zero_le _⟩ dX4_read_72 (n := 75) rfl rfl rfl (Nat.le_of_ble_eq_true rfl) ((by have e := t_isPassed (G := G) (ad := ad) (M := zset N1 55 3 q2) (c := 44) (by omega) (by rw [zset_ne (by omega), h2]; exact hln) (by rw [zset_s, zset_ne (by omega), h2]; omega) (by rw [zset_ne (by omega), h2, zset_o (by omega), h56]; exact hT); rw [zset_o (by omega), h56, zset_ne (by omega), h2, zset_s] at e; exact e)) (fun x3 N3 g3 => ?_)
                obtain ⟨w3, e3⟩ := g3
                have hz3 : zps (M 56) (M 55 2) q2 44 = if q2 < M 55 2 ∧ M 56 q2 = 44 then (1, q2 + 1) else (0, q2) := by
                  unfold zps
                  rw [bqq]
                rw [hz3, zset_zset] at e3
                rw [hz3] at w3
                subst e3
                have hx3 : x3 = 0 ∨ x3 = 1 := by
                  rw [w3]
                  split
                  · exact Or.inr rfl
                  · exact Or.inl rfl
                refine v_if_ne ok dX4_read_75 (tgt := 81) (by decide) (n := 78) rfl (by omega) (fun c75_6 => ?_) (fun c75_6 => ?_)
                · have c75_6 := c75_6
                  refine v_iinc_3 ok (by decide) rfl dX4_read_81 (n := 84) rfl ?_
                  refine v_goto ok dX4_read_84 (n := 7) (by decide) ?_
                  rw [if_neg (by omega)] at he
                  have hc : q2 < M 55 2 ∧ M 56 q2 = 44 := by
                    by_cases hc : q2 < M 55 2 ∧ M 56 q2 = 44
                    · exact hc
                    · rw [if_neg hc] at w3
                      have : x3 = 0 := w3
                      omega
                  rw [if_pos hc]
                  rw [if_neg (by omega)] at he
                  exact ih _ (by omega) _ (q2 + 1) _ (fun a j => if a = i then z1.2.2 j else Rw a j) _ rfl (by omega) (zTf_set F1 _) ⟨zset_s, by omega, by omega⟩ (fun k hk j hj => by rw [zset_o (by omega)]; exact hrow k hk j hj) (by rw [show (16 - (i + 1)).toNat = (15 - i).toNat by omega]; exact he)
                · have c75_6 := c75_6
                  refine v_goto ok dX4_read_78 (n := 87) (by decide) ?_
                  refine v_bipush ok (by decide) dX4_read_87 (n := 89) rfl ?_
                  refine v_aload_0 ok dX4_read_89 (n := 90) rfl ?_
                  refine v_getI ok fd_X4_24 ly_55 rfl rfl (jI := 3) rfl dX4_read_90 (n := 93) rfl ?_
                  refine v_isub ok dX4_read_93 (n := 94) rfl ?_
                  refine v_iret rt dX4_read_94 ?_
                  first
                  | (rw [if_pos (by omega)] at he
                     rw [h3, ← he]
                     exact ⟨rfl, F1, fun q => by omega⟩)
                  | (rw [if_neg (by omega)] at he
                     rw [if_pos (Or.inl (by omega))] at he
                     rw [← he, zset_s]
                     exact ⟨rfl, zTf_set F1 _, fun q => by omega⟩)
                  | (rw [if_neg (by omega)] at he
                     have hc : ¬ (q2 < M 55 2 ∧ M 56 q2 = 44) := by
                       intro hc
                       rw [if_pos hc] at w3
                       have : x3 = 1 := w3
                       omega
                     rw [if_neg hc]
                     rw [if_pos (Or.inr (fun z => hc ⟨by omega, z⟩))] at he
                     rw [← he, zset_s]
                     exact ⟨rfl, zTf_set F1 _, fun q => by omega⟩)
        · have c43_3 := c43_3
          refine v_aload_0 ok dX4_read_46 (n := 47) rfl ?_
          refine v_callVI ok (mi := mi_X4_next) mc_X4_next cv_X4_42 ly_55 rfl rfl rfl (by decide) ⟨Nat.zero_le _, Nat.zero_le _⟩ dX4_read_47 (n := 50) rfl rfl rfl (Nat.le_of_ble_eq_true rfl) ((by have e := t_next (G := G) (ad := ad) (M := N1) (by rw [h2]; exact hln) (by rw [h2, h3]; omega) (by rw [h2, h56]; exact hT); rw [h56, h2, h3, hq2] at e; exact e)) (fun x2 N2 g2 => ?_)
          obtain ⟨e2, w2⟩ := g2
          subst e2
          have hx2 : (q2 < M 55 2 ∧ 32 ≤ x2 ∧ x2 ≤ 126) ∨ (¬ q2 < M 55 2 ∧ x2 = 0) := by
            rw [w2]
            split
            · next h => exact Or.inl ⟨h, hT _ (by omega)⟩
            · next h => exact Or.inr ⟨h, rfl⟩
          rw [if_neg (by omega)] at he
          have hrow : ∀ k, 0 ≤ k ∧ k < i + 1 → ∀ j, 0 ≤ j ∧ j < 4 → N1 (58 + k) j = (fun a j => if a = i then z1.2.2 j else Rw a j) k j := by
            intro k hk j hj
            show _ = if k = i then z1.2.2 j else Rw k j
            by_cases hki : k = i
            · rw [if_pos hki, hki]
              exact r1 (by omega) j hj
            · rw [if_neg hki, t1.1 _ (by omega) (by omega)]
              exact hw k (by omega) j hj
          refine v_if_ne ok dX4_read_50 (tgt := 57) (by decide) (n := 53) rfl (by omega) (fun c50_7 => ?_) (fun c50_7 => ?_)
          · have c50_7 := c50_7
            refine v_iload_4 ok dX4_read_57 (n := 59) rfl ?_
            refine v_if_eq ok dX4_read_59 (tgt := 87) (by decide) (n := 62) rfl (by omega) (fun c59_8 => ?_) (fun c59_8 => ?_)
            · have c59_8 := c59_8
              first
              | (exfalso; omega)
              | skip
                refine v_bipush ok (by decide) dX4_read_87 (n := 89) rfl ?_
                refine v_aload_0 ok dX4_read_89 (n := 90) rfl ?_
                refine v_getI ok fd_X4_24 ly_55 rfl rfl (jI := 3) rfl dX4_read_90 (n := 93) rfl ?_
                refine v_isub ok dX4_read_93 (n := 94) rfl ?_
                refine v_iret rt dX4_read_94 ?_
                first
                | (rw [if_pos (by omega)] at he
                   rw [h3, ← he]
                   exact ⟨rfl, F1, fun q => by omega⟩)
                | (rw [if_neg (by omega)] at he
                   rw [if_pos (Or.inl (by omega))] at he
                   rw [← he, zset_s]
                   exact ⟨rfl, zTf_set F1 _, fun q => by omega⟩)
                | (rw [if_neg (by omega)] at he
                   have hc : ¬ (q2 < M 55 2 ∧ M 56 q2 = 44) := by
                     intro hc
                     rw [if_pos hc] at w3
                     have : x3 = 1 := w3
                     omega
                   rw [if_neg hc]
                   rw [if_pos (Or.inr (fun z => hc ⟨by omega, z⟩))] at he
                   rw [← he, zset_s]
                   exact ⟨rfl, zTf_set F1 _, fun q => by omega⟩)
            · have c59_8 := c59_8
              first
              | (exfalso; omega)
              | skip
                refine v_iload_3 ok dX4_read_62 (n := 63) rfl ?_
                refine v_iload_2 ok dX4_read_63 (n := 64) rfl ?_
                refine v_iconst ok dX4_read_64 (n := 65) rfl ?_
                refine v_isub ok dX4_read_65 (n := 66) rfl ?_
                refine v_icmp_eq ok dX4_read_66 (tgt := 87) (by decide) (n := 69) rfl (by omega) (by omega) (fun c66_9 => ?_) (fun c66_9 => ?_)
                · have c66_9 := c66_9
                  refine v_bipush ok (by decide) dX4_read_87 (n := 89) rfl ?_
                  refine v_aload_0 ok dX4_read_89 (n := 90) rfl ?_
                  refine v_getI ok fd_X4_24 ly_55 rfl rfl (jI := 3) rfl dX4_read_90 (n := 93) rfl ?_
                  refine v_isub ok dX4_read_93 (n := 94) rfl ?_
                  refine v_iret rt dX4_read_94 ?_
                  first
                  | (rw [if_pos (by omega)] at he
                     rw [h3, ← he]
                     exact ⟨rfl, F1, fun q => by omega⟩)
                  | (rw [if_neg (by omega)] at he
                     rw [if_pos (Or.inl (by omega))] at he
                     rw [← he, zset_s]
                     exact ⟨rfl, zTf_set F1 _, fun q => by omega⟩)
                  | (rw [if_neg (by omega)] at he
                     have hc : ¬ (q2 < M 55 2 ∧ M 56 q2 = 44) := by
                       intro hc
                       rw [if_pos hc] at w3
                       have : x3 = 1 := w3
                       omega
                     rw [if_neg hc]
                     rw [if_pos (Or.inr (fun z => hc ⟨by omega, z⟩))] at he
                     rw [← he, zset_s]
                     exact ⟨rfl, zTf_set F1 _, fun q => by omega⟩)
                · have c66_9 := c66_9
                  refine v_aload_0 ok dX4_read_69 (n := 70) rfl ?_
                  refine v_bipush ok (by decide) dX4_read_70 (n := 72) rfl ?_
                  refine v_callVI ok (mi := mi_X4_isPassed) mc_X4_isPassed cv_X4_46 ly_55 rfl rfl rfl (by decide) ⟨Nat.zero_le _, Nat.zero_le _⟩ dX4_read_72 (n := 75) rfl rfl rfl (Nat.le_of_ble_eq_true rfl) ((by have e := t_isPassed (G := G) (ad := ad) (M := zset N1 55 3 q2) (c := 44) (by omega) (by rw [zset_ne (by omega), h2]; exact hln) (by rw [zset_s, zset_ne (by omega), h2]; omega) (by rw [zset_ne (by omega), h2, zset_o (by omega), h56]; exact hT); rw [zset_o (by omega), h56, zset_ne (by omega), h2, zset_s] at e; exact e)) (fun x3 N3 g3 => ?_)
                  obtain ⟨w3, e3⟩ := g3
                  have hz3 : zps (M 56) (M 55 2) q2 44 = if q2 < M 55 2 ∧ M 56 q2 = 44 then (1, q2 + 1) else (0, q2) := by
                    unfold zps
                    rw [bqq]
                  rw [hz3, zset_zset] at e3
                  rw [hz3] at w3
                  subst e3
                  have hx3 : x3 = 0 ∨ x3 = 1 := by
                    rw [w3]
                    split
                    · exact Or.inr rfl
                    · exact Or.inl rfl
                  refine v_if_ne ok dX4_read_75 (tgt := 81) (by decide) (n := 78) rfl (by omega) (fun c75_10 => ?_) (fun c75_10 => ?_)
                  · have c75_10 := c75_10
                    refine v_iinc_3 ok (by decide) rfl dX4_read_81 (n := 84) rfl ?_
                    refine v_goto ok dX4_read_84 (n := 7) (by decide) ?_
                    rw [if_neg (by omega)] at he
                    have hc : q2 < M 55 2 ∧ M 56 q2 = 44 := by
                      by_cases hc : q2 < M 55 2 ∧ M 56 q2 = 44
                      · exact hc
                      · rw [if_neg hc] at w3
                        have : x3 = 0 := w3
                        omega
                    rw [if_pos hc]
                    rw [if_neg (by omega)] at he
                    exact ih _ (by omega) _ (q2 + 1) _ (fun a j => if a = i then z1.2.2 j else Rw a j) _ rfl (by omega) (zTf_set F1 _) ⟨zset_s, by omega, by omega⟩ (fun k hk j hj => by rw [zset_o (by omega)]; exact hrow k hk j hj) (by rw [show (16 - (i + 1)).toNat = (15 - i).toNat by omega]; exact he)
                  · have c75_10 := c75_10
                    refine v_goto ok dX4_read_78 (n := 87) (by decide) ?_
                    refine v_bipush ok (by decide) dX4_read_87 (n := 89) rfl ?_
                    refine v_aload_0 ok dX4_read_89 (n := 90) rfl ?_
                    refine v_getI ok fd_X4_24 ly_55 rfl rfl (jI := 3) rfl dX4_read_90 (n := 93) rfl ?_
                    refine v_isub ok dX4_read_93 (n := 94) rfl ?_
                    refine v_iret rt dX4_read_94 ?_
                    first
                    | (rw [if_pos (by omega)] at he
                       rw [h3, ← he]
                       exact ⟨rfl, F1, fun q => by omega⟩)
                    | (rw [if_neg (by omega)] at he
                       rw [if_pos (Or.inl (by omega))] at he
                       rw [← he, zset_s]
                       exact ⟨rfl, zTf_set F1 _, fun q => by omega⟩)
                    | (rw [if_neg (by omega)] at he
                       have hc : ¬ (q2 < M 55 2 ∧ M 56 q2 = 44) := by
                         intro hc
                         rw [if_pos hc] at w3
                         have : x3 = 1 := w3
                         omega
                       rw [if_neg hc]
                       rw [if_pos (Or.inr (fun z => hc ⟨by omega, z⟩))] at he
                       rw [← he, zset_s]
                       exact ⟨rfl, zTf_set F1 _, fun q => by omega⟩)
          · have c50_7 := c50_7
            refine v_iload_3 ok dX4_read_53 (n := 54) rfl ?_
            refine v_iconst ok dX4_read_54 (n := 55) rfl ?_
            refine v_iadd ok dX4_read_55 (n := 56) rfl ?_
            refine v_iret rt dX4_read_56 ?_
            rw [if_pos (by omega)] at he
            rw [← he]
            refine ⟨rfl, zTf_set F1 _, fun _ k hk j hj => ?_⟩
            rw [zset_o (by omega)]
            exact hrow k hk j hj
  refine v_aload_0 ok dX4_read_0 (n := 1) rfl ?_
  refine v_iconst ok dX4_read_1 (n := 2) rfl ?_
  refine v_putI ok fw_X4_24 ly_55 rfl rfl (jI := 3) rfl dX4_read_2 (n := 5) rfl ?_
  refine v_iconst ok dX4_read_5 (n := 6) rfl ?_
  refine v_istore_3 ok (by decide) rfl dX4_read_6 (n := 7) rfl ?_
  exact lp _ 0 0 _ (fun _ _ => 0) none rfl (by omega) (zTf_set ⟨fun _ _ _ => rfl, fun _ _ => rfl⟩ 0) ⟨zset_s, by omega, by omega⟩ (fun k hk => by omega) hZ

set_option maxHeartbeats 4000000 in
set_option maxRecDepth 100000 in
theorem t_readHeap {G : zG} {ad : Int → Nat} {M : zM} (hln : 0 ≤ M 55 2 ∧ M 55 2 ≤ 120) (hT : ∀ i, 0 ≤ i ∧ i < M 55 2 → 32 ≤ M 56 i ∧ M 56 i ≤ 126)  : zTI G (zw ad) mi_X4_readHeap [zr 55] M (fun x M' => x = (zal (zrs (M 56) (M 55 2)) (M 56) (M 55 2) 16 0 0 (fun _ _ => 0)).1 ∧ zTf M M' ∧ (0 < x → ∀ k, 0 ≤ k ∧ k < x → ∀ j, 0 ≤ j ∧ j < 4 → M' (58 + k) j = (zal (zrs (M 56) (M 55 2)) (M 56) (M 55 2) 16 0 0 (fun _ _ => 0)).2 k j)) := by
  refine zTI.of (own := RX4) (ls := [some (zr 55)]) (by decide +kernel) rfl rfl (Nat.le_of_ble_eq_true rfl) (fun γ ok rt => ?_)
  refine v_aload_0 ok dX4_readHeap_0 (n := 1) rfl ?_
  refine v_iconst ok dX4_readHeap_1 (n := 2) rfl ?_
  refine v_bipush ok (by decide) dX4_readHeap_2 (n := 4) rfl ?_
  refine v_callVI ok (mi := mi_X4_read) mc_X4_read cv_X4_31 ly_55 rfl rfl rfl (by decide) ⟨Nat.zero_le _, Nat.zero_le _⟩ dX4_readHeap_4 (n := 7) rfl rfl rfl (Nat.le_of_ble_eq_true rfl) (t_readH hln hT) (fun x1 N1 g1 => ?_)
  refine v_iret rt dX4_readHeap_7 ?_
  exact g1

