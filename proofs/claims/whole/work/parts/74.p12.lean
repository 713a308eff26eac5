/-! both answer alike: images, sheets -/
theorem zcR_o {M : zM} {s d n r : Int} (h : r < d ∨ d + n ≤ r) : zcpR M s d n r = M r := by
  funext j
  exact if_neg (by omega)
theorem zcR_i {M : zM} {s d n r j : Int} (h : d ≤ r ∧ r < d + n) (hj : 0 ≤ j ∧ j < 4) : zcpR M s d n r j = M (s + (r - d)) j := if_pos ⟨h.1, h.2, hj.1, hj.2⟩
theorem zcy_o {M : zM} {a sp b dp n r : Int} (h : r ≠ b) : zcpy M a sp b dp n r = M r := by
  funext j
  exact if_neg (by omega)
theorem zcy_i {M : zM} {a sp b dp n j : Int} (h : dp ≤ j ∧ j < dp + n) : zcpy M a sp b dp n b j = M a (sp + (j - dp)) := if_pos ⟨rfl, h.1, h.2⟩
theorem zcy_n {M : zM} {a sp b dp n j : Int} (h : j < dp ∨ dp + n ≤ j) : zcpy M a sp b dp n b j = M b j := if_neg (by omega)
theorem zBR_e {f g : Int → Int} (h : ∀ j, 0 ≤ j ∧ j < 4 → f j = g j) (H : zBR g) : zBR f := by
  unfold zBR
  rw [h 0 (by omega), h 1 (by omega), h 2 (by omega), h 3 (by omega)]
  exact H
theorem zSR_e {f g : Int → Int} (h : ∀ j, 0 ≤ j ∧ j < 4 → f j = g j) (H : zSR g) : zSR f := by
  unfold zSR
  rw [h 0 (by omega), h 1 (by omega), h 2 (by omega), h 3 (by omega)]
  exact H
theorem zcut_b {a v : Int} (hv : -2147483648 ≤ v ∧ v ≤ 2147483647) : -2147483648 ≤ zcut a v ∧ zcut a v ≤ 2147483647 := by
  unfold zcut zi2b zi2s
  split
  · exact zn_bd _
  · split
    · exact zn_bd _
    · exact hv
set_option maxHeartbeats 1000000 in
theorem s_image {G : zG} {ad : Int → Nat} {M : zM} (hR : zRel M) : zTI G (zw ad) mi_X7_image [zr 0] M (fun x M1 => zTI G (zw ad) mi_X8_image [zr 200] M1 (fun y M2 => x = y ∧ zRel M2)) := by
  obtain ⟨rb, rs, rg, rt, rh, ri⟩ := id hR
  have k3 := rb.1
  have k4 := rs.1
  have nb2 := rb.2.1
  have ns2 := rs.2.1
  refine (t_image (zRb_n rb) (zRs_n rs)).weaken ?_
  rintro x M1 q1
  obtain ⟨e, e1⟩ := q1
  have hn := zRb_n rb
  have hw := zRs_n rs
  have ko : ∀ r, (r < 28 ∨ r = 29 ∨ r = 30 ∨ 54 < r) → r ≠ 0 → M1 r = M r := fun r h1 h2 => by
    rw [e1, zset_o h2, zcy_o (by omega), zset_o (by omega), zcR_o (by omega), zset_o (by omega), zcR_o (by omega)]
  have k0 : M1 0 2 = 1 := by rw [e1, zset_s]
  have k28a : M1 28 3 = M 1 3 := by
    rw [e1, zset_o (by omega), zcy_o (by omega), zset_n (by omega), zcR_o (by omega), zset_s]
  have k28b : M1 28 4 = M 1 4 := by
    rw [e1, zset_o (by omega), zcy_o (by omega), zset_s]
  have k31 : ∀ j, 0 ≤ j ∧ j < 2 → M1 31 j = M 4 j := fun j hj => by
    rw [e1, zset_o (by omega), zcy_i (by omega), zset_o (by omega), zcR_o (by omega), zset_o (by omega), zcR_o (by omega), show 0 + (j - 0) = j by omega]
  have kb : ∀ b j, 0 ≤ b ∧ b < M 1 3 → 0 ≤ j ∧ j < 4 → M1 (32 + b) j = M (5 + b) j := fun b j hb hj => by
    rw [e1, zset_o (by omega), zcy_o (by omega), zset_o (by omega), zcR_o (by omega), zset_o (by omega), zcR_i (by omega) hj, show 5 + (32 + b - 32) = 5 + b by omega]
  have ks : ∀ s j, 0 ≤ s ∧ s < M 1 4 → 0 ≤ j ∧ j < 4 → M1 (39 + s) j = M (12 + s) j := fun s j hs hj => by
    rw [e1, zset_o (by omega), zcy_o (by omega), zset_o (by omega), zcR_i (by omega) hj, show 12 + (39 + s - 39) = 12 + s by omega, zset_o (by omega), zcR_o (by omega)]
  refine (u_image).weaken ?_
  rintro y M2 ⟨e2, e3⟩
  refine ⟨by omega, ?_⟩
  have lo : ∀ r, r ≠ 200 → r ≠ 220 → M2 r = M1 r := fun r h1 h2 => by
    rw [e3, zset_o h1, zset_o h1, zset_o h1, zset_o h2, zset_o h2, zcy_o h2, zcy_o h2]
  have l2 : ∀ j, j ≠ 18 → j ≠ 20 → j ≠ 21 → M2 200 j = M 200 j := fun j h1 h2 h3 => by
    rw [e3, zset_n h1, zset_n h3, zset_n h2, zset_o (by omega), zset_o (by omega), zcy_o (by omega), zcy_o (by omega), ko 200 (by omega) (by omega)]
  have l18 : M2 200 18 = 1 := by rw [e3, zset_s]
  have l20 : M2 200 20 = M 200 2 := by rw [e3, zset_n (by omega), zset_n (by omega), zset_s, ko 200 (by omega) (by omega)]
  have l21 : M2 200 21 = M 200 3 := by rw [e3, zset_n (by omega), zset_s, ko 200 (by omega) (by omega)]
  have lb : ∀ i, 0 ≤ i ∧ i < 28 → M2 220 i = M 201 i := fun i hi => by
    rw [e3, zset_o (by omega), zset_o (by omega), zset_o (by omega), zset_n (by omega), zset_n (by omega), zcy_n (by omega), zcy_i (by omega), ko 201 (by omega) (by omega), show 0 + (i - 0) = i by omega]
  have ls : ∀ i, 0 ≤ i ∧ i < 64 → M2 220 (28 + i) = M 202 i := fun i hi => by
    rw [e3, zset_o (by omega), zset_o (by omega), zset_o (by omega), zset_n (by omega), zset_n (by omega), zcy_i (by omega), zcy_o (by omega), ko 202 (by omega) (by omega), show 0 + (28 + i - 28) = i by omega]
  have l92 : M2 220 92 = M 205 0 := by
    rw [e3, zset_o (by omega), zset_o (by omega), zset_o (by omega), zset_n (by omega), zset_s, ko 205 (by omega) (by omega)]
  have l93 : M2 220 93 = M 205 1 := by
    rw [e3, zset_o (by omega), zset_o (by omega), zset_o (by omega), zset_s, ko 205 (by omega) (by omega)]
  have kk : ∀ r, (r < 28 ∨ r = 29 ∨ r = 30 ∨ 54 < r) → r ≠ 0 → r ≠ 200 → r ≠ 220 → M2 r = M r := fun r h1 h2 h3 h4 => by
    rw [lo r h3 h4, ko r h1 h2]
  have k1 : ∀ j, M2 1 j = M 1 j := fun j => by rw [kk 1 (by omega) (by omega) (by omega) (by omega)]
  have k5 : ∀ j, M2 55 j = M 55 j := fun j => by rw [kk 55 (by omega) (by omega) (by omega) (by omega)]
  refine ⟨zRb_c (k1 3) (l2 2 (by omega) (by omega) (by omega)) (fun r hr => kk r (by omega) (by omega) (by omega) (by omega)) (kk 201 (by omega) (by omega) (by omega) (by omega)) rb,
    zRs_c (k1 4) (l2 3 (by omega) (by omega) (by omega)) (fun r hr => kk r (by omega) (by omega) (by omega) (by omega)) (kk 202 (by omega) (by omega) (by omega) (by omega)) rs,
    zRg_c (kk 4 (by omega) (by omega) (by omega) (by omega)) (kk 205 (by omega) (by omega) (by omega) (by omega)) rg,
    zRt_c (k5 2) (l2 6 (by omega) (by omega) (by omega)) (kk 56 (by omega) (by omega) (by omega) (by omega)) (kk 206 (by omega) (by omega) (by omega) (by omega)) rt,
    zRh_c (fun r hr => kk r (by omega) (by omega) (by omega) (by omega)) (kk 223 (by omega) (by omega) (by omega) (by omega)) (kk 224 (by omega) (by omega) (by omega) (by omega)) (kk 225 (by omega) (by omega) (by omega) (by omega)) rh, ?_⟩
  have m0 : M2 0 2 = 1 := by rw [lo 0 (by omega) (by omega)]; exact k0
  have m28a : M2 28 3 = M 1 3 := by rw [lo 28 (by omega) (by omega)]; exact k28a
  have m28b : M2 28 4 = M 1 4 := by rw [lo 28 (by omega) (by omega)]; exact k28b
  have m31 : ∀ j, 0 ≤ j ∧ j < 2 → M2 31 j = M 4 j := fun j hj => by rw [lo 31 (by omega) (by omega)]; exact k31 j hj
  refine ⟨Or.inr m0, by rw [l18, m0], ⟨by omega, by omega⟩, fun _ => ⟨⟨by omega, by omega⟩, fun b hb => ?_, fun s hs => ?_, ?_⟩⟩
  · rw [m28a] at hb
    have h1 : ∀ j, 0 ≤ j ∧ j < 4 → M2 (32 + b) j = M (5 + b) j := fun j hj => by rw [lo (32 + b) (by omega) (by omega)]; exact kb b j hb hj
    refine ⟨zBR_e h1 (zRb_B rb b hb), fun j hj => ?_⟩
    rw [h1 j hj, zRb_q rb (by omega) (by omega), lb _ (by omega)]
  · rw [m28b] at hs
    have h1 : ∀ j, 0 ≤ j ∧ j < 4 → M2 (39 + s) j = M (12 + s) j := fun j hj => by rw [lo (39 + s) (by omega) (by omega)]; exact ks s j hs hj
    refine ⟨zSR_e h1 (zRs_S rs s hs), fun j hj => ?_⟩
    rw [h1 j hj, zRs_q rs (by omega) (by omega), show 28 + 4 * s + j = 28 + (4 * s + j) by omega, ls _ (by omega)]
  · rw [m31 0 (by omega), m31 1 (by omega), l92, l93]
    obtain ⟨⟨g0, g1⟩, g2, g3⟩ := rg
    omega

set_option maxHeartbeats 1000000 in
theorem s_restore {G : zG} {ad : Int → Nat} {M : zM} (hR : zRel M) : zTI G (zw ad) mi_X7_restore [zr 0] M (fun x M1 => zTI G (zw ad) mi_X8_restore [zr 200] M1 (fun y M2 => x = y ∧ zRel M2)) := by
  obtain ⟨rb, rs, rg, rt, rh, ri⟩ := id hR
  have k3 := rb.1
  have k4 := rs.1
  have nb2 := rb.2.1
  have ns2 := rs.2.1
  refine (t_restore ri.1 ri.2.2.1.1 ri.2.2.1.2).weaken ?_
  rintro x M1 q1
  rcases q1 with ⟨w, e, e1⟩ | ⟨w, e, e1⟩
  · subst e1
    refine (u_restore (by rw [ri.2.1]; exact ri.1)).weaken ?_
    rintro y M2 (⟨w2, e2, e3⟩ | ⟨w2, e2, e3⟩)
    · subst e3
      exact ⟨by omega, hR⟩
    · have := ri.2.1
      omega
  · obtain ⟨⟨a1, a2⟩, a3, a4, ⟨a5, a6⟩, a7, a8⟩ := ri.2.2.2 w
    have hn := ri.2.2.1.1
    have hw := ri.2.2.1.2
    have ko : ∀ r, r ≠ 1 → r ≠ 4 → (r < 5 ∨ 27 < r) → M1 r = M r := fun r h1 h2 h3 => by
      rw [e1, zcy_o h2, zset_o h1, zcR_o (by omega), zset_o h1, zcR_o (by omega)]
    have k13 : M1 1 3 = M 28 3 := by
      rw [e1, zcy_o (by omega), zset_n (by omega), zcR_o (by omega), zset_s]
    have k14 : M1 1 4 = M 28 4 := by
      rw [e1, zcy_o (by omega), zset_s]
    have kg : ∀ j, 0 ≤ j ∧ j < 2 → M1 4 j = M 31 j := fun j hj => by
      rw [e1, zcy_i (by omega), zset_o (by omega), zcR_o (by omega), zset_o (by omega), zcR_o (by omega), show 0 + (j - 0) = j by omega]
    have kb : ∀ b j, 0 ≤ b ∧ b < M 28 3 → 0 ≤ j ∧ j < 4 → M1 (5 + b) j = M (32 + b) j := fun b j hb hj => by
      rw [e1, zcy_o (by omega), zset_o (by omega), zcR_o (by omega), zset_o (by omega), zcR_i (by omega) hj, show 32 + (5 + b - 5) = 32 + b by omega]
    have ks : ∀ s j, 0 ≤ s ∧ s < M 28 4 → 0 ≤ j ∧ j < 4 → M1 (12 + s) j = M (39 + s) j := fun s j hs hj => by
      rw [e1, zcy_o (by omega), zset_o (by omega), zcR_i (by omega) hj, show 39 + (12 + s - 12) = 39 + s by omega, zset_o (by omega), zcR_o (by omega)]
    have m200 : M1 200 = M 200 := ko 200 (by omega) (by omega) (by omega)
    have m220 : M1 220 = M 220 := ko 220 (by omega) (by omega) (by omega)
    have u1 := u_restore (G := G) (ad := ad) (M := M1) (by rw [m200, ri.2.1]; exact ri.1)
    refine u1.weaken ?_
    rintro y M2 (⟨w2, e2, e3⟩ | ⟨w2, e2, e3⟩)
    · rw [m200, ri.2.1] at w2
      omega
    · refine ⟨by omega, ?_⟩
      rw [m200, m220] at e3
      have lo : ∀ r, r ≠ 200 → r ≠ 201 → r ≠ 202 → r ≠ 205 → M2 r = M1 r := fun r h1 h2 h3 h4 => by
        rw [e3, zset_o h1, zset_o h1, zset_o h4, zset_o h4, zcy_o h3, zcy_o h2]
      have l2 : ∀ j, j ≠ 2 → j ≠ 3 → M2 200 j = M 200 j := fun j h1 h2 => by
        rw [e3, zset_n h2, zset_n h1, zset_o (by omega), zset_o (by omega), zcy_o (by omega), zcy_o (by omega), m200]
      have l22 : M2 200 2 = M 200 20 := by rw [e3, zset_n (by omega), zset_s]
      have l23 : M2 200 3 = M 200 21 := by rw [e3, zset_s]
      have lb : ∀ i, 0 ≤ i ∧ i < 28 → M2 201 i = M 220 i := fun i hi => by
        rw [e3, zset_o (by omega), zset_o (by omega), zset_o (by omega), zset_o (by omega), zcy_o (by omega), zcy_i (by omega), m220, show 0 + (i - 0) = i by omega]
      have ls : ∀ i, 0 ≤ i ∧ i < 64 → M2 202 i = M 220 (28 + i) := fun i hi => by
        rw [e3, zset_o (by omega), zset_o (by omega), zset_o (by omega), zset_o (by omega), zcy_i (by omega), zcy_o (by omega), m220, show 28 + (i - 0) = 28 + i by omega]
      have l50 : M2 205 0 = M 220 92 := by rw [e3, zset_o (by omega), zset_o (by omega), zset_n (by omega), zset_s]
      have l51 : M2 205 1 = M 220 93 := by rw [e3, zset_o (by omega), zset_o (by omega), zset_s]
      have kk : ∀ r, r ≠ 1 → r ≠ 4 → (r < 5 ∨ 27 < r) → r ≠ 200 → r ≠ 201 → r ≠ 202 → r ≠ 205 → M2 r = M r := fun r h1 h2 h3 h4 h5 h6 h7 => by
        rw [lo r h4 h5 h6 h7, ko r h1 h2 h3]
      have k0 : ∀ j, M2 0 j = M 0 j := fun j => by rw [kk 0 (by omega) (by omega) (by omega) (by omega) (by omega) (by omega) (by omega)]
      have k5 : ∀ j, M2 55 j = M 55 j := fun j => by rw [kk 55 (by omega) (by omega) (by omega) (by omega) (by omega) (by omega) (by omega)]
      have m13 : M2 1 3 = M 28 3 := by rw [lo 1 (by omega) (by omega) (by omega) (by omega)]; exact k13
      have m14 : M2 1 4 = M 28 4 := by rw [lo 1 (by omega) (by omega) (by omega) (by omega)]; exact k14
      have m4 : ∀ j, 0 ≤ j ∧ j < 2 → M2 4 j = M 31 j := fun j hj => by rw [lo 4 (by omega) (by omega) (by omega) (by omega)]; exact kg j hj
      refine ⟨⟨by omega, by omega, fun b hb => ?_⟩, ⟨by omega, by omega, fun s hs => ?_⟩, ?_,
        zRt_c (k5 2) (l2 6 (by omega) (by omega)) (kk 56 (by omega) (by omega) (by omega) (by omega) (by omega) (by omega) (by omega)) (kk 206 (by omega) (by omega) (by omega) (by omega) (by omega) (by omega) (by omega)) rt,
        zRh_c (fun r hr => kk r (by omega) (by omega) (by omega) (by omega) (by omega) (by omega) (by omega)) (kk 223 (by omega) (by omega) (by omega) (by omega) (by omega) (by omega) (by omega)) (kk 224 (by omega) (by omega) (by omega) (by omega) (by omega) (by omega) (by omega)) (kk 225 (by omega) (by omega) (by omega) (by omega) (by omega) (by omega) (by omega)) rh,
        zRi_c (k0 2) (l2 18 (by omega) (by omega)) (l2 20 (by omega) (by omega)) (l2 21 (by omega) (by omega)) (fun r hr => kk r (by omega) (by omega) (by omega) (by omega) (by omega) (by omega) (by omega)) (kk 220 (by omega) (by omega) (by omega) (by omega) (by omega) (by omega) (by omega)) ri⟩
      · rw [l22] at hb
        obtain ⟨v, hv⟩ := a3 b (by omega)
        obtain ⟨v0, v1, v2, v3⟩ := v
        have h0 := hv 0 (by omega)
        have h1 := hv 1 (by omega)
        have h2 := hv 2 (by omega)
        have h3 := hv 3 (by omega)
        rw [Int.add_zero] at h0
        have c0 := lb (4 * b) (by omega)
        have c1 := lb (4 * b + 1) (by omega)
        have c2 := lb (4 * b + 2) (by omega)
        have c3 := lb (4 * b + 3) (by omega)
        have m5 := lo (5 + b) (by omega) (by omega) (by omega) (by omega)
        have b0 := kb b 0 (by omega) (by omega)
        have b1 := kb b 1 (by omega) (by omega)
        have b2 := kb b 2 (by omega) (by omega)
        have b3 := kb b 3 (by omega) (by omega)
        unfold zMB
        rw [m5]
        omega
      · rw [l23] at hs
        obtain ⟨v, hv⟩ := a4 s (by omega)
        obtain ⟨v0, v1, v2, v3⟩ := v
        have h0 := hv 0 (by omega)
        have h1 := hv 1 (by omega)
        have h2 := hv 2 (by omega)
        have h3 := hv 3 (by omega)
        have c0 := ls (4 * s) (by omega)
        have c1 := ls (4 * s + 1) (by omega)
        have c2 := ls (4 * s + 2) (by omega)
        have c3 := ls (4 * s + 3) (by omega)
        rw [show 28 + 4 * s + 0 = 28 + 4 * s by omega] at h0
        rw [show 28 + (4 * s + 1) = 28 + 4 * s + 1 by omega] at c1
        rw [show 28 + (4 * s + 2) = 28 + 4 * s + 2 by omega] at c2
        rw [show 28 + (4 * s + 3) = 28 + 4 * s + 3 by omega] at c3
        have m5 := lo (12 + s) (by omega) (by omega) (by omega) (by omega)
        have b0 := ks s 0 (by omega) (by omega)
        have b1 := ks s 1 (by omega) (by omega)
        have b2 := ks s 2 (by omega) (by omega)
        have b3 := ks s 3 (by omega) (by omega)
        unfold zMS
        rw [m5]
        omega
      · have h0 := m4 0 (by omega)
        have h1 := m4 1 (by omega)
        unfold zRg
        omega

set_option maxHeartbeats 1000000 in
theorem s_sheet {G : zG} {ad : Int → Nat} {M : zM} {j a n : Int} (hj : -2147483648 ≤ j ∧ j ≤ 2147483647) (ha : -2147483648 ≤ a ∧ a ≤ 2147483647) (hn : -2147483648 ≤ n ∧ n ≤ 2147483647) (hR : zRel M) : zTI G (zw ad) mi_X7_sheet [zr 0, zi j, zi a, zi n] M (fun x M1 => zTI G (zw ad) mi_X8_sheet [zr 200, zi j, zi a, zi n] M1 (fun y M2 => x = y ∧ zRel M2)) := by
  obtain ⟨rb, rs, rg, rt, rh, ri⟩ := id hR
  have k3 := rb.1
  have k4 := rs.1
  have nb2 := rb.2.1
  have ns2 := rs.2.1
  refine (t_sheet hj ha hn).weaken ?_
  rintro x M1 q1
  refine (u_sheet hj ha hn).weaken ?_
  rintro y M2 q2
  rcases q1 with ⟨w, e, e1⟩ | ⟨w, e, e1⟩ | ⟨w, e, e1⟩
  · rcases q2 with ⟨w2, e2, e3⟩ | ⟨w2, e2, e3⟩ | ⟨w2, e2, e3⟩
    · exact ⟨by omega, by rw [e3, e1]; exact hR⟩
    · omega
    · omega
  · rcases q2 with ⟨w2, e2, e3⟩ | ⟨w2, e2, e3⟩ | ⟨w2, e2, e3⟩
    · omega
    · exact ⟨by omega, by rw [e3, e1]; exact hR⟩
    · omega
  · rcases q2 with ⟨w2, e2, e3⟩ | ⟨w2, e2, e3⟩ | ⟨w2, e2, e3⟩
    · omega
    · omega
    · refine ⟨by omega, ?_⟩
      have fil : ∀ r, r ≠ 181 + j → zfil M (181 + j) 100 0 r = M r := fun r h => by
        funext t
        exact if_neg (by omega)
      have fip : ∀ (K : zM) r, r ≠ 225 → zfip K 225 (100 * j) 100 0 r = K r := fun K r h => by
        funext t
        exact if_neg (by omega)
      have kk : ∀ r, r ≠ 177 + j → r ≠ 181 + j → r ≠ 223 → r ≠ 224 → r ≠ 225 → M2 r = M r := fun r h1 h2 h3 h4 h5 => by
        rw [e3, fip _ r h5, zset_o h4, zset_o h3, e1, zset_o h1, zset_o h1, zset_o h1, fil r h2]
      have ka : ∀ i : Int, i < 177 ∨ i = 200 ∨ i = 201 ∨ i = 202 ∨ i = 205 ∨ i = 206 ∨ i = 220 → M2 i = M i := fun i hi => kk i (by omega) (by omega) (by omega) (by omega) (by omega)
      have kc : ∀ i c : Int, i < 177 ∨ i = 200 → M2 i c = M i c := fun i c hi => by rw [ka i (by omega)]
      refine ⟨zRb_c (kc 1 3 (by omega)) (kc 200 2 (by omega)) (fun r hr => ka r (by omega)) (ka 201 (by omega)) rb,
        zRs_c (kc 1 4 (by omega)) (kc 200 3 (by omega)) (fun r hr => ka r (by omega)) (ka 202 (by omega)) rs,
        zRg_c (ka 4 (by omega)) (ka 205 (by omega)) rg,
        zRt_c (kc 55 2 (by omega)) (kc 200 6 (by omega)) (ka 56 (by omega)) (ka 206 (by omega)) rt, ?_,
        zRi_c (kc 0 2 (by omega)) (kc 200 18 (by omega)) (kc 200 20 (by omega)) (kc 200 21 (by omega)) (fun r hr => ka r (by omega)) (ka 220 (by omega)) ri⟩
      intro p hp
      obtain ⟨h1, h2, h3, h4, h5, h6⟩ := rh p hp
      by_cases q : p = j
      · subst q
        have f1 : M2 (177 + p) 1 = 1 := by
          rw [e3, fip _ _ (by omega), zset_o (by omega), zset_o (by omega), e1, zset_n (by omega), zset_n (by omega), zset_s]
        have f2 : M2 (177 + p) 2 = a := by
          rw [e3, fip _ _ (by omega), zset_o (by omega), zset_o (by omega), e1, zset_n (by omega), zset_s]
        have f3 : M2 (177 + p) 3 = n := by
          rw [e3, fip _ _ (by omega), zset_o (by omega), zset_o (by omega), e1, zset_s]
        have f4 : M2 223 p = a := by
          rw [e3, fip _ _ (by omega), zset_o (by omega), zset_s]
        have f5 : M2 224 p = n := by
          rw [e3, fip _ _ (by omega), zset_s]
        rw [f1, f2, f3, f4, f5]
        refine ⟨Or.inr rfl, by omega, by omega, (if_pos rfl).symm, rfl, fun i hi => ?_⟩
        have f6 : M2 225 (100 * p + i) = 0 := by
          rw [e3]
          exact if_pos (by omega)
        have f7 : M2 (181 + p) i = 0 := by
          rw [e3, fip _ _ (by omega), zset_o (by omega), zset_o (by omega), e1, zset_o (by omega), zset_o (by omega), zset_o (by omega)]
          exact if_pos (by omega)
        rw [f6, f7]
        omega
      · have f1 : M2 (177 + p) = M (177 + p) := kk _ (by omega) (by omega) (by omega) (by omega) (by omega)
        have f2 : M2 (181 + p) = M (181 + p) := kk _ (by omega) (by omega) (by omega) (by omega) (by omega)
        have f4 : M2 223 p = M 223 p := by
          rw [e3, fip _ _ (by omega), zset_o (by omega), zset_n q, e1, zset_o (by omega), zset_o (by omega), zset_o (by omega), fil _ (by omega)]
        have f5 : M2 224 p = M 224 p := by
          rw [e3, fip _ _ (by omega), zset_n q, zset_o (by omega), e1, zset_o (by omega), zset_o (by omega), zset_o (by omega), fil _ (by omega)]
        rw [f1, f2, f4, f5]
        refine ⟨h1, h2, h3, h4, h5, fun i hi => ?_⟩
        have f6 : M2 225 (100 * p + i) = M 225 (100 * p + i) := by
          have f7 : zfip (zset (zset M1 223 j a) 224 j n) 225 (100 * j) 100 0 225 (100 * p + i) = zset (zset M1 223 j a) 224 j n 225 (100 * p + i) := if_neg (by omega)
          rw [e3, f7, zset_o (by omega), zset_o (by omega), e1, zset_o (by omega), zset_o (by omega), zset_o (by omega), fil _ (by omega)]
        rw [f6]
        exact h6 i hi

set_option maxHeartbeats 1000000 in
theorem s_drop {G : zG} {ad : Int → Nat} {M : zM} {j : Int} (hj : -2147483648 ≤ j ∧ j ≤ 2147483647) (hR : zRel M) : zTI G (zw ad) mi_X7_drop [zr 0, zi j] M (fun x M1 => zTI G (zw ad) mi_X8_drop [zr 200, zi j] M1 (fun y M2 => x = y ∧ zRel M2)) := by
  obtain ⟨rb, rs, rg, rt, rh, ri⟩ := id hR
  have k3 := rb.1
  have k4 := rs.1
  have nb2 := rb.2.1
  have ns2 := rs.2.1
  refine (t_drop hj (zRh_th rh)).weaken ?_
  rintro x M1 q1
  have m223 : M1 223 = M 223 := by
    rcases q1 with ⟨w, e, e1⟩ | ⟨w, e, e1⟩ | ⟨w, e, e1⟩
    · rw [e1]
    · rw [e1]
    · rw [e1, zset_o (by omega)]
  have m224 : M1 224 = M 224 := by
    rcases q1 with ⟨w, e, e1⟩ | ⟨w, e, e1⟩ | ⟨w, e, e1⟩
    · rw [e1]
    · rw [e1]
    · rw [e1, zset_o (by omega)]
  refine (u_drop hj (by rw [m223]; exact zRh_la2 rh)).weaken ?_
  rintro y M2 q2
  rw [m223, m224] at q2
  by_cases ok : 0 ≤ j ∧ j ≤ 3
  · obtain ⟨h1, h2, h3, h4, h5, h6⟩ := rh j (by omega)
    rcases q1 with ⟨w, e, e1⟩ | ⟨⟨_, w⟩, e, e1⟩ | ⟨⟨_, w⟩, e, e1⟩
    · omega
    · rw [w, if_neg (by omega)] at h4
      rcases q2 with ⟨w2, e2, e3⟩ | ⟨w2, e2, e3⟩ | ⟨w2, e2, e3⟩
      · omega
      · exact ⟨by omega, by rw [e3, e1]; exact hR⟩
      · omega
    · rw [w, if_pos rfl] at h4
      rcases q2 with ⟨w2, e2, e3⟩ | ⟨w2, e2, e3⟩ | ⟨w2, e2, e3⟩
      · omega
      · omega
      · refine ⟨by omega, ?_⟩
        have kk : ∀ r, r ≠ 177 + j → r ≠ 223 → r ≠ 223 → r ≠ 223 → M2 r = M r := fun r a1 a2 _ _ => by
          rw [e3, zset_o a2, e1, zset_o a1]
        have ka : ∀ i : Int, i < 177 ∨ i = 200 ∨ i = 201 ∨ i = 202 ∨ i = 205 ∨ i = 206 ∨ i = 220 → M2 i = M i := fun i hi => kk i (by omega) (by omega) (by omega) (by omega)
        have kc : ∀ i c : Int, i < 177 ∨ i = 200 → M2 i c = M i c := fun i c hi => by rw [ka i (by omega)]
        refine ⟨zRb_c (kc 1 3 (by omega)) (kc 200 2 (by omega)) (fun r hr => ka r (by omega)) (ka 201 (by omega)) rb,
          zRs_c (kc 1 4 (by omega)) (kc 200 3 (by omega)) (fun r hr => ka r (by omega)) (ka 202 (by omega)) rs,
          zRg_c (ka 4 (by omega)) (ka 205 (by omega)) rg,
          zRt_c (kc 55 2 (by omega)) (kc 200 6 (by omega)) (ka 56 (by omega)) (ka 206 (by omega)) rt, ?_,
          zRi_c (kc 0 2 (by omega)) (kc 200 18 (by omega)) (kc 200 20 (by omega)) (kc 200 21 (by omega)) (fun r hr => ka r (by omega)) (ka 220 (by omega)) ri⟩
        intro p hp
        obtain ⟨c1, c2, c3, c4, c5, c6⟩ := rh p hp
        have f2 : M2 (181 + p) = M (181 + p) := kk _ (by omega) (by omega) (by omega) (by omega)
        have f3 : M2 224 = M 224 := kk _ (by omega) (by omega) (by omega) (by omega)
        have f4 : M2 225 = M 225 := kk _ (by omega) (by omega) (by omega) (by omega)
        rw [f2, f3, f4]
        by_cases q : p = j
        · subst q
          have g1 : M2 (177 + p) 1 = 0 := by rw [e3, zset_o (by omega), e1, zset_s]
          have g2 : ∀ c, c ≠ 1 → M2 (177 + p) c = M (177 + p) c := fun c hc => by rw [e3, zset_o (by omega), e1, zset_n hc]
          have g3 : M2 223 p = -1 := by rw [e3, zset_s]
          rw [g1, g2 2 (by omega), g2 3 (by omega), g3, if_neg (by omega)]
          exact ⟨Or.inl rfl, c2, c3, rfl, c5, c6⟩
        · have g1 : M2 (177 + p) = M (177 + p) := kk _ (by omega) (by omega) (by omega) (by omega)
          have g3 : M2 223 p = M 223 p := by rw [e3, zset_n q, e1, zset_o (by omega)]
          rw [g1, g3]
          exact ⟨c1, c2, c3, c4, c5, c6⟩
  · rcases q1 with ⟨w, e, e1⟩ | ⟨⟨z, w⟩, e, e1⟩ | ⟨⟨z, w⟩, e, e1⟩
    · rcases q2 with ⟨w2, e2, e3⟩ | ⟨w2, e2, e3⟩ | ⟨w2, e2, e3⟩
      · exact ⟨by omega, by rw [e3, e1]; exact hR⟩
      · omega
      · omega
    · omega
    · omega

set_option maxHeartbeats 1000000 in
theorem s_item {G : zG} {ad : Int → Nat} {M : zM} {j a i v : Int} (hj : -2147483648 ≤ j ∧ j ≤ 2147483647) (ha : -2147483648 ≤ a ∧ a ≤ 2147483647) (hi : -2147483648 ≤ i ∧ i ≤ 2147483647) (hv : -2147483648 ≤ v ∧ v ≤ 2147483647) (hR : zRel M) : zTI G (zw ad) mi_X7_item [zr 0, zi j, zi a, zi i, zi v] M (fun x M1 => zTI G (zw ad) mi_X8_item [zr 200, zi j, zi a, zi i, zi v] M1 (fun y M2 => x = y ∧ zRel M2)) := by
  obtain ⟨rb, rs, rg, rt, rh, ri⟩ := id hR
  have k3 := rb.1
  have k4 := rs.1
  have nb2 := rb.2.1
  have ns2 := rs.2.1
  refine (t_item hj ha hi hv (zRh_th rh) (zRh_la rh) (zRh_ln rh)).weaken ?_
  rintro x M1 q1
  have m2 : ∀ r, r = 223 ∨ r = 224 → M1 r = M r := fun r hr => by
    rcases q1 with ⟨w, e, e1⟩ | ⟨w, e, e1⟩ | ⟨w, e, e1⟩
    · rw [e1]
    · rw [e1]
    · rw [e1, zset_o (by omega)]
  have m223 := m2 223 (by omega)
  have m224 := m2 224 (by omega)
  refine (u_item hj ha hi hv (by rw [m223]; exact zRh_la2 rh) (by rw [m224]; exact zRh_ln2 rh)).weaken ?_
  rintro y M2 q2
  rw [m223, m224] at q2
  by_cases ok : (0 ≤ j ∧ j ≤ 3) ∧ (0 ≤ a ∧ a ≤ 2)
  · have lk := zR_lak rh (j := j) (l := a) (i := i) (n := 1) (by omega) ok.2 (by omega)
    rcases q1 with ⟨w, e, e1⟩ | ⟨⟨_, w⟩, e, e1⟩ | ⟨⟨_, w⟩, e, e1⟩
    · omega
    · rcases q2 with ⟨w2, e2, e3⟩ | ⟨w2, e2, e3⟩ | ⟨w2, e2, e3⟩
      · omega
      · exact ⟨by omega, by rw [e3, e1]; exact hR⟩
      · omega
    · rcases q2 with ⟨w2, e2, e3⟩ | ⟨w2, e2, e3⟩ | ⟨w2, e2, e3⟩
      · omega
      · omega
      · refine ⟨by omega, ?_⟩
        have hlk : 0 ≤ i ∧ i + 1 ≤ 100 := by
          have h3 := (rh j (by omega)).2.2.1
          unfold zref at w
          split at w
          · omega
          · split at w
            · omega
            · split at w <;> omega
        have kk : ∀ r, r ≠ 181 + j → r ≠ 225 → r ≠ 225 → r ≠ 225 → M2 r = M r := fun r a1 a2 _ _ => by
          rw [e3, zset_o a2, e1, zset_o a1]
        have ka : ∀ i : Int, i < 177 ∨ i = 200 ∨ i = 201 ∨ i = 202 ∨ i = 205 ∨ i = 206 ∨ i = 220 → M2 i = M i := fun i hi => kk i (by omega) (by omega) (by omega) (by omega)
        have kc : ∀ i c : Int, i < 177 ∨ i = 200 → M2 i c = M i c := fun i c hi => by rw [ka i (by omega)]
        refine ⟨zRb_c (kc 1 3 (by omega)) (kc 200 2 (by omega)) (fun r hr => ka r (by omega)) (ka 201 (by omega)) rb,
          zRs_c (kc 1 4 (by omega)) (kc 200 3 (by omega)) (fun r hr => ka r (by omega)) (ka 202 (by omega)) rs,
          zRg_c (ka 4 (by omega)) (ka 205 (by omega)) rg,
          zRt_c (kc 55 2 (by omega)) (kc 200 6 (by omega)) (ka 56 (by omega)) (ka 206 (by omega)) rt, ?_,
          zRi_c (kc 0 2 (by omega)) (kc 200 18 (by omega)) (kc 200 20 (by omega)) (kc 200 21 (by omega)) (fun r hr => ka r (by omega)) (ka 220 (by omega)) ri⟩
        intro p hp
        obtain ⟨c1, c2, c3, c4, c5, c6⟩ := rh p hp
        have f2 : M2 (177 + p) = M (177 + p) := kk _ (by omega) (by omega) (by omega) (by omega)
        have f3 : M2 224 = M 224 := kk _ (by omega) (by omega) (by omega) (by omega)
        have f4 : M2 223 = M 223 := kk _ (by omega) (by omega) (by omega) (by omega)
        rw [f2, f3, f4]
        refine ⟨c1, c2, c3, c4, c5, fun t ht => ?_⟩
        have c7 := c6 t ht
        by_cases q : p = j ∧ t = i
        · obtain ⟨rfl, rfl⟩ := q
          have hz := zcut_b (a := a) hv
          rw [show M2 (181 + p) t = zcut a v by rw [e3, zset_o (by omega), e1, zset_s], show M2 225 (100 * p + t) = zcuM a v by rw [e3, zset_s], ← zcut_M]
          exact ⟨rfl, hz⟩
        · have g1 : M2 225 (100 * p + t) = M 225 (100 * p + t) := by rw [e3, zset_n (by omega), e1, zset_o (by omega)]
          have g2 : M2 (181 + p) t = M (181 + p) t := by
            rw [e3, zset_o (by omega), e1]
            by_cases q2 : p = j
            · rw [q2, zset_n (by omega)]
            · rw [zset_o (by omega)]
          rw [g1, g2]
          exact c7
  · rcases q1 with ⟨w, e, e1⟩ | ⟨⟨z, w⟩, e, e1⟩ | ⟨⟨z, w⟩, e, e1⟩
    · rcases q2 with ⟨w2, e2, e3⟩ | ⟨⟨z, w2⟩, e2, e3⟩ | ⟨⟨z, w2⟩, e2, e3⟩
      · exact ⟨by omega, by rw [e3, e1]; exact hR⟩
      · exact absurd z ok
      · exact absurd z ok
    · exact absurd z ok
    · exact absurd z ok

set_option maxHeartbeats 1000000 in
theorem s_copy {G : zG} {ad : Int → Nat} {M : zM} {a i c j n : Int} (ha : -2147483648 ≤ a ∧ a ≤ 2147483647) (hi : -2147483648 ≤ i ∧ i ≤ 2147483647) (hc : -2147483648 ≤ c ∧ c ≤ 2147483647) (hj : -2147483648 ≤ j ∧ j ≤ 2147483647) (hn : -2147483648 ≤ n ∧ n ≤ 2147483647) (hR : zRel M) : zTI G (zw ad) mi_X7_copy [zr 0, zi a, zi i, zi c, zi j, zi n] M (fun x M1 => zTI G (zw ad) mi_X8_copy [zr 200, zi a, zi i, zi c, zi j, zi n] M1 (fun y M2 => x = y ∧ zRel M2)) := by
  obtain ⟨rb, rs, rg, rt, rh, ri⟩ := id hR
  have k3 := rb.1
  have k4 := rs.1
  have nb2 := rb.2.1
  have ns2 := rs.2.1
  refine (t_copy ha hi hc hj hn (zRh_th rh) (zRh_la rh) (zRh_ln rh)).weaken ?_
  rintro x M1 q1
  have m2 : ∀ r, r = 223 ∨ r = 224 → M1 r = M r := fun r hr => by
    rcases q1 with ⟨w, e, e1⟩ | ⟨w, e, e1⟩ | ⟨w, e, e1⟩ | ⟨w, e, e1⟩ | ⟨w, e, e1⟩
    · rw [e1]
    · rw [e1]
    · rw [e1]
    · rw [e1]
    · rw [e1, zcy_o (by omega)]
  have m223 := m2 223 (by omega)
  have m224 := m2 224 (by omega)
  refine (u_copy ha hi hc hj hn (by rw [m223]; exact zRh_la2 rh) (by rw [m224]; exact zRh_ln2 rh)).weaken ?_
  rintro y M2 q2
  rw [m223, m224] at q2
  by_cases ok : (0 ≤ a ∧ a ≤ 3) ∧ (0 ≤ c ∧ c ≤ 3)
  · obtain ⟨a1, a2, a3, a4, a5, a6⟩ := rh a (by omega)
    obtain ⟨c1, c2, c3, c4, c5, c6⟩ := rh c (by omega)
    have x1 : (M (177 + a) 1 ≠ 0 ∧ M 223 a = M (177 + a) 2) ∨ (M (177 + a) 1 = 0 ∧ M 223 a = -1) := by
      by_cases q : M (177 + a) 1 = 1
      · rw [if_pos q] at a4
        omega
      · rw [if_neg q] at a4
        omega
    have x2 : (M (177 + c) 1 ≠ 0 ∧ M 223 c = M (177 + c) 2) ∨ (M (177 + c) 1 = 0 ∧ M 223 c = -1) := by
      by_cases q : M (177 + c) 1 = 1
      · rw [if_pos q] at c4
        omega
      · rw [if_neg q] at c4
        omega
    have z1 : M (177 + a) 1 ≠ 0 → (zref (M (177 + a) 1) (M (177 + a) 2) (M (177 + a) 3) (M (177 + c) 2) i n = -12 ∧ M (177 + a) 2 ≠ M (177 + c) 2) ∨ (zref (M (177 + a) 1) (M (177 + a) 2) (M (177 + a) 3) (M (177 + c) 2) i n = -13 ∧ M (177 + a) 2 = M (177 + c) 2 ∧ (i < 0 ∨ n < 0 ∨ M (177 + a) 3 - n < i)) ∨ (zref (M (177 + a) 1) (M (177 + a) 2) (M (177 + a) 3) (M (177 + c) 2) i n = 0 ∧ M (177 + a) 2 = M (177 + c) 2 ∧ ¬ (i < 0 ∨ n < 0 ∨ M (177 + a) 3 - n < i)) := by
      intro h
      unfold zref
      rw [if_neg h]
      by_cases q : M (177 + a) 2 = M (177 + c) 2
      · rw [if_neg (fun z => z q)]
        by_cases r : i < 0 ∨ n < 0 ∨ M (177 + a) 3 - n < i
        · rw [if_pos r]
          exact Or.inr (Or.inl ⟨rfl, q, r⟩)
        · rw [if_neg r]
          exact Or.inr (Or.inr ⟨rfl, q, r⟩)
      · rw [if_pos q]
        exact Or.inl ⟨rfl, q⟩
    have z2 : M (177 + c) 1 ≠ 0 → (zref (M (177 + c) 1) (M (177 + c) 2) (M (177 + c) 3) (M (177 + c) 2) j n = -13 ∧ (j < 0 ∨ n < 0 ∨ M (177 + c) 3 - n < j)) ∨ (zref (M (177 + c) 1) (M (177 + c) 2) (M (177 + c) 3) (M (177 + c) 2) j n = 0 ∧ ¬ (j < 0 ∨ n < 0 ∨ M (177 + c) 3 - n < j)) := by
      intro h
      unfold zref
      rw [if_neg h, if_neg (fun z => z rfl)]
      by_cases r : j < 0 ∨ n < 0 ∨ M (177 + c) 3 - n < j
      · rw [if_pos r]
        exact Or.inl ⟨rfl, r⟩
      · rw [if_neg r]
        exact Or.inr ⟨rfl, r⟩
    have keep : x = y → M1 = M → M2 = M1 → x = y ∧ zRel M2 := fun h h1 h2 => ⟨h, by rw [h2, h1]; exact hR⟩
    rcases q1 with ⟨w, e, e1⟩ | ⟨w, e, e1⟩ | ⟨w, e, e1⟩ | ⟨w, e, e1⟩ | ⟨w, e, e1⟩
    · omega
    · rcases q2 with ⟨w2, e2, e3⟩ | ⟨w2, e2, e3⟩ | ⟨w2, e2, e3⟩ | ⟨w2, e2, e3⟩ | ⟨w2, e2, e3⟩
      · omega
      · exact keep (by omega) e1 e3
      · omega
      · omega
      · omega
    · have z1 := z1 w.2.2.1.1
      rcases q2 with ⟨w2, e2, e3⟩ | ⟨w2, e2, e3⟩ | ⟨w2, e2, e3⟩ | ⟨w2, e2, e3⟩ | ⟨w2, e2, e3⟩
      · omega
      · omega
      · exact keep (by omega) e1 e3
      · exact keep (by omega) e1 e3
      · omega
    · have z1 := z1 w.2.2.1.1
      have z2 := z2 w.2.2.1.2
      rcases q2 with ⟨w2, e2, e3⟩ | ⟨w2, e2, e3⟩ | ⟨w2, e2, e3⟩ | ⟨w2, e2, e3⟩ | ⟨w2, e2, e3⟩
      · omega
      · omega
      · omega
      · exact keep (by omega) e1 e3
      · omega
    · have z1 := z1 w.2.2.1.1
      have z2 := z2 w.2.2.1.2
      rcases q2 with ⟨w2, e2, e3⟩ | ⟨w2, e2, e3⟩ | ⟨w2, e2, e3⟩ | ⟨w2, e2, e3⟩ | ⟨w2, e2, e3⟩
      · omega
      · omega
      · omega
      · omega
      · refine ⟨by omega, ?_⟩
        have hnb : 0 ≤ n ∧ (0 ≤ i ∧ i + n ≤ 100) ∧ (0 ≤ j ∧ j + n ≤ 100) := by omega
        have kk : ∀ r, r ≠ 181 + c → r ≠ 225 → r ≠ 226 → r ≠ 226 → M2 r = M r := fun r b1 b2 b3 _ => by
          rw [e3, zcy_o b2, zcy_o b3, e1, zcy_o b1]
        have ka : ∀ i : Int, i < 177 ∨ i = 200 ∨ i = 201 ∨ i = 202 ∨ i = 205 ∨ i = 206 ∨ i = 220 → M2 i = M i := fun i hi => kk i (by omega) (by omega) (by omega) (by omega)
        have kc : ∀ i c : Int, i < 177 ∨ i = 200 → M2 i c = M i c := fun i c hi => by rw [ka i (by omega)]
        refine ⟨zRb_c (kc 1 3 (by omega)) (kc 200 2 (by omega)) (fun r hr => ka r (by omega)) (ka 201 (by omega)) rb,
          zRs_c (kc 1 4 (by omega)) (kc 200 3 (by omega)) (fun r hr => ka r (by omega)) (ka 202 (by omega)) rs,
          zRg_c (ka 4 (by omega)) (ka 205 (by omega)) rg,
          zRt_c (kc 55 2 (by omega)) (kc 200 6 (by omega)) (ka 56 (by omega)) (ka 206 (by omega)) rt, ?_,
          zRi_c (kc 0 2 (by omega)) (kc 200 18 (by omega)) (kc 200 20 (by omega)) (kc 200 21 (by omega)) (fun r hr => ka r (by omega)) (ka 220 (by omega)) ri⟩
        intro p hp
        obtain ⟨d1, d2, d3, d4, d5, d6⟩ := rh p hp
        have f2 : M2 (177 + p) = M (177 + p) := kk _ (by omega) (by omega) (by omega) (by omega)
        have f3 : M2 224 = M 224 := kk _ (by omega) (by omega) (by omega) (by omega)
        have f4 : M2 223 = M 223 := kk _ (by omega) (by omega) (by omega) (by omega)
        rw [f2, f3, f4]
        refine ⟨d1, d2, d3, d4, d5, fun t ht => ?_⟩
        have m225 : M1 225 = M 225 := by rw [e1, zcy_o (by omega)]
        by_cases q : p = c ∧ (j ≤ t ∧ t < j + n)
        · obtain ⟨rfl, ht2⟩ := q
          have g1 : M2 225 (100 * p + t) = M 225 (100 * a + (i + (t - j))) := by
            rw [e3, zcy_i (by omega), zcy_i (by omega), m225, show 100 * a + i + (0 + (100 * p + t - (100 * p + j)) - 0) = 100 * a + (i + (t - j)) by omega]
          have g2 : M2 (181 + p) t = M (181 + a) (i + (t - j)) := by
            rw [e3, zcy_o (by omega), zcy_o (by omega), e1, zcy_i (by omega)]
          rw [g1, g2]
          exact a6 _ (by omega)
        · have g1 : M2 225 (100 * p + t) = M 225 (100 * p + t) := by
            rw [e3, zcy_n (by omega), zcy_o (by omega), m225]
          have g2 : M2 (181 + p) t = M (181 + p) t := by
            rw [e3, zcy_o (by omega), zcy_o (by omega), e1]
            by_cases q2 : p = c
            · rw [q2, zcy_n (by omega)]
            · rw [zcy_o (by omega)]
          rw [g1, g2]
          exact d6 t ht
  · have keep : x = y → M1 = M → M2 = M1 → x = y ∧ zRel M2 := fun h h1 h2 => ⟨h, by rw [h2, h1]; exact hR⟩
    rcases q1 with ⟨w, e, e1⟩ | ⟨w, e, e1⟩ | ⟨w, e, e1⟩ | ⟨w, e, e1⟩ | ⟨w, e, e1⟩
    · rcases q2 with ⟨w2, e2, e3⟩ | ⟨w2, e2, e3⟩ | ⟨w2, e2, e3⟩ | ⟨w2, e2, e3⟩ | ⟨w2, e2, e3⟩
      · exact keep (by omega) e1 e3
      · omega
      · omega
      · omega
      · omega
    · omega
    · omega
    · omega
    · omega

