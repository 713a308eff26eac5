/-! the class: ways for all, most, chain -/
theorem zprm_i {M : zM} {f : Int → Int → Int} {n t s b : Int} (hs : 0 ≤ s ∧ s < t) (ht : t ≤ 16) (hb : 0 ≤ b ∧ b < n) : zprm M f n t 0 (78 + s) b = f s b := by
  unfold zprm
  rw [if_pos (by omega), show 78 + s - 78 = s by omega]
theorem zprm_r {M : zM} {f : Int → Int → Int} {n s b : Int} : zprm M f n s b (78 + s) b = M (78 + s) b := if_neg (by omega)
theorem zprm_k {M : zM} {f : Int → Int → Int} {n s b : Int} (hs : 0 ≤ s ∧ s < 16) (hb : 0 ≤ b ∧ b < n) (hv : M (78 + s) b = f s b) : zprm M f n s b = zprm M f n s (b + 1) := by
  funext r j
  unfold zprm
  by_cases h : r = 78 + s ∧ j = b
  · rw [if_neg (by omega), if_pos (by omega), h.1, h.2, show 78 + s - 78 = s by omega, hv]
  · by_cases h2 : 78 ≤ r ∧ r ≤ 93 ∧ 0 ≤ j ∧ j < n ∧ (r < 78 + s ∨ (r = 78 + s ∧ j < b))
    · rw [if_pos h2, if_pos (by omega)]
    · rw [if_neg h2, if_neg (by omega)]
/-- the shoes of the first b brides, out of a price -/
def zsho (M : zM) (best b : Int) : zM := fun r j => if r = 77 ∧ 0 ≤ j ∧ j < b then best / zp2 (4 * (6 - j)) % 16 else M r j
theorem zsho_o {M : zM} {best b r : Int} (h : r ≠ 77) : zsho M best b r = M r := by
  funext j
  exact if_neg fun q => h q.1
theorem zsho_0 {M : zM} {best : Int} : zsho M best 0 = M := by
  funext r j
  exact if_neg (by omega)
theorem zsho_s {M : zM} {best b : Int} (hb : 0 ≤ b) : zset (zsho M best b) 77 b (best / zp2 (4 * (6 - b)) % 16) = zsho M best (b + 1) := by
  funext r j
  unfold zset zsho
  by_cases h : r = 77 ∧ j = b
  · rw [if_pos h, if_pos (by omega), h.2]
  · rw [if_neg h]
    by_cases h2 : r = 77 ∧ 0 ≤ j ∧ j < b
    · rw [if_pos h2, if_pos (by omega)]
    · rw [if_neg h2, if_neg (by omega)]
theorem zsho_i {M : zM} {best n b : Int} (hb : 0 ≤ b ∧ b < n) : zsho M best n 77 b = best / zp2 (4 * (6 - b)) % 16 := if_pos (by omega)
/-- the least price of all the brides -/
def zbst (pr : Int → Int → Int) (M : zM) : Int := zds pr (M 1 3) (M 1 4).toNat (zp2 (M 1 3) - 1)
/-- the memory with prices and the least ones -/
def zpls (M : zM) (pr : Int → Int → Int) : zM := zlea (zprm M pr (M 1 3) (M 1 4) 0) (zds pr (M 1 3) (M 1 4).toNat)
theorem zpls_o {M : zM} {pr : Int → Int → Int} {r : Int} (h : r < 76 ∨ r = 77 ∨ 93 < r) : zpls M pr r = M r := by
  unfold zpls
  rw [zlea_o (by omega), zprm_o (by omega)]
theorem zpls_i {M : zM} {pr : Int → Int → Int} {j : Int} (h : 0 ≤ j ∧ j ≤ 127) : zpls M pr 76 j = zds pr (M 1 3) (M 1 4).toNat j := zlea_i h
theorem zpls_p {M : zM} {pr : Int → Int → Int} (hns : M 1 4 ≤ 16) {s b : Int} (hs : 0 ≤ s ∧ s < M 1 4) (hb : 0 ≤ b ∧ b < M 1 3) : zpls M pr (78 + s) b = pr s b := by
  unfold zpls
  rw [zlea_o (by omega), zprm_i hs hns hb]
theorem zbst_b {pr : Int → Int → Int} {M : zM} (hnb : 0 ≤ M 1 3 ∧ M 1 3 ≤ 7) (hns : 0 ≤ M 1 4 ∧ M 1 4 ≤ 16) (hP : ∀ s b, 0 ≤ s ∧ s < M 1 4 → 0 ≤ b ∧ b < M 1 3 → -1 ≤ pr s b ∧ pr s b ≤ 8589934592) : ∀ j, 0 ≤ j ∧ j ≤ 127 → -1 ≤ zds pr (M 1 3) (M 1 4).toNat j ∧ zds pr (M 1 3) (M 1 4).toNat j ≤ 137438953472 := by
  intro j hj
  have := zds_b (pr := pr) hnb (M 1 4).toNat (fun q b hq hb => hP q b (by omega) hb) j hj
  omega
theorem t_addShoesP {G : zG} {ad : Int → Nat} {M : zM} {pr : Int → Int → Int} (hnb : 0 ≤ M 1 3 ∧ M 1 3 ≤ 7) (hns : 0 ≤ M 1 4 ∧ M 1 4 ≤ 16) (hP : ∀ s b, 0 ≤ s ∧ s < M 1 4 → 0 ≤ b ∧ b < M 1 3 → -1 ≤ pr s b ∧ pr s b ≤ 8589934592) : zTV G (zw ad) mi_X6_addShoes [zr 74, zr 1] (zprm M pr (M 1 3) (M 1 4) 0) (fun M' => M' = zpls M pr) := by
  have e := t_addShoes (G := G) (ad := ad) (M := zprm M pr (M 1 3) (M 1 4) 0) (pr := pr) (by rw [zprm_o (by omega)]; exact hnb) (by rw [zprm_o (by omega)]; exact hns) (by rw [zprm_o (by omega)]; exact fun s b hs hb => zprm_i hs hns.2 hb) (by rw [zprm_o (by omega)]; exact hP)
  rw [zprm_o (show (1 : Int) < 78 ∨ 93 < (1 : Int) by omega)] at e
  exact e
theorem zkey_B {M : zM} {d : Int} (hnb : 0 ≤ M 1 3 ∧ M 1 3 ≤ 7) (hns : 0 ≤ M 1 4 ∧ M 1 4 ≤ 16) (h1 : 0 ≤ M 4 1 ∧ M 4 1 ≤ 6) : ∀ s b, 0 ≤ s ∧ s < M 1 4 → 0 ≤ b ∧ b < M 1 3 → -1 ≤ zkey (zak M d) s b ∧ zkey (zak M d) s b ≤ 8589934592 := fun s b hs hb => zkey_b (zak_b h1) (by omega) (by omega)
set_option maxHeartbeats 4000000 in
set_option maxRecDepth 100000 in
theorem t_findForAll {G : zG} {ad : Int → Nat} {M : zM} {d : Int} (hd : 0 ≤ d ∧ d ≤ 1) (hnb : 0 ≤ M 1 3 ∧ M 1 3 ≤ 7) (hns : 0 ≤ M 1 4 ∧ M 1 4 ≤ 16) (hB : ∀ b, 0 ≤ b ∧ b < M 1 3 → zBR (M (5 + b))) (hS : ∀ s, 0 ≤ s ∧ s < M 1 4 → zSR (M (12 + s))) (h0 : 0 ≤ M 4 0 ∧ M 4 0 ≤ 6) (h1 : 0 ≤ M 4 1 ∧ M 4 1 ≤ 6)  : zTI G (zw ad) mi_X6_findForAll [zr 74, zr 1, zi d] M (fun x M' => (x = 0 ∧ zbst (zkey (zak M d)) M = -1 ∧ M' = (zpls M (zkey (zak M d)))) ∨ (x = 1 ∧ zbst (zkey (zak M d)) M ≠ -1 ∧ M' = zsho (zset (zpls M (zkey (zak M d))) 74 3 (zbst (zkey (zak M d)) M / zp2 28)) (zbst (zkey (zak M d)) M) (M 1 3))) := by
  refine zTI.ofZ (own := RX6) (ls := [some (zr 74), some (zr 1), some (zi d), none, none, none]) (by decide +kernel) rfl rfl (Nat.le_of_ble_eq_true rfl) (fun γ ok rt => ?_)
  have bb := zbst_b (pr := (zkey (zak M d))) hnb hns (zkey_B hnb hns h1) (zp2 (M 1 3) - 1) (by have := zp2_pos (M 1 3); have : zp2 (M 1 3) ≤ 128 := zp2_le (b := 7) hnb.2; omega)
  have bd : zds (zkey (zak M d)) (M 1 3) (M 1 4).toNat (zp2 (M 1 3) - 1) = zbst (zkey (zak M d)) M := rfl
  rw [bd] at bb
  have p1 := zp2_pos (M 1 3)
  have p2 : zp2 (M 1 3) ≤ 128 := zp2_le (b := 7) hnb.2
  refine v_aload_0 ok dX6_findForAll_0 (n := 1) rfl ?_
  refine v_aload_1 ok dX6_findForAll_1 (n := 2) rfl ?_
  refine v_iload_2 ok dX6_findForAll_2 (n := 3) rfl ?_
  refine v_callVV ok (mi := mi_X6_priceAsked) mc_X6_priceAsked cv_X6_28 ly_74 rfl rfl rfl (by decide) ⟨Nat.zero_le _, Nat.zero_le _⟩ dX6_findForAll_3 (n := 6) rfl rfl rfl (Nat.le_of_ble_eq_true rfl) (t_priceAsked hd hnb hns hB hS h0 h1) (fun N0 g0 => ?_)
  subst g0
  refine v_aload_0 ok dX6_findForAll_6 (n := 7) rfl ?_
  refine v_aload_1 ok dX6_findForAll_7 (n := 8) rfl ?_
  refine v_callVV ok (mi := mi_X6_addShoes) mc_X6_addShoes cv_X6_32 ly_74 rfl rfl rfl (by decide) ⟨Nat.zero_le _, Nat.zero_le _⟩ dX6_findForAll_8 (n := 11) rfl rfl rfl (Nat.le_of_ble_eq_true rfl) (t_addShoesP hnb hns (zkey_B hnb hns h1)) (fun N1 g1 => ?_)
  subst g1
  refine v_aload_0 ok dX6_findForAll_11 (n := 12) rfl ?_
  refine v_getR ok fd_X6_16 ly_74 rfl rfl rfl rf_74_1 dX6_findForAll_12 (n := 15) rfl ?_
  refine v_iconst ok dX6_findForAll_15 (n := 16) rfl ?_
  refine v_aload_1 ok dX6_findForAll_16 (n := 17) rfl ?_
  refine v_getI ok fd_X6_36 ly_1 rfl rfl (jI := 3) rfl dX6_findForAll_17 (n := 20) rfl ?_
  try simp (disch := omega) only [zpls_o]
  refine v_ishl ok dX6_findForAll_20 (n := 21) rfl ?_
  rw [zshl_1 (by omega)]
  refine v_iconst ok dX6_findForAll_21 (n := 22) rfl ?_
  refine v_isub ok dX6_findForAll_22 (n := 23) rfl ?_
  refine v_lald ok ly_76 rfl (by omega) (by decide) dX6_findForAll_23 (n := 24) rfl ?_
  try simp (disch := omega) only [zpls_o]
  rw [zpls_i (by omega), bd]
  refine v_lstore_3 ok (by decide) rfl dX6_findForAll_24 (n := 25) rfl ?_
  refine v_lload_3 ok dX6_findForAll_25 (n := 26) rfl ?_
  refine v_ldc2 ok (c := -1) kc_X6_41 (by decide) dX6_findForAll_26 (n := 29) rfl ?_
  refine v_lcmp ok (by omega) (by omega) dX6_findForAll_29 (n := 30) rfl ?_
  refine v_if_ne ok dX6_findForAll_30 (tgt := 35) (by decide) (n := 33) rfl (zcmp_b _ _) (fun c30_1 => ?_) (fun c30_1 => ?_)
  · have c30_1 := zcmp_nz c30_1
    refine v_aload_0 ok dX6_findForAll_35 (n := 36) rfl ?_
    refine v_lload_3 ok dX6_findForAll_36 (n := 37) rfl ?_
    refine v_bipush ok (by decide) dX6_findForAll_37 (n := 39) rfl ?_
    refine v_lushr ok dX6_findForAll_39 (n := 40) rfl ?_
    rw [zushrJ_n (by omega) (by omega)]
    refine v_l2i ok dX6_findForAll_40 (n := 41) rfl ?_
    refine v_putI ok fw_X6_24 ly_74 rfl rfl (jI := 3) rfl dX6_findForAll_41 (n := 44) rfl ?_
    have bne : zbst (zkey (zak M d)) M ≠ -1 := c30_1
    have lp : ∀ (zn : Nat) (b : Int), zn = (7 - b).toNat → (0 ≤ b ∧ b ≤ M 1 3) → zVV G γ (zw ad) (0, 0) 47 [some (zr 74), some (zr 1), some (zi d), some (zj (zbst (zkey (zak M d)) M)), none, some (zi b)] [] (zsho (zset (zpls M (zkey (zak M d))) 74 3 (zbst (zkey (zak M d)) M / zp2 28)) (zbst (zkey (zak M d)) M) b) := by
      refine zrec _ (fun zn ih => ?_)
      intro b hzn hb
      refine v_iload_5 ok dX6_findForAll_47 (n := 49) rfl ?_
      refine v_aload_1 ok dX6_findForAll_49 (n := 50) rfl ?_
      refine v_getI ok fd_X6_36 ly_1 rfl rfl (jI := 3) rfl dX6_findForAll_50 (n := 53) rfl ?_
      try simp (disch := omega) only [zsho_o, zset_o, zpls_o]
      refine v_icmp_ge ok dX6_findForAll_53 (tgt := 80) (by decide) (n := 56) rfl (by omega) (by omega) (fun c53_1 => ?_) (fun c53_1 => ?_)
      · have c53_1 := c53_1
        refine v_iconst ok dX6_findForAll_80 (n := 81) rfl ?_
        refine v_zret rt dX6_findForAll_81 (by omega) ?_
        have hbe : b = M 1 3 := by omega
        subst hbe
        exact Or.inr ⟨rfl, bne, rfl⟩
      · have c53_1 := c53_1
        refine v_aload_0 ok dX6_findForAll_56 (n := 57) rfl ?_
        refine v_getR ok fd_X6_20 ly_74 rfl rfl rfl rf_74_2 dX6_findForAll_57 (n := 60) rfl ?_
        refine v_iload_5 ok dX6_findForAll_60 (n := 62) rfl ?_
        refine v_lload_3 ok dX6_findForAll_62 (n := 63) rfl ?_
        refine v_iload_5 ok dX6_findForAll_63 (n := 65) rfl ?_
        refine v_callSI ok (mi := mi_X6_shiftOf) mc_X6_shiftOf cs_X6_43 (by decide) ⟨Nat.zero_le _, Nat.zero_le _⟩ dX6_findForAll_65 (n := 68) rfl rfl rfl (Nat.le_of_ble_eq_true rfl) (t_shiftOf) (fun x2 N2 g2 => ?_)
        obtain ⟨g2, rfl⟩ := g2
        subst N2
        refine v_lushr ok dX6_findForAll_68 (n := 69) rfl ?_
        rw [zushrJ_n (by omega) (by omega)]
        refine v_l2i ok dX6_findForAll_69 (n := 70) rfl ?_
        refine v_bipush ok (by decide) dX6_findForAll_70 (n := 72) rfl ?_
        refine v_iand ok dX6_findForAll_72 (n := 73) rfl ?_
        rw [zand_15J (Int.ediv_nonneg (by omega) (Int.le_of_lt (zp2_pos _)))]
        refine v_iast ok ly_77 rfl (by omega) (by decide) dX6_findForAll_73 (n := 74) rfl ?_
        rw [zsho_s (by omega)]
        refine v_iinc_5 ok (by decide) rfl dX6_findForAll_74 (n := 77) rfl ?_
        refine v_goto ok dX6_findForAll_77 (n := 47) (by decide) ?_
        exact ih _ (by omega) _ rfl (by omega)
    refine v_iconst ok dX6_findForAll_44 (n := 45) rfl ?_
    refine v_istore_5 ok (by decide) rfl dX6_findForAll_45 (n := 47) rfl ?_
    have e := lp _ 0 rfl (by omega)
    rw [zsho_0] at e
    exact e
  · have c30_1 := zcmp_z c30_1
    refine v_iconst ok dX6_findForAll_33 (n := 34) rfl ?_
    refine v_zret rt dX6_findForAll_34 (by omega) ?_
    exact Or.inl ⟨rfl, c30_1, rfl⟩

/-- the most that are in a set below n of which there is a way -/
def zmst (L : Int → Int) : Nat → Int
  | 0 => 0
  | n + 1 => if L n = -1 then zmst L n else zmax (zmst L n) (zone n)
theorem zmst_b (L : Int → Int) (n : Nat) : 0 ≤ zmst L n ∧ zmst L n ≤ 16 := by
  induction n with
  | zero => exact ⟨Int.le_refl 0, show (0 : Int) ≤ 16 by omega⟩
  | succ n ih =>
    have h := zone_b n
    show 0 ≤ (if L n = -1 then zmst L n else zmax (zmst L n) (zone n)) ∧ (if L n = -1 then zmst L n else zmax (zmst L n) (zone n)) ≤ 16
    unfold zmax
    split
    · exact ih
    · split <;> omega
set_option maxHeartbeats 4000000 in
set_option maxRecDepth 100000 in
theorem t_findMost {G : zG} {ad : Int → Nat} {M : zM} {d : Int} (hd : 0 ≤ d ∧ d ≤ 1) (hnb : 0 ≤ M 1 3 ∧ M 1 3 ≤ 7) (hns : 0 ≤ M 1 4 ∧ M 1 4 ≤ 16) (hB : ∀ b, 0 ≤ b ∧ b < M 1 3 → zBR (M (5 + b))) (hS : ∀ s, 0 ≤ s ∧ s < M 1 4 → zSR (M (12 + s))) (h0 : 0 ≤ M 4 0 ∧ M 4 0 ≤ 6) (h1 : 0 ≤ M 4 1 ∧ M 4 1 ≤ 6)  : zTI G (zw ad) mi_X6_findMost [zr 74, zr 1, zi d] M (fun x M' => x = zmst (zds (zkey (zak M d)) (M 1 3) (M 1 4).toNat) (zp2 (M 1 3)).toNat ∧ M' = (zpls M (zkey (zak M d)))) := by
  refine zTI.of (own := RX6) (ls := [some (zr 74), some (zr 1), some (zi d), none, none]) (by decide +kernel) rfl rfl (Nat.le_of_ble_eq_true rfl) (fun γ ok rt => ?_)
  have p1 := zp2_pos (M 1 3)
  have p2 : zp2 (M 1 3) ≤ 128 := zp2_le (b := 7) hnb.2
  have lp : ∀ (zn : Nat) (j : Int), zn = (128 - j).toNat → (0 ≤ j ∧ j ≤ zp2 (M 1 3)) → zVV G γ (zw ad) (0, 0) 16 [some (zr 74), some (zr 1), some (zi d), some (zi (zmst (zds (zkey (zak M d)) (M 1 3) (M 1 4).toNat) j.toNat)), some (zi j)] [] (zpls M (zkey (zak M d))) := by
    refine zrec _ (fun zn ih => ?_)
    intro j hzn hj
    refine v_iload_4 ok dX6_findMost_16 (n := 18) rfl ?_
    refine v_iconst ok dX6_findMost_18 (n := 19) rfl ?_
    refine v_aload_1 ok dX6_findMost_19 (n := 20) rfl ?_
    refine v_getI ok fd_X6_36 ly_1 rfl rfl (jI := 3) rfl dX6_findMost_20 (n := 23) rfl ?_
    try simp (disch := omega) only [zpls_o]
    refine v_ishl ok dX6_findMost_23 (n := 24) rfl ?_
    rw [zshl_1 (by omega)]
    refine v_icmp_ge ok dX6_findMost_24 (tgt := 57) (by decide) (n := 27) rfl (by omega) (by omega) (fun c24_1 => ?_) (fun c24_1 => ?_)
    · have c24_1 := c24_1
      refine v_iload_3 ok dX6_findMost_57 (n := 58) rfl ?_
      refine v_iret rt dX6_findMost_58 ?_
      have hje : j = zp2 (M 1 3) := by omega
      subst hje
      exact ⟨rfl, rfl⟩
    · have c24_1 := c24_1
      refine v_aload_0 ok dX6_findMost_27 (n := 28) rfl ?_
      refine v_getR ok fd_X6_16 ly_74 rfl rfl rfl rf_74_1 dX6_findMost_28 (n := 31) rfl ?_
      refine v_iload_4 ok dX6_findMost_31 (n := 33) rfl ?_
      refine v_lald ok ly_76 rfl (by omega) (by decide) dX6_findMost_33 (n := 34) rfl ?_
      try simp (disch := omega) only [zpls_o]
      rw [zpls_i (by omega)]
      have bj := zbst_b (pr := (zkey (zak M d))) hnb hns (zkey_B hnb hns h1) j (by omega)
      have mb := zmst_b (zds (zkey (zak M d)) (M 1 3) (M 1 4).toNat) j.toNat
      refine v_ldc2 ok (c := -1) kc_X6_41 (by decide) dX6_findMost_34 (n := 37) rfl ?_
      refine v_lcmp ok (by omega) (by omega) dX6_findMost_37 (n := 38) rfl ?_
      refine v_if_eq ok dX6_findMost_38 (tgt := 51) (by decide) (n := 41) rfl (zcmp_b _ _) (fun c38_2 => ?_) (fun c38_2 => ?_)
      · have c38_2 := zcmp_z c38_2
        refine v_iinc_4 ok (by decide) rfl dX6_findMost_51 (n := 54) rfl ?_
        refine v_goto ok dX6_findMost_54 (n := 16) (by decide) ?_
        have e := ih _ (by omega) (j + 1) rfl (by omega)
        rw [show (j + 1).toNat = j.toNat + 1 by omega] at e
        unfold zmst at e
        rw [show ((j.toNat : Nat) : Int) = j by omega] at e
        first
        | (rw [if_pos (by assumption)] at e; exact e)
        | (rw [if_neg (by assumption)] at e; exact e)
      · have c38_2 := zcmp_nz c38_2
        refine v_iload_3 ok dX6_findMost_41 (n := 42) rfl ?_
        refine v_iload_4 ok dX6_findMost_42 (n := 44) rfl ?_
        refine v_callSI ok (mi := mi_J6_bitCount_0f7a4) mc_J6_bitCount_0f7a4 cs_X6_47 (by decide) ⟨Nat.zero_le _, Nat.zero_le _⟩ dX6_findMost_44 (n := 47) rfl rfl rfl (Nat.le_of_ble_eq_true rfl) (t_bitCount (by omega)) (fun x2 N2 g2 => ?_)
        obtain ⟨g2, rfl⟩ := g2
        subst N2
        have ob := zone_b j
        refine v_max ok mm_X6_52 ⟨by decide, Nat.le_of_ble_eq_true rfl⟩ ⟨Nat.zero_le _, Nat.zero_le _⟩ (by omega) (by omega) dX6_findMost_47 (n := 50) rfl ?_
        refine v_istore_3 ok (by decide) rfl dX6_findMost_50 (n := 51) rfl ?_
        refine v_iinc_4 ok (by decide) rfl dX6_findMost_51 (n := 54) rfl ?_
        refine v_goto ok dX6_findMost_54 (n := 16) (by decide) ?_
        have e := ih _ (by omega) (j + 1) rfl (by omega)
        rw [show (j + 1).toNat = j.toNat + 1 by omega] at e
        unfold zmst at e
        rw [show ((j.toNat : Nat) : Int) = j by omega] at e
        first
        | (rw [if_pos (by assumption)] at e; exact e)
        | (rw [if_neg (by assumption)] at e; exact e)
  refine v_aload_0 ok dX6_findMost_0 (n := 1) rfl ?_
  refine v_aload_1 ok dX6_findMost_1 (n := 2) rfl ?_
  refine v_iload_2 ok dX6_findMost_2 (n := 3) rfl ?_
  refine v_callVV ok (mi := mi_X6_priceAsked) mc_X6_priceAsked cv_X6_28 ly_74 rfl rfl rfl (by decide) ⟨Nat.zero_le _, Nat.zero_le _⟩ dX6_findMost_3 (n := 6) rfl rfl rfl (Nat.le_of_ble_eq_true rfl) (t_priceAsked hd hnb hns hB hS h0 h1) (fun N0 g0 => ?_)
  subst g0
  refine v_aload_0 ok dX6_findMost_6 (n := 7) rfl ?_
  refine v_aload_1 ok dX6_findMost_7 (n := 8) rfl ?_
  refine v_callVV ok (mi := mi_X6_addShoes) mc_X6_addShoes cv_X6_32 ly_74 rfl rfl rfl (by decide) ⟨Nat.zero_le _, Nat.zero_le _⟩ dX6_findMost_8 (n := 11) rfl rfl rfl (Nat.le_of_ble_eq_true rfl) (t_addShoesP hnb hns (zkey_B hnb hns h1)) (fun N1 g1 => ?_)
  subst g1
  refine v_iconst ok dX6_findMost_11 (n := 12) rfl ?_
  refine v_istore_3 ok (by decide) rfl dX6_findMost_12 (n := 13) rfl ?_
  refine v_iconst ok dX6_findMost_13 (n := 14) rfl ?_
  refine v_istore_4 ok (by decide) rfl dX6_findMost_14 (n := 16) rfl ?_
  exact lp _ 0 rfl (by omega)

set_option maxHeartbeats 4000000 in
set_option maxRecDepth 100000 in
theorem t_isWorn {G : zG} {ad : Int → Nat} {M : zM} {s : Int} (hs : 0 ≤ s ∧ s ≤ 16) (hnb : 0 ≤ M 1 3 ∧ M 1 3 ≤ 7) (hW : ∀ b, 0 ≤ b ∧ b < M 1 3 → 0 ≤ M 77 b ∧ M 77 b ≤ 15)  : zTI G (zw ad) mi_X6_isWorn [zr 74, zr 1, zi s] M (fun x M' => M' = M ∧ ((x = 1 ∧ ∃ b, (0 ≤ b ∧ b < M 1 3) ∧ M 77 b = s) ∨ (x = 0 ∧ ∀ b, 0 ≤ b ∧ b < M 1 3 → M 77 b ≠ s))) := by
  refine zTI.ofZ (own := RX6) (ls := [some (zr 74), some (zr 1), some (zi s), none]) (by decide +kernel) rfl rfl (Nat.le_of_ble_eq_true rfl) (fun γ ok rt => ?_)
  have lp : ∀ (zn : Nat) (b : Int), zn = (7 - b).toNat → (0 ≤ b ∧ b ≤ M 1 3) → (∀ j, 0 ≤ j ∧ j < b → M 77 j ≠ s) → zVV G γ (zw ad) (0, 0) 2 [some (zr 74), some (zr 1), some (zi s), some (zi b)] [] M := by
    refine zrec _ (fun zn ih => ?_)
    intro b hzn hb hno
    refine v_iload_3 ok dX6_isWorn_2 (n := 3) rfl ?_
    refine v_aload_1 ok dX6_isWorn_3 (n := 4) rfl ?_
    refine v_getI ok fd_X6_36 ly_1 rfl rfl (jI := 3) rfl dX6_isWorn_4 (n := 7) rfl ?_
    refine v_icmp_ge ok dX6_isWorn_7 (tgt := 28) (by decide) (n := 10) rfl (by omega) (by omega) (fun c7_1 => ?_) (fun c7_1 => ?_)
    · have c7_1 := c7_1
      refine v_iconst ok dX6_isWorn_28 (n := 29) rfl ?_
      refine v_zret rt dX6_isWorn_29 (by omega) ?_
      exact ⟨rfl, Or.inr ⟨rfl, fun j hj => hno j (by omega)⟩⟩
    · have c7_1 := c7_1
      refine v_aload_0 ok dX6_isWorn_10 (n := 11) rfl ?_
      refine v_getR ok fd_X6_20 ly_74 rfl rfl rfl rf_74_2 dX6_isWorn_11 (n := 14) rfl ?_
      refine v_iload_3 ok dX6_isWorn_14 (n := 15) rfl ?_
      refine v_iald ok ly_77 rfl (by omega) (by decide) dX6_isWorn_15 (n := 16) rfl ?_
      have hwb := hW b (by omega)
      refine v_iload_2 ok dX6_isWorn_16 (n := 17) rfl ?_
      refine v_icmp_ne ok dX6_isWorn_17 (tgt := 22) (by decide) (n := 20) rfl (by omega) (by omega) (fun c17_2 => ?_) (fun c17_2 => ?_)
      · have c17_2 := c17_2
        refine v_iinc_3 ok (by decide) rfl dX6_isWorn_22 (n := 25) rfl ?_
        refine v_goto ok dX6_isWorn_25 (n := 2) (by decide) ?_
        exact ih _ (by omega) _ rfl (by omega) (fun j hj => by
          by_cases h : j = b
          · subst h; assumption
          · exact hno j (by omega))
      · have c17_2 := c17_2
        refine v_iconst ok dX6_isWorn_20 (n := 21) rfl ?_
        refine v_zret rt dX6_isWorn_21 (by omega) ?_
        exact ⟨rfl, Or.inl ⟨rfl, b, by omega, by omega⟩⟩
  refine v_iconst ok dX6_isWorn_0 (n := 1) rfl ?_
  refine v_istore_3 ok (by decide) rfl dX6_isWorn_1 (n := 2) rfl ?_
  exact lp _ 0 rfl (by omega) (fun j hj => by omega)

/-- 0 where she has the shoe, 1 for another one, none for the lost -/
def zchg (f : Int → Int → Int) (own : Int → Int) (lost s b : Int) : Int := if s = lost ∨ f s b = -1 then -1 else if own b = s then 0 else 1
theorem zchg_b {f : Int → Int → Int} {own : Int → Int} {lost s b : Int} : -1 ≤ zchg f own lost s b ∧ zchg f own lost s b ≤ 1 := by
  unfold zchg
  split
  · omega
  · split <;> omega
set_option maxHeartbeats 4000000 in
set_option maxRecDepth 100000 in
theorem t_findChain {G : zG} {ad : Int → Nat} {M : zM} {f : Int → Int → Int} {own : Int → Int} {lost : Int} (hl : 0 ≤ lost ∧ lost ≤ 16) (hnb : 0 ≤ M 1 3 ∧ M 1 3 ≤ 7) (hns : 0 ≤ M 1 4 ∧ M 1 4 ≤ 16) (hf : ∀ s b, 0 ≤ s ∧ s < M 1 4 → 0 ≤ b ∧ b < M 1 3 → M (78 + s) b = f s b) (hQ : ∀ s b, 0 ≤ s ∧ s < M 1 4 → 0 ≤ b ∧ b < M 1 3 → -1 ≤ M (78 + s) b ∧ M (78 + s) b ≤ 8589934592) (hown : ∀ b, 0 ≤ b ∧ b < M 1 3 → M 77 b = own b) (hW : ∀ b, 0 ≤ b ∧ b < M 1 3 → 0 ≤ M 77 b ∧ M 77 b ≤ 15)  : zTI G (zw ad) mi_X6_findChain [zr 74, zr 1, zi lost] M (fun x M' => M' = zpls M (zchg f own lost) ∧ ((zbst (zchg f own lost) M = -1 ∧ x = -4) ∨ (zbst (zchg f own lost) M ≠ -1 ∧ x = zbst (zchg f own lost) M))) := by
  refine zTI.of (own := RX6) (ls := [some (zr 74), some (zr 1), some (zi lost), none, none]) (by decide +kernel) rfl rfl (Nat.le_of_ble_eq_true rfl) (fun γ ok rt => ?_)
  have p1 := zp2_pos (M 1 3)
  have p2 : zp2 (M 1 3) ≤ 128 := zp2_le (b := 7) hnb.2
  have bd : zds (zchg f own lost) (M 1 3) (M 1 4).toNat (zp2 (M 1 3) - 1) = zbst (zchg f own lost) M := rfl
  have bb := zbst_b (pr := (zchg f own lost)) hnb hns (fun s b hs hb => by have := zchg_b (f := f) (own := own) (lost := lost) (s := s) (b := b); omega) (zp2 (M 1 3) - 1) (by omega)
  rw [bd] at bb
  have lpo : ∀ (zn : Nat) (s : Int) (a4 : Option zV), zn = (16 - s).toNat → (0 ≤ s ∧ s ≤ M 1 4) → zVV G γ (zw ad) (0, 0) 2 [some (zr 74), some (zr 1), some (zi lost), some (zi s), a4] [] (zprm M (zchg f own lost) (M 1 3) s 0) := by
    refine zrec _ (fun zn ih => ?_)
    intro s a4 hzn hs
    refine v_iload_3 ok dX6_findChain_2 (n := 3) rfl ?_
    refine v_aload_1 ok dX6_findChain_3 (n := 4) rfl ?_
    refine v_getI ok fd_X6_58 ly_1 rfl rfl (jI := 4) rfl dX6_findChain_4 (n := 7) rfl ?_
    try simp (disch := omega) only [zprm_o, zpls_o]
    refine v_icmp_ge ok dX6_findChain_7 (tgt := 95) (by decide) (n := 10) rfl (by omega) (by omega) (fun c7_1 => ?_) (fun c7_1 => ?_)
    · have c7_1 := c7_1
      have hse : s = M 1 4 := by omega
      subst hse
      refine v_aload_0 ok dX6_findChain_95 (n := 96) rfl ?_
      refine v_aload_1 ok dX6_findChain_96 (n := 97) rfl ?_
      refine v_callVV ok (mi := mi_X6_addShoes) mc_X6_addShoes cv_X6_32 ly_74 rfl rfl rfl (by decide) ⟨Nat.zero_le _, Nat.zero_le _⟩ dX6_findChain_97 (n := 100) rfl rfl rfl (Nat.le_of_ble_eq_true rfl) (t_addShoesP hnb hns (fun s b hs hb => by have := zchg_b (f := f) (own := own) (lost := lost) (s := s) (b := b); omega)) (fun N1 g1 => ?_)
      subst g1
      refine v_aload_0 ok dX6_findChain_100 (n := 101) rfl ?_
      refine v_getR ok fd_X6_16 ly_74 rfl rfl rfl rf_74_1 dX6_findChain_101 (n := 104) rfl ?_
      refine v_iconst ok dX6_findChain_104 (n := 105) rfl ?_
      refine v_aload_1 ok dX6_findChain_105 (n := 106) rfl ?_
      refine v_getI ok fd_X6_36 ly_1 rfl rfl (jI := 3) rfl dX6_findChain_106 (n := 109) rfl ?_
      try simp (disch := omega) only [zprm_o, zpls_o]
      refine v_ishl ok dX6_findChain_109 (n := 110) rfl ?_
      rw [zshl_1 (by omega)]
      refine v_iconst ok dX6_findChain_110 (n := 111) rfl ?_
      refine v_isub ok dX6_findChain_111 (n := 112) rfl ?_
      refine v_lald ok ly_76 rfl (by omega) (by decide) dX6_findChain_112 (n := 113) rfl ?_
      try simp (disch := omega) only [zprm_o, zpls_o]
      rw [zpls_i (by omega), bd]
      refine v_lstore_3 ok (by decide) rfl dX6_findChain_113 (n := 114) rfl ?_
      refine v_lload_3 ok dX6_findChain_114 (n := 115) rfl ?_
      refine v_ldc2 ok (c := -1) kc_X6_41 (by decide) dX6_findChain_115 (n := 118) rfl ?_
      refine v_lcmp ok (by omega) (by omega) dX6_findChain_118 (n := 119) rfl ?_
      refine v_if_ne ok dX6_findChain_119 (tgt := 127) (by decide) (n := 122) rfl (zcmp_b _ _) (fun c119_2 => ?_) (fun c119_2 => ?_)
      · have c119_2 := zcmp_nz c119_2
        refine v_lload_3 ok dX6_findChain_127 (n := 128) rfl ?_
        refine v_l2i ok dX6_findChain_128 (n := 129) rfl ?_
        refine v_iret rt dX6_findChain_129 ?_
        first
        | exact ⟨rfl, Or.inl ⟨by assumption, rfl⟩⟩
        | exact ⟨rfl, Or.inr ⟨by assumption, rfl⟩⟩
      · have c119_2 := zcmp_z c119_2
        refine v_bipush ok (by decide) dX6_findChain_122 (n := 124) rfl ?_
        refine v_goto ok dX6_findChain_124 (n := 129) (by decide) ?_
        refine v_iret rt dX6_findChain_129 ?_
        first
        | exact ⟨rfl, Or.inl ⟨by assumption, rfl⟩⟩
        | exact ⟨rfl, Or.inr ⟨by assumption, rfl⟩⟩
    · have c7_1 := c7_1
      have ih0 := ih
      have lpi : ∀ (zn : Nat) (b : Int), zn = (7 - b).toNat → (0 ≤ b ∧ b ≤ M 1 3) → zVV G γ (zw ad) (0, 0) 13 [some (zr 74), some (zr 1), some (zi lost), some (zi s), some (zi b)] [] (zprm M (zchg f own lost) (M 1 3) s b) := by
        refine zrec _ (fun zn ih => ?_)
        intro b hzn hb
        refine v_iload_4 ok dX6_findChain_13 (n := 15) rfl ?_
        refine v_aload_1 ok dX6_findChain_15 (n := 16) rfl ?_
        refine v_getI ok fd_X6_36 ly_1 rfl rfl (jI := 3) rfl dX6_findChain_16 (n := 19) rfl ?_
        try simp (disch := omega) only [zprm_o]
        refine v_icmp_ge ok dX6_findChain_19 (tgt := 89) (by decide) (n := 22) rfl (by omega) (by omega) (fun c19_1 => ?_) (fun c19_1 => ?_)
        · have c19_1 := c19_1
          refine v_iinc_3 ok (by decide) rfl dX6_findChain_89 (n := 92) rfl ?_
          refine v_goto ok dX6_findChain_92 (n := 2) (by decide) ?_
          rw [show b = M 1 3 by omega, zprm_n (by omega)]
          exact ih0 _ (by omega) _ _ rfl (by omega)
        · have c19_1 := c19_1
          refine v_iload_3 ok dX6_findChain_22 (n := 23) rfl ?_
          refine v_iload_2 ok dX6_findChain_23 (n := 24) rfl ?_
          refine v_icmp_ne ok dX6_findChain_24 (tgt := 42) (by decide) (n := 27) rfl (by omega) (by omega) (fun c24_2 => ?_) (fun c24_2 => ?_)
          · have c24_2 := c24_2
            refine v_aload_0 ok dX6_findChain_42 (n := 43) rfl ?_
            refine v_getR ok fd_X6_13 ly_74 rfl rfl rfl rf_74_0 dX6_findChain_43 (n := 46) rfl ?_
            refine v_iload_3 ok dX6_findChain_46 (n := 47) rfl ?_
            refine v_aald ok ly_75 (by decide) rfl (by omega) (by decide) rfl dX6_findChain_47 (n := 48) rfl ?_
            refine v_iload_4 ok dX6_findChain_48 (n := 50) rfl ?_
            refine v_lald ok (lf_pro (by omega)) rfl (by omega) (by decide) dX6_findChain_50 (n := 51) rfl ?_
            try simp (disch := omega) only [zprm_o]
            rw [zprm_r]
            have hq := hQ s b (by omega) (by omega)
            refine v_ldc2 ok (c := -1) kc_X6_41 (by decide) dX6_findChain_51 (n := 54) rfl ?_
            refine v_lcmp ok (by first | decide | omega) (by first | decide | omega) dX6_findChain_54 (n := 55) rfl ?_
            refine v_if_eq ok dX6_findChain_55 (tgt := 83) (by decide) (n := 58) rfl (zcmp_b _ _) (fun c55_3 => ?_) (fun c55_3 => ?_)
            · have c55_3 := zcmp_z c55_3
              rw [zprm_k (by omega) (by omega) (show M (78 + s) b = zchg f own lost s b by unfold zchg; rw [if_pos (by rw [← hf s b (by omega) (by omega)]; omega)]; assumption)]
              refine v_iinc_4 ok (by decide) rfl dX6_findChain_83 (n := 86) rfl ?_
              refine v_goto ok dX6_findChain_86 (n := 13) (by decide) ?_
              exact ih _ (by omega) _ rfl (by omega)
            · have c55_3 := zcmp_nz c55_3
              refine v_aload_0 ok dX6_findChain_58 (n := 59) rfl ?_
              refine v_getR ok fd_X6_13 ly_74 rfl rfl rfl rf_74_0 dX6_findChain_59 (n := 62) rfl ?_
              refine v_iload_3 ok dX6_findChain_62 (n := 63) rfl ?_
              refine v_aald ok ly_75 (by decide) rfl (by omega) (by decide) rfl dX6_findChain_63 (n := 64) rfl ?_
              refine v_iload_4 ok dX6_findChain_64 (n := 66) rfl ?_
              refine v_aload_0 ok dX6_findChain_66 (n := 67) rfl ?_
              refine v_getR ok fd_X6_20 ly_74 rfl rfl rfl rf_74_2 dX6_findChain_67 (n := 70) rfl ?_
              refine v_iload_4 ok dX6_findChain_70 (n := 72) rfl ?_
              refine v_iald ok ly_77 rfl (by omega) (by decide) dX6_findChain_72 (n := 73) rfl ?_
              try simp (disch := omega) only [zprm_o]
              have hwb := hW b (by omega)
              refine v_iload_3 ok dX6_findChain_73 (n := 74) rfl ?_
              refine v_icmp_ne ok dX6_findChain_74 (tgt := 81) (by decide) (n := 77) rfl (by omega) (by omega) (fun c74_4 => ?_) (fun c74_4 => ?_)
              · have c74_4 := c74_4
                refine v_lconst1 ok dX6_findChain_81 (n := 82) rfl ?_
                refine v_last ok (lf_pro (by omega)) rfl (by omega) (by decide) dX6_findChain_82 (n := 83) rfl ?_
                first
                | (rw [zprm_s (by omega) (by omega) (show (0 : Int) = zchg f own lost s b by unfold zchg; first | rw [if_pos (by first | exact Or.inl (by assumption) | omega)] | (rw [if_neg (by rw [← hf s b (by omega) (by omega)]; omega)]; first | rw [if_pos (by rw [← hown b (by omega)]; assumption)] | rw [if_neg (by rw [← hown b (by omega)]; assumption)]))])
                | (rw [zprm_s (by omega) (by omega) (show (1 : Int) = zchg f own lost s b by unfold zchg; first | rw [if_pos (by first | exact Or.inl (by assumption) | omega)] | (rw [if_neg (by rw [← hf s b (by omega) (by omega)]; omega)]; first | rw [if_pos (by rw [← hown b (by omega)]; assumption)] | rw [if_neg (by rw [← hown b (by omega)]; assumption)]))])
                refine v_iinc_4 ok (by decide) rfl dX6_findChain_83 (n := 86) rfl ?_
                refine v_goto ok dX6_findChain_86 (n := 13) (by decide) ?_
                exact ih _ (by omega) _ rfl (by omega)
              · have c74_4 := c74_4
                refine v_lconst0 ok dX6_findChain_77 (n := 78) rfl ?_
                refine v_goto ok dX6_findChain_78 (n := 82) (by decide) ?_
                refine v_last ok (lf_pro (by omega)) rfl (by omega) (by decide) dX6_findChain_82 (n := 83) rfl ?_
                first
                | (rw [zprm_s (by omega) (by omega) (show (0 : Int) = zchg f own lost s b by unfold zchg; first | rw [if_pos (by first | exact Or.inl (by assumption) | omega)] | (rw [if_neg (by rw [← hf s b (by omega) (by omega)]; omega)]; first | rw [if_pos (by rw [← hown b (by omega)]; assumption)] | rw [if_neg (by rw [← hown b (by omega)]; assumption)]))])
                | (rw [zprm_s (by omega) (by omega) (show (1 : Int) = zchg f own lost s b by unfold zchg; first | rw [if_pos (by first | exact Or.inl (by assumption) | omega)] | (rw [if_neg (by rw [← hf s b (by omega) (by omega)]; omega)]; first | rw [if_pos (by rw [← hown b (by omega)]; assumption)] | rw [if_neg (by rw [← hown b (by omega)]; assumption)]))])
                refine v_iinc_4 ok (by decide) rfl dX6_findChain_83 (n := 86) rfl ?_
                refine v_goto ok dX6_findChain_86 (n := 13) (by decide) ?_
                exact ih _ (by omega) _ rfl (by omega)
          · have c24_2 := c24_2
            refine v_aload_0 ok dX6_findChain_27 (n := 28) rfl ?_
            refine v_getR ok fd_X6_13 ly_74 rfl rfl rfl rf_74_0 dX6_findChain_28 (n := 31) rfl ?_
            refine v_iload_3 ok dX6_findChain_31 (n := 32) rfl ?_
            refine v_aald ok ly_75 (by decide) rfl (by omega) (by decide) rfl dX6_findChain_32 (n := 33) rfl ?_
            refine v_iload_4 ok dX6_findChain_33 (n := 35) rfl ?_
            refine v_ldc2 ok (c := -1) kc_X6_41 (by decide) dX6_findChain_35 (n := 38) rfl ?_
            refine v_last ok (lf_pro (by omega)) rfl (by omega) (by decide) dX6_findChain_38 (n := 39) rfl ?_
            rw [zprm_s (by omega) (by omega) (show (-1 : Int) = zchg f own lost s b by unfold zchg; first | rw [if_pos (by first | exact Or.inl (by assumption) | omega)] | (rw [if_neg (by rw [← hf s b (by omega) (by omega)]; omega)]; first | rw [if_pos (by rw [← hown b (by omega)]; assumption)] | rw [if_neg (by rw [← hown b (by omega)]; assumption)]))]
            refine v_goto ok dX6_findChain_39 (n := 83) (by decide) ?_
            refine v_iinc_4 ok (by decide) rfl dX6_findChain_83 (n := 86) rfl ?_
            refine v_goto ok dX6_findChain_86 (n := 13) (by decide) ?_
            exact ih _ (by omega) _ rfl (by omega)
      refine v_iconst ok dX6_findChain_10 (n := 11) rfl ?_
      refine v_istore_4 ok (by decide) rfl dX6_findChain_11 (n := 13) rfl ?_
      exact lpi _ 0 rfl (by omega)
  refine v_iconst ok dX6_findChain_0 (n := 1) rfl ?_
  refine v_istore_3 ok (by decide) rfl dX6_findChain_1 (n := 2) rfl ?_
  have e := lpo _ 0 none rfl (by omega)
  rw [zprm_0] at e
  exact e

