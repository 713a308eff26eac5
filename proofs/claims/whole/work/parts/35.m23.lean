/-! the class: firm, the call -/
/-- rows as they are told, and places in them -/
def zlp (v : Int → Int) (f n : Int) (L P : Int → Int → Int) : Prop := ∀ q, 0 ≤ q ∧ q < 2 * n → ∀ j, 0 ≤ j ∧ j < n → L q j = v (f + q * n + j) ∧ P q (v (f + q * n + j)) = j
/-- what firm answers of ranks that are told -/
def zfrm (v : Int → Int) (f n b x : Int) : Prop := (¬ zrk v f n ∧ x = -2) ∨ (zrk v f n ∧ ∃ (L P : Int → Int → Int) (s : zGS), zlp v f n L P ∧ (∀ i, 0 ≤ i ∧ i < n → s.1 i = -1 ∧ s.2.1 i = -1 ∧ s.2.2 i = 0) ∧ x = (zgs L P n s (n * n).toNat).1 b)
set_option maxHeartbeats 4000000 in
set_option maxRecDepth 100000 in
theorem t_firm {G : zG} {ad : Int → Nat} {M : zM} {q l i n b : Int} (hq : -2147483648 ≤ q ∧ q ≤ 2147483647) (hl : -2147483648 ≤ l ∧ l ≤ 2147483647) (hi : -2147483648 ≤ i ∧ i ≤ 2147483647) (hn : -2147483648 ≤ n ∧ n ≤ 2147483647) (hb : -2147483648 ≤ b ∧ b ≤ 2147483647) (hth : ∀ j, 0 ≤ j ∧ j < 4 → M (177 + j) 1 = 0 ∨ M (177 + j) 1 = 1) (hla : ∀ j, 0 ≤ j ∧ j < 4 → 0 ≤ M (177 + j) 2 ∧ M (177 + j) 2 ≤ 2) (hln : ∀ j, 0 ≤ j ∧ j < 4 → 0 ≤ M (177 + j) 3 ∧ M (177 + j) 3 ≤ 100) (hI : ∀ j i, 0 ≤ j ∧ j < 4 → 0 ≤ i ∧ i < 100 → -2147483648 ≤ M (181 + j) i ∧ M (181 + j) i ≤ 2147483647)  : zTI G (zw ad) mi_X7_firm [zr 0, zi q, zi l, zi i, zi n, zi b] M (fun x M' => (¬ ((0 ≤ q ∧ q ≤ 3) ∧ (0 ≤ l ∧ l ≤ 2) ∧ (2 ≤ n ∧ n ≤ 7) ∧ (0 ≤ b ∧ b < n)) ∧ x = -1 ∧ M' = M) ∨ ((((0 ≤ q ∧ q ≤ 3) ∧ (0 ≤ l ∧ l ≤ 2) ∧ (2 ≤ n ∧ n ≤ 7) ∧ (0 ≤ b ∧ b < n)) ∧ zref (M (177 + q) 1) (M (177 + q) 2) (M (177 + q) 3) l i (2 * n * n) ≠ 0) ∧ x = zref (M (177 + q) 1) (M (177 + q) 2) (M (177 + q) 3) l i (2 * n * n) ∧ M' = M) ∨ ((((0 ≤ q ∧ q ≤ 3) ∧ (0 ≤ l ∧ l ≤ 2) ∧ (2 ≤ n ∧ n ≤ 7) ∧ (0 ≤ b ∧ b < n)) ∧ zref (M (177 + q) 1) (M (177 + q) 2) (M (177 + q) 3) l i (2 * n * n) = 0) ∧ zfrm (M (181 + q)) i n b x ∧ zfrR M M')) := by
  refine zTI.of (own := RX7) (ls := [some (zr 0), some (zi q), some (zi l), some (zi i), some (zi n), some (zi b), none]) (by decide +kernel) rfl rfl (Nat.le_of_ble_eq_true rfl) (fun γ ok rt => ?_)
  refine v_iload_1 ok dX7_firm_0 (n := 1) rfl ?_
  refine v_callSI ok (mi := mi_X7_isSheet) mc_X7_isSheet cs_X7_185 (by decide) ⟨Nat.zero_le _, Nat.zero_le _⟩ dX7_firm_1 (n := 4) rfl rfl rfl (Nat.le_of_ble_eq_true rfl) (t_isSheet hq) (fun x5 M5 h5 => ?_)
  obtain ⟨e5_, h5⟩ := h5
  subst M5
  refine v_if_eq ok dX7_firm_4 (tgt := 35) (by decide) (n := 7) rfl (by omega) (fun c4_1 => ?_) (fun c4_1 => ?_)
  · have c4_1 := c4_1
    refine v_iconst ok dX7_firm_35 (n := 36) rfl ?_
    refine v_iret rt dX7_firm_36 ?_
    exact Or.inl ⟨by omega, rfl, rfl⟩
  · have c4_1 := c4_1
    refine v_iload_2 ok dX7_firm_7 (n := 8) rfl ?_
    refine v_callSI ok (mi := mi_X7_isLane) mc_X7_isLane cs_X7_188 (by decide) ⟨Nat.zero_le _, Nat.zero_le _⟩ dX7_firm_8 (n := 11) rfl rfl rfl (Nat.le_of_ble_eq_true rfl) (t_isLane hl) (fun x6 M6 h6 => ?_)
    obtain ⟨e6_, h6⟩ := h6
    subst M6
    refine v_if_eq ok dX7_firm_11 (tgt := 35) (by decide) (n := 14) rfl (by omega) (fun c11_2 => ?_) (fun c11_2 => ?_)
    · have c11_2 := c11_2
      refine v_iconst ok dX7_firm_35 (n := 36) rfl ?_
      refine v_iret rt dX7_firm_36 ?_
      exact Or.inl ⟨by omega, rfl, rfl⟩
    · have c11_2 := c11_2
      refine v_iload_4 ok dX7_firm_14 (n := 16) rfl ?_
      refine v_callSI ok (mi := mi_X7_isRanked) mc_X7_isRanked cs_X7_207 (by decide) ⟨Nat.zero_le _, Nat.zero_le _⟩ dX7_firm_16 (n := 19) rfl rfl rfl (Nat.le_of_ble_eq_true rfl) (t_isRanked hn) (fun x7 M7 h7 => ?_)
      obtain ⟨e7_, h7⟩ := h7
      subst M7
      refine v_if_eq ok dX7_firm_19 (tgt := 35) (by decide) (n := 22) rfl (by omega) (fun c19_3 => ?_) (fun c19_3 => ?_)
      · have c19_3 := c19_3
        refine v_iconst ok dX7_firm_35 (n := 36) rfl ?_
        refine v_iret rt dX7_firm_36 ?_
        exact Or.inl ⟨by omega, rfl, rfl⟩
      · have c19_3 := c19_3
        refine v_iload_5 ok dX7_firm_22 (n := 24) rfl ?_
        refine v_iconst ok dX7_firm_24 (n := 25) rfl ?_
        refine v_iload_4 ok dX7_firm_25 (n := 27) rfl ?_
        refine v_iconst ok dX7_firm_27 (n := 28) rfl ?_
        refine v_isub ok dX7_firm_28 (n := 29) rfl ?_
        refine v_callSI ok (mi := mi_X7_isFrom) mc_X7_isFrom cs_X7_81 (by decide) ⟨Nat.zero_le _, Nat.zero_le _⟩ dX7_firm_29 (n := 32) rfl rfl rfl (Nat.le_of_ble_eq_true rfl) (t_isFrom hb (by omega) (by omega)) (fun x8 M8 h8 => ?_)
        obtain ⟨e8_, h8⟩ := h8
        subst M8
        refine v_if_ne ok dX7_firm_32 (tgt := 37) (by decide) (n := 35) rfl (by omega) (fun c32_4 => ?_) (fun c32_4 => ?_)
        · have c32_4 := c32_4
          have hP : (0 ≤ q ∧ q ≤ 3) ∧ (0 ≤ l ∧ l ≤ 2) ∧ (2 ≤ n ∧ n ≤ 7) ∧ (0 ≤ b ∧ b < n) := ⟨by omega, by omega, by omega, by omega⟩
          have hnn : 4 ≤ 2 * n * n ∧ 2 * n * n ≤ 98 := by
            have a1 := Int.mul_le_mul_of_nonneg_right (show 2 * n ≤ 14 by omega) (show 0 ≤ n by omega)
            have a2 := Int.mul_le_mul_of_nonneg_right (show 4 ≤ 2 * n by omega) (show 0 ≤ n by omega)
            omega
          refine v_aload_0 ok dX7_firm_37 (n := 38) rfl ?_
          refine v_getR ok fd_X7_60 ly_0 rfl rfl rfl rf_0_8 dX7_firm_38 (n := 41) rfl ?_
          refine v_iload_1 ok dX7_firm_41 (n := 42) rfl ?_
          refine v_aald ok ly_176 (by decide) rfl (by omega) (by decide) rfl dX7_firm_42 (n := 43) rfl ?_
          refine v_iload_2 ok dX7_firm_43 (n := 44) rfl ?_
          refine v_iload_3 ok dX7_firm_44 (n := 45) rfl ?_
          refine v_iconst ok dX7_firm_45 (n := 46) rfl ?_
          refine v_iload_4 ok dX7_firm_46 (n := 48) rfl ?_
          refine v_imul ok dX7_firm_48 (n := 49) rfl ?_
          refine v_iload_4 ok dX7_firm_49 (n := 51) rfl ?_
          refine v_imul ok dX7_firm_51 (n := 52) rfl ?_
          refine v_callVI ok (mi := mi_X3_refusal) mc_X3_refusal cv_X7_191 (lf_she (by omega)) rfl rfl rfl (by decide) ⟨Nat.zero_le _, Nat.zero_le _⟩ dX7_firm_52 (n := 55) rfl rfl rfl (Nat.le_of_ble_eq_true rfl) (t_refusal (by omega) (hth _ (by omega)) (hla _ (by omega)) (hln _ (by omega)) hl hi (by omega)) (fun x9 M9 w9 => ?_)
          obtain ⟨w9_, w9⟩ := w9
          subst M9
          have b9 : -13 ≤ x9 ∧ x9 ≤ 0 := by rw [w9]; exact zref_b _ _ _ _ _ _
          refine v_istore_6 ok (by decide) rfl dX7_firm_55 (n := 57) rfl ?_
          refine v_iload_6 ok dX7_firm_57 (n := 59) rfl ?_
          refine v_if_eq ok dX7_firm_59 (tgt := 65) (by decide) (n := 62) rfl (by omega) (fun c59_5 => ?_) (fun c59_5 => ?_)
          · have c59_5 := c59_5
            have z1 := zref_z (show zref (M (177 + q) 1) (M (177 + q) 2) (M (177 + q) 3) l i (2 * n * n) = 0 by rw [← w9]; omega)
            refine v_aload_0 ok dX7_firm_65 (n := 66) rfl ?_
            refine v_getR ok fd_X7_54 ly_0 rfl rfl rfl rf_0_7 dX7_firm_66 (n := 69) rfl ?_
            refine v_aload_0 ok dX7_firm_69 (n := 70) rfl ?_
            refine v_getR ok fd_X7_60 ly_0 rfl rfl rfl rf_0_8 dX7_firm_70 (n := 73) rfl ?_
            refine v_iload_1 ok dX7_firm_73 (n := 74) rfl ?_
            refine v_aald ok ly_176 (by decide) rfl (by omega) (by decide) rfl dX7_firm_74 (n := 75) rfl ?_
            refine v_getR ok fd_X7_194 (lf_she (by omega)) rfl rfl rfl (rf_she (by omega)) dX7_firm_75 (n := 78) rfl ?_
            refine v_iload_3 ok dX7_firm_78 (n := 79) rfl ?_
            refine v_iload_4 ok dX7_firm_79 (n := 81) rfl ?_
            refine v_callVI ok (mi := mi_X2_read) mc_X2_read cv_X7_210 ly_142 rfl rfl rfl (by decide) ⟨Nat.zero_le _, Nat.zero_le _⟩ dX7_firm_81 (n := 84) rfl rfl rfl (Nat.le_of_ble_eq_true rfl) (t_read (by omega) (lf_ite (by omega)) (by omega) (by have := hln q (by omega); omega) (hI q · (by omega))) (fun x1 M1 g1 => ?_)
            obtain ⟨f1, n1, g1⟩ := g1
            refine v_if_ne ok dX7_firm_84 (tgt := 90) (by decide) (n := 87) rfl (by omega) (fun c84_6 => ?_) (fun c84_6 => ?_)
            · have c84_6 := c84_6
              rcases g1 with ⟨_, g1⟩ | ⟨e1, _⟩
              rotate_left
              · exfalso; omega
              refine v_aload_0 ok dX7_firm_90 (n := 91) rfl ?_
              refine v_getR ok fd_X7_54 ly_0 rfl rfl rfl rf_0_7 dX7_firm_91 (n := 94) rfl ?_
              have e94 := t_pairByBrides (G := G) (ad := ad) (M := M1) (n := n) (by omega) n1 (zplr_r (v := fun q' j => M (181 + q) (i + q' * n + j)) (by omega) g1) (fun q' t hq' ht => by
                have h1 := g1 q' (by omega)
                rw [(h1.2 t ht).1]
                exact h1.1.1 t ht)
              refine v_callVV ok (mi := mi_X2_pairByBrides) mc_X2_pairByBrides cv_X7_214 ly_142 rfl rfl rfl (by decide) ⟨Nat.zero_le _, Nat.zero_le _⟩ dX7_firm_94 (n := 97) rfl rfl rfl (Nat.le_of_ble_eq_true rfl) (e94) (fun M2 g2 => ?_)
              subst M2
              refine v_aload_0 ok dX7_firm_97 (n := 98) rfl ?_
              refine v_getR ok fd_X7_54 ly_0 rfl rfl rfl rf_0_7 dX7_firm_98 (n := 101) rfl ?_
              refine v_getR ok fd_X7_217 ly_142 rfl rfl rfl rf_142_3 dX7_firm_101 (n := 104) rfl ?_
              refine v_iload_5 ok dX7_firm_104 (n := 106) rfl ?_
              refine v_iald ok ly_145 rfl (by omega) (by decide) dX7_firm_106 (n := 107) rfl ?_
              rw [zgp_g]
              refine v_iret rt dX7_firm_107 ?_
              exact Or.inr (Or.inr ⟨⟨hP, by rw [← w9]; omega⟩, Or.inr ⟨fun q' hq' => (g1 q' hq').1, zPL M1, zPT M1, zs0 M1, fun q' hq' j hj => (g1 q' hq').2 j hj, fun j hj => by
                unfold zs0
                dsimp only
                rw [if_pos (show 0 ≤ j ∧ j < 7 by omega), if_pos (show 0 ≤ j ∧ j < 7 by omega), if_pos (show 0 ≤ j ∧ j < 7 by omega)]
                exact ⟨rfl, rfl, rfl⟩, rfl⟩, fun r hr => by rw [zgp_o (by omega), f1 r hr]⟩)
            · have c84_6 := c84_6
              rcases g1 with ⟨e1, _⟩ | ⟨_, g1⟩
              · exfalso; omega
              refine v_bipush ok (by decide) dX7_firm_87 (n := 89) rfl ?_
              refine v_iret rt dX7_firm_89 ?_
              exact Or.inr (Or.inr ⟨⟨hP, by rw [← w9]; omega⟩, Or.inl ⟨g1, rfl⟩, f1⟩)
          · have c59_5 := c59_5
            refine v_iload_6 ok dX7_firm_62 (n := 64) rfl ?_
            refine v_iret rt dX7_firm_64 ?_
            exact Or.inr (Or.inl ⟨⟨hP, by rw [← w9]; assumption⟩, w9, rfl⟩)
        · have c32_4 := c32_4
          refine v_iconst ok dX7_firm_35 (n := 36) rfl ?_
          refine v_iret rt dX7_firm_36 ?_
          exact Or.inl ⟨by omega, rfl, rfl⟩

