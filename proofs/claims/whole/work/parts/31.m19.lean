/-! the class: changed -/
/-- what changed answers where rows are counted -/
def zcng (M : zM) (own : Int → Int) (q i n k x : Int) : Prop := ∃ m R : Int → Int, (∀ b, 0 ≤ b ∧ b < n → m b = zmay (zgl M own b) (M (181 + q) (i + b)) n.toNat) ∧ zRow m n R (-1) ∧ ((R 0 = 0 ∧ x = -4) ∨ (R 0 ≠ 0 ∧ k = -1 ∧ x = R 0) ∨ (R 0 ≠ 0 ∧ 0 ≤ k ∧ x = zfi m R n k))
/-- the shoes of the first way are shoes -/
def zshoes (M : zM) (d : Int) : Prop := zall M d ≠ -1 → ∀ b, 0 ≤ b ∧ b < M 1 3 → zshe (zall M d) b < M 1 4
theorem zmay_c (g g' : Int → Int) (v : Int) (k : Nat) (h : ∀ o : Nat, o < k → g' o = g o) : zmay g' v k = zmay g v k := by
  induction k with
  | zero => rfl
  | succ k ih =>
    have ih := ih (fun o ho => h o (by omega))
    unfold zmay
    rw [h k (by omega), ih]
def zfrC (M M' : zM) : Prop := ∀ r, r < 74 ∨ (93 < r ∧ r < 138) ∨ 141 < r → M' r = M r
set_option maxHeartbeats 4000000 in
set_option maxRecDepth 100000 in
theorem t_changed {G : zG} {ad : Int → Nat} {M : zM} {d q l i n k : Int} (hd : -2147483648 ≤ d ∧ d ≤ 2147483647) (hq : -2147483648 ≤ q ∧ q ≤ 2147483647) (hl : -2147483648 ≤ l ∧ l ≤ 2147483647) (hi : -2147483648 ≤ i ∧ i ≤ 2147483647) (hn : -2147483648 ≤ n ∧ n ≤ 2147483647) (hk : -2147483648 ≤ k ∧ k ≤ 2147483647) (hnb : 0 ≤ M 1 3 ∧ M 1 3 ≤ 7) (hns : 0 ≤ M 1 4 ∧ M 1 4 ≤ 16) (hB : ∀ b, 0 ≤ b ∧ b < M 1 3 → zBR (M (5 + b))) (hS : ∀ s, 0 ≤ s ∧ s < M 1 4 → zSR (M (12 + s))) (h0 : 0 ≤ M 4 0 ∧ M 4 0 ≤ 6) (h1 : 0 ≤ M 4 1 ∧ M 4 1 ≤ 6) (hth : ∀ j, 0 ≤ j ∧ j < 4 → M (177 + j) 1 = 0 ∨ M (177 + j) 1 = 1) (hla : ∀ j, 0 ≤ j ∧ j < 4 → 0 ≤ M (177 + j) 2 ∧ M (177 + j) 2 ≤ 2) (hln : ∀ j, 0 ≤ j ∧ j < 4 → 0 ≤ M (177 + j) 3 ∧ M (177 + j) 3 ≤ 100) (hI : ∀ j i, 0 ≤ j ∧ j < 4 → 0 ≤ i ∧ i < 100 → -2147483648 ≤ M (181 + j) i ∧ M (181 + j) i ≤ 2147483647) (hsw : 0 ≤ d ∧ d ≤ 1 → zshoes M d)  : zTI G (zw ad) mi_X7_changed [zr 0, zi d, zi q, zi l, zi i, zi n, zi k] M (fun x M' => (¬ ((0 ≤ d ∧ d ≤ 1) ∧ (0 ≤ q ∧ q ≤ 3) ∧ (0 ≤ l ∧ l ≤ 2) ∧ (1 ≤ n ∧ n ≤ 6) ∧ n ≤ M 1 3 ∧ (-1 ≤ k ∧ k < n)) ∧ x = -1 ∧ M' = M) ∨ ((((0 ≤ d ∧ d ≤ 1) ∧ (0 ≤ q ∧ q ≤ 3) ∧ (0 ≤ l ∧ l ≤ 2) ∧ (1 ≤ n ∧ n ≤ 6) ∧ n ≤ M 1 3 ∧ (-1 ≤ k ∧ k < n)) ∧ zall M d = -1) ∧ x = -2 ∧ zfrC M M') ∨ ((((0 ≤ d ∧ d ≤ 1) ∧ (0 ≤ q ∧ q ≤ 3) ∧ (0 ≤ l ∧ l ≤ 2) ∧ (1 ≤ n ∧ n ≤ 6) ∧ n ≤ M 1 3 ∧ (-1 ≤ k ∧ k < n)) ∧ zall M d ≠ -1 ∧ zref (M (177 + q) 1) (M (177 + q) 2) (M (177 + q) 3) l i n ≠ 0) ∧ x = zref (M (177 + q) 1) (M (177 + q) 2) (M (177 + q) 3) l i n ∧ zfrC M M') ∨ ((((0 ≤ d ∧ d ≤ 1) ∧ (0 ≤ q ∧ q ≤ 3) ∧ (0 ≤ l ∧ l ≤ 2) ∧ (1 ≤ n ∧ n ≤ 6) ∧ n ≤ M 1 3 ∧ (-1 ≤ k ∧ k < n)) ∧ zall M d ≠ -1 ∧ zref (M (177 + q) 1) (M (177 + q) 2) (M (177 + q) 3) l i n = 0) ∧ zcng M (zshe (zall M d)) q i n k x ∧ zfrC M M')) := by
  refine zTI.of (own := RX7) (ls := [some (zr 0), some (zi d), some (zi q), some (zi l), some (zi i), some (zi n), some (zi k), none]) (by decide +kernel) rfl rfl (Nat.le_of_ble_eq_true rfl) (fun γ ok rt => ?_)
  refine v_iload_1 ok dX7_changed_0 (n := 1) rfl ?_
  refine v_callSI ok (mi := mi_X7_isSide) mc_X7_isSide cs_X7_101 (by decide) ⟨Nat.zero_le _, Nat.zero_le _⟩ dX7_changed_1 (n := 4) rfl rfl rfl (Nat.le_of_ble_eq_true rfl) (t_isSide hd) (fun x5 M5 h5 => ?_)
  obtain ⟨e5_, h5⟩ := h5
  subst M5
  refine v_if_eq ok dX7_changed_4 (tgt := 32) (by decide) (n := 7) rfl (by omega) (fun c4_1 => ?_) (fun c4_1 => ?_)
  · have c4_1 := c4_1
    refine v_iconst ok dX7_changed_32 (n := 33) rfl ?_
    refine v_iret rt dX7_changed_33 ?_
    exact Or.inl ⟨by omega, rfl, rfl⟩
  · have c4_1 := c4_1
    refine v_iload_2 ok dX7_changed_7 (n := 8) rfl ?_
    refine v_callSI ok (mi := mi_X7_isSheet) mc_X7_isSheet cs_X7_185 (by decide) ⟨Nat.zero_le _, Nat.zero_le _⟩ dX7_changed_8 (n := 11) rfl rfl rfl (Nat.le_of_ble_eq_true rfl) (t_isSheet hq) (fun x6 M6 h6 => ?_)
    obtain ⟨e6_, h6⟩ := h6
    subst M6
    refine v_if_eq ok dX7_changed_11 (tgt := 32) (by decide) (n := 14) rfl (by omega) (fun c11_2 => ?_) (fun c11_2 => ?_)
    · have c11_2 := c11_2
      refine v_iconst ok dX7_changed_32 (n := 33) rfl ?_
      refine v_iret rt dX7_changed_33 ?_
      exact Or.inl ⟨by omega, rfl, rfl⟩
    · have c11_2 := c11_2
      refine v_iload_3 ok dX7_changed_14 (n := 15) rfl ?_
      refine v_callSI ok (mi := mi_X7_isLane) mc_X7_isLane cs_X7_188 (by decide) ⟨Nat.zero_le _, Nat.zero_le _⟩ dX7_changed_15 (n := 18) rfl rfl rfl (Nat.le_of_ble_eq_true rfl) (t_isLane hl) (fun x7 M7 h7 => ?_)
      obtain ⟨e7_, h7⟩ := h7
      subst M7
      refine v_if_eq ok dX7_changed_18 (tgt := 32) (by decide) (n := 21) rfl (by omega) (fun c18_3 => ?_) (fun c18_3 => ?_)
      · have c18_3 := c18_3
        refine v_iconst ok dX7_changed_32 (n := 33) rfl ?_
        refine v_iret rt dX7_changed_33 ?_
        exact Or.inl ⟨by omega, rfl, rfl⟩
      · have c18_3 := c18_3
        refine v_iload_5 ok dX7_changed_21 (n := 23) rfl ?_
        refine v_iconst ok dX7_changed_23 (n := 24) rfl ?_
        refine v_bipush ok (by decide) dX7_changed_24 (n := 26) rfl ?_
        refine v_callSI ok (mi := mi_X7_isFrom) mc_X7_isFrom cs_X7_81 (by decide) ⟨Nat.zero_le _, Nat.zero_le _⟩ dX7_changed_26 (n := 29) rfl rfl rfl (Nat.le_of_ble_eq_true rfl) (t_isFrom hn (by omega) (by omega)) (fun x9 M9 h9 => ?_)
        obtain ⟨e9_, h9⟩ := h9
        subst M9
        refine v_if_ne ok dX7_changed_29 (tgt := 34) (by decide) (n := 32) rfl (by omega) (fun c29_4 => ?_) (fun c29_4 => ?_)
        · have c29_4 := c29_4
          refine v_iload_5 ok dX7_changed_34 (n := 36) rfl ?_
          refine v_aload_0 ok dX7_changed_36 (n := 37) rfl ?_
          refine v_getR ok fd_X7_10 ly_0 rfl rfl rfl rf_0_0 dX7_changed_37 (n := 40) rfl ?_
          refine v_getI ok fd_X7_69 ly_1 rfl rfl (jI := 3) rfl dX7_changed_40 (n := 43) rfl ?_
          refine v_icmp_gt ok dX7_changed_43 (tgt := 59) (by decide) (n := 46) rfl (by omega) (by omega) (fun c43_5 => ?_) (fun c43_5 => ?_)
          · have c43_5 := c43_5
            refine v_iconst ok dX7_changed_59 (n := 60) rfl ?_
            refine v_iret rt dX7_changed_60 ?_
            exact Or.inl ⟨by omega, rfl, rfl⟩
          · have c43_5 := c43_5
            refine v_iload_6 ok dX7_changed_46 (n := 48) rfl ?_
            refine v_iconst ok dX7_changed_48 (n := 49) rfl ?_
            refine v_iload_5 ok dX7_changed_49 (n := 51) rfl ?_
            refine v_iconst ok dX7_changed_51 (n := 52) rfl ?_
            refine v_isub ok dX7_changed_52 (n := 53) rfl ?_
            refine v_callSI ok (mi := mi_X7_isFrom) mc_X7_isFrom cs_X7_81 (by decide) ⟨Nat.zero_le _, Nat.zero_le _⟩ dX7_changed_53 (n := 56) rfl rfl rfl (Nat.le_of_ble_eq_true rfl) (t_isFrom hk (by omega) (by omega)) (fun x10 M10 h10 => ?_)
            obtain ⟨e10_, h10⟩ := h10
            subst M10
            refine v_if_ne ok dX7_changed_56 (tgt := 61) (by decide) (n := 59) rfl (by omega) (fun c56_6 => ?_) (fun c56_6 => ?_)
            · have c56_6 := c56_6
              have hP : (0 ≤ d ∧ d ≤ 1) ∧ (0 ≤ q ∧ q ≤ 3) ∧ (0 ≤ l ∧ l ≤ 2) ∧ (1 ≤ n ∧ n ≤ 6) ∧ n ≤ M 1 3 ∧ (-1 ≤ k ∧ k < n) := ⟨by omega, by omega, by omega, by omega, by omega, by omega⟩
              refine v_aload_0 ok dX7_changed_61 (n := 62) rfl ?_
              refine v_getR ok fd_X7_33 ly_0 rfl rfl rfl rf_0_4 dX7_changed_62 (n := 65) rfl ?_
              refine v_aload_0 ok dX7_changed_65 (n := 66) rfl ?_
              refine v_getR ok fd_X7_10 ly_0 rfl rfl rfl rf_0_0 dX7_changed_66 (n := 69) rfl ?_
              refine v_iload_1 ok dX7_changed_69 (n := 70) rfl ?_
              refine v_callVI ok (mi := mi_X6_findForAll) mc_X6_findForAll cv_X7_146 ly_74 rfl rfl rfl (by decide) ⟨Nat.zero_le _, Nat.zero_le _⟩ dX7_changed_70 (n := 73) rfl rfl rfl (Nat.le_of_ble_eq_true rfl) (t_findForAllW (by omega) hnb hns hB hS h0 h1) (fun x8 M8 g8 => ?_)
              obtain ⟨f8, g8⟩ := g8
              refine v_if_ne ok dX7_changed_73 (tgt := 79) (by decide) (n := 76) rfl (by omega) (fun c73_7 => ?_) (fun c73_7 => ?_)
              · have c73_7 := c73_7
                rcases g8 with ⟨e8, _⟩ | ⟨_, g8, g3, g4, g5⟩
                · exact absurd e8 c73_7
                refine v_aload_0 ok dX7_changed_79 (n := 80) rfl ?_
                refine v_getR ok fd_X7_60 ly_0 rfl rfl rfl rf_0_8 dX7_changed_80 (n := 83) rfl ?_
                refine v_iload_2 ok dX7_changed_83 (n := 84) rfl ?_
                refine v_aald ok ly_176 (by decide) rfl (by omega) (by decide) rfl dX7_changed_84 (n := 85) rfl ?_
                refine v_iload_3 ok dX7_changed_85 (n := 86) rfl ?_
                refine v_iload_4 ok dX7_changed_86 (n := 88) rfl ?_
                refine v_iload_5 ok dX7_changed_88 (n := 90) rfl ?_
                have e90 := t_refusal (G := G) (ad := ad) (M := M8) (j := q) (a := l) (i := i) (n := n) (by omega) (by rw [f8 (177 + q) (by omega)]; exact hth q (by omega)) (by rw [f8 (177 + q) (by omega)]; exact hla q (by omega)) (by rw [f8 (177 + q) (by omega)]; exact hln q (by omega)) hl hi hn
                rw [f8 (177 + q) (by omega)] at e90
                refine v_callVI ok (mi := mi_X3_refusal) mc_X3_refusal cv_X7_191 (lf_she (by omega)) rfl rfl rfl (by decide) ⟨Nat.zero_le _, Nat.zero_le _⟩ dX7_changed_90 (n := 93) rfl rfl rfl (Nat.le_of_ble_eq_true rfl) (e90) (fun x9 M9 g9 => ?_)
                obtain ⟨g9, w9⟩ := g9
                subst M9
                have b9 : -13 ≤ x9 ∧ x9 ≤ 0 := by
                  rw [w9]
                  unfold zref
                  split
                  · omega
                  · split
                    · omega
                    · split <;> omega
                refine v_istore_7 ok (by decide) rfl dX7_changed_93 (n := 95) rfl ?_
                refine v_iload_7 ok dX7_changed_95 (n := 97) rfl ?_
                refine v_if_eq ok dX7_changed_97 (tgt := 103) (by decide) (n := 100) rfl (by omega) (fun c97_8 => ?_) (fun c97_8 => ?_)
                · have c97_8 := c97_8
                  have z9 := zref_z (show zref (M (177 + q) 1) (M (177 + q) 2) (M (177 + q) 3) l i n = 0 by rw [← w9]; omega)
                  refine v_aload_0 ok dX7_changed_103 (n := 104) rfl ?_
                  refine v_getR ok fd_X7_47 ly_0 rfl rfl rfl rf_0_6 dX7_changed_104 (n := 107) rfl ?_
                  refine v_aload_0 ok dX7_changed_107 (n := 108) rfl ?_
                  refine v_getR ok fd_X7_10 ly_0 rfl rfl rfl rf_0_0 dX7_changed_108 (n := 111) rfl ?_
                  refine v_aload_0 ok dX7_changed_111 (n := 112) rfl ?_
                  refine v_getR ok fd_X7_33 ly_0 rfl rfl rfl rf_0_4 dX7_changed_112 (n := 115) rfl ?_
                  refine v_getR ok fd_X7_153 ly_74 rfl rfl rfl rf_74_2 dX7_changed_115 (n := 118) rfl ?_
                  refine v_aload_0 ok dX7_changed_118 (n := 119) rfl ?_
                  refine v_getR ok fd_X7_60 ly_0 rfl rfl rfl rf_0_8 dX7_changed_119 (n := 122) rfl ?_
                  refine v_iload_2 ok dX7_changed_122 (n := 123) rfl ?_
                  refine v_aald ok ly_176 (by decide) rfl (by omega) (by decide) rfl dX7_changed_123 (n := 124) rfl ?_
                  refine v_getR ok fd_X7_194 (lf_she (by omega)) rfl rfl rfl (rf_she (by omega)) dX7_changed_124 (n := 127) rfl ?_
                  refine v_iload_4 ok dX7_changed_127 (n := 129) rfl ?_
                  refine v_iload_5 ok dX7_changed_129 (n := 131) rfl ?_
                  have e131 := t_mixes (G := G) (ad := ad) (M := M8) (q := q) (i := i) (n := n) (by omega) (by omega) (by rw [f8 1 (by omega)]; omega) (by have := hln q (by omega); omega) (by rw [f8 1 (by omega)]; exact hnb) (by rw [f8 1 (by omega)]; exact hns) (by rw [f8 1 (by omega)]; intro b hb; rw [f8 (5 + b) (by omega)]; exact hB b hb) (by rw [f8 1 (by omega)]; intro s hs; rw [f8 (12 + s) (by omega)]; exact hS s hs) (by rw [f8 4 (by omega)]; exact h0) (by intro j i hj hi; rw [f8 (181 + j) (by omega)]; exact hI j i hj hi) (by
                        rw [f8 1 (by omega)]
                        intro b hb
                        rw [g4 b hb]
                        have e1 := zshe_b (zall M d) b
                        have e2 := hsw (by omega) g8 b hb
                        omega)
                  refine v_callVV ok (mi := mi_X0_find) mc_X0_find cv_X7_197 ly_138 rfl rfl rfl (by decide) ⟨Nat.zero_le _, Nat.zero_le _⟩ dX7_changed_131 (n := 134) rfl rfl rfl (Nat.le_of_ble_eq_true rfl) (e131) (fun M7 g7 => ?_)
                  obtain ⟨f7, m7, r7, a7⟩ := g7
                  have bR : 0 ≤ M7 140 0 ∧ M7 140 0 ≤ 46656 := by
                    have e := (r7 0 (by have := zp2_pos n; omega)).2
                    have e2 := z6_6 (k := n - zone 0) (by have := zone_b 0; omega)
                    omega
                  have m7 : ∀ b, 0 ≤ b ∧ b < n → M7 139 b = zmay (zgl M (zshe (zall M d)) b) (M (181 + q) (i + b)) n.toNat := by
                    intro b hb
                    rw [m7 b hb, f8 (181 + q) (by omega)]
                    refine zmay_c _ _ _ _ (fun o ho => ?_)
                    unfold zgl
                    rw [g4 o (by omega), f8 (5 + b) (by omega), f8 (12 + zshe (zall M d) o) (by have := zshe_b (zall M d) o; omega), f8 4 (by omega)]
                  have ff : zfrC M M7 := fun r hr => by rw [f7 r (by omega), f8 r (by omega)]
                  refine v_aload_0 ok dX7_changed_134 (n := 135) rfl ?_
                  refine v_getR ok fd_X7_47 ly_0 rfl rfl rfl rf_0_6 dX7_changed_135 (n := 138) rfl ?_
                  refine v_callVI ok (mi := mi_X0_howMany) mc_X0_howMany cv_X7_201 ly_138 rfl rfl rfl (by decide) ⟨Nat.zero_le _, Nat.zero_le _⟩ dX7_changed_138 (n := 141) rfl rfl rfl (Nat.le_of_ble_eq_true rfl) (t_howMany) (fun x1 N1 w1 => ?_)
                  obtain ⟨w1_, rfl⟩ := w1
                  subst N1
                  refine v_if_ne ok dX7_changed_141 (tgt := 147) (by decide) (n := 144) rfl (by omega) (fun c141_9 => ?_) (fun c141_9 => ?_)
                  · have c141_9 := c141_9
                    refine v_iload_6 ok dX7_changed_147 (n := 149) rfl ?_
                    refine v_iconst ok dX7_changed_149 (n := 150) rfl ?_
                    refine v_icmp_ne ok dX7_changed_150 (tgt := 163) (by decide) (n := 153) rfl (by omega) (by omega) (fun c150_10 => ?_) (fun c150_10 => ?_)
                    · have c150_10 := c150_10
                      refine v_aload_0 ok dX7_changed_163 (n := 164) rfl ?_
                      refine v_getR ok fd_X7_47 ly_0 rfl rfl rfl rf_0_6 dX7_changed_164 (n := 167) rfl ?_
                      refine v_getR ok fd_X7_204 ly_138 rfl rfl rfl rf_138_2 dX7_changed_167 (n := 170) rfl ?_
                      refine v_iload_6 ok dX7_changed_170 (n := 172) rfl ?_
                      refine v_iald ok ly_141 rfl (by omega) (by decide) dX7_changed_172 (n := 173) rfl ?_
                      rw [a7 k (by omega)]
                      refine v_iret rt dX7_changed_173 ?_
                      first
                      | exact Or.inr (Or.inr (Or.inr ⟨⟨hP, g8, by rw [← w9]; omega⟩, ⟨M7 139, M7 140, m7, r7, Or.inr (Or.inl ⟨by omega, by omega, rfl⟩)⟩, ff⟩))
                      | exact Or.inr (Or.inr (Or.inr ⟨⟨hP, g8, by rw [← w9]; omega⟩, ⟨M7 139, M7 140, m7, r7, Or.inr (Or.inr ⟨by omega, by omega, rfl⟩)⟩, ff⟩))
                    · have c150_10 := c150_10
                      refine v_aload_0 ok dX7_changed_153 (n := 154) rfl ?_
                      refine v_getR ok fd_X7_47 ly_0 rfl rfl rfl rf_0_6 dX7_changed_154 (n := 157) rfl ?_
                      refine v_callVI ok (mi := mi_X0_howMany) mc_X0_howMany cv_X7_201 ly_138 rfl rfl rfl (by decide) ⟨Nat.zero_le _, Nat.zero_le _⟩ dX7_changed_157 (n := 160) rfl rfl rfl (Nat.le_of_ble_eq_true rfl) (t_howMany) (fun x2 N2 w2 => ?_)
                      obtain ⟨w2_, rfl⟩ := w2
                      subst N2
                      refine v_goto ok dX7_changed_160 (n := 173) (by decide) ?_
                      refine v_iret rt dX7_changed_173 ?_
                      first
                      | exact Or.inr (Or.inr (Or.inr ⟨⟨hP, g8, by rw [← w9]; omega⟩, ⟨M7 139, M7 140, m7, r7, Or.inr (Or.inl ⟨by omega, by omega, rfl⟩)⟩, ff⟩))
                      | exact Or.inr (Or.inr (Or.inr ⟨⟨hP, g8, by rw [← w9]; omega⟩, ⟨M7 139, M7 140, m7, r7, Or.inr (Or.inr ⟨by omega, by omega, rfl⟩)⟩, ff⟩))
                  · have c141_9 := c141_9
                    refine v_bipush ok (by decide) dX7_changed_144 (n := 146) rfl ?_
                    refine v_iret rt dX7_changed_146 ?_
                    exact Or.inr (Or.inr (Or.inr ⟨⟨hP, g8, by rw [← w9]; omega⟩, ⟨M7 139, M7 140, m7, r7, Or.inl ⟨by omega, rfl⟩⟩, ff⟩))
                · have c97_8 := c97_8
                  refine v_iload_7 ok dX7_changed_100 (n := 102) rfl ?_
                  refine v_iret rt dX7_changed_102 ?_
                  exact Or.inr (Or.inr (Or.inl ⟨⟨hP, g8, by rw [← w9]; assumption⟩, w9, fun r hr => f8 r (by omega)⟩))
              · have c73_7 := c73_7
                rcases g8 with ⟨_, g8⟩ | ⟨e8, _⟩
                rotate_left
                · exfalso; omega
                refine v_bipush ok (by decide) dX7_changed_76 (n := 78) rfl ?_
                refine v_iret rt dX7_changed_78 ?_
                exact Or.inr (Or.inl ⟨⟨hP, g8⟩, rfl, fun r hr => f8 r (by omega)⟩)
            · have c56_6 := c56_6
              refine v_iconst ok dX7_changed_59 (n := 60) rfl ?_
              refine v_iret rt dX7_changed_60 ?_
              exact Or.inl ⟨by omega, rfl, rfl⟩
        · have c29_4 := c29_4
          refine v_iconst ok dX7_changed_32 (n := 33) rfl ?_
          refine v_iret rt dX7_changed_33 ?_
          exact Or.inl ⟨by omega, rfl, rfl⟩

