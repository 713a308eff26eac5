/-! the model: judged -/
def zjdgM (v : Int → Int) (f e n x : Int) : Prop := (¬ (zrkM v f n ∧ zhit (fun j => v (e + j)) n n) ∧ x = -2) ∨ ((zrkM v f n ∧ zhit (fun j => v (e + j)) n n) ∧ ∃ (P : Int → Int → Int) (G W : Int → Int), zcP v f n P ∧ (∀ b, 0 ≤ b ∧ b < n → G b = v (e + b) ∧ W (v (e + b)) = b) ∧ zfl (zlq P G W n) n x)
set_option maxHeartbeats 4000000 in
set_option maxRecDepth 100000 in
theorem u_judged {G : zG} {ad : Int → Nat} {M : zM} {q l i n p : Int} (hq : -2147483648 ≤ q ∧ q ≤ 2147483647) (hl : -2147483648 ≤ l ∧ l ≤ 2147483647) (hi : -2147483648 ≤ i ∧ i ≤ 2147483647) (hn : -2147483648 ≤ n ∧ n ≤ 2147483647) (hp : -2147483648 ≤ p ∧ p ≤ 2147483647) (hla : ∀ j, 0 ≤ j ∧ j < 4 → -1 ≤ M 223 j ∧ M 223 j ≤ 2) (hln : ∀ j, 0 ≤ j ∧ j < 4 → 0 ≤ M 224 j ∧ M 224 j ≤ 100) (hI : ∀ i, 0 ≤ i ∧ i < 400 → -2147483648 ≤ M 225 i ∧ M 225 i ≤ 2147483647)  : zTI G (zw ad) mi_X8_judged [zr 200, zi q, zi l, zi i, zi n, zi p] M (fun x M' => zfrM M M' ∧ ((¬ (((0 ≤ q ∧ q ≤ 3) ∧ (0 ≤ l ∧ l ≤ 2)) ∧ (2 ≤ n ∧ n ≤ 7) ∧ (0 ≤ p ∧ p ≤ 3)) ∧ x = -1) ∨ ((((0 ≤ q ∧ q ≤ 3) ∧ (0 ≤ l ∧ l ≤ 2)) ∧ (2 ≤ n ∧ n ≤ 7) ∧ (0 ≤ p ∧ p ≤ 3)) ∧ ((zlak (M 223 q) (M 224 q) l i (2 * n * n) ≠ 0 ∧ x = zlak (M 223 q) (M 224 q) l i (2 * n * n)) ∨ (zlak (M 223 q) (M 224 q) l i (2 * n * n) = 0 ∧ zlak (M 223 p) (M 224 p) l 0 n ≠ 0 ∧ x = zlak (M 223 p) (M 224 p) l 0 n) ∨ (zlak (M 223 q) (M 224 q) l i (2 * n * n) = 0 ∧ zlak (M 223 p) (M 224 p) l 0 n = 0 ∧ zjdgM (M 225) (100 * q + i) (100 * p) n x))))) := by
  refine zTI.of (own := RX8) (ls := [some (zr 200), some (zi q), some (zi l), some (zi i), some (zi n), some (zi p), none, none, none]) (by decide +kernel) rfl rfl (Nat.le_of_ble_eq_true rfl) (fun γ ok rt => ?_)
  refine v_iload_1 ok dX8_judged_0 (n := 1) rfl ?_
  refine v_iload_2 ok dX8_judged_1 (n := 2) rfl ?_
  refine v_callSI ok (mi := mi_X8_isSheet) mc_X8_isSheet cs_X8_230 (by decide) ⟨Nat.zero_le _, Nat.zero_le _⟩ dX8_judged_2 (n := 5) rfl rfl rfl (Nat.le_of_ble_eq_true rfl) (u_isSheet hq hl) (fun x6 M6 h6 => ?_)
  obtain ⟨e6_, h6⟩ := h6
  subst M6
  refine v_if_eq ok dX8_judged_5 (tgt := 36) (by decide) (n := 8) rfl (by omega) (fun c5_1 => ?_) (fun c5_1 => ?_)
  · have c5_1 := c5_1
    refine v_iconst ok dX8_judged_36 (n := 37) rfl ?_
    refine v_iret rt dX8_judged_37 ?_
    exact ⟨zfrM_r M, Or.inl ⟨by omega, rfl⟩⟩
  · have c5_1 := c5_1
    refine v_iload_4 ok dX8_judged_8 (n := 10) rfl ?_
    refine v_i2l ok (by omega) dX8_judged_10 (n := 11) rfl ?_
    refine v_ldc2 ok (c := 2) kc_X8_228 (by decide) dX8_judged_11 (n := 14) rfl ?_
    refine v_ldc2 ok (c := 7) kc_X8_246 (by decide) dX8_judged_14 (n := 17) rfl ?_
    refine v_callSI ok (mi := mi_X8_in) mc_X8_in cs_X8_85 (by decide) ⟨Nat.zero_le _, Nat.zero_le _⟩ dX8_judged_17 (n := 20) rfl rfl rfl (Nat.le_of_ble_eq_true rfl) (u_in (by omega) (by omega) (by omega)) (fun x7 M7 h7 => ?_)
    obtain ⟨e7_, h7⟩ := h7
    subst M7
    refine v_if_eq ok dX8_judged_20 (tgt := 36) (by decide) (n := 23) rfl (by omega) (fun c20_2 => ?_) (fun c20_2 => ?_)
    · have c20_2 := c20_2
      refine v_iconst ok dX8_judged_36 (n := 37) rfl ?_
      refine v_iret rt dX8_judged_37 ?_
      exact ⟨zfrM_r M, Or.inl ⟨by omega, rfl⟩⟩
    · have c20_2 := c20_2
      refine v_iload_5 ok dX8_judged_23 (n := 25) rfl ?_
      refine v_i2l ok (by omega) dX8_judged_25 (n := 26) rfl ?_
      refine v_lconst0 ok dX8_judged_26 (n := 27) rfl ?_
      refine v_ldc2 ok (c := 3) kc_X8_108 (by decide) dX8_judged_27 (n := 30) rfl ?_
      refine v_callSI ok (mi := mi_X8_in) mc_X8_in cs_X8_85 (by decide) ⟨Nat.zero_le _, Nat.zero_le _⟩ dX8_judged_30 (n := 33) rfl rfl rfl (Nat.le_of_ble_eq_true rfl) (u_in (by omega) (by omega) (by omega)) (fun x8 M8 h8 => ?_)
      obtain ⟨e8_, h8⟩ := h8
      subst M8
      refine v_if_ne ok dX8_judged_33 (tgt := 38) (by decide) (n := 36) rfl (by omega) (fun c33_3 => ?_) (fun c33_3 => ?_)
      · have c33_3 := c33_3
        have hnn := znn (n := n) (by omega)
        refine v_aload_0 ok dX8_judged_38 (n := 39) rfl ?_
        refine v_iload_1 ok dX8_judged_39 (n := 40) rfl ?_
        refine v_iload_2 ok dX8_judged_40 (n := 41) rfl ?_
        refine v_iload_3 ok dX8_judged_41 (n := 42) rfl ?_
        refine v_iconst ok dX8_judged_42 (n := 43) rfl ?_
        refine v_iload_4 ok dX8_judged_43 (n := 45) rfl ?_
        refine v_imul ok dX8_judged_45 (n := 46) rfl ?_
        refine v_iload_4 ok dX8_judged_46 (n := 48) rfl ?_
        refine v_imul ok dX8_judged_48 (n := 49) rfl ?_
        refine v_callVI ok (mi := mi_X8_lacksRow) mc_X8_lacksRow cv_X8_233 ly_200 rfl rfl rfl (by decide) ⟨Nat.zero_le _, Nat.zero_le _⟩ dX8_judged_49 (n := 52) rfl rfl rfl (Nat.le_of_ble_eq_true rfl) (u_lacksRow (by omega) (by omega) hl hi hla hln) (fun x6 M7 g7 => ?_)
        obtain ⟨g7, e7⟩ := g7
        subst M7
        have zlb := zlak_b (M 223 q) (M 224 q) l i (2 * n * n)
        refine v_istore_6 ok (by decide) rfl dX8_judged_52 (n := 54) rfl ?_
        refine v_iload_6 ok dX8_judged_54 (n := 56) rfl ?_
        refine v_if_ge ok dX8_judged_56 (tgt := 64) (by decide) (n := 59) rfl (by omega) (fun c56_4 => ?_) (fun c56_4 => ?_)
        · have c56_4 := c56_4
          refine v_aload_0 ok dX8_judged_64 (n := 65) rfl ?_
          refine v_iload_5 ok dX8_judged_65 (n := 67) rfl ?_
          refine v_iload_2 ok dX8_judged_67 (n := 68) rfl ?_
          refine v_iconst ok dX8_judged_68 (n := 69) rfl ?_
          refine v_iload_4 ok dX8_judged_69 (n := 71) rfl ?_
          refine v_callVI ok (mi := mi_X8_lacksRow) mc_X8_lacksRow cv_X8_233 ly_200 rfl rfl rfl (by decide) ⟨Nat.zero_le _, Nat.zero_le _⟩ dX8_judged_71 (n := 74) rfl rfl rfl (Nat.le_of_ble_eq_true rfl) (u_lacksRow (by omega) (by omega) hl (by omega) hla hln) (fun x8 M8 g8 => ?_)
          obtain ⟨g8, e8⟩ := g8
          subst M8
          have zlb2 := zlak_b (M 223 p) (M 224 p) l 0 n
          refine v_istore_6 ok (by decide) rfl dX8_judged_74 (n := 76) rfl ?_
          refine v_iload_6 ok dX8_judged_76 (n := 78) rfl ?_
          refine v_if_ge ok dX8_judged_78 (tgt := 84) (by decide) (n := 81) rfl (by omega) (fun c78_5 => ?_) (fun c78_5 => ?_)
          · have c78_5 := c78_5
            first
            | (exfalso; omega)
            | skip
              have hlk : 0 ≤ i ∧ i ≤ M 224 q - 2 * (n * n) := by
                have h : zlak (M 223 q) (M 224 q) l i (2 * n * n) = 0 := by omega
                try rw [hnn.2.1] at h
                unfold zlak at h
                by_cases e : M 223 q ≠ l
                · rw [if_pos e] at h
                  split at h <;> omega
                · rw [if_neg e] at h
                  split at h
                  · assumption
                  · omega
              have hlk2 : 0 ≤ (0 : Int) ∧ (0 : Int) ≤ M 224 p - n := by
                have h : zlak (M 223 p) (M 224 p) l 0 n = 0 := by omega
                try rw [hnn.2.1] at h
                unfold zlak at h
                by_cases e : M 223 p ≠ l
                · rw [if_pos e] at h
                  split at h <;> omega
                · rw [if_neg e] at h
                  split at h
                  · assumption
                  · omega
              have hlnq := hln q (by omega)
              have hlnp := hln p (by omega)
              refine v_aload_0 ok dX8_judged_84 (n := 85) rfl ?_
              refine v_bipush ok (by decide) dX8_judged_85 (n := 87) rfl ?_
              refine v_iload_1 ok dX8_judged_87 (n := 88) rfl ?_
              refine v_imul ok dX8_judged_88 (n := 89) rfl ?_
              refine v_iload_3 ok dX8_judged_89 (n := 90) rfl ?_
              refine v_iadd ok dX8_judged_90 (n := 91) rfl ?_
              refine v_iload_4 ok dX8_judged_91 (n := 93) rfl ?_
              refine v_callVI ok (mi := mi_X8_findRanks) mc_X8_findRanks cv_X8_248 ly_200 rfl rfl rfl (by decide) ⟨Nat.zero_le _, Nat.zero_le _⟩ dX8_judged_93 (n := 96) rfl rfl rfl (Nat.le_of_ble_eq_true rfl) (u_findRanks (by omega) (by omega) hI) (fun x1 M1 g1 => ?_)
              obtain ⟨g1, h1⟩ := g1
              have k225 : M1 225 = M 225 := g1 225 (by omega)
              refine v_if_eq ok dX8_judged_96 (tgt := 113) (by decide) (n := 99) rfl (by omega) (fun c96_6 => ?_) (fun c96_6 => ?_)
              · have c96_6 := c96_6
                refine v_bipush ok (by decide) dX8_judged_113 (n := 115) rfl ?_
                refine v_iret rt dX8_judged_115 ?_
                first
                | (rcases h1 with ⟨h, _⟩ | ⟨_, h2⟩
                   · exfalso
                     omega
                   · exact ⟨⟨fun r hr => g1 r (by omega), fun j _ _ _ => by rw [g1 200 (by omega)]⟩, Or.inr ⟨by omega, Or.inr (Or.inr ⟨by omega, by omega, Or.inl ⟨fun z => h2 z.1, rfl⟩⟩)⟩⟩)
                | (rcases g2 with ⟨h, _⟩ | ⟨_, h2⟩
                   · exfalso
                     omega
                   · exact ⟨⟨fun r hr => g1 r (by omega), fun j _ _ _ => by rw [g1 200 (by omega)]⟩, Or.inr ⟨by omega, Or.inr (Or.inr ⟨by omega, by omega, Or.inl ⟨fun z => h2 z.2, rfl⟩⟩)⟩⟩)
              · have c96_6 := c96_6
                have e107 := u_isRow (G := G) (ad := ad) (M := M1) (f := 100 * p) (n := n) (by omega) (by omega) (by rw [k225]; exact hI)
                rw [k225] at e107
                refine v_aload_0 ok dX8_judged_99 (n := 100) rfl ?_
                refine v_bipush ok (by decide) dX8_judged_100 (n := 102) rfl ?_
                refine v_iload_5 ok dX8_judged_102 (n := 104) rfl ?_
                refine v_imul ok dX8_judged_104 (n := 105) rfl ?_
                refine v_iload_4 ok dX8_judged_105 (n := 107) rfl ?_
                refine v_callVI ok (mi := mi_X8_isRow) mc_X8_isRow cv_X8_243 ly_200 rfl rfl rfl (by decide) ⟨Nat.zero_le _, Nat.zero_le _⟩ dX8_judged_107 (n := 110) rfl rfl rfl (Nat.le_of_ble_eq_true rfl) (e107) (fun x2 N2 g2 => ?_)
                obtain ⟨e2, g2⟩ := g2
                subst N2
                refine v_if_ne ok dX8_judged_110 (tgt := 116) (by decide) (n := 113) rfl (by omega) (fun c110_7 => ?_) (fun c110_7 => ?_)
                · have c110_7 := c110_7
                  obtain ⟨hrk, hrp⟩ : zrkM (M 225) (100 * q + i) n ∧ zcP (M 225) (100 * q + i) n (fun q t => M1 229 (n * q + t)) := by
                    rcases h1 with ⟨_, h2, h3⟩ | ⟨h, _⟩
                    · exact ⟨h2, h3⟩
                    · exfalso
                      omega
                  have hth : zhit (fun j => M 225 (100 * p + j)) n n := by
                    rcases g2 with ⟨_, h2⟩ | ⟨h, _⟩
                    · exact h2
                    · exfalso
                      omega
                  obtain ⟨w6, hw6⟩ : ∃ w, x8 = w := ⟨_, rfl⟩
                  subst hw6
                  have hPr : ∀ p t, 0 ≤ p ∧ p < 2 * n → 0 ≤ t ∧ t < n → 0 ≤ M1 229 (n * p + t) ∧ M1 229 (n * p + t) < n := fun p t hp ht => (zcP_r (by omega) hrk hrp p t hp ht).1
                  have hfin : ∀ (x : Int) (Mx : zM), (∀ r, r ≠ 230 → r ≠ 231 → Mx r = M1 r) → (∀ c, 0 ≤ c ∧ c < n → Mx 230 c = M 225 (100 * p + c) ∧ Mx 231 (M 225 (100 * p + c)) = c) → zfl (zlq (fun q t => M1 229 (n * q + t)) (Mx 230) (Mx 231) n) n x → (fun x M' => zfrM M M' ∧ ((¬ (((0 ≤ q ∧ q ≤ 3) ∧ (0 ≤ l ∧ l ≤ 2)) ∧ (2 ≤ n ∧ n ≤ 7) ∧ (0 ≤ p ∧ p ≤ 3)) ∧ x = -1) ∨ ((((0 ≤ q ∧ q ≤ 3) ∧ (0 ≤ l ∧ l ≤ 2)) ∧ (2 ≤ n ∧ n ≤ 7) ∧ (0 ≤ p ∧ p ≤ 3)) ∧ ((zlak (M 223 q) (M 224 q) l i (2 * n * n) ≠ 0 ∧ x = zlak (M 223 q) (M 224 q) l i (2 * n * n)) ∨ (zlak (M 223 q) (M 224 q) l i (2 * n * n) = 0 ∧ zlak (M 223 p) (M 224 p) l 0 n ≠ 0 ∧ x = zlak (M 223 p) (M 224 p) l 0 n) ∨ (zlak (M 223 q) (M 224 q) l i (2 * n * n) = 0 ∧ zlak (M 223 p) (M 224 p) l 0 n = 0 ∧ zjdgM (M 225) (100 * q + i) (100 * p) n x))))) x Mx := by
                    intro x Mx fx hgw hz
                    exact ⟨⟨fun r hr => by rw [fx r (by omega) (by omega), g1 r (by omega)], fun j _ _ _ => by rw [fx 200 (by omega) (by omega), g1 200 (by omega)]⟩, Or.inr ⟨by omega, Or.inr (Or.inr ⟨by omega, by omega, Or.inr ⟨⟨hrk, hth⟩, fun q t => M1 229 (n * q + t), Mx 230, Mx 231, hrp, hgw, hz⟩⟩)⟩⟩
                  have hve : ∀ c, 0 ≤ c ∧ c < n → 0 ≤ M 225 (100 * p + c) ∧ M 225 (100 * p + c) < n := fun c hc => (zhit_dis (by omega) hth).1 c hc
                  have lpf : ∀ (zn : Nat) (b : Int) (Mx : zM), zn = (8 - b).toNat → (0 ≤ b ∧ b ≤ n) → (∀ r, r ≠ 230 → r ≠ 231 → Mx r = M1 r) → (∀ c, 0 ≤ c ∧ c < b → Mx 230 c = M 225 (100 * p + c) ∧ Mx 231 (M 225 (100 * p + c)) = c) → zVV G γ (zw ad) (0, 0) 119 [some (zr 200), some (zi q), some (zi l), some (zi i), some (zi n), some (zi p), some (zi x8), some (zi b), none] [] Mx := by
                    refine zrec _ (fun zn ih => ?_)
                    intro b Mx hzn hb fx hgw
                    refine v_iload_7 ok dX8_judged_119 (n := 121) rfl ?_
                    refine v_iload_4 ok dX8_judged_121 (n := 123) rfl ?_
                    refine v_icmp_ge ok dX8_judged_123 (tgt := 166) (by decide) (n := 126) rfl (by omega) (by omega) (fun c123_1 => ?_) (fun c123_1 => ?_)
                    · have c123_1 := c123_1
                      refine v_iconst ok dX8_judged_166 (n := 167) rfl ?_
                      refine v_istore_7 ok (by decide) rfl dX8_judged_167 (n := 169) rfl ?_
                      rw [show b = n by omega] at hgw
                      have lpb : ∀ (zn : Nat) (b : Int) (l8 : Option zV), zn = (8 - b).toNat → (0 ≤ b ∧ b ≤ n) → (znl (zlq (fun q t => M1 229 (n * q + t)) (Mx 230) (Mx 231) n) n b 0) → zVV G γ (zw ad) (0, 0) 169 [some (zr 200), some (zi q), some (zi l), some (zi i), some (zi n), some (zi p), some (zi x8), some (zi b), l8] [] Mx := by
                        refine zrec _ (fun zn ih => ?_)
                        intro b l8 hzn hb hno
                        refine v_iload_7 ok dX8_judged_169 (n := 171) rfl ?_
                        refine v_iload_4 ok dX8_judged_171 (n := 173) rfl ?_
                        refine v_icmp_ge ok dX8_judged_173 (tgt := 281) (by decide) (n := 176) rfl (by omega) (by omega) (fun c173_1 => ?_) (fun c173_1 => ?_)
                        · have c173_1 := c173_1
                          refine v_bipush ok (by decide) dX8_judged_281 (n := 283) rfl ?_
                          refine v_iret rt dX8_judged_283 ?_
                          exact hfin _ _ fx hgw (Or.inr ⟨fun c h hc hh _ => hno c h hc hh (by omega), rfl⟩)
                        · have c173_1 := c173_1
                          have ih2 := ih
                          have lpg : ∀ (zn : Nat) (g : Int), zn = (8 - g).toNat → (0 ≤ g ∧ g ≤ n) → (znl (zlq (fun q t => M1 229 (n * q + t)) (Mx 230) (Mx 231) n) n b g) → zVV G γ (zw ad) (0, 0) 179 [some (zr 200), some (zi q), some (zi l), some (zi i), some (zi n), some (zi p), some (zi x8), some (zi b), some (zi g)] [] Mx := by
                            refine zrec _ (fun zn ih => ?_)
                            intro g hzn hg hno
                            refine v_iload_8 ok dX8_judged_179 (n := 181) rfl ?_
                            refine v_iload_4 ok dX8_judged_181 (n := 183) rfl ?_
                            refine v_icmp_ge ok dX8_judged_183 (tgt := 275) (by decide) (n := 186) rfl (by omega) (by omega) (fun c183_1 => ?_) (fun c183_1 => ?_)
                            · have c183_1 := c183_1
                              refine v_iinc_7 ok (by decide) rfl dX8_judged_275 (n := 278) rfl ?_
                              refine v_goto ok dX8_judged_278 (n := 169) (by decide) ?_
                              refine ih2 _ (by omega) (b + 1) _ rfl (by omega) ?_
                              intro c h hc hh hch
                              exact hno c h hc hh (by omega)
                            · have c183_1 := c183_1
                              have hv1 := hve b (by omega)
                              obtain ⟨i2, hi2, hi2e⟩ := hth g (by omega)
                              have hv2 := hgw i2 hi2
                              have hi2e : M 225 (100 * p + i2) = g := hi2e
                              rw [hi2e] at hv2
                              have hWg : Mx 231 g = i2 := hv2.2
                              have hGb : Mx 230 b = M 225 (100 * p + b) := (hgw b (by omega)).1
                              have zb1 := znm (n := n) (b := b) (m := 2 * n) (by omega) (by omega) (by omega)
                              have zg1 := znm (n := n) (b := n + g) (m := 2 * n) (by omega) (by omega) (by omega)
                              have r1 := hPr b g (by omega) (by omega)
                              have r2 := hPr b (Mx 230 b) (by omega) (by omega)
                              have r3 := hPr (n + g) b (by omega) (by omega)
                              have r4 := hPr (n + g) (Mx 231 g) (by omega) (by omega)
                              refine v_aload_0 ok dX8_judged_186 (n := 187) rfl ?_
                              refine v_getR ok fd_X8_69 ly_200 rfl rfl rfl rf_200_28 dX8_judged_187 (n := 190) rfl ?_
                              refine v_iload_4 ok dX8_judged_190 (n := 192) rfl ?_
                              refine v_iload_7 ok dX8_judged_192 (n := 194) rfl ?_
                              refine v_imul ok dX8_judged_194 (n := 195) rfl ?_
                              refine v_iload_8 ok dX8_judged_195 (n := 197) rfl ?_
                              refine v_iadd ok dX8_judged_197 (n := 198) rfl ?_
                              refine v_iald ok ly_229 rfl (by omega) (by decide) dX8_judged_198 (n := 199) rfl ?_
                              try simp (disch := omega) only [fx, k225]
                              refine v_aload_0 ok dX8_judged_199 (n := 200) rfl ?_
                              refine v_getR ok fd_X8_69 ly_200 rfl rfl rfl rf_200_28 dX8_judged_200 (n := 203) rfl ?_
                              refine v_iload_4 ok dX8_judged_203 (n := 205) rfl ?_
                              refine v_iload_7 ok dX8_judged_205 (n := 207) rfl ?_
                              refine v_imul ok dX8_judged_207 (n := 208) rfl ?_
                              refine v_aload_0 ok dX8_judged_208 (n := 209) rfl ?_
                              refine v_getR ok fd_X8_72 ly_200 rfl rfl rfl rf_200_29 dX8_judged_209 (n := 212) rfl ?_
                              refine v_iload_7 ok dX8_judged_212 (n := 214) rfl ?_
                              refine v_iald ok ly_230 rfl (by omega) (by decide) dX8_judged_214 (n := 215) rfl ?_
                              try simp (disch := omega) only [fx, k225]
                              refine v_iadd ok dX8_judged_215 (n := 216) rfl ?_
                              refine v_iald ok ly_229 rfl (by omega) (by decide) dX8_judged_216 (n := 217) rfl ?_
                              try simp (disch := omega) only [fx, k225]
                              refine v_icmp_ge ok dX8_judged_217 (tgt := 269) (by decide) (n := 220) rfl (by omega) (by omega) (fun c217_2 => ?_) (fun c217_2 => ?_)
                              · have c217_2 := c217_2
                                refine v_iinc_8 ok (by decide) rfl dX8_judged_269 (n := 272) rfl ?_
                                refine v_goto ok dX8_judged_272 (n := 179) (by decide) ?_
                                refine ih _ (by omega) (g + 1) rfl (by omega) (znl_s hno (fun z => ?_))
                                have z1 : M1 229 (n * b + g) < M1 229 (n * b + Mx 230 b) := z.1
                                have z2 : M1 229 (n * (n + g) + b) < M1 229 (n * (n + g) + Mx 231 g) := z.2
                                omega
                              · have c217_2 := c217_2
                                refine v_aload_0 ok dX8_judged_220 (n := 221) rfl ?_
                                refine v_getR ok fd_X8_69 ly_200 rfl rfl rfl rf_200_28 dX8_judged_221 (n := 224) rfl ?_
                                refine v_iload_4 ok dX8_judged_224 (n := 226) rfl ?_
                                refine v_iload_4 ok dX8_judged_226 (n := 228) rfl ?_
                                refine v_iload_8 ok dX8_judged_228 (n := 230) rfl ?_
                                refine v_iadd ok dX8_judged_230 (n := 231) rfl ?_
                                refine v_imul ok dX8_judged_231 (n := 232) rfl ?_
                                refine v_iload_7 ok dX8_judged_232 (n := 234) rfl ?_
                                refine v_iadd ok dX8_judged_234 (n := 235) rfl ?_
                                refine v_iald ok ly_229 rfl (by omega) (by decide) dX8_judged_235 (n := 236) rfl ?_
                                try simp (disch := omega) only [fx, k225]
                                refine v_aload_0 ok dX8_judged_236 (n := 237) rfl ?_
                                refine v_getR ok fd_X8_69 ly_200 rfl rfl rfl rf_200_28 dX8_judged_237 (n := 240) rfl ?_
                                refine v_iload_4 ok dX8_judged_240 (n := 242) rfl ?_
                                refine v_iload_4 ok dX8_judged_242 (n := 244) rfl ?_
                                refine v_iload_8 ok dX8_judged_244 (n := 246) rfl ?_
                                refine v_iadd ok dX8_judged_246 (n := 247) rfl ?_
                                refine v_imul ok dX8_judged_247 (n := 248) rfl ?_
                                refine v_aload_0 ok dX8_judged_248 (n := 249) rfl ?_
                                refine v_getR ok fd_X8_75 ly_200 rfl rfl rfl rf_200_30 dX8_judged_249 (n := 252) rfl ?_
                                refine v_iload_8 ok dX8_judged_252 (n := 254) rfl ?_
                                refine v_iald ok ly_231 rfl (by omega) (by decide) dX8_judged_254 (n := 255) rfl ?_
                                try simp (disch := omega) only [fx, k225]
                                refine v_iadd ok dX8_judged_255 (n := 256) rfl ?_
                                refine v_iald ok ly_229 rfl (by omega) (by decide) dX8_judged_256 (n := 257) rfl ?_
                                try simp (disch := omega) only [fx, k225]
                                refine v_icmp_ge ok dX8_judged_257 (tgt := 269) (by decide) (n := 260) rfl (by omega) (by omega) (fun c257_3 => ?_) (fun c257_3 => ?_)
                                · have c257_3 := c257_3
                                  refine v_iinc_8 ok (by decide) rfl dX8_judged_269 (n := 272) rfl ?_
                                  refine v_goto ok dX8_judged_272 (n := 179) (by decide) ?_
                                  refine ih _ (by omega) (g + 1) rfl (by omega) (znl_s hno (fun z => ?_))
                                  have z1 : M1 229 (n * b + g) < M1 229 (n * b + Mx 230 b) := z.1
                                  have z2 : M1 229 (n * (n + g) + b) < M1 229 (n * (n + g) + Mx 231 g) := z.2
                                  omega
                                · have c257_3 := c257_3
                                  refine v_bipush ok (by decide) dX8_judged_260 (n := 262) rfl ?_
                                  refine v_iload_7 ok dX8_judged_262 (n := 264) rfl ?_
                                  refine v_imul ok dX8_judged_264 (n := 265) rfl ?_
                                  refine v_iload_8 ok dX8_judged_265 (n := 267) rfl ?_
                                  refine v_iadd ok dX8_judged_267 (n := 268) rfl ?_
                                  refine v_iret rt dX8_judged_268 ?_
                                  refine hfin _ _ fx hgw (Or.inl ⟨b, g, by omega, by omega, ⟨?_, ?_⟩, hno, rfl⟩)
                                  · show M1 229 (n * b + g) < M1 229 (n * b + Mx 230 b)
                                    omega
                                  · show M1 229 (n * (n + g) + b) < M1 229 (n * (n + g) + Mx 231 g)
                                    omega
                          refine v_iconst ok dX8_judged_176 (n := 177) rfl ?_
                          refine v_istore_8 ok (by decide) rfl dX8_judged_177 (n := 179) rfl ?_
                          exact lpg _ 0 rfl (by omega) hno
                      exact lpb _ 0 _ rfl (by omega) (fun c h hc hh hch => by omega)
                    · have c123_1 := c123_1
                      have hv1 := hve b (by omega)
                      refine v_aload_0 ok dX8_judged_126 (n := 127) rfl ?_
                      refine v_getR ok fd_X8_72 ly_200 rfl rfl rfl rf_200_29 dX8_judged_127 (n := 130) rfl ?_
                      refine v_iload_7 ok dX8_judged_130 (n := 132) rfl ?_
                      refine v_aload_0 ok dX8_judged_132 (n := 133) rfl ?_
                      refine v_getR ok fd_X8_57 ly_200 rfl rfl rfl rf_200_24 dX8_judged_133 (n := 136) rfl ?_
                      refine v_bipush ok (by decide) dX8_judged_136 (n := 138) rfl ?_
                      refine v_iload_5 ok dX8_judged_138 (n := 140) rfl ?_
                      refine v_imul ok dX8_judged_140 (n := 141) rfl ?_
                      refine v_iload_7 ok dX8_judged_141 (n := 143) rfl ?_
                      refine v_iadd ok dX8_judged_143 (n := 144) rfl ?_
                      refine v_iald ok ly_225 rfl (by omega) (by decide) dX8_judged_144 (n := 145) rfl ?_
                      try simp (disch := omega) only [fx, k225]
                      skip
                      refine v_iast ok ly_230 rfl (by omega) (by decide) dX8_judged_145 (n := 146) rfl ?_
                      refine v_aload_0 ok dX8_judged_146 (n := 147) rfl ?_
                      refine v_getR ok fd_X8_75 ly_200 rfl rfl rfl rf_200_30 dX8_judged_147 (n := 150) rfl ?_
                      refine v_aload_0 ok dX8_judged_150 (n := 151) rfl ?_
                      refine v_getR ok fd_X8_72 ly_200 rfl rfl rfl rf_200_29 dX8_judged_151 (n := 154) rfl ?_
                      refine v_iload_7 ok dX8_judged_154 (n := 156) rfl ?_
                      refine v_iald ok ly_230 rfl (by omega) (by decide) dX8_judged_156 (n := 157) rfl ?_
                      try simp (disch := omega) only [fx, k225]
                      rw [zset_s]
                      refine v_iload_7 ok dX8_judged_157 (n := 159) rfl ?_
                      refine v_iast ok ly_231 rfl (by omega) (by decide) dX8_judged_159 (n := 160) rfl ?_
                      refine v_iinc_7 ok (by decide) rfl dX8_judged_160 (n := 163) rfl ?_
                      refine v_goto ok dX8_judged_163 (n := 119) (by decide) ?_
                      refine ih _ (by omega) (b + 1) _ rfl (by omega) (fun r a1 a2 => by rw [zset_o a2, zset_o a1]; exact fx r a1 a2) (fun c hc => ?_)
                      rw [zset_o (by omega)]
                      by_cases e1 : c = b
                      · subst e1
                        rw [zset_s, zset_s]
                        exact ⟨rfl, rfl⟩
                      · have h1 := hgw c (by omega)
                        have h2 := (zhit_dis (by omega) hth).2 c b (by omega)
                        have h2 : M 225 (100 * p + c) ≠ M 225 (100 * p + b) := h2
                        rw [zset_n e1, zset_n h2, zset_o (by omega)]
                        exact h1
                  refine v_iconst ok dX8_judged_116 (n := 117) rfl ?_
                  refine v_istore_7 ok (by decide) rfl dX8_judged_117 (n := 119) rfl ?_
                  exact lpf _ 0 M1 rfl (by omega) (fun r _ _ => rfl) (fun j hj => by omega)
                · have c110_7 := c110_7
                  refine v_bipush ok (by decide) dX8_judged_113 (n := 115) rfl ?_
                  refine v_iret rt dX8_judged_115 ?_
                  first
                  | (rcases h1 with ⟨h, _⟩ | ⟨_, h2⟩
                     · exfalso
                       omega
                     · exact ⟨⟨fun r hr => g1 r (by omega), fun j _ _ _ => by rw [g1 200 (by omega)]⟩, Or.inr ⟨by omega, Or.inr (Or.inr ⟨by omega, by omega, Or.inl ⟨fun z => h2 z.1, rfl⟩⟩)⟩⟩)
                  | (rcases g2 with ⟨h, _⟩ | ⟨_, h2⟩
                     · exfalso
                       omega
                     · exact ⟨⟨fun r hr => g1 r (by omega), fun j _ _ _ => by rw [g1 200 (by omega)]⟩, Or.inr ⟨by omega, Or.inr (Or.inr ⟨by omega, by omega, Or.inl ⟨fun z => h2 z.2, rfl⟩⟩)⟩⟩)
          · have c78_5 := c78_5
            first
            | (exfalso; omega)
            | skip
              refine v_iload_6 ok dX8_judged_81 (n := 83) rfl ?_
              refine v_iret rt dX8_judged_83 ?_
              first
              | exact ⟨zfrM_r M, Or.inr ⟨by omega, Or.inl ⟨by omega, by omega⟩⟩⟩
              | exact ⟨zfrM_r M, Or.inr ⟨by omega, Or.inr (Or.inl ⟨by omega, by omega, by omega⟩)⟩⟩
        · have c56_4 := c56_4
          refine v_iload_6 ok dX8_judged_59 (n := 61) rfl ?_
          refine v_goto ok dX8_judged_61 (n := 74) (by decide) ?_
          refine v_istore_6 ok (by decide) rfl dX8_judged_74 (n := 76) rfl ?_
          refine v_iload_6 ok dX8_judged_76 (n := 78) rfl ?_
          refine v_if_ge ok dX8_judged_78 (tgt := 84) (by decide) (n := 81) rfl (by omega) (fun c78_8 => ?_) (fun c78_8 => ?_)
          · have c78_8 := c78_8
            first
            | (exfalso; omega)
            | skip
              have hlk : 0 ≤ i ∧ i ≤ M 224 q - 2 * (n * n) := by
                have h : zlak (M 223 q) (M 224 q) l i (2 * n * n) = 0 := by omega
                try rw [hnn.2.1] at h
                unfold zlak at h
                by_cases e : M 223 q ≠ l
                · rw [if_pos e] at h
                  split at h <;> omega
                · rw [if_neg e] at h
                  split at h
                  · assumption
                  · omega
              have hlk2 : 0 ≤ (0 : Int) ∧ (0 : Int) ≤ M 224 p - n := by
                have h : zlak (M 223 p) (M 224 p) l 0 n = 0 := by omega
                try rw [hnn.2.1] at h
                unfold zlak at h
                by_cases e : M 223 p ≠ l
                · rw [if_pos e] at h
                  split at h <;> omega
                · rw [if_neg e] at h
                  split at h
                  · assumption
                  · omega
              have hlnq := hln q (by omega)
              have hlnp := hln p (by omega)
              refine v_aload_0 ok dX8_judged_84 (n := 85) rfl ?_
              refine v_bipush ok (by decide) dX8_judged_85 (n := 87) rfl ?_
              refine v_iload_1 ok dX8_judged_87 (n := 88) rfl ?_
              refine v_imul ok dX8_judged_88 (n := 89) rfl ?_
              refine v_iload_3 ok dX8_judged_89 (n := 90) rfl ?_
              refine v_iadd ok dX8_judged_90 (n := 91) rfl ?_
              refine v_iload_4 ok dX8_judged_91 (n := 93) rfl ?_
              refine v_callVI ok (mi := mi_X8_findRanks) mc_X8_findRanks cv_X8_248 ly_200 rfl rfl rfl (by decide) ⟨Nat.zero_le _, Nat.zero_le _⟩ dX8_judged_93 (n := 96) rfl rfl rfl (Nat.le_of_ble_eq_true rfl) (u_findRanks (by omega) (by omega) hI) (fun x1 M1 g1 => ?_)
              obtain ⟨g1, h1⟩ := g1
              have k225 : M1 225 = M 225 := g1 225 (by omega)
              refine v_if_eq ok dX8_judged_96 (tgt := 113) (by decide) (n := 99) rfl (by omega) (fun c96_9 => ?_) (fun c96_9 => ?_)
              · have c96_9 := c96_9
                refine v_bipush ok (by decide) dX8_judged_113 (n := 115) rfl ?_
                refine v_iret rt dX8_judged_115 ?_
                first
                | (rcases h1 with ⟨h, _⟩ | ⟨_, h2⟩
                   · exfalso
                     omega
                   · exact ⟨⟨fun r hr => g1 r (by omega), fun j _ _ _ => by rw [g1 200 (by omega)]⟩, Or.inr ⟨by omega, Or.inr (Or.inr ⟨by omega, by omega, Or.inl ⟨fun z => h2 z.1, rfl⟩⟩)⟩⟩)
                | (rcases g2 with ⟨h, _⟩ | ⟨_, h2⟩
                   · exfalso
                     omega
                   · exact ⟨⟨fun r hr => g1 r (by omega), fun j _ _ _ => by rw [g1 200 (by omega)]⟩, Or.inr ⟨by omega, Or.inr (Or.inr ⟨by omega, by omega, Or.inl ⟨fun z => h2 z.2, rfl⟩⟩)⟩⟩)
              · have c96_9 := c96_9
                have e107 := u_isRow (G := G) (ad := ad) (M := M1) (f := 100 * p) (n := n) (by omega) (by omega) (by rw [k225]; exact hI)
                rw [k225] at e107
                refine v_aload_0 ok dX8_judged_99 (n := 100) rfl ?_
                refine v_bipush ok (by decide) dX8_judged_100 (n := 102) rfl ?_
                refine v_iload_5 ok dX8_judged_102 (n := 104) rfl ?_
                refine v_imul ok dX8_judged_104 (n := 105) rfl ?_
                refine v_iload_4 ok dX8_judged_105 (n := 107) rfl ?_
                refine v_callVI ok (mi := mi_X8_isRow) mc_X8_isRow cv_X8_243 ly_200 rfl rfl rfl (by decide) ⟨Nat.zero_le _, Nat.zero_le _⟩ dX8_judged_107 (n := 110) rfl rfl rfl (Nat.le_of_ble_eq_true rfl) (e107) (fun x2 N2 g2 => ?_)
                obtain ⟨e2, g2⟩ := g2
                subst N2
                refine v_if_ne ok dX8_judged_110 (tgt := 116) (by decide) (n := 113) rfl (by omega) (fun c110_10 => ?_) (fun c110_10 => ?_)
                · have c110_10 := c110_10
                  obtain ⟨hrk, hrp⟩ : zrkM (M 225) (100 * q + i) n ∧ zcP (M 225) (100 * q + i) n (fun q t => M1 229 (n * q + t)) := by
                    rcases h1 with ⟨_, h2, h3⟩ | ⟨h, _⟩
                    · exact ⟨h2, h3⟩
                    · exfalso
                      omega
                  have hth : zhit (fun j => M 225 (100 * p + j)) n n := by
                    rcases g2 with ⟨_, h2⟩ | ⟨h, _⟩
                    · exact h2
                    · exfalso
                      omega
                  obtain ⟨w6, hw6⟩ : ∃ w, x8 = w := ⟨_, rfl⟩
                  subst hw6
                  have hPr : ∀ p t, 0 ≤ p ∧ p < 2 * n → 0 ≤ t ∧ t < n → 0 ≤ M1 229 (n * p + t) ∧ M1 229 (n * p + t) < n := fun p t hp ht => (zcP_r (by omega) hrk hrp p t hp ht).1
                  have hfin : ∀ (x : Int) (Mx : zM), (∀ r, r ≠ 230 → r ≠ 231 → Mx r = M1 r) → (∀ c, 0 ≤ c ∧ c < n → Mx 230 c = M 225 (100 * p + c) ∧ Mx 231 (M 225 (100 * p + c)) = c) → zfl (zlq (fun q t => M1 229 (n * q + t)) (Mx 230) (Mx 231) n) n x → (fun x M' => zfrM M M' ∧ ((¬ (((0 ≤ q ∧ q ≤ 3) ∧ (0 ≤ l ∧ l ≤ 2)) ∧ (2 ≤ n ∧ n ≤ 7) ∧ (0 ≤ p ∧ p ≤ 3)) ∧ x = -1) ∨ ((((0 ≤ q ∧ q ≤ 3) ∧ (0 ≤ l ∧ l ≤ 2)) ∧ (2 ≤ n ∧ n ≤ 7) ∧ (0 ≤ p ∧ p ≤ 3)) ∧ ((zlak (M 223 q) (M 224 q) l i (2 * n * n) ≠ 0 ∧ x = zlak (M 223 q) (M 224 q) l i (2 * n * n)) ∨ (zlak (M 223 q) (M 224 q) l i (2 * n * n) = 0 ∧ zlak (M 223 p) (M 224 p) l 0 n ≠ 0 ∧ x = zlak (M 223 p) (M 224 p) l 0 n) ∨ (zlak (M 223 q) (M 224 q) l i (2 * n * n) = 0 ∧ zlak (M 223 p) (M 224 p) l 0 n = 0 ∧ zjdgM (M 225) (100 * q + i) (100 * p) n x))))) x Mx := by
                    intro x Mx fx hgw hz
                    exact ⟨⟨fun r hr => by rw [fx r (by omega) (by omega), g1 r (by omega)], fun j _ _ _ => by rw [fx 200 (by omega) (by omega), g1 200 (by omega)]⟩, Or.inr ⟨by omega, Or.inr (Or.inr ⟨by omega, by omega, Or.inr ⟨⟨hrk, hth⟩, fun q t => M1 229 (n * q + t), Mx 230, Mx 231, hrp, hgw, hz⟩⟩)⟩⟩
                  have hve : ∀ c, 0 ≤ c ∧ c < n → 0 ≤ M 225 (100 * p + c) ∧ M 225 (100 * p + c) < n := fun c hc => (zhit_dis (by omega) hth).1 c hc
                  have lpf : ∀ (zn : Nat) (b : Int) (Mx : zM), zn = (8 - b).toNat → (0 ≤ b ∧ b ≤ n) → (∀ r, r ≠ 230 → r ≠ 231 → Mx r = M1 r) → (∀ c, 0 ≤ c ∧ c < b → Mx 230 c = M 225 (100 * p + c) ∧ Mx 231 (M 225 (100 * p + c)) = c) → zVV G γ (zw ad) (0, 0) 119 [some (zr 200), some (zi q), some (zi l), some (zi i), some (zi n), some (zi p), some (zi x8), some (zi b), none] [] Mx := by
                    refine zrec _ (fun zn ih => ?_)
                    intro b Mx hzn hb fx hgw
                    refine v_iload_7 ok dX8_judged_119 (n := 121) rfl ?_
                    refine v_iload_4 ok dX8_judged_121 (n := 123) rfl ?_
                    refine v_icmp_ge ok dX8_judged_123 (tgt := 166) (by decide) (n := 126) rfl (by omega) (by omega) (fun c123_1 => ?_) (fun c123_1 => ?_)
                    · have c123_1 := c123_1
                      refine v_iconst ok dX8_judged_166 (n := 167) rfl ?_
                      refine v_istore_7 ok (by decide) rfl dX8_judged_167 (n := 169) rfl ?_
                      rw [show b = n by omega] at hgw
                      have lpb : ∀ (zn : Nat) (b : Int) (l8 : Option zV), zn = (8 - b).toNat → (0 ≤ b ∧ b ≤ n) → (znl (zlq (fun q t => M1 229 (n * q + t)) (Mx 230) (Mx 231) n) n b 0) → zVV G γ (zw ad) (0, 0) 169 [some (zr 200), some (zi q), some (zi l), some (zi i), some (zi n), some (zi p), some (zi x8), some (zi b), l8] [] Mx := by
                        refine zrec _ (fun zn ih => ?_)
                        intro b l8 hzn hb hno
                        refine v_iload_7 ok dX8_judged_169 (n := 171) rfl ?_
                        refine v_iload_4 ok dX8_judged_171 (n := 173) rfl ?_
                        refine v_icmp_ge ok dX8_judged_173 (tgt := 281) (by decide) (n := 176) rfl (by omega) (by omega) (fun c173_1 => ?_) (fun c173_1 => ?_)
                        · have c173_1 := c173_1
                          refine v_bipush ok (by decide) dX8_judged_281 (n := 283) rfl ?_
                          refine v_iret rt dX8_judged_283 ?_
                          exact hfin _ _ fx hgw (Or.inr ⟨fun c h hc hh _ => hno c h hc hh (by omega), rfl⟩)
                        · have c173_1 := c173_1
                          have ih2 := ih
                          have lpg : ∀ (zn : Nat) (g : Int), zn = (8 - g).toNat → (0 ≤ g ∧ g ≤ n) → (znl (zlq (fun q t => M1 229 (n * q + t)) (Mx 230) (Mx 231) n) n b g) → zVV G γ (zw ad) (0, 0) 179 [some (zr 200), some (zi q), some (zi l), some (zi i), some (zi n), some (zi p), some (zi x8), some (zi b), some (zi g)] [] Mx := by
                            refine zrec _ (fun zn ih => ?_)
                            intro g hzn hg hno
                            refine v_iload_8 ok dX8_judged_179 (n := 181) rfl ?_
                            refine v_iload_4 ok dX8_judged_181 (n := 183) rfl ?_
                            refine v_icmp_ge ok dX8_judged_183 (tgt := 275) (by decide) (n := 186) rfl (by omega) (by omega) (fun c183_1 => ?_) (fun c183_1 => ?_)
                            · have c183_1 := c183_1
                              refine v_iinc_7 ok (by decide) rfl dX8_judged_275 (n := 278) rfl ?_
                              refine v_goto ok dX8_judged_278 (n := 169) (by decide) ?_
                              refine ih2 _ (by omega) (b + 1) _ rfl (by omega) ?_
                              intro c h hc hh hch
                              exact hno c h hc hh (by omega)
                            · have c183_1 := c183_1
                              have hv1 := hve b (by omega)
                              obtain ⟨i2, hi2, hi2e⟩ := hth g (by omega)
                              have hv2 := hgw i2 hi2
                              have hi2e : M 225 (100 * p + i2) = g := hi2e
                              rw [hi2e] at hv2
                              have hWg : Mx 231 g = i2 := hv2.2
                              have hGb : Mx 230 b = M 225 (100 * p + b) := (hgw b (by omega)).1
                              have zb1 := znm (n := n) (b := b) (m := 2 * n) (by omega) (by omega) (by omega)
                              have zg1 := znm (n := n) (b := n + g) (m := 2 * n) (by omega) (by omega) (by omega)
                              have r1 := hPr b g (by omega) (by omega)
                              have r2 := hPr b (Mx 230 b) (by omega) (by omega)
                              have r3 := hPr (n + g) b (by omega) (by omega)
                              have r4 := hPr (n + g) (Mx 231 g) (by omega) (by omega)
                              refine v_aload_0 ok dX8_judged_186 (n := 187) rfl ?_
                              refine v_getR ok fd_X8_69 ly_200 rfl rfl rfl rf_200_28 dX8_judged_187 (n := 190) rfl ?_
                              refine v_iload_4 ok dX8_judged_190 (n := 192) rfl ?_
                              refine v_iload_7 ok dX8_judged_192 (n := 194) rfl ?_
                              refine v_imul ok dX8_judged_194 (n := 195) rfl ?_
                              refine v_iload_8 ok dX8_judged_195 (n := 197) rfl ?_
                              refine v_iadd ok dX8_judged_197 (n := 198) rfl ?_
                              refine v_iald ok ly_229 rfl (by omega) (by decide) dX8_judged_198 (n := 199) rfl ?_
                              try simp (disch := omega) only [fx, k225]
                              refine v_aload_0 ok dX8_judged_199 (n := 200) rfl ?_
                              refine v_getR ok fd_X8_69 ly_200 rfl rfl rfl rf_200_28 dX8_judged_200 (n := 203) rfl ?_
                              refine v_iload_4 ok dX8_judged_203 (n := 205) rfl ?_
                              refine v_iload_7 ok dX8_judged_205 (n := 207) rfl ?_
                              refine v_imul ok dX8_judged_207 (n := 208) rfl ?_
                              refine v_aload_0 ok dX8_judged_208 (n := 209) rfl ?_
                              refine v_getR ok fd_X8_72 ly_200 rfl rfl rfl rf_200_29 dX8_judged_209 (n := 212) rfl ?_
                              refine v_iload_7 ok dX8_judged_212 (n := 214) rfl ?_
                              refine v_iald ok ly_230 rfl (by omega) (by decide) dX8_judged_214 (n := 215) rfl ?_
                              try simp (disch := omega) only [fx, k225]
                              refine v_iadd ok dX8_judged_215 (n := 216) rfl ?_
                              refine v_iald ok ly_229 rfl (by omega) (by decide) dX8_judged_216 (n := 217) rfl ?_
                              try simp (disch := omega) only [fx, k225]
                              refine v_icmp_ge ok dX8_judged_217 (tgt := 269) (by decide) (n := 220) rfl (by omega) (by omega) (fun c217_2 => ?_) (fun c217_2 => ?_)
                              · have c217_2 := c217_2
                                refine v_iinc_8 ok (by decide) rfl dX8_judged_269 (n := 272) rfl ?_
                                refine v_goto ok dX8_judged_272 (n := 179) (by decide) ?_
                                refine ih _ (by omega) (g + 1) rfl (by omega) (znl_s hno (fun z => ?_))
                                have z1 : M1 229 (n * b + g) < M1 229 (n * b + Mx 230 b) := z.1
                                have z2 : M1 229 (n * (n + g) + b) < M1 229 (n * (n + g) + Mx 231 g) := z.2
                                omega
                              · have c217_2 := c217_2
                                refine v_aload_0 ok dX8_judged_220 (n := 221) rfl ?_
                                refine v_getR ok fd_X8_69 ly_200 rfl rfl rfl rf_200_28 dX8_judged_221 (n := 224) rfl ?_
                                refine v_iload_4 ok dX8_judged_224 (n := 226) rfl ?_
                                refine v_iload_4 ok dX8_judged_226 (n := 228) rfl ?_
                                refine v_iload_8 ok dX8_judged_228 (n := 230) rfl ?_
                                refine v_iadd ok dX8_judged_230 (n := 231) rfl ?_
                                refine v_imul ok dX8_judged_231 (n := 232) rfl ?_
                                refine v_iload_7 ok dX8_judged_232 (n := 234) rfl ?_
                                refine v_iadd ok dX8_judged_234 (n := 235) rfl ?_
                                refine v_iald ok ly_229 rfl (by omega) (by decide) dX8_judged_235 (n := 236) rfl ?_
                                try simp (disch := omega) only [fx, k225]
                                refine v_aload_0 ok dX8_judged_236 (n := 237) rfl ?_
                                refine v_getR ok fd_X8_69 ly_200 rfl rfl rfl rf_200_28 dX8_judged_237 (n := 240) rfl ?_
                                refine v_iload_4 ok dX8_judged_240 (n := 242) rfl ?_
                                refine v_iload_4 ok dX8_judged_242 (n := 244) rfl ?_
                                refine v_iload_8 ok dX8_judged_244 (n := 246) rfl ?_
                                refine v_iadd ok dX8_judged_246 (n := 247) rfl ?_
                                refine v_imul ok dX8_judged_247 (n := 248) rfl ?_
                                refine v_aload_0 ok dX8_judged_248 (n := 249) rfl ?_
                                refine v_getR ok fd_X8_75 ly_200 rfl rfl rfl rf_200_30 dX8_judged_249 (n := 252) rfl ?_
                                refine v_iload_8 ok dX8_judged_252 (n := 254) rfl ?_
                                refine v_iald ok ly_231 rfl (by omega) (by decide) dX8_judged_254 (n := 255) rfl ?_
                                try simp (disch := omega) only [fx, k225]
                                refine v_iadd ok dX8_judged_255 (n := 256) rfl ?_
                                refine v_iald ok ly_229 rfl (by omega) (by decide) dX8_judged_256 (n := 257) rfl ?_
                                try simp (disch := omega) only [fx, k225]
                                refine v_icmp_ge ok dX8_judged_257 (tgt := 269) (by decide) (n := 260) rfl (by omega) (by omega) (fun c257_3 => ?_) (fun c257_3 => ?_)
                                · have c257_3 := c257_3
                                  refine v_iinc_8 ok (by decide) rfl dX8_judged_269 (n := 272) rfl ?_
                                  refine v_goto ok dX8_judged_272 (n := 179) (by decide) ?_
                                  refine ih _ (by omega) (g + 1) rfl (by omega) (znl_s hno (fun z => ?_))
                                  have z1 : M1 229 (n * b + g) < M1 229 (n * b + Mx 230 b) := z.1
                                  have z2 : M1 229 (n * (n + g) + b) < M1 229 (n * (n + g) + Mx 231 g) := z.2
                                  omega
                                · have c257_3 := c257_3
                                  refine v_bipush ok (by decide) dX8_judged_260 (n := 262) rfl ?_
                                  refine v_iload_7 ok dX8_judged_262 (n := 264) rfl ?_
                                  refine v_imul ok dX8_judged_264 (n := 265) rfl ?_
                                  refine v_iload_8 ok dX8_judged_265 (n := 267) rfl ?_
                                  refine v_iadd ok dX8_judged_267 (n := 268) rfl ?_
                                  refine v_iret rt dX8_judged_268 ?_
                                  refine hfin _ _ fx hgw (Or.inl ⟨b, g, by omega, by omega, ⟨?_, ?_⟩, hno, rfl⟩)
                                  · show M1 229 (n * b + g) < M1 229 (n * b + Mx 230 b)
                                    omega
                                  · show M1 229 (n * (n + g) + b) < M1 229 (n * (n + g) + Mx 231 g)
                                    omega
                          refine v_iconst ok dX8_judged_176 (n := 177) rfl ?_
                          refine v_istore_8 ok (by decide) rfl dX8_judged_177 (n := 179) rfl ?_
                          exact lpg _ 0 rfl (by omega) hno
                      exact lpb _ 0 _ rfl (by omega) (fun c h hc hh hch => by omega)
                    · have c123_1 := c123_1
                      have hv1 := hve b (by omega)
                      refine v_aload_0 ok dX8_judged_126 (n := 127) rfl ?_
                      refine v_getR ok fd_X8_72 ly_200 rfl rfl rfl rf_200_29 dX8_judged_127 (n := 130) rfl ?_
                      refine v_iload_7 ok dX8_judged_130 (n := 132) rfl ?_
                      refine v_aload_0 ok dX8_judged_132 (n := 133) rfl ?_
                      refine v_getR ok fd_X8_57 ly_200 rfl rfl rfl rf_200_24 dX8_judged_133 (n := 136) rfl ?_
                      refine v_bipush ok (by decide) dX8_judged_136 (n := 138) rfl ?_
                      refine v_iload_5 ok dX8_judged_138 (n := 140) rfl ?_
                      refine v_imul ok dX8_judged_140 (n := 141) rfl ?_
                      refine v_iload_7 ok dX8_judged_141 (n := 143) rfl ?_
                      refine v_iadd ok dX8_judged_143 (n := 144) rfl ?_
                      refine v_iald ok ly_225 rfl (by omega) (by decide) dX8_judged_144 (n := 145) rfl ?_
                      try simp (disch := omega) only [fx, k225]
                      skip
                      refine v_iast ok ly_230 rfl (by omega) (by decide) dX8_judged_145 (n := 146) rfl ?_
                      refine v_aload_0 ok dX8_judged_146 (n := 147) rfl ?_
                      refine v_getR ok fd_X8_75 ly_200 rfl rfl rfl rf_200_30 dX8_judged_147 (n := 150) rfl ?_
                      refine v_aload_0 ok dX8_judged_150 (n := 151) rfl ?_
                      refine v_getR ok fd_X8_72 ly_200 rfl rfl rfl rf_200_29 dX8_judged_151 (n := 154) rfl ?_
                      refine v_iload_7 ok dX8_judged_154 (n := 156) rfl ?_
                      refine v_iald ok ly_230 rfl (by omega) (by decide) dX8_judged_156 (n := 157) rfl ?_
                      try simp (disch := omega) only [fx, k225]
                      rw [zset_s]
                      refine v_iload_7 ok dX8_judged_157 (n := 159) rfl ?_
                      refine v_iast ok ly_231 rfl (by omega) (by decide) dX8_judged_159 (n := 160) rfl ?_
                      refine v_iinc_7 ok (by decide) rfl dX8_judged_160 (n := 163) rfl ?_
                      refine v_goto ok dX8_judged_163 (n := 119) (by decide) ?_
                      refine ih _ (by omega) (b + 1) _ rfl (by omega) (fun r a1 a2 => by rw [zset_o a2, zset_o a1]; exact fx r a1 a2) (fun c hc => ?_)
                      rw [zset_o (by omega)]
                      by_cases e1 : c = b
                      · subst e1
                        rw [zset_s, zset_s]
                        exact ⟨rfl, rfl⟩
                      · have h1 := hgw c (by omega)
                        have h2 := (zhit_dis (by omega) hth).2 c b (by omega)
                        have h2 : M 225 (100 * p + c) ≠ M 225 (100 * p + b) := h2
                        rw [zset_n e1, zset_n h2, zset_o (by omega)]
                        exact h1
                  refine v_iconst ok dX8_judged_116 (n := 117) rfl ?_
                  refine v_istore_7 ok (by decide) rfl dX8_judged_117 (n := 119) rfl ?_
                  exact lpf _ 0 M1 rfl (by omega) (fun r _ _ => rfl) (fun j hj => by omega)
                · have c110_10 := c110_10
                  refine v_bipush ok (by decide) dX8_judged_113 (n := 115) rfl ?_
                  refine v_iret rt dX8_judged_115 ?_
                  first
                  | (rcases h1 with ⟨h, _⟩ | ⟨_, h2⟩
                     · exfalso
                       omega
                     · exact ⟨⟨fun r hr => g1 r (by omega), fun j _ _ _ => by rw [g1 200 (by omega)]⟩, Or.inr ⟨by omega, Or.inr (Or.inr ⟨by omega, by omega, Or.inl ⟨fun z => h2 z.1, rfl⟩⟩)⟩⟩)
                  | (rcases g2 with ⟨h, _⟩ | ⟨_, h2⟩
                     · exfalso
                       omega
                     · exact ⟨⟨fun r hr => g1 r (by omega), fun j _ _ _ => by rw [g1 200 (by omega)]⟩, Or.inr ⟨by omega, Or.inr (Or.inr ⟨by omega, by omega, Or.inl ⟨fun z => h2 z.2, rfl⟩⟩)⟩⟩)
          · have c78_8 := c78_8
            first
            | (exfalso; omega)
            | skip
              refine v_iload_6 ok dX8_judged_81 (n := 83) rfl ?_
              refine v_iret rt dX8_judged_83 ?_
              first
              | exact ⟨zfrM_r M, Or.inr ⟨by omega, Or.inl ⟨by omega, by omega⟩⟩⟩
              | exact ⟨zfrM_r M, Or.inr ⟨by omega, Or.inr (Or.inl ⟨by omega, by omega, by omega⟩)⟩⟩
      · have c33_3 := c33_3
        refine v_iconst ok dX8_judged_36 (n := 37) rfl ?_
        refine v_iret rt dX8_judged_37 ?_
        exact ⟨zfrM_r M, Or.inl ⟨by omega, rfl⟩⟩

