/-! the model: rows in their order, limping so -/
/-- f2 is the next row behind f -/
def zNx (n : Int) (f f2 : Int → Int) : Prop := ∃ k j : Int, (0 ≤ k ∧ k + 1 < n) ∧ f k ≤ f (k + 1) ∧ (∀ i, k < i ∧ i + 1 < n → f (i + 1) < f i) ∧ (k < j ∧ j < n) ∧ f k ≤ f j ∧ (∀ i, j < i ∧ i < n → f i < f k) ∧ ∀ i, 0 ≤ i ∧ i < n → f2 i = if i < k then f i else if i = k then f j else if n + k - i = j then f k else f (n + k - i)
set_option maxHeartbeats 4000000 in
set_option maxRecDepth 100000 in
theorem u_nextRow {G : zG} {ad : Int → Nat} {M : zM} {n : Int} (hn : 1 ≤ n ∧ n ≤ 6) (hr : ∀ i, 0 ≤ i ∧ i < n → 0 ≤ M 227 i ∧ M 227 i ≤ 6)  : zTI G (zw ad) mi_X8_nextRow [zr 200, zi n] M (fun x M' => (∀ r, r ≠ 227 → M' r = M r) ∧ ((x = 0 ∧ M' = M ∧ ∀ i, 0 ≤ i ∧ i + 1 < n → M 227 (i + 1) < M 227 i) ∨ (x = 1 ∧ zNx n (M 227) (M' 227)))) := by
  refine zTI.ofZ (own := RX8) (ls := [some (zr 200), some (zi n), none, none, none, none, none]) (by decide +kernel) rfl rfl (Nat.le_of_ble_eq_true rfl) (fun γ ok rt => ?_)
  have lpk : ∀ (zn : Nat) (k : Int), zn = (k + 1).toNat → (-1 ≤ k ∧ k ≤ n - 2) → (∀ i, k < i ∧ i + 1 < n → M 227 (i + 1) < M 227 i) → zVV G γ (zw ad) (0, 0) 4 [some (zr 200), some (zi n), some (zi k), none, none, none, none] [] M := by
    refine zrec _ (fun zn ih => ?_)
    intro k hzn hkk hk
    refine v_iload_2 ok dX8_nextRow_4 (n := 5) rfl ?_
    refine v_if_lt ok dX8_nextRow_5 (tgt := 31) (by decide) (n := 8) rfl (by omega) (fun c5_1 => ?_) (fun c5_1 => ?_)
    · have c5_1 := c5_1
      refine v_iload_2 ok dX8_nextRow_31 (n := 32) rfl ?_
      refine v_if_ge ok dX8_nextRow_32 (tgt := 37) (by decide) (n := 35) rfl (by omega) (fun c32_2 => ?_) (fun c32_2 => ?_)
      · have c32_2 := c32_2
        first
        | (exfalso; omega)
        | skip
          have lpj : ∀ (zn : Nat) (j : Int), zn = (j + 1).toNat → (k + 1 ≤ j ∧ j ≤ n - 1) → (∀ i, j < i ∧ i < n → M 227 i < M 227 k) → zVV G γ (zw ad) (0, 0) 41 [some (zr 200), some (zi n), some (zi k), some (zi j), none, none, none] [] M := by
            refine zrec _ (fun zn ih => ?_)
            intro j hzn hjj hj
            have hrj := hr j (by omega)
            have hrk := hr k (by omega)
            refine v_aload_0 ok dX8_nextRow_41 (n := 42) rfl ?_
            refine v_getR ok fd_X8_63 ly_200 rfl rfl rfl rf_200_26 dX8_nextRow_42 (n := 45) rfl ?_
            refine v_iload_3 ok dX8_nextRow_45 (n := 46) rfl ?_
            refine v_iald ok ly_227 rfl (by omega) (by decide) dX8_nextRow_46 (n := 47) rfl ?_
            refine v_aload_0 ok dX8_nextRow_47 (n := 48) rfl ?_
            refine v_getR ok fd_X8_63 ly_200 rfl rfl rfl rf_200_26 dX8_nextRow_48 (n := 51) rfl ?_
            refine v_iload_2 ok dX8_nextRow_51 (n := 52) rfl ?_
            refine v_iald ok ly_227 rfl (by omega) (by decide) dX8_nextRow_52 (n := 53) rfl ?_
            refine v_icmp_ge ok dX8_nextRow_53 (tgt := 62) (by decide) (n := 56) rfl (by omega) (by omega) (fun c53_1 => ?_) (fun c53_1 => ?_)
            · have c53_1 := c53_1
              refine v_aload_0 ok dX8_nextRow_62 (n := 63) rfl ?_
              refine v_getR ok fd_X8_63 ly_200 rfl rfl rfl rf_200_26 dX8_nextRow_63 (n := 66) rfl ?_
              refine v_iload_2 ok dX8_nextRow_66 (n := 67) rfl ?_
              refine v_iald ok ly_227 rfl (by omega) (by decide) dX8_nextRow_67 (n := 68) rfl ?_
              refine v_istore_4 ok (by decide) rfl dX8_nextRow_68 (n := 70) rfl ?_
              refine v_aload_0 ok dX8_nextRow_70 (n := 71) rfl ?_
              refine v_getR ok fd_X8_63 ly_200 rfl rfl rfl rf_200_26 dX8_nextRow_71 (n := 74) rfl ?_
              refine v_iload_2 ok dX8_nextRow_74 (n := 75) rfl ?_
              refine v_aload_0 ok dX8_nextRow_75 (n := 76) rfl ?_
              refine v_getR ok fd_X8_63 ly_200 rfl rfl rfl rf_200_26 dX8_nextRow_76 (n := 79) rfl ?_
              refine v_iload_3 ok dX8_nextRow_79 (n := 80) rfl ?_
              refine v_iald ok ly_227 rfl (by omega) (by decide) dX8_nextRow_80 (n := 81) rfl ?_
              refine v_iast ok ly_227 rfl (by omega) (by decide) dX8_nextRow_81 (n := 82) rfl ?_
              refine v_aload_0 ok dX8_nextRow_82 (n := 83) rfl ?_
              refine v_getR ok fd_X8_63 ly_200 rfl rfl rfl rf_200_26 dX8_nextRow_83 (n := 86) rfl ?_
              refine v_iload_3 ok dX8_nextRow_86 (n := 87) rfl ?_
              refine v_iload_4 ok dX8_nextRow_87 (n := 89) rfl ?_
              refine v_iast ok ly_227 rfl (by omega) (by decide) dX8_nextRow_89 (n := 90) rfl ?_
              refine v_iload_1 ok dX8_nextRow_90 (n := 91) rfl ?_
              refine v_iconst ok dX8_nextRow_91 (n := 92) rfl ?_
              refine v_isub ok dX8_nextRow_92 (n := 93) rfl ?_
              refine v_istore_5 ok (by decide) rfl dX8_nextRow_93 (n := 95) rfl ?_
              refine v_iload_2 ok dX8_nextRow_95 (n := 96) rfl ?_
              refine v_iconst ok dX8_nextRow_96 (n := 97) rfl ?_
              refine v_iadd ok dX8_nextRow_97 (n := 98) rfl ?_
              refine v_istore_6 ok (by decide) rfl dX8_nextRow_98 (n := 100) rfl ?_
              obtain ⟨g, hg0⟩ : ∃ g, zset (zset M 227 k (M 227 j)) 227 j (M 227 k) 227 = g := ⟨_, rfl⟩
              have hg : ∀ i, g i = if i = j then M 227 k else if i = k then M 227 j else M 227 i := by
                intro i
                rw [← hg0]
                by_cases e1 : i = j
                · rw [if_pos e1, e1, zset_s]
                · rw [if_neg e1, zset_n e1]
                  by_cases e2 : i = k
                  · rw [if_pos e2, e2, zset_s]
                  · rw [if_neg e2, zset_n e2]
              have lpr : ∀ (zn : Nat) (a b y : Int) (Mx : zM), zn = (b + 1 - a).toNat → (k + 1 ≤ a ∧ b ≤ n - 1 ∧ a + b = n + k ∧ a ≤ b + 1) → (∀ r, r ≠ 227 → Mx r = M r) → (∀ i, 0 ≤ i ∧ i < n → Mx 227 i = if (k < i ∧ i < a) ∨ b < i then g (n + k - i) else g i) → zVV G γ (zw ad) (0, 0) 100 [some (zr 200), some (zi n), some (zi k), some (zi j), some (zi y), some (zi b), some (zi a)] [] Mx := by
                refine zrec _ (fun zn ih => ?_)
                intro a b y Mx hzn hab fx hm
                refine v_iload_6 ok dX8_nextRow_100 (n := 102) rfl ?_
                refine v_iload_5 ok dX8_nextRow_102 (n := 104) rfl ?_
                refine v_icmp_ge ok dX8_nextRow_104 (tgt := 148) (by decide) (n := 107) rfl (by omega) (by omega) (fun c104_1 => ?_) (fun c104_1 => ?_)
                · have c104_1 := c104_1
                  refine v_iconst ok dX8_nextRow_148 (n := 149) rfl ?_
                  refine v_zret rt dX8_nextRow_149 (by omega) ?_
                  refine ⟨fx, Or.inr ⟨rfl, k, j, by omega, by omega, hk, by omega, by omega, hj, fun i hi => ?_⟩⟩
                  by_cases h1 : i < k
                  · rw [if_pos h1, hm i hi, if_neg (by omega), hg, if_neg (by omega), if_neg (by omega)]
                  · rw [if_neg h1]
                    by_cases h2 : i = k
                    · rw [if_pos h2, hm i hi, if_neg (by omega), hg, if_neg (by omega), if_pos h2]
                    · rw [if_neg h2]
                      have e : Mx 227 i = g (n + k - i) := by
                        rw [hm i hi]
                        by_cases h3 : (k < i ∧ i < a) ∨ b < i
                        · rw [if_pos h3]
                        · rw [if_neg h3, show n + k - i = i by omega]
                      rw [e, hg]
                      by_cases h4 : n + k - i = j
                      · rw [if_pos h4, if_pos h4]
                      · rw [if_neg h4, if_neg h4, if_neg (by omega)]
                · have c104_1 := c104_1
                  refine v_aload_0 ok dX8_nextRow_107 (n := 108) rfl ?_
                  refine v_getR ok fd_X8_63 ly_200 rfl rfl rfl rf_200_26 dX8_nextRow_108 (n := 111) rfl ?_
                  refine v_iload_6 ok dX8_nextRow_111 (n := 113) rfl ?_
                  refine v_iald ok ly_227 rfl (by omega) (by decide) dX8_nextRow_113 (n := 114) rfl ?_
                  try simp (disch := omega) only [fx]
                  refine v_istore_4 ok (by decide) rfl dX8_nextRow_114 (n := 116) rfl ?_
                  refine v_aload_0 ok dX8_nextRow_116 (n := 117) rfl ?_
                  refine v_getR ok fd_X8_63 ly_200 rfl rfl rfl rf_200_26 dX8_nextRow_117 (n := 120) rfl ?_
                  refine v_iload_6 ok dX8_nextRow_120 (n := 122) rfl ?_
                  refine v_aload_0 ok dX8_nextRow_122 (n := 123) rfl ?_
                  refine v_getR ok fd_X8_63 ly_200 rfl rfl rfl rf_200_26 dX8_nextRow_123 (n := 126) rfl ?_
                  refine v_iload_5 ok dX8_nextRow_126 (n := 128) rfl ?_
                  refine v_iald ok ly_227 rfl (by omega) (by decide) dX8_nextRow_128 (n := 129) rfl ?_
                  try simp (disch := omega) only [fx]
                  refine v_iast ok ly_227 rfl (by omega) (by decide) dX8_nextRow_129 (n := 130) rfl ?_
                  refine v_aload_0 ok dX8_nextRow_130 (n := 131) rfl ?_
                  refine v_getR ok fd_X8_63 ly_200 rfl rfl rfl rf_200_26 dX8_nextRow_131 (n := 134) rfl ?_
                  refine v_iload_5 ok dX8_nextRow_134 (n := 136) rfl ?_
                  refine v_iload_4 ok dX8_nextRow_136 (n := 138) rfl ?_
                  refine v_iast ok ly_227 rfl (by omega) (by decide) dX8_nextRow_138 (n := 139) rfl ?_
                  refine v_iinc_5 ok (by decide) rfl dX8_nextRow_139 (n := 142) rfl ?_
                  refine v_iinc_6 ok (by decide) rfl dX8_nextRow_142 (n := 145) rfl ?_
                  refine v_goto ok dX8_nextRow_145 (n := 100) (by decide) ?_
                  refine ih _ (by omega) (a + 1) (b + -1) _ _ rfl (by omega) (fun r hr => by rw [zset_o hr, zset_o hr]; exact fx r hr) (fun i hi => ?_)
                  have ea := hm a (by omega)
                  rw [if_neg (by omega)] at ea
                  have eb := hm b (by omega)
                  rw [if_neg (by omega)] at eb
                  by_cases e1 : i = b
                  · rw [e1, zset_s, if_pos (by omega), ea, show n + k - b = a by omega]
                  · rw [zset_n e1]
                    by_cases e2 : i = a
                    · rw [e2, zset_s, if_pos (by omega), eb, show n + k - a = b by omega]
                    · rw [zset_n e2, hm i hi]
                      by_cases e3 : (k < i ∧ i < a) ∨ b < i
                      · rw [if_pos e3, if_pos (by omega)]
                      · rw [if_neg e3, if_neg (by omega)]
              exact lpr _ (k + 1) (n - 1) _ _ rfl (by omega) (fun r hr => by rw [zset_o hr, zset_o hr]) (fun i hi => by rw [hg0, if_neg (by omega)])
            · have c53_1 := c53_1
              refine v_iinc_3 ok (by decide) rfl dX8_nextRow_56 (n := 59) rfl ?_
              refine v_goto ok dX8_nextRow_59 (n := 41) (by decide) ?_
              exact ih _ (by omega) (j + -1) rfl (by
                by_cases e : j = k + 1
                · exfalso
                  rw [e] at hrj
                  have : M 227 j < M 227 k := by omega
                  rw [e] at this
                  omega
                · omega) (fun i hi => by
                by_cases e : i = j
                · rw [e]; omega
                · exact hj i (by omega))
          refine v_iload_1 ok dX8_nextRow_37 (n := 38) rfl ?_
          refine v_iconst ok dX8_nextRow_38 (n := 39) rfl ?_
          refine v_isub ok dX8_nextRow_39 (n := 40) rfl ?_
          refine v_istore_3 ok (by decide) rfl dX8_nextRow_40 (n := 41) rfl ?_
          exact lpj _ (n - 1) rfl (by omega) (fun i hi => by omega)
      · have c32_2 := c32_2
        first
        | (exfalso; omega)
        | skip
          refine v_iconst ok dX8_nextRow_35 (n := 36) rfl ?_
          refine v_zret rt dX8_nextRow_36 (by omega) ?_
          exact ⟨fun _ _ => rfl, Or.inl ⟨rfl, rfl, fun i hi => hk i (by omega)⟩⟩
    · have c5_1 := c5_1
      have hrk := hr k (by omega)
      have hrk1 := hr (k + 1) (by omega)
      refine v_aload_0 ok dX8_nextRow_8 (n := 9) rfl ?_
      refine v_getR ok fd_X8_63 ly_200 rfl rfl rfl rf_200_26 dX8_nextRow_9 (n := 12) rfl ?_
      refine v_iload_2 ok dX8_nextRow_12 (n := 13) rfl ?_
      refine v_iald ok ly_227 rfl (by omega) (by decide) dX8_nextRow_13 (n := 14) rfl ?_
      refine v_aload_0 ok dX8_nextRow_14 (n := 15) rfl ?_
      refine v_getR ok fd_X8_63 ly_200 rfl rfl rfl rf_200_26 dX8_nextRow_15 (n := 18) rfl ?_
      refine v_iload_2 ok dX8_nextRow_18 (n := 19) rfl ?_
      refine v_iconst ok dX8_nextRow_19 (n := 20) rfl ?_
      refine v_iadd ok dX8_nextRow_20 (n := 21) rfl ?_
      refine v_iald ok ly_227 rfl (by omega) (by decide) dX8_nextRow_21 (n := 22) rfl ?_
      refine v_icmp_le ok dX8_nextRow_22 (tgt := 31) (by decide) (n := 25) rfl (by omega) (by omega) (fun c22_3 => ?_) (fun c22_3 => ?_)
      · have c22_3 := c22_3
        refine v_iload_2 ok dX8_nextRow_31 (n := 32) rfl ?_
        refine v_if_ge ok dX8_nextRow_32 (tgt := 37) (by decide) (n := 35) rfl (by omega) (fun c32_4 => ?_) (fun c32_4 => ?_)
        · have c32_4 := c32_4
          first
          | (exfalso; omega)
          | skip
            have lpj : ∀ (zn : Nat) (j : Int), zn = (j + 1).toNat → (k + 1 ≤ j ∧ j ≤ n - 1) → (∀ i, j < i ∧ i < n → M 227 i < M 227 k) → zVV G γ (zw ad) (0, 0) 41 [some (zr 200), some (zi n), some (zi k), some (zi j), none, none, none] [] M := by
              refine zrec _ (fun zn ih => ?_)
              intro j hzn hjj hj
              have hrj := hr j (by omega)
              have hrk := hr k (by omega)
              refine v_aload_0 ok dX8_nextRow_41 (n := 42) rfl ?_
              refine v_getR ok fd_X8_63 ly_200 rfl rfl rfl rf_200_26 dX8_nextRow_42 (n := 45) rfl ?_
              refine v_iload_3 ok dX8_nextRow_45 (n := 46) rfl ?_
              refine v_iald ok ly_227 rfl (by omega) (by decide) dX8_nextRow_46 (n := 47) rfl ?_
              refine v_aload_0 ok dX8_nextRow_47 (n := 48) rfl ?_
              refine v_getR ok fd_X8_63 ly_200 rfl rfl rfl rf_200_26 dX8_nextRow_48 (n := 51) rfl ?_
              refine v_iload_2 ok dX8_nextRow_51 (n := 52) rfl ?_
              refine v_iald ok ly_227 rfl (by omega) (by decide) dX8_nextRow_52 (n := 53) rfl ?_
              refine v_icmp_ge ok dX8_nextRow_53 (tgt := 62) (by decide) (n := 56) rfl (by omega) (by omega) (fun c53_1 => ?_) (fun c53_1 => ?_)
              · have c53_1 := c53_1
                refine v_aload_0 ok dX8_nextRow_62 (n := 63) rfl ?_
                refine v_getR ok fd_X8_63 ly_200 rfl rfl rfl rf_200_26 dX8_nextRow_63 (n := 66) rfl ?_
                refine v_iload_2 ok dX8_nextRow_66 (n := 67) rfl ?_
                refine v_iald ok ly_227 rfl (by omega) (by decide) dX8_nextRow_67 (n := 68) rfl ?_
                refine v_istore_4 ok (by decide) rfl dX8_nextRow_68 (n := 70) rfl ?_
                refine v_aload_0 ok dX8_nextRow_70 (n := 71) rfl ?_
                refine v_getR ok fd_X8_63 ly_200 rfl rfl rfl rf_200_26 dX8_nextRow_71 (n := 74) rfl ?_
                refine v_iload_2 ok dX8_nextRow_74 (n := 75) rfl ?_
                refine v_aload_0 ok dX8_nextRow_75 (n := 76) rfl ?_
                refine v_getR ok fd_X8_63 ly_200 rfl rfl rfl rf_200_26 dX8_nextRow_76 (n := 79) rfl ?_
                refine v_iload_3 ok dX8_nextRow_79 (n := 80) rfl ?_
                refine v_iald ok ly_227 rfl (by omega) (by decide) dX8_nextRow_80 (n := 81) rfl ?_
                refine v_iast ok ly_227 rfl (by omega) (by decide) dX8_nextRow_81 (n := 82) rfl ?_
                refine v_aload_0 ok dX8_nextRow_82 (n := 83) rfl ?_
                refine v_getR ok fd_X8_63 ly_200 rfl rfl rfl rf_200_26 dX8_nextRow_83 (n := 86) rfl ?_
                refine v_iload_3 ok dX8_nextRow_86 (n := 87) rfl ?_
                refine v_iload_4 ok dX8_nextRow_87 (n := 89) rfl ?_
                refine v_iast ok ly_227 rfl (by omega) (by decide) dX8_nextRow_89 (n := 90) rfl ?_
                refine v_iload_1 ok dX8_nextRow_90 (n := 91) rfl ?_
                refine v_iconst ok dX8_nextRow_91 (n := 92) rfl ?_
                refine v_isub ok dX8_nextRow_92 (n := 93) rfl ?_
                refine v_istore_5 ok (by decide) rfl dX8_nextRow_93 (n := 95) rfl ?_
                refine v_iload_2 ok dX8_nextRow_95 (n := 96) rfl ?_
                refine v_iconst ok dX8_nextRow_96 (n := 97) rfl ?_
                refine v_iadd ok dX8_nextRow_97 (n := 98) rfl ?_
                refine v_istore_6 ok (by decide) rfl dX8_nextRow_98 (n := 100) rfl ?_
                obtain ⟨g, hg0⟩ : ∃ g, zset (zset M 227 k (M 227 j)) 227 j (M 227 k) 227 = g := ⟨_, rfl⟩
                have hg : ∀ i, g i = if i = j then M 227 k else if i = k then M 227 j else M 227 i := by
                  intro i
                  rw [← hg0]
                  by_cases e1 : i = j
                  · rw [if_pos e1, e1, zset_s]
                  · rw [if_neg e1, zset_n e1]
                    by_cases e2 : i = k
                    · rw [if_pos e2, e2, zset_s]
                    · rw [if_neg e2, zset_n e2]
                have lpr : ∀ (zn : Nat) (a b y : Int) (Mx : zM), zn = (b + 1 - a).toNat → (k + 1 ≤ a ∧ b ≤ n - 1 ∧ a + b = n + k ∧ a ≤ b + 1) → (∀ r, r ≠ 227 → Mx r = M r) → (∀ i, 0 ≤ i ∧ i < n → Mx 227 i = if (k < i ∧ i < a) ∨ b < i then g (n + k - i) else g i) → zVV G γ (zw ad) (0, 0) 100 [some (zr 200), some (zi n), some (zi k), some (zi j), some (zi y), some (zi b), some (zi a)] [] Mx := by
                  refine zrec _ (fun zn ih => ?_)
                  intro a b y Mx hzn hab fx hm
                  refine v_iload_6 ok dX8_nextRow_100 (n := 102) rfl ?_
                  refine v_iload_5 ok dX8_nextRow_102 (n := 104) rfl ?_
                  refine v_icmp_ge ok dX8_nextRow_104 (tgt := 148) (by decide) (n := 107) rfl (by omega) (by omega) (fun c104_1 => ?_) (fun c104_1 => ?_)
                  · have c104_1 := c104_1
                    refine v_iconst ok dX8_nextRow_148 (n := 149) rfl ?_
                    refine v_zret rt dX8_nextRow_149 (by omega) ?_
                    refine ⟨fx, Or.inr ⟨rfl, k, j, by omega, by omega, hk, by omega, by omega, hj, fun i hi => ?_⟩⟩
                    by_cases h1 : i < k
                    · rw [if_pos h1, hm i hi, if_neg (by omega), hg, if_neg (by omega), if_neg (by omega)]
                    · rw [if_neg h1]
                      by_cases h2 : i = k
                      · rw [if_pos h2, hm i hi, if_neg (by omega), hg, if_neg (by omega), if_pos h2]
                      · rw [if_neg h2]
                        have e : Mx 227 i = g (n + k - i) := by
                          rw [hm i hi]
                          by_cases h3 : (k < i ∧ i < a) ∨ b < i
                          · rw [if_pos h3]
                          · rw [if_neg h3, show n + k - i = i by omega]
                        rw [e, hg]
                        by_cases h4 : n + k - i = j
                        · rw [if_pos h4, if_pos h4]
                        · rw [if_neg h4, if_neg h4, if_neg (by omega)]
                  · have c104_1 := c104_1
                    refine v_aload_0 ok dX8_nextRow_107 (n := 108) rfl ?_
                    refine v_getR ok fd_X8_63 ly_200 rfl rfl rfl rf_200_26 dX8_nextRow_108 (n := 111) rfl ?_
                    refine v_iload_6 ok dX8_nextRow_111 (n := 113) rfl ?_
                    refine v_iald ok ly_227 rfl (by omega) (by decide) dX8_nextRow_113 (n := 114) rfl ?_
                    try simp (disch := omega) only [fx]
                    refine v_istore_4 ok (by decide) rfl dX8_nextRow_114 (n := 116) rfl ?_
                    refine v_aload_0 ok dX8_nextRow_116 (n := 117) rfl ?_
                    refine v_getR ok fd_X8_63 ly_200 rfl rfl rfl rf_200_26 dX8_nextRow_117 (n := 120) rfl ?_
                    refine v_iload_6 ok dX8_nextRow_120 (n := 122) rfl ?_
                    refine v_aload_0 ok dX8_nextRow_122 (n := 123) rfl ?_
                    refine v_getR ok fd_X8_63 ly_200 rfl rfl rfl rf_200_26 dX8_nextRow_123 (n := 126) rfl ?_
                    refine v_iload_5 ok dX8_nextRow_126 (n := 128) rfl ?_
                    refine v_iald ok ly_227 rfl (by omega) (by decide) dX8_nextRow_128 (n := 129) rfl ?_
                    try simp (disch := omega) only [fx]
                    refine v_iast ok ly_227 rfl (by omega) (by decide) dX8_nextRow_129 (n := 130) rfl ?_
                    refine v_aload_0 ok dX8_nextRow_130 (n := 131) rfl ?_
                    refine v_getR ok fd_X8_63 ly_200 rfl rfl rfl rf_200_26 dX8_nextRow_131 (n := 134) rfl ?_
                    refine v_iload_5 ok dX8_nextRow_134 (n := 136) rfl ?_
                    refine v_iload_4 ok dX8_nextRow_136 (n := 138) rfl ?_
                    refine v_iast ok ly_227 rfl (by omega) (by decide) dX8_nextRow_138 (n := 139) rfl ?_
                    refine v_iinc_5 ok (by decide) rfl dX8_nextRow_139 (n := 142) rfl ?_
                    refine v_iinc_6 ok (by decide) rfl dX8_nextRow_142 (n := 145) rfl ?_
                    refine v_goto ok dX8_nextRow_145 (n := 100) (by decide) ?_
                    refine ih _ (by omega) (a + 1) (b + -1) _ _ rfl (by omega) (fun r hr => by rw [zset_o hr, zset_o hr]; exact fx r hr) (fun i hi => ?_)
                    have ea := hm a (by omega)
                    rw [if_neg (by omega)] at ea
                    have eb := hm b (by omega)
                    rw [if_neg (by omega)] at eb
                    by_cases e1 : i = b
                    · rw [e1, zset_s, if_pos (by omega), ea, show n + k - b = a by omega]
                    · rw [zset_n e1]
                      by_cases e2 : i = a
                      · rw [e2, zset_s, if_pos (by omega), eb, show n + k - a = b by omega]
                      · rw [zset_n e2, hm i hi]
                        by_cases e3 : (k < i ∧ i < a) ∨ b < i
                        · rw [if_pos e3, if_pos (by omega)]
                        · rw [if_neg e3, if_neg (by omega)]
                exact lpr _ (k + 1) (n - 1) _ _ rfl (by omega) (fun r hr => by rw [zset_o hr, zset_o hr]) (fun i hi => by rw [hg0, if_neg (by omega)])
              · have c53_1 := c53_1
                refine v_iinc_3 ok (by decide) rfl dX8_nextRow_56 (n := 59) rfl ?_
                refine v_goto ok dX8_nextRow_59 (n := 41) (by decide) ?_
                exact ih _ (by omega) (j + -1) rfl (by
                  by_cases e : j = k + 1
                  · exfalso
                    rw [e] at hrj
                    have : M 227 j < M 227 k := by omega
                    rw [e] at this
                    omega
                  · omega) (fun i hi => by
                  by_cases e : i = j
                  · rw [e]; omega
                  · exact hj i (by omega))
            refine v_iload_1 ok dX8_nextRow_37 (n := 38) rfl ?_
            refine v_iconst ok dX8_nextRow_38 (n := 39) rfl ?_
            refine v_isub ok dX8_nextRow_39 (n := 40) rfl ?_
            refine v_istore_3 ok (by decide) rfl dX8_nextRow_40 (n := 41) rfl ?_
            exact lpj _ (n - 1) rfl (by omega) (fun i hi => by omega)
        · have c32_4 := c32_4
          first
          | (exfalso; omega)
          | skip
            refine v_iconst ok dX8_nextRow_35 (n := 36) rfl ?_
            refine v_zret rt dX8_nextRow_36 (by omega) ?_
            exact ⟨fun _ _ => rfl, Or.inl ⟨rfl, rfl, fun i hi => hk i (by omega)⟩⟩
      · have c22_3 := c22_3
        refine v_iinc_2 ok (by decide) rfl dX8_nextRow_25 (n := 28) rfl ?_
        refine v_goto ok dX8_nextRow_28 (n := 4) (by decide) ?_
        exact ih _ (by omega) (k + -1) rfl (by omega) (fun i hi => by
          by_cases e : i = k
          · rw [e]; omega
          · exact hk i (by omega))
  refine v_iload_1 ok dX8_nextRow_0 (n := 1) rfl ?_
  refine v_iconst ok dX8_nextRow_1 (n := 2) rfl ?_
  refine v_isub ok dX8_nextRow_2 (n := 3) rfl ?_
  refine v_istore_2 ok (by decide) rfl dX8_nextRow_3 (n := 4) rfl ?_
  exact lpk _ (n - 2) rfl (by omega) (fun i hi => by omega)

/-- how the bride b limps with the shoe of o, in the model -/
def zmgl (M : zM) (own : Int → Int) (b o : Int) : Int := zlim (zfo (zQB M b) (M 202 (4 * own o)) (M 201 (4 * b + 3))) (M 202 (4 * own o + 1)) (M 202 (4 * own o + 2)) (M 205 0)
theorem zmgl_b {M : zM} {own : Int → Int} {b o : Int} (hB : zMB M b) (hS : zMS M (own o)) (h0 : 0 ≤ M 205 0 ∧ M 205 0 ≤ 6) : -1000 ≤ zmgl M own b o ∧ zmgl M own b o ≤ 1000 := by
  have hB := zMB_r hB
  obtain ⟨b1, b2, b3, b4⟩ := hS
  obtain ⟨a1, a2, a3, a4⟩ := id hB
  have h := zfo_b hB (side := M 202 (4 * own o)) (h := M 201 (4 * b + 3)) (by omega) a4
  unfold zmgl zlim zloo zgiv
  split <;> split <;> (try split) <;> (try split) <;> (try split) <;> omega
def zlso (M : zM) (f n : Int) : Prop := ∀ c, 0 ≤ c ∧ c < n → zmgl M (M 215) c (M 227 c) = M 225 (f + c)
set_option maxHeartbeats 4000000 in
set_option maxRecDepth 100000 in
theorem u_limpSo {G : zG} {ad : Int → Nat} {M : zM} {f n : Int} (hn : 1 ≤ n ∧ n ≤ 6 ∧ n ≤ M 200 2) (hf : 0 ≤ f ∧ f + n ≤ 400) (hr : ∀ i, 0 ≤ i ∧ i < n → 0 ≤ M 227 i ∧ M 227 i < n) (hw : ∀ i, 0 ≤ i ∧ i < n → 0 ≤ M 215 i ∧ M 215 i < M 200 3) (hns : 0 ≤ M 200 3 ∧ M 200 3 ≤ 16) (hB : ∀ b, 0 ≤ b ∧ b < M 200 2 → zMB M b) (hS : ∀ s, 0 ≤ s ∧ s < M 200 3 → zMS M s) (h0 : 0 ≤ M 205 0 ∧ M 205 0 ≤ 6) (hI : ∀ i, 0 ≤ i ∧ i < 400 → -2147483648 ≤ M 225 i ∧ M 225 i ≤ 2147483647)  : zTI G (zw ad) mi_X8_limpSo [zr 200, zi f, zi n] M (fun x M' => M' = M ∧ ((x = 1 ∧ zlso M f n) ∨ (x = 0 ∧ ¬ zlso M f n))) := by
  refine zTI.ofZ (own := RX8) (ls := [some (zr 200), some (zi f), some (zi n), none, none]) (by decide +kernel) rfl rfl (Nat.le_of_ble_eq_true rfl) (fun γ ok rt => ?_)
  have lpl : ∀ (zn : Nat) (b v : Int), zn = (8 - b).toNat → (0 ≤ b ∧ b ≤ n) → ((v = 1 ∧ zlso M f b) ∨ (v = 0 ∧ ¬ zlso M f n)) → zVV G γ (zw ad) (0, 0) 5 [some (zr 200), some (zi f), some (zi n), some (zi v), some (zi b)] [] M := by
    refine zrec _ (fun zn ih => ?_)
    intro b v hzn hb hv
    have hvv : v = 0 ∨ v = 1 := by
      rcases hv with ⟨h, _⟩ | ⟨h, _⟩ <;> omega
    refine v_iload_4 ok dX8_limpSo_5 (n := 7) rfl ?_
    refine v_iload_2 ok dX8_limpSo_7 (n := 8) rfl ?_
    refine v_icmp_ge ok dX8_limpSo_8 (tgt := 68) (by decide) (n := 11) rfl (by omega) (by omega) (fun c8_1 => ?_) (fun c8_1 => ?_)
    · have c8_1 := c8_1
      refine v_iload_3 ok dX8_limpSo_68 (n := 69) rfl ?_
      refine v_zret rt dX8_limpSo_69 (by omega) ?_
      rcases hv with ⟨h, g⟩ | ⟨h, g⟩
      · refine ⟨rfl, Or.inl ⟨h, ?_⟩⟩
        rw [show n = b by omega]
        exact g
      · exact ⟨rfl, Or.inr ⟨h, g⟩⟩
    · have c8_1 := c8_1
      refine v_iload_3 ok dX8_limpSo_11 (n := 12) rfl ?_
      refine v_if_eq ok dX8_limpSo_12 (tgt := 68) (by decide) (n := 15) rfl (by omega) (fun c12_2 => ?_) (fun c12_2 => ?_)
      · have c12_2 := c12_2
        refine v_iload_3 ok dX8_limpSo_68 (n := 69) rfl ?_
        refine v_zret rt dX8_limpSo_69 (by omega) ?_
        rcases hv with ⟨h, g⟩ | ⟨h, g⟩
        · refine ⟨rfl, Or.inl ⟨h, ?_⟩⟩
          rw [show n = b by omega]
          exact g
        · exact ⟨rfl, Or.inr ⟨h, g⟩⟩
      · have c12_2 := c12_2
        have hrb := hr b (by omega)
        have hwb := hw (M 227 b) (by omega)
        have hBb := hB b (by omega)
        have hbb := hBb.2.2.2
        have hSs := hS _ hwb
        have hlb := zmgl_b (own := M 215) (o := M 227 b) hBb hSs h0
        have hIb := hI (f + b) (by omega)
        refine v_aload_0 ok dX8_limpSo_15 (n := 16) rfl ?_
        refine v_iload_4 ok dX8_limpSo_16 (n := 18) rfl ?_
        refine v_aload_0 ok dX8_limpSo_18 (n := 19) rfl ?_
        refine v_getR ok fd_X8_35 ly_200 rfl rfl rfl rf_200_14 dX8_limpSo_19 (n := 22) rfl ?_
        refine v_aload_0 ok dX8_limpSo_22 (n := 23) rfl ?_
        refine v_getR ok fd_X8_63 ly_200 rfl rfl rfl rf_200_26 dX8_limpSo_23 (n := 26) rfl ?_
        refine v_iload_4 ok dX8_limpSo_26 (n := 28) rfl ?_
        refine v_iald ok ly_227 rfl (by omega) (by decide) dX8_limpSo_28 (n := 29) rfl ?_
        refine v_iald ok ly_215 rfl (by omega) (by decide) dX8_limpSo_29 (n := 30) rfl ?_
        refine v_aload_0 ok dX8_limpSo_30 (n := 31) rfl ?_
        refine v_getR ok fd_X8_7 ly_200 rfl rfl rfl rf_200_0 dX8_limpSo_31 (n := 34) rfl ?_
        refine v_iconst ok dX8_limpSo_34 (n := 35) rfl ?_
        refine v_iload_4 ok dX8_limpSo_35 (n := 37) rfl ?_
        refine v_imul ok dX8_limpSo_37 (n := 38) rfl ?_
        refine v_iconst ok dX8_limpSo_38 (n := 39) rfl ?_
        refine v_iadd ok dX8_limpSo_39 (n := 40) rfl ?_
        refine v_iald ok ly_201 rfl (by omega) (by decide) dX8_limpSo_40 (n := 41) rfl ?_
        refine v_callVI ok (mi := mi_X8_limpsOf) mc_X8_limpsOf cv_X8_205 ly_200 rfl rfl rfl (by decide) ⟨Nat.zero_le _, Nat.zero_le _⟩ dX8_limpSo_41 (n := 44) rfl rfl rfl (Nat.le_of_ble_eq_true rfl) (u_limpsOf (by omega) (by omega) hbb hBb hSs h0) (fun x2 N2 g2 => ?_)
        obtain ⟨g2, e2⟩ := g2
        subst N2
        have e2 : x2 = zmgl M (M 215) b (M 227 b) := e2
        refine v_aload_0 ok dX8_limpSo_44 (n := 45) rfl ?_
        refine v_getR ok fd_X8_57 ly_200 rfl rfl rfl rf_200_24 dX8_limpSo_45 (n := 48) rfl ?_
        refine v_iload_1 ok dX8_limpSo_48 (n := 49) rfl ?_
        refine v_iload_4 ok dX8_limpSo_49 (n := 51) rfl ?_
        refine v_iadd ok dX8_limpSo_51 (n := 52) rfl ?_
        refine v_iald ok ly_225 rfl (by omega) (by decide) dX8_limpSo_52 (n := 53) rfl ?_
        refine v_icmp_ne ok dX8_limpSo_53 (tgt := 60) (by decide) (n := 56) rfl (by omega) (by omega) (fun c53_3 => ?_) (fun c53_3 => ?_)
        · have c53_3 := c53_3
          refine v_iconst ok dX8_limpSo_60 (n := 61) rfl ?_
          refine v_istore_3 ok (by decide) rfl dX8_limpSo_61 (n := 62) rfl ?_
          refine v_iinc_4 ok (by decide) rfl dX8_limpSo_62 (n := 65) rfl ?_
          refine v_goto ok dX8_limpSo_65 (n := 5) (by decide) ?_
          refine ih _ (by omega) (b + 1) _ rfl (by omega) ?_
          rcases hv with ⟨h, g⟩ | ⟨h, g⟩
          · first
            | (refine Or.inl ⟨rfl, fun c hc => ?_⟩
               by_cases e : c = b
               · rw [e]; omega
               · exact g c (by omega))
            | (refine Or.inr ⟨rfl, fun q => ?_⟩
               have := q b (by omega)
               omega)
          · exfalso
            omega
        · have c53_3 := c53_3
          refine v_iconst ok dX8_limpSo_56 (n := 57) rfl ?_
          refine v_goto ok dX8_limpSo_57 (n := 61) (by decide) ?_
          refine v_istore_3 ok (by decide) rfl dX8_limpSo_61 (n := 62) rfl ?_
          refine v_iinc_4 ok (by decide) rfl dX8_limpSo_62 (n := 65) rfl ?_
          refine v_goto ok dX8_limpSo_65 (n := 5) (by decide) ?_
          refine ih _ (by omega) (b + 1) _ rfl (by omega) ?_
          rcases hv with ⟨h, g⟩ | ⟨h, g⟩
          · first
            | (refine Or.inl ⟨rfl, fun c hc => ?_⟩
               by_cases e : c = b
               · rw [e]; omega
               · exact g c (by omega))
            | (refine Or.inr ⟨rfl, fun q => ?_⟩
               have := q b (by omega)
               omega)
          · exfalso
            omega
  refine v_iconst ok dX8_limpSo_0 (n := 1) rfl ?_
  refine v_istore_3 ok (by decide) rfl dX8_limpSo_1 (n := 2) rfl ?_
  refine v_iconst ok dX8_limpSo_2 (n := 3) rfl ?_
  refine v_istore_4 ok (by decide) rfl dX8_limpSo_3 (n := 5) rfl ?_
  exact lpl _ 0 1 rfl (by omega) (Or.inl ⟨rfl, fun c hc => by omega⟩)

