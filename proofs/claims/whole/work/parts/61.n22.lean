/-! the model: firm -/
/-- a table of places, 0 beyond it -/
def zPb (P : Int → Int → Int) (n : Int) : Int → Int → Int := fun q t => if (0 ≤ q ∧ q < 2 * n) ∧ (0 ≤ t ∧ t < n) then P q t else 0
theorem zPb_i {P : Int → Int → Int} {n q t : Int} (hq : 0 ≤ q ∧ q < 2 * n) (ht : 0 ≤ t ∧ t < n) : zPb P n q t = P q t := if_pos ⟨hq, ht⟩
def zcL (v : Int → Int) (f n : Int) : Int → Int → Int := zPb (fun q j => v (f + n * q + j)) n
def zcP (v : Int → Int) (f n : Int) (P : Int → Int → Int) : Prop := ∀ q j, 0 ≤ q ∧ q < 2 * n → 0 ≤ j ∧ j < n → P q (v (f + n * q + j)) = j
theorem zcP_r {v : Int → Int} {f n : Int} {P : Int → Int → Int} (hn : 0 ≤ n) (hv : zrkM v f n) (hP : zcP v f n P) : ∀ q t, 0 ≤ q ∧ q < 2 * n → 0 ≤ t ∧ t < n → (0 ≤ P q t ∧ P q t < n) ∧ v (f + n * q + P q t) = t := by
  intro q t hq ht
  obtain ⟨j, hj, e⟩ := hv q hq t ht
  have e : v (f + n * q + j) = t := e
  have := hP q j hq hj
  rw [e] at this
  rw [this]
  exact ⟨hj, e⟩
theorem zcP_u {v : Int → Int} {f n : Int} {P P2 : Int → Int → Int} (hn : 0 ≤ n) (hv : zrkM v f n) (hP : zcP v f n P) (hP2 : zcP v f n P2) : ∀ q t, 0 ≤ q ∧ q < 2 * n → 0 ≤ t ∧ t < n → P q t = P2 q t := by
  intro q t hq ht
  have h1 := zcP_r hn hv hP q t hq ht
  have h2 := hP2 q (P q t) hq h1.1
  rw [h1.2] at h2
  exact h2.symm
theorem zPb_u {P P2 : Int → Int → Int} {n : Int} (h : ∀ q t, 0 ≤ q ∧ q < 2 * n → 0 ≤ t ∧ t < n → P q t = P2 q t) : zPb P n = zPb P2 n := by
  funext q t
  unfold zPb
  by_cases e : (0 ≤ q ∧ q < 2 * n) ∧ (0 ≤ t ∧ t < n)
  · rw [if_pos e, if_pos e]
    exact h q t e.1 e.2
  · rw [if_neg e, if_neg e]
theorem zHR_m {v : Int → Int} {f n : Int} {P : Int → Int → Int} (hn : 0 ≤ n) (hv : zrkM v f n) (hP : zcP v f n P) : zHR (zcL v f n) (zPb P n) n := by
  refine ⟨fun b hb => ?_, fun g b c hg hb hc e => ?_⟩
  · have hd := zhit_dis hn (hv b (by omega))
    have hL : ∀ j, 0 ≤ j ∧ j < n → zcL v f n b j = v (f + n * b + j) := fun j hj => if_pos ⟨by omega, hj⟩
    refine ⟨⟨fun j hj => ?_, fun j k hjk => ?_⟩, fun j hj => ?_⟩
    · rw [hL j hj]
      exact hd.1 j hj
    · rw [hL j (by omega), hL k (by omega)]
      exact hd.2 j k hjk
    · have h1 := hd.1 j hj
      rw [hL j hj, zPb_i (by omega) h1]
      exact hP b j (by omega) hj
  · rw [zPb_i (by omega) hb, zPb_i (by omega) hc] at e
    have h1 := (zcP_r hn hv hP (n + g) b (by omega) hb).2
    have h2 := (zcP_r hn hv hP (n + g) c (by omega) hc).2
    rw [e, h2] at h1
    exact h1.symm
theorem zIv_g {L P : Int → Int → Int} {n : Int} {G W A : Int → Int} (hR : zHR L P n) (hI : zIv L P n G W A) : ∀ c, 0 ≤ c ∧ c < n → G c < n ∧ W c < n := by
  intro c hc
  constructor
  · have h := hI.1 c hc
    rcases h.2 with q | q
    · omega
    · have := (hR.1 c hc).1.1 (A c - 1) (by omega)
      rw [q.2.1]
      omega
  · rcases hI.2.1 c hc with q | q
    · omega
    · omega
def zfrmM (v : Int → Int) (f n b x : Int) : Prop := (¬ zrkM v f n ∧ x = -2) ∨ (zrkM v f n ∧ ∃ (P : Int → Int → Int) (G W A : Int → Int), zcP v f n P ∧ zIv (zcL v f n) (zPb P n) n G W A ∧ (∀ c, 0 ≤ c ∧ c < n → 0 ≤ G c) ∧ x = G b)
set_option maxHeartbeats 4000000 in
set_option maxRecDepth 100000 in
theorem u_firm {G : zG} {ad : Int → Nat} {M : zM} {q l i n bb : Int} (hq : -2147483648 ≤ q ∧ q ≤ 2147483647) (hl : -2147483648 ≤ l ∧ l ≤ 2147483647) (hi : -2147483648 ≤ i ∧ i ≤ 2147483647) (hn : -2147483648 ≤ n ∧ n ≤ 2147483647) (hbb : -2147483648 ≤ bb ∧ bb ≤ 2147483647) (hla : ∀ j, 0 ≤ j ∧ j < 4 → -1 ≤ M 223 j ∧ M 223 j ≤ 2) (hln : ∀ j, 0 ≤ j ∧ j < 4 → 0 ≤ M 224 j ∧ M 224 j ≤ 100) (hI : ∀ i, 0 ≤ i ∧ i < 400 → -2147483648 ≤ M 225 i ∧ M 225 i ≤ 2147483647)  : zTI G (zw ad) mi_X8_firm [zr 200, zi q, zi l, zi i, zi n, zi bb] M (fun x M' => zfrM M M' ∧ ((¬ (((0 ≤ q ∧ q ≤ 3) ∧ (0 ≤ l ∧ l ≤ 2)) ∧ (2 ≤ n ∧ n ≤ 7) ∧ (0 ≤ bb ∧ bb < n)) ∧ x = -1) ∨ ((((0 ≤ q ∧ q ≤ 3) ∧ (0 ≤ l ∧ l ≤ 2)) ∧ (2 ≤ n ∧ n ≤ 7) ∧ (0 ≤ bb ∧ bb < n)) ∧ ((zlak (M 223 q) (M 224 q) l i (2 * n * n) ≠ 0 ∧ x = zlak (M 223 q) (M 224 q) l i (2 * n * n)) ∨ (zlak (M 223 q) (M 224 q) l i (2 * n * n) = 0 ∧ zfrmM (M 225) (100 * q + i) n bb x))))) := by
  refine zTI.of (own := RX8) (ls := [some (zr 200), some (zi q), some (zi l), some (zi i), some (zi n), some (zi bb), none, none, none, none, none, none]) (by decide +kernel) rfl rfl (Nat.le_of_ble_eq_true rfl) (fun γ ok rt => ?_)
  refine v_iload_1 ok dX8_firm_0 (n := 1) rfl ?_
  refine v_iload_2 ok dX8_firm_1 (n := 2) rfl ?_
  refine v_callSI ok (mi := mi_X8_isSheet) mc_X8_isSheet cs_X8_230 (by decide) ⟨Nat.zero_le _, Nat.zero_le _⟩ dX8_firm_2 (n := 5) rfl rfl rfl (Nat.le_of_ble_eq_true rfl) (u_isSheet hq hl) (fun x6 M6 h6 => ?_)
  obtain ⟨e6_, h6⟩ := h6
  subst M6
  refine v_if_eq ok dX8_firm_5 (tgt := 38) (by decide) (n := 8) rfl (by omega) (fun c5_1 => ?_) (fun c5_1 => ?_)
  · have c5_1 := c5_1
    refine v_iconst ok dX8_firm_38 (n := 39) rfl ?_
    refine v_iret rt dX8_firm_39 ?_
    exact ⟨zfrM_r M, Or.inl ⟨by omega, rfl⟩⟩
  · have c5_1 := c5_1
    refine v_iload_4 ok dX8_firm_8 (n := 10) rfl ?_
    refine v_i2l ok (by omega) dX8_firm_10 (n := 11) rfl ?_
    refine v_ldc2 ok (c := 2) kc_X8_228 (by decide) dX8_firm_11 (n := 14) rfl ?_
    refine v_ldc2 ok (c := 7) kc_X8_246 (by decide) dX8_firm_14 (n := 17) rfl ?_
    refine v_callSI ok (mi := mi_X8_in) mc_X8_in cs_X8_85 (by decide) ⟨Nat.zero_le _, Nat.zero_le _⟩ dX8_firm_17 (n := 20) rfl rfl rfl (Nat.le_of_ble_eq_true rfl) (u_in (by omega) (by omega) (by omega)) (fun x7 M7 h7 => ?_)
    obtain ⟨e7_, h7⟩ := h7
    subst M7
    refine v_if_eq ok dX8_firm_20 (tgt := 38) (by decide) (n := 23) rfl (by omega) (fun c20_2 => ?_) (fun c20_2 => ?_)
    · have c20_2 := c20_2
      refine v_iconst ok dX8_firm_38 (n := 39) rfl ?_
      refine v_iret rt dX8_firm_39 ?_
      exact ⟨zfrM_r M, Or.inl ⟨by omega, rfl⟩⟩
    · have c20_2 := c20_2
      refine v_iload_5 ok dX8_firm_23 (n := 25) rfl ?_
      refine v_i2l ok (by omega) dX8_firm_25 (n := 26) rfl ?_
      refine v_lconst0 ok dX8_firm_26 (n := 27) rfl ?_
      refine v_iload_4 ok dX8_firm_27 (n := 29) rfl ?_
      refine v_iconst ok dX8_firm_29 (n := 30) rfl ?_
      refine v_isub ok dX8_firm_30 (n := 31) rfl ?_
      refine v_i2l ok (by omega) dX8_firm_31 (n := 32) rfl ?_
      refine v_callSI ok (mi := mi_X8_in) mc_X8_in cs_X8_85 (by decide) ⟨Nat.zero_le _, Nat.zero_le _⟩ dX8_firm_32 (n := 35) rfl rfl rfl (Nat.le_of_ble_eq_true rfl) (u_in (by omega) (by omega) (by omega)) (fun x8 M8 h8 => ?_)
      obtain ⟨e8_, h8⟩ := h8
      subst M8
      refine v_if_ne ok dX8_firm_35 (tgt := 40) (by decide) (n := 38) rfl (by omega) (fun c35_3 => ?_) (fun c35_3 => ?_)
      · have c35_3 := c35_3
        have hnn := znn (n := n) (by omega)
        refine v_aload_0 ok dX8_firm_40 (n := 41) rfl ?_
        refine v_iload_1 ok dX8_firm_41 (n := 42) rfl ?_
        refine v_iload_2 ok dX8_firm_42 (n := 43) rfl ?_
        refine v_iload_3 ok dX8_firm_43 (n := 44) rfl ?_
        refine v_iconst ok dX8_firm_44 (n := 45) rfl ?_
        refine v_iload_4 ok dX8_firm_45 (n := 47) rfl ?_
        refine v_imul ok dX8_firm_47 (n := 48) rfl ?_
        refine v_iload_4 ok dX8_firm_48 (n := 50) rfl ?_
        refine v_imul ok dX8_firm_50 (n := 51) rfl ?_
        refine v_callVI ok (mi := mi_X8_lacksRow) mc_X8_lacksRow cv_X8_233 ly_200 rfl rfl rfl (by decide) ⟨Nat.zero_le _, Nat.zero_le _⟩ dX8_firm_51 (n := 54) rfl rfl rfl (Nat.le_of_ble_eq_true rfl) (u_lacksRow (by omega) (by omega) hl hi hla hln) (fun w6 M7 g7 => ?_)
        obtain ⟨g7, e7⟩ := g7
        subst M7
        have zlb := zlak_b (M 223 q) (M 224 q) l i (2 * n * n)
        refine v_istore_6 ok (by decide) rfl dX8_firm_54 (n := 56) rfl ?_
        refine v_iload_6 ok dX8_firm_56 (n := 58) rfl ?_
        refine v_if_ge ok dX8_firm_58 (tgt := 64) (by decide) (n := 61) rfl (by omega) (fun c58_4 => ?_) (fun c58_4 => ?_)
        · have c58_4 := c58_4
          have hlk : 0 ≤ i ∧ i ≤ M 224 q - 2 * (n * n) := by
            have h : zlak (M 223 q) (M 224 q) l i (2 * n * n) = 0 := by omega
            rw [hnn.2.1] at h
            unfold zlak at h
            by_cases e : M 223 q ≠ l
            · rw [if_pos e] at h
              split at h <;> omega
            · rw [if_neg e] at h
              by_cases e2 : 0 ≤ i ∧ i ≤ M 224 q - 2 * (n * n)
              · exact e2
              · rw [if_neg e2] at h
                omega
          have hlnq := hln q (by omega)
          
          refine v_bipush ok (by decide) dX8_firm_64 (n := 66) rfl ?_
          refine v_iload_1 ok dX8_firm_66 (n := 67) rfl ?_
          refine v_imul ok dX8_firm_67 (n := 68) rfl ?_
          refine v_iload_3 ok dX8_firm_68 (n := 69) rfl ?_
          refine v_iadd ok dX8_firm_69 (n := 70) rfl ?_
          refine v_istore_7 ok (by decide) rfl dX8_firm_70 (n := 72) rfl ?_
          refine v_aload_0 ok dX8_firm_72 (n := 73) rfl ?_
          refine v_iload_7 ok dX8_firm_73 (n := 75) rfl ?_
          refine v_iload_4 ok dX8_firm_75 (n := 77) rfl ?_
          refine v_callVI ok (mi := mi_X8_findRanks) mc_X8_findRanks cv_X8_248 ly_200 rfl rfl rfl (by decide) ⟨Nat.zero_le _, Nat.zero_le _⟩ dX8_firm_77 (n := 80) rfl rfl rfl (Nat.le_of_ble_eq_true rfl) (u_findRanks (by omega) (by omega) hI) (fun x1 M1 g1 => ?_)
          obtain ⟨g1, h1⟩ := g1
          have k225 : M1 225 = M 225 := g1 225 (by omega)
          refine v_if_ne ok dX8_firm_80 (tgt := 86) (by decide) (n := 83) rfl (by omega) (fun c80_5 => ?_) (fun c80_5 => ?_)
          · have c80_5 := c80_5
            obtain ⟨hrk, hrp⟩ : zrkM (M 225) (100 * q + i) n ∧ zcP (M 225) (100 * q + i) n (fun q t => M1 229 (n * q + t)) := by
              rcases h1 with ⟨_, h2, h3⟩ | ⟨h, _⟩
              · exact ⟨h2, h3⟩
              · exfalso
                omega
            obtain ⟨f, hf⟩ : ∃ f, 100 * q + i = f := ⟨_, rfl⟩
            rw [hf] at hrk hrp
            rw [hf] at rt
            try rw [hf]
            have hR := zHR_m (by omega) hrk hrp
            have hPr : ∀ p t, 0 ≤ p ∧ p < 2 * n → 0 ≤ t ∧ t < n → 0 ≤ M1 229 (n * p + t) ∧ M1 229 (n * p + t) < n := fun p t hp ht => (zcP_r (by omega) hrk hrp p t hp ht).1
            have lpb : ∀ (zn : Nat) (b : Int) (l9 l10 l11 : Option zV) (Mx : zM), zn = (49 - zsA (Mx 232) n.toNat).toNat → (∀ r, r ≠ 230 → r ≠ 231 → r ≠ 232 → Mx r = M1 r) → (zIv (zcL (M 225) f n) (zPb (fun q t => M1 229 (n * q + t)) n) n (Mx 230) (Mx 231) (Mx 232)) → (∀ c, 0 ≤ c ∧ c < n → -4 ≤ Mx 230 c ∧ -4 ≤ Mx 231 c) → ((b = -4 ∧ ∀ c, 0 ≤ c ∧ c < n → 0 ≤ Mx 230 c) ∨ ((0 ≤ b ∧ b < n) ∧ Mx 230 b < 0)) → zVV G γ (zw ad) (0, 0) 131 [some (zr 200), some (zi q), some (zi l), some (zi i), some (zi n), some (zi bb), some (zi w6), some (zi f), some (zi b), l9, l10, l11] [] Mx := by
              refine zrec _ (fun zn ih => ?_)
              intro b l9 l10 l11 Mx hzn fx hi hrg hb
              have hbr : -4 ≤ b ∧ b < n := by
                rcases hb with ⟨h, _⟩ | ⟨h, _⟩ <;> omega
              refine v_iload_8 ok dX8_firm_131 (n := 133) rfl ?_
              refine v_if_lt ok dX8_firm_133 (tgt := 293) (by decide) (n := 136) rfl (by omega) (fun c133_1 => ?_) (fun c133_1 => ?_)
              · have c133_1 := c133_1
                refine v_aload_0 ok dX8_firm_293 (n := 294) rfl ?_
                refine v_getR ok fd_X8_72 ly_200 rfl rfl rfl rf_200_29 dX8_firm_294 (n := 297) rfl ?_
                refine v_iload_5 ok dX8_firm_297 (n := 299) rfl ?_
                refine v_iald ok ly_230 rfl (by omega) (by decide) dX8_firm_299 (n := 300) rfl ?_
                try simp (disch := omega) only [fx, zset_o, k225]
                refine v_iret rt dX8_firm_300 ?_
                rcases hb with ⟨_, hall⟩ | ⟨h, _⟩
                · exact ⟨⟨fun r hr => by rw [fx r (by omega) (by omega) (by omega), g1 r (by omega)], fun j _ _ _ => by rw [fx 200 (by omega) (by omega) (by omega), g1 200 (by omega)]⟩, Or.inr ⟨by omega, Or.inr ⟨by omega, Or.inr ⟨hrk, fun q t => M1 229 (n * q + t), Mx 230, Mx 231, Mx 232, hrp, hi, hall, rfl⟩⟩⟩⟩
                · exfalso
                  omega
              · have c133_1 := c133_1
                rcases hb with ⟨hb, _⟩ | ⟨hbn, hbG⟩
                · exfalso
                  omega
                have hA0 := (hi.1 b hbn).1
                have hab := zIv_a (by omega) hR hi hbn hbG
                have hza := zsA_f (A := Mx 232) (m := n) (b := b) n.toNat (fun j hj => (hi.1 j (by omega)).1) (by omega) hab
                rw [show ((n.toNat : Nat) : Int) = n by omega] at hza
                have zb1 := znm (n := n) (b := b) (m := n) (by omega) (by omega) (by omega)
                have hLb : zcL (M 225) f n b (Mx 232 b) = M 225 (f + n * b + Mx 232 b) := if_pos ⟨by omega, by omega⟩
                obtain ⟨g, hg⟩ : ∃ g, M 225 (f + n * b + Mx 232 b) = g := ⟨_, rfl⟩
                rw [hg] at hLb
                have hgn : 0 ≤ g ∧ g < n := by rw [← hLb]; exact (hR.1 b hbn).1.1 _ (by omega)
                have hrb := hrg b hbn
                have hrgg := hrg g hgn
                have hgg := (zIv_g hR hi g hgn).2
                have zg1 := znm (n := n) (b := n + g) (m := 2 * n) (by omega) (by omega) (by omega)
                have hpb := hPr (n + g) b (by omega) hbn
                have hA2 : ∀ v i, zset Mx 232 b v 232 i = if i = b then v else Mx 232 i := fun v i => by
                  by_cases e : i = b
                  · rw [e, if_pos rfl, zset_s]
                  · rw [if_neg e, zset_n e]
                have ih2 := ih
                have hsa0 : ∀ A2 : Int → Int, (∀ i, A2 i = if i = b then Mx 232 b + 1 else Mx 232 i) → zsA A2 n.toNat = zsA (Mx 232) n.toNat + 1 := fun A2 h => by
                  rw [zsA_s h, if_pos (by omega)]
                have k251 : ∀ (b8 : Int) (l9 l10 l11 : Option zV) (My : zM), zlong l10 = false → (∀ r, r ≠ 230 → r ≠ 231 → r ≠ 232 → My r = M1 r) → zIv (zcL (M 225) f n) (zPb (fun q t => M1 229 (n * q + t)) n) n (My 230) (My 231) (My 232) → (∀ c, 0 ≤ c ∧ c < n → -4 ≤ My 230 c ∧ -4 ≤ My 231 c) → zsA (My 232) n.toNat = zsA (Mx 232) n.toNat + 1 → zVV G γ (zw ad) (0, 0) 251 [some (zr 200), some (zi q), some (zi l), some (zi i), some (zi n), some (zi bb), some (zi w6), some (zi f), some (zi b8), l9, l10, l11] [] My := by
                  intro b8 l9 l10 l11 My h10 fy hiy hgy hsa
                  have lpk : ∀ (zn : Nat) (k v : Int), zn = (8 - k).toNat → (0 ≤ k ∧ k ≤ n) → ((v = -4 ∧ ∀ c, 0 ≤ c ∧ c < k → 0 ≤ My 230 c) ∨ ((0 ≤ v ∧ v < k) ∧ My 230 v < 0)) → zVV G γ (zw ad) (0, 0) 258 [some (zr 200), some (zi q), some (zi l), some (zi i), some (zi n), some (zi bb), some (zi w6), some (zi f), some (zi v), l9, l10, some (zi k)] [] My := by
                    refine zrec _ (fun zn ih => ?_)
                    intro k v hzn hk hv
                    refine v_iload_11 ok dX8_firm_258 (n := 260) rfl ?_
                    refine v_iload_4 ok dX8_firm_260 (n := 262) rfl ?_
                    refine v_icmp_ge ok dX8_firm_262 (tgt := 290) (by decide) (n := 265) rfl (by omega) (by omega) (fun c262_1 => ?_) (fun c262_1 => ?_)
                    · have c262_1 := c262_1
                      refine v_goto ok dX8_firm_290 (n := 131) (by decide) ?_
                      refine ih2 _ ?_ v _ _ _ My rfl fy hiy hgy ?_
                      · rw [hsa]
                        omega
                      · rw [show k = n by omega] at hv
                        exact hv
                    · have c262_1 := c262_1
                      have hrk := hgy k (by omega)
                      have hgk := (zIv_g hR hiy k (by omega)).1
                      refine v_aload_0 ok dX8_firm_265 (n := 266) rfl ?_
                      refine v_getR ok fd_X8_72 ly_200 rfl rfl rfl rf_200_29 dX8_firm_266 (n := 269) rfl ?_
                      refine v_iload_11 ok dX8_firm_269 (n := 271) rfl ?_
                      refine v_iald ok ly_230 rfl (by omega) (by decide) dX8_firm_271 (n := 272) rfl ?_
                      refine v_if_ge ok dX8_firm_272 (tgt := 280) (by decide) (n := 275) rfl (by omega) (fun c272_2 => ?_) (fun c272_2 => ?_)
                      · have c272_2 := c272_2
                        refine v_iload_8 ok dX8_firm_280 (n := 282) rfl ?_
                        refine v_istore_8 ok (by decide) rfl dX8_firm_282 (n := 284) rfl ?_
                        refine v_iinc_11 ok (by decide) h10 dX8_firm_284 (n := 287) rfl ?_
                        refine v_goto ok dX8_firm_287 (n := 258) (by decide) ?_
                        refine ih _ (by omega) (k + 1) _ rfl (by omega) ?_
                        first
                        | exact Or.inr ⟨by omega, by omega⟩
                        | (rcases hv with ⟨h1, h2⟩ | ⟨h1, h2⟩
                           · refine Or.inl ⟨h1, fun c hc => ?_⟩
                             by_cases e : c = k
                             · rw [e]; omega
                             · exact h2 c (by omega)
                           · exact Or.inr ⟨by omega, h2⟩)
                      · have c272_2 := c272_2
                        refine v_iload_11 ok dX8_firm_275 (n := 277) rfl ?_
                        refine v_goto ok dX8_firm_277 (n := 282) (by decide) ?_
                        refine v_istore_8 ok (by decide) rfl dX8_firm_282 (n := 284) rfl ?_
                        refine v_iinc_11 ok (by decide) h10 dX8_firm_284 (n := 287) rfl ?_
                        refine v_goto ok dX8_firm_287 (n := 258) (by decide) ?_
                        refine ih _ (by omega) (k + 1) _ rfl (by omega) ?_
                        first
                        | exact Or.inr ⟨by omega, by omega⟩
                        | (rcases hv with ⟨h1, h2⟩ | ⟨h1, h2⟩
                           · refine Or.inl ⟨h1, fun c hc => ?_⟩
                             by_cases e : c = k
                             · rw [e]; omega
                             · exact h2 c (by omega)
                           · exact Or.inr ⟨by omega, h2⟩)
                  refine v_bipush ok (by decide) dX8_firm_251 (n := 253) rfl ?_
                  refine v_istore_8 ok (by decide) rfl dX8_firm_253 (n := 255) rfl ?_
                  refine v_iconst ok dX8_firm_255 (n := 256) rfl ?_
                  refine v_istore_11 ok (by decide) h10 dX8_firm_256 (n := 258) rfl ?_
                  exact lpk _ 0 _ rfl (by omega) (Or.inl ⟨rfl, fun c hc => by omega⟩)
                refine v_aload_0 ok dX8_firm_136 (n := 137) rfl ?_
                refine v_getR ok fd_X8_57 ly_200 rfl rfl rfl rf_200_24 dX8_firm_137 (n := 140) rfl ?_
                refine v_iload_7 ok dX8_firm_140 (n := 142) rfl ?_
                refine v_iload_4 ok dX8_firm_142 (n := 144) rfl ?_
                refine v_iload_8 ok dX8_firm_144 (n := 146) rfl ?_
                refine v_imul ok dX8_firm_146 (n := 147) rfl ?_
                refine v_iadd ok dX8_firm_147 (n := 148) rfl ?_
                refine v_aload_0 ok dX8_firm_148 (n := 149) rfl ?_
                refine v_getR ok fd_X8_78 ly_200 rfl rfl rfl rf_200_31 dX8_firm_149 (n := 152) rfl ?_
                refine v_iload_8 ok dX8_firm_152 (n := 154) rfl ?_
                refine v_iald ok ly_232 rfl (by omega) (by decide) dX8_firm_154 (n := 155) rfl ?_
                try simp (disch := omega) only [fx, zset_o, k225]
                refine v_iadd ok dX8_firm_155 (n := 156) rfl ?_
                refine v_iald ok ly_225 rfl (by omega) (by decide) dX8_firm_156 (n := 157) rfl ?_
                try simp (disch := omega) only [fx, zset_o, k225]
                rw [hg]
                refine v_istore_9 ok (by decide) rfl dX8_firm_157 (n := 159) rfl ?_
                refine v_aload_0 ok dX8_firm_159 (n := 160) rfl ?_
                refine v_getR ok fd_X8_78 ly_200 rfl rfl rfl rf_200_31 dX8_firm_160 (n := 163) rfl ?_
                refine v_iload_8 ok dX8_firm_163 (n := 165) rfl ?_
                refine v_dup2 ok rfl rfl dX8_firm_165 (n := 166) rfl ?_
                refine v_iald ok ly_232 rfl (by omega) (by decide) dX8_firm_166 (n := 167) rfl ?_
                try simp (disch := omega) only [fx, zset_o, k225]
                refine v_iconst ok dX8_firm_167 (n := 168) rfl ?_
                refine v_iadd ok dX8_firm_168 (n := 169) rfl ?_
                refine v_iast ok ly_232 rfl (by omega) (by decide) dX8_firm_169 (n := 170) rfl ?_
                refine v_aload_0 ok dX8_firm_170 (n := 171) rfl ?_
                refine v_getR ok fd_X8_75 ly_200 rfl rfl rfl rf_200_30 dX8_firm_171 (n := 174) rfl ?_
                refine v_iload_9 ok dX8_firm_174 (n := 176) rfl ?_
                refine v_iald ok ly_231 rfl (by omega) (by decide) dX8_firm_176 (n := 177) rfl ?_
                try simp (disch := omega) only [fx, zset_o, k225]
                refine v_istore_10 ok (by decide) rfl dX8_firm_177 (n := 179) rfl ?_
                refine v_iload_10 ok dX8_firm_179 (n := 181) rfl ?_
                refine v_if_lt ok dX8_firm_181 (tgt := 219) (by decide) (n := 184) rfl (by omega) (fun c181_2 => ?_) (fun c181_2 => ?_)
                · have c181_2 := c181_2
                  refine v_aload_0 ok dX8_firm_219 (n := 220) rfl ?_
                  refine v_getR ok fd_X8_75 ly_200 rfl rfl rfl rf_200_30 dX8_firm_220 (n := 223) rfl ?_
                  refine v_iload_9 ok dX8_firm_223 (n := 225) rfl ?_
                  refine v_iload_8 ok dX8_firm_225 (n := 227) rfl ?_
                  refine v_iast ok ly_231 rfl (by omega) (by decide) dX8_firm_227 (n := 228) rfl ?_
                  refine v_aload_0 ok dX8_firm_228 (n := 229) rfl ?_
                  refine v_getR ok fd_X8_72 ly_200 rfl rfl rfl rf_200_29 dX8_firm_229 (n := 232) rfl ?_
                  refine v_iload_8 ok dX8_firm_232 (n := 234) rfl ?_
                  refine v_iload_9 ok dX8_firm_234 (n := 236) rfl ?_
                  refine v_iast ok ly_230 rfl (by omega) (by decide) dX8_firm_236 (n := 237) rfl ?_
                  refine v_iload_10 ok dX8_firm_237 (n := 239) rfl ?_
                  refine v_if_lt ok dX8_firm_239 (tgt := 251) (by decide) (n := 242) rfl (by omega) (fun c239_3 => ?_) (fun c239_3 => ?_)
                  · have c239_3 := c239_3
                    first
                    | (exfalso; omega)
                    | (refine k251 b _ _ _ _ rfl (fun r a1 a2 a3 => by rw [zset_o a3]; exact fx r a1 a2 a3) ?_ ?_ ?_
                       · have e := zIv_n (by omega) hR hi hbn hbG hLb (by omega) (by rw [zPb_i (by omega) (by omega), zPb_i (by omega) (by omega)]; omega) (hA2 (Mx 232 b + 1))
                         rw [zset_o (by omega), zset_o (by omega)]
                         exact e
                       · intro c hc
                         rw [zset_o (by omega), zset_o (by omega)]
                         exact hrg c hc
                       · exact hsa0 _ (hA2 (Mx 232 b + 1)))
                    | (refine k251 b _ _ _ _ rfl (fun r a1 a2 a3 => by rw [zset_o a1, zset_o a2, zset_o a3]; exact fx r a1 a2 a3) ?_ ?_ ?_
                       · refine zIv_y (by omega) hR hi hbn hbG hLb (fun h => by omega) (fun i => ?_) (fun i => ?_) ?_ (fun h => by omega) (fun c hc e1 e2 => ?_)
                         · rw [zset_o (by omega), zset_o (by omega)]
                           exact hA2 (Mx 232 b + 1) i
                         · rw [zset_o (by omega)]
                           by_cases e : i = g
                           · rw [e, if_pos rfl, zset_s]
                           · rw [if_neg e, zset_n e, zset_o (by omega)]
                         · rw [zset_s]
                         · rw [zset_n e1, zset_o (by omega), zset_o (by omega)]
                       · intro c hc
                         have := hrg c hc
                         constructor
                         · by_cases e : c = b
                           · rw [e, zset_s]; omega
                           · rw [zset_n e, zset_o (by omega), zset_o (by omega)]; omega
                         · rw [zset_o (by omega)]
                           by_cases e : c = g
                           · rw [e, zset_s]; omega
                           · rw [zset_n e, zset_o (by omega)]; omega
                       · rw [zset_o (by omega), zset_o (by omega)]
                         exact hsa0 _ (hA2 (Mx 232 b + 1)))
                    | (refine k251 b _ _ _ _ rfl (fun r a1 a2 a3 => by rw [zset_o a1, zset_o a1, zset_o a2, zset_o a3]; exact fx r a1 a2 a3) ?_ ?_ ?_
                       · refine zIv_y (by omega) hR hi hbn hbG hLb (fun h => ?_) (fun i => ?_) (fun i => ?_) ?_ (fun h => ?_) (fun c hc e1 e2 => ?_)
                         · rw [zPb_i (by omega) (by omega), zPb_i (by omega) (by omega)]; omega
                         · rw [zset_o (by omega), zset_o (by omega), zset_o (by omega)]
                           exact hA2 (Mx 232 b + 1) i
                         · rw [zset_o (by omega), zset_o (by omega)]
                           by_cases e : i = g
                           · rw [e, if_pos rfl, zset_s]
                           · rw [if_neg e, zset_n e, zset_o (by omega)]
                         · rw [zset_n hwb, zset_s]
                         · rw [zset_s]; omega
                         · rw [zset_n e2, zset_n e1, zset_o (by omega), zset_o (by omega)]
                       · intro c hc
                         have := hrg c hc
                         constructor
                         · by_cases e2 : c = Mx 231 g
                           · rw [e2, zset_s]; omega
                           · rw [zset_n e2]
                             by_cases e : c = b
                             · rw [e, zset_s]; omega
                             · rw [zset_n e, zset_o (by omega), zset_o (by omega)]; omega
                         · rw [zset_o (by omega), zset_o (by omega)]
                           by_cases e : c = g
                           · rw [e, zset_s]; omega
                           · rw [zset_n e, zset_o (by omega)]; omega
                       · rw [zset_o (by omega), zset_o (by omega), zset_o (by omega)]
                         exact hsa0 _ (hA2 (Mx 232 b + 1)))
                  · have c239_3 := c239_3
                    refine v_aload_0 ok dX8_firm_242 (n := 243) rfl ?_
                    refine v_getR ok fd_X8_72 ly_200 rfl rfl rfl rf_200_29 dX8_firm_243 (n := 246) rfl ?_
                    refine v_iload_10 ok dX8_firm_246 (n := 248) rfl ?_
                    refine v_bipush ok (by decide) dX8_firm_248 (n := 250) rfl ?_
                    refine v_iast ok ly_230 rfl (by omega) (by decide) dX8_firm_250 (n := 251) rfl ?_
                    first
                    | (exfalso; omega)
                    | (refine k251 b _ _ _ _ rfl (fun r a1 a2 a3 => by rw [zset_o a3]; exact fx r a1 a2 a3) ?_ ?_ ?_
                       · have e := zIv_n (by omega) hR hi hbn hbG hLb (by omega) (by rw [zPb_i (by omega) (by omega), zPb_i (by omega) (by omega)]; omega) (hA2 (Mx 232 b + 1))
                         rw [zset_o (by omega), zset_o (by omega)]
                         exact e
                       · intro c hc
                         rw [zset_o (by omega), zset_o (by omega)]
                         exact hrg c hc
                       · exact hsa0 _ (hA2 (Mx 232 b + 1)))
                    | (refine k251 b _ _ _ _ rfl (fun r a1 a2 a3 => by rw [zset_o a1, zset_o a2, zset_o a3]; exact fx r a1 a2 a3) ?_ ?_ ?_
                       · refine zIv_y (by omega) hR hi hbn hbG hLb (fun h => by omega) (fun i => ?_) (fun i => ?_) ?_ (fun h => by omega) (fun c hc e1 e2 => ?_)
                         · rw [zset_o (by omega), zset_o (by omega)]
                           exact hA2 (Mx 232 b + 1) i
                         · rw [zset_o (by omega)]
                           by_cases e : i = g
                           · rw [e, if_pos rfl, zset_s]
                           · rw [if_neg e, zset_n e, zset_o (by omega)]
                         · rw [zset_s]
                         · rw [zset_n e1, zset_o (by omega), zset_o (by omega)]
                       · intro c hc
                         have := hrg c hc
                         constructor
                         · by_cases e : c = b
                           · rw [e, zset_s]; omega
                           · rw [zset_n e, zset_o (by omega), zset_o (by omega)]; omega
                         · rw [zset_o (by omega)]
                           by_cases e : c = g
                           · rw [e, zset_s]; omega
                           · rw [zset_n e, zset_o (by omega)]; omega
                       · rw [zset_o (by omega), zset_o (by omega)]
                         exact hsa0 _ (hA2 (Mx 232 b + 1)))
                    | (refine k251 b _ _ _ _ rfl (fun r a1 a2 a3 => by rw [zset_o a1, zset_o a1, zset_o a2, zset_o a3]; exact fx r a1 a2 a3) ?_ ?_ ?_
                       · refine zIv_y (by omega) hR hi hbn hbG hLb (fun h => ?_) (fun i => ?_) (fun i => ?_) ?_ (fun h => ?_) (fun c hc e1 e2 => ?_)
                         · rw [zPb_i (by omega) (by omega), zPb_i (by omega) (by omega)]; omega
                         · rw [zset_o (by omega), zset_o (by omega), zset_o (by omega)]
                           exact hA2 (Mx 232 b + 1) i
                         · rw [zset_o (by omega), zset_o (by omega)]
                           by_cases e : i = g
                           · rw [e, if_pos rfl, zset_s]
                           · rw [if_neg e, zset_n e, zset_o (by omega)]
                         · rw [zset_n hwb, zset_s]
                         · rw [zset_s]; omega
                         · rw [zset_n e2, zset_n e1, zset_o (by omega), zset_o (by omega)]
                       · intro c hc
                         have := hrg c hc
                         constructor
                         · by_cases e2 : c = Mx 231 g
                           · rw [e2, zset_s]; omega
                           · rw [zset_n e2]
                             by_cases e : c = b
                             · rw [e, zset_s]; omega
                             · rw [zset_n e, zset_o (by omega), zset_o (by omega)]; omega
                         · rw [zset_o (by omega), zset_o (by omega)]
                           by_cases e : c = g
                           · rw [e, zset_s]; omega
                           · rw [zset_n e, zset_o (by omega)]; omega
                       · rw [zset_o (by omega), zset_o (by omega), zset_o (by omega)]
                         exact hsa0 _ (hA2 (Mx 232 b + 1)))
                · have c181_2 := c181_2
                  have hwn := hi.2.1 g hgn
                  have hpw := hPr (n + g) (Mx 231 g) (by omega) (by omega)
                  have hwb : b ≠ Mx 231 g := fun e => by
                    rcases hwn with h | h
                    · omega
                    · have := h.2
                      rw [← e] at this
                      omega
                  refine v_aload_0 ok dX8_firm_184 (n := 185) rfl ?_
                  refine v_getR ok fd_X8_69 ly_200 rfl rfl rfl rf_200_28 dX8_firm_185 (n := 188) rfl ?_
                  refine v_iload_4 ok dX8_firm_188 (n := 190) rfl ?_
                  refine v_iload_4 ok dX8_firm_190 (n := 192) rfl ?_
                  refine v_iload_9 ok dX8_firm_192 (n := 194) rfl ?_
                  refine v_iadd ok dX8_firm_194 (n := 195) rfl ?_
                  refine v_imul ok dX8_firm_195 (n := 196) rfl ?_
                  refine v_iload_8 ok dX8_firm_196 (n := 198) rfl ?_
                  refine v_iadd ok dX8_firm_198 (n := 199) rfl ?_
                  refine v_iald ok ly_229 rfl (by omega) (by decide) dX8_firm_199 (n := 200) rfl ?_
                  try simp (disch := omega) only [fx, zset_o, k225]
                  refine v_aload_0 ok dX8_firm_200 (n := 201) rfl ?_
                  refine v_getR ok fd_X8_69 ly_200 rfl rfl rfl rf_200_28 dX8_firm_201 (n := 204) rfl ?_
                  refine v_iload_4 ok dX8_firm_204 (n := 206) rfl ?_
                  refine v_iload_4 ok dX8_firm_206 (n := 208) rfl ?_
                  refine v_iload_9 ok dX8_firm_208 (n := 210) rfl ?_
                  refine v_iadd ok dX8_firm_210 (n := 211) rfl ?_
                  refine v_imul ok dX8_firm_211 (n := 212) rfl ?_
                  refine v_iload_10 ok dX8_firm_212 (n := 214) rfl ?_
                  refine v_iadd ok dX8_firm_214 (n := 215) rfl ?_
                  refine v_iald ok ly_229 rfl (by omega) (by decide) dX8_firm_215 (n := 216) rfl ?_
                  try simp (disch := omega) only [fx, zset_o, k225]
                  refine v_icmp_ge ok dX8_firm_216 (tgt := 251) (by decide) (n := 219) rfl (by omega) (by omega) (fun c216_4 => ?_) (fun c216_4 => ?_)
                  · have c216_4 := c216_4
                    first
                    | (exfalso; omega)
                    | (refine k251 b _ _ _ _ rfl (fun r a1 a2 a3 => by rw [zset_o a3]; exact fx r a1 a2 a3) ?_ ?_ ?_
                       · have e := zIv_n (by omega) hR hi hbn hbG hLb (by omega) (by rw [zPb_i (by omega) (by omega), zPb_i (by omega) (by omega)]; omega) (hA2 (Mx 232 b + 1))
                         rw [zset_o (by omega), zset_o (by omega)]
                         exact e
                       · intro c hc
                         rw [zset_o (by omega), zset_o (by omega)]
                         exact hrg c hc
                       · exact hsa0 _ (hA2 (Mx 232 b + 1)))
                    | (refine k251 b _ _ _ _ rfl (fun r a1 a2 a3 => by rw [zset_o a1, zset_o a2, zset_o a3]; exact fx r a1 a2 a3) ?_ ?_ ?_
                       · refine zIv_y (by omega) hR hi hbn hbG hLb (fun h => by omega) (fun i => ?_) (fun i => ?_) ?_ (fun h => by omega) (fun c hc e1 e2 => ?_)
                         · rw [zset_o (by omega), zset_o (by omega)]
                           exact hA2 (Mx 232 b + 1) i
                         · rw [zset_o (by omega)]
                           by_cases e : i = g
                           · rw [e, if_pos rfl, zset_s]
                           · rw [if_neg e, zset_n e, zset_o (by omega)]
                         · rw [zset_s]
                         · rw [zset_n e1, zset_o (by omega), zset_o (by omega)]
                       · intro c hc
                         have := hrg c hc
                         constructor
                         · by_cases e : c = b
                           · rw [e, zset_s]; omega
                           · rw [zset_n e, zset_o (by omega), zset_o (by omega)]; omega
                         · rw [zset_o (by omega)]
                           by_cases e : c = g
                           · rw [e, zset_s]; omega
                           · rw [zset_n e, zset_o (by omega)]; omega
                       · rw [zset_o (by omega), zset_o (by omega)]
                         exact hsa0 _ (hA2 (Mx 232 b + 1)))
                    | (refine k251 b _ _ _ _ rfl (fun r a1 a2 a3 => by rw [zset_o a1, zset_o a1, zset_o a2, zset_o a3]; exact fx r a1 a2 a3) ?_ ?_ ?_
                       · refine zIv_y (by omega) hR hi hbn hbG hLb (fun h => ?_) (fun i => ?_) (fun i => ?_) ?_ (fun h => ?_) (fun c hc e1 e2 => ?_)
                         · rw [zPb_i (by omega) (by omega), zPb_i (by omega) (by omega)]; omega
                         · rw [zset_o (by omega), zset_o (by omega), zset_o (by omega)]
                           exact hA2 (Mx 232 b + 1) i
                         · rw [zset_o (by omega), zset_o (by omega)]
                           by_cases e : i = g
                           · rw [e, if_pos rfl, zset_s]
                           · rw [if_neg e, zset_n e, zset_o (by omega)]
                         · rw [zset_n hwb, zset_s]
                         · rw [zset_s]; omega
                         · rw [zset_n e2, zset_n e1, zset_o (by omega), zset_o (by omega)]
                       · intro c hc
                         have := hrg c hc
                         constructor
                         · by_cases e2 : c = Mx 231 g
                           · rw [e2, zset_s]; omega
                           · rw [zset_n e2]
                             by_cases e : c = b
                             · rw [e, zset_s]; omega
                             · rw [zset_n e, zset_o (by omega), zset_o (by omega)]; omega
                         · rw [zset_o (by omega), zset_o (by omega)]
                           by_cases e : c = g
                           · rw [e, zset_s]; omega
                           · rw [zset_n e, zset_o (by omega)]; omega
                       · rw [zset_o (by omega), zset_o (by omega), zset_o (by omega)]
                         exact hsa0 _ (hA2 (Mx 232 b + 1)))
                  · have c216_4 := c216_4
                    refine v_aload_0 ok dX8_firm_219 (n := 220) rfl ?_
                    refine v_getR ok fd_X8_75 ly_200 rfl rfl rfl rf_200_30 dX8_firm_220 (n := 223) rfl ?_
                    refine v_iload_9 ok dX8_firm_223 (n := 225) rfl ?_
                    refine v_iload_8 ok dX8_firm_225 (n := 227) rfl ?_
                    refine v_iast ok ly_231 rfl (by omega) (by decide) dX8_firm_227 (n := 228) rfl ?_
                    refine v_aload_0 ok dX8_firm_228 (n := 229) rfl ?_
                    refine v_getR ok fd_X8_72 ly_200 rfl rfl rfl rf_200_29 dX8_firm_229 (n := 232) rfl ?_
                    refine v_iload_8 ok dX8_firm_232 (n := 234) rfl ?_
                    refine v_iload_9 ok dX8_firm_234 (n := 236) rfl ?_
                    refine v_iast ok ly_230 rfl (by omega) (by decide) dX8_firm_236 (n := 237) rfl ?_
                    refine v_iload_10 ok dX8_firm_237 (n := 239) rfl ?_
                    refine v_if_lt ok dX8_firm_239 (tgt := 251) (by decide) (n := 242) rfl (by omega) (fun c239_5 => ?_) (fun c239_5 => ?_)
                    · have c239_5 := c239_5
                      first
                      | (exfalso; omega)
                      | (refine k251 b _ _ _ _ rfl (fun r a1 a2 a3 => by rw [zset_o a3]; exact fx r a1 a2 a3) ?_ ?_ ?_
                         · have e := zIv_n (by omega) hR hi hbn hbG hLb (by omega) (by rw [zPb_i (by omega) (by omega), zPb_i (by omega) (by omega)]; omega) (hA2 (Mx 232 b + 1))
                           rw [zset_o (by omega), zset_o (by omega)]
                           exact e
                         · intro c hc
                           rw [zset_o (by omega), zset_o (by omega)]
                           exact hrg c hc
                         · exact hsa0 _ (hA2 (Mx 232 b + 1)))
                      | (refine k251 b _ _ _ _ rfl (fun r a1 a2 a3 => by rw [zset_o a1, zset_o a2, zset_o a3]; exact fx r a1 a2 a3) ?_ ?_ ?_
                         · refine zIv_y (by omega) hR hi hbn hbG hLb (fun h => by omega) (fun i => ?_) (fun i => ?_) ?_ (fun h => by omega) (fun c hc e1 e2 => ?_)
                           · rw [zset_o (by omega), zset_o (by omega)]
                             exact hA2 (Mx 232 b + 1) i
                           · rw [zset_o (by omega)]
                             by_cases e : i = g
                             · rw [e, if_pos rfl, zset_s]
                             · rw [if_neg e, zset_n e, zset_o (by omega)]
                           · rw [zset_s]
                           · rw [zset_n e1, zset_o (by omega), zset_o (by omega)]
                         · intro c hc
                           have := hrg c hc
                           constructor
                           · by_cases e : c = b
                             · rw [e, zset_s]; omega
                             · rw [zset_n e, zset_o (by omega), zset_o (by omega)]; omega
                           · rw [zset_o (by omega)]
                             by_cases e : c = g
                             · rw [e, zset_s]; omega
                             · rw [zset_n e, zset_o (by omega)]; omega
                         · rw [zset_o (by omega), zset_o (by omega)]
                           exact hsa0 _ (hA2 (Mx 232 b + 1)))
                      | (refine k251 b _ _ _ _ rfl (fun r a1 a2 a3 => by rw [zset_o a1, zset_o a1, zset_o a2, zset_o a3]; exact fx r a1 a2 a3) ?_ ?_ ?_
                         · refine zIv_y (by omega) hR hi hbn hbG hLb (fun h => ?_) (fun i => ?_) (fun i => ?_) ?_ (fun h => ?_) (fun c hc e1 e2 => ?_)
                           · rw [zPb_i (by omega) (by omega), zPb_i (by omega) (by omega)]; omega
                           · rw [zset_o (by omega), zset_o (by omega), zset_o (by omega)]
                             exact hA2 (Mx 232 b + 1) i
                           · rw [zset_o (by omega), zset_o (by omega)]
                             by_cases e : i = g
                             · rw [e, if_pos rfl, zset_s]
                             · rw [if_neg e, zset_n e, zset_o (by omega)]
                           · rw [zset_n hwb, zset_s]
                           · rw [zset_s]; omega
                           · rw [zset_n e2, zset_n e1, zset_o (by omega), zset_o (by omega)]
                         · intro c hc
                           have := hrg c hc
                           constructor
                           · by_cases e2 : c = Mx 231 g
                             · rw [e2, zset_s]; omega
                             · rw [zset_n e2]
                               by_cases e : c = b
                               · rw [e, zset_s]; omega
                               · rw [zset_n e, zset_o (by omega), zset_o (by omega)]; omega
                           · rw [zset_o (by omega), zset_o (by omega)]
                             by_cases e : c = g
                             · rw [e, zset_s]; omega
                             · rw [zset_n e, zset_o (by omega)]; omega
                         · rw [zset_o (by omega), zset_o (by omega), zset_o (by omega)]
                           exact hsa0 _ (hA2 (Mx 232 b + 1)))
                    · have c239_5 := c239_5
                      refine v_aload_0 ok dX8_firm_242 (n := 243) rfl ?_
                      refine v_getR ok fd_X8_72 ly_200 rfl rfl rfl rf_200_29 dX8_firm_243 (n := 246) rfl ?_
                      refine v_iload_10 ok dX8_firm_246 (n := 248) rfl ?_
                      refine v_bipush ok (by decide) dX8_firm_248 (n := 250) rfl ?_
                      refine v_iast ok ly_230 rfl (by omega) (by decide) dX8_firm_250 (n := 251) rfl ?_
                      first
                      | (exfalso; omega)
                      | (refine k251 b _ _ _ _ rfl (fun r a1 a2 a3 => by rw [zset_o a3]; exact fx r a1 a2 a3) ?_ ?_ ?_
                         · have e := zIv_n (by omega) hR hi hbn hbG hLb (by omega) (by rw [zPb_i (by omega) (by omega), zPb_i (by omega) (by omega)]; omega) (hA2 (Mx 232 b + 1))
                           rw [zset_o (by omega), zset_o (by omega)]
                           exact e
                         · intro c hc
                           rw [zset_o (by omega), zset_o (by omega)]
                           exact hrg c hc
                         · exact hsa0 _ (hA2 (Mx 232 b + 1)))
                      | (refine k251 b _ _ _ _ rfl (fun r a1 a2 a3 => by rw [zset_o a1, zset_o a2, zset_o a3]; exact fx r a1 a2 a3) ?_ ?_ ?_
                         · refine zIv_y (by omega) hR hi hbn hbG hLb (fun h => by omega) (fun i => ?_) (fun i => ?_) ?_ (fun h => by omega) (fun c hc e1 e2 => ?_)
                           · rw [zset_o (by omega), zset_o (by omega)]
                             exact hA2 (Mx 232 b + 1) i
                           · rw [zset_o (by omega)]
                             by_cases e : i = g
                             · rw [e, if_pos rfl, zset_s]
                             · rw [if_neg e, zset_n e, zset_o (by omega)]
                           · rw [zset_s]
                           · rw [zset_n e1, zset_o (by omega), zset_o (by omega)]
                         · intro c hc
                           have := hrg c hc
                           constructor
                           · by_cases e : c = b
                             · rw [e, zset_s]; omega
                             · rw [zset_n e, zset_o (by omega), zset_o (by omega)]; omega
                           · rw [zset_o (by omega)]
                             by_cases e : c = g
                             · rw [e, zset_s]; omega
                             · rw [zset_n e, zset_o (by omega)]; omega
                         · rw [zset_o (by omega), zset_o (by omega)]
                           exact hsa0 _ (hA2 (Mx 232 b + 1)))
                      | (refine k251 b _ _ _ _ rfl (fun r a1 a2 a3 => by rw [zset_o a1, zset_o a1, zset_o a2, zset_o a3]; exact fx r a1 a2 a3) ?_ ?_ ?_
                         · refine zIv_y (by omega) hR hi hbn hbG hLb (fun h => ?_) (fun i => ?_) (fun i => ?_) ?_ (fun h => ?_) (fun c hc e1 e2 => ?_)
                           · rw [zPb_i (by omega) (by omega), zPb_i (by omega) (by omega)]; omega
                           · rw [zset_o (by omega), zset_o (by omega), zset_o (by omega)]
                             exact hA2 (Mx 232 b + 1) i
                           · rw [zset_o (by omega), zset_o (by omega)]
                             by_cases e : i = g
                             · rw [e, if_pos rfl, zset_s]
                             · rw [if_neg e, zset_n e, zset_o (by omega)]
                           · rw [zset_n hwb, zset_s]
                           · rw [zset_s]; omega
                           · rw [zset_n e2, zset_n e1, zset_o (by omega), zset_o (by omega)]
                         · intro c hc
                           have := hrg c hc
                           constructor
                           · by_cases e2 : c = Mx 231 g
                             · rw [e2, zset_s]; omega
                             · rw [zset_n e2]
                               by_cases e : c = b
                               · rw [e, zset_s]; omega
                               · rw [zset_n e, zset_o (by omega), zset_o (by omega)]; omega
                           · rw [zset_o (by omega), zset_o (by omega)]
                             by_cases e : c = g
                             · rw [e, zset_s]; omega
                             · rw [zset_n e, zset_o (by omega)]; omega
                         · rw [zset_o (by omega), zset_o (by omega), zset_o (by omega)]
                           exact hsa0 _ (hA2 (Mx 232 b + 1)))
            have lpf : ∀ (zn : Nat) (k : Int) (Mx : zM), zn = (8 - k).toNat → (0 ≤ k ∧ k ≤ n) → (∀ r, r ≠ 230 → r ≠ 231 → r ≠ 232 → Mx r = M1 r) → (∀ j, 0 ≤ j ∧ j < k → Mx 230 j = -4 ∧ Mx 231 j = -4 ∧ Mx 232 j = 0) → zVV G γ (zw ad) (0, 0) 89 [some (zr 200), some (zi q), some (zi l), some (zi i), some (zi n), some (zi bb), some (zi w6), some (zi f), some (zi k), none, none, none] [] Mx := by
              refine zrec _ (fun zn ih => ?_)
              intro k Mx hzn hk fx hc
              refine v_iload_8 ok dX8_firm_89 (n := 91) rfl ?_
              refine v_iload_4 ok dX8_firm_91 (n := 93) rfl ?_
              refine v_icmp_ge ok dX8_firm_93 (tgt := 128) (by decide) (n := 96) rfl (by omega) (by omega) (fun c93_1 => ?_) (fun c93_1 => ?_)
              · have c93_1 := c93_1
                refine v_iconst ok dX8_firm_128 (n := 129) rfl ?_
                refine v_istore_8 ok (by decide) rfl dX8_firm_129 (n := 131) rfl ?_
                refine lpb _ 0 _ _ _ Mx rfl fx (zIv_0 (by omega) (fun j hj => by have := hc j (by omega); omega)) (fun c hc2 => by have := hc c (by omega); omega) (Or.inr ⟨by omega, by have := hc 0 (by omega); omega⟩)
              · have c93_1 := c93_1
                refine v_aload_0 ok dX8_firm_96 (n := 97) rfl ?_
                refine v_getR ok fd_X8_72 ly_200 rfl rfl rfl rf_200_29 dX8_firm_97 (n := 100) rfl ?_
                refine v_iload_8 ok dX8_firm_100 (n := 102) rfl ?_
                refine v_bipush ok (by decide) dX8_firm_102 (n := 104) rfl ?_
                refine v_iast ok ly_230 rfl (by omega) (by decide) dX8_firm_104 (n := 105) rfl ?_
                refine v_aload_0 ok dX8_firm_105 (n := 106) rfl ?_
                refine v_getR ok fd_X8_75 ly_200 rfl rfl rfl rf_200_30 dX8_firm_106 (n := 109) rfl ?_
                refine v_iload_8 ok dX8_firm_109 (n := 111) rfl ?_
                refine v_bipush ok (by decide) dX8_firm_111 (n := 113) rfl ?_
                refine v_iast ok ly_231 rfl (by omega) (by decide) dX8_firm_113 (n := 114) rfl ?_
                refine v_aload_0 ok dX8_firm_114 (n := 115) rfl ?_
                refine v_getR ok fd_X8_78 ly_200 rfl rfl rfl rf_200_31 dX8_firm_115 (n := 118) rfl ?_
                refine v_iload_8 ok dX8_firm_118 (n := 120) rfl ?_
                refine v_iconst ok dX8_firm_120 (n := 121) rfl ?_
                refine v_iast ok ly_232 rfl (by omega) (by decide) dX8_firm_121 (n := 122) rfl ?_
                refine v_iinc_8 ok (by decide) rfl dX8_firm_122 (n := 125) rfl ?_
                refine v_goto ok dX8_firm_125 (n := 89) (by decide) ?_
                refine ih _ (by omega) (k + 1) _ rfl (by omega) (fun r a1 a2 a3 => by rw [zset_o a3, zset_o a2, zset_o a1]; exact fx r a1 a2 a3) (fun j hj => ?_)
                by_cases e : j = k
                · subst e
                  simp (disch := omega) only [zset_s, zset_o]
                  exact ⟨trivial, trivial, trivial⟩
                · have := hc j (by omega)
                  rw [zset_o (by omega), zset_o (by omega), zset_n e, zset_o (by omega), zset_n e, zset_o (by omega), zset_n e]
                  exact this
            refine v_iconst ok dX8_firm_86 (n := 87) rfl ?_
            refine v_istore_8 ok (by decide) rfl dX8_firm_87 (n := 89) rfl ?_
            exact lpf _ 0 M1 rfl (by omega) (fun r _ _ _ => rfl) (fun j hj => by omega)
          · have c80_5 := c80_5
            refine v_bipush ok (by decide) dX8_firm_83 (n := 85) rfl ?_
            refine v_iret rt dX8_firm_85 ?_
            rcases h1 with ⟨h, _⟩ | ⟨_, h2⟩
            · exfalso
              omega
            · exact ⟨⟨fun r hr => g1 r (by omega), fun j _ _ _ => by rw [g1 200 (by omega)]⟩, Or.inr ⟨by omega, Or.inr ⟨by omega, Or.inl ⟨h2, rfl⟩⟩⟩⟩
        · have c58_4 := c58_4
          refine v_iload_6 ok dX8_firm_61 (n := 63) rfl ?_
          refine v_iret rt dX8_firm_63 ?_
          exact ⟨zfrM_r M, Or.inr ⟨by omega, Or.inl ⟨by omega, by omega⟩⟩⟩
      · have c35_3 := c35_3
        refine v_iconst ok dX8_firm_38 (n := 39) rfl ?_
        refine v_iret rt dX8_firm_39 ?_
        exact ⟨zfrM_r M, Or.inl ⟨by omega, rfl⟩⟩

