/-! the model: changed -/
def zln : List (List Nat) → Nat
  | [] => 0
  | _ :: t => zln t + 1
theorem zcp_l {f : List Nat → Bool} (L : List (List Nat)) : zcp f L ≤ zln L := by
  induction L with
  | nil => exact Nat.le_refl 0
  | cons p t ih =>
    show (if f p = true then zcp f t + 1 else zcp f t) ≤ zln t + 1
    split <;> omega
theorem zln_6 : ∀ n : Fin 7, zln (zpm n.val n.val 0) ≤ 720 := by decide +kernel
/-- whether the bride b limps as told with the shoe of t -/
def zcm (M : zM) (f b t : Int) : Bool := decide (zmgl M (M 215) b t = M 225 (f + b))
theorem zlso_p {M : zM} {f n : Int} {p : List Nat} (hp : zis n (M 227) p) (hl : p.length = n.toNat) : zlso M f n ↔ zokl (zcm M f) 0 p = true := by
  rw [zokl_t p 0]
  constructor
  · intro h i hi
    have := h i (by omega)
    rw [hp i (by omega)] at this
    rw [Int.zero_add]
    unfold zcm
    rw [decide_eq_true_eq]
    exact this
  · intro h c hc
    have := h c.toNat (by omega)
    rw [Int.zero_add] at this
    unfold zcm at this
    rw [decide_eq_true_eq, ← hp c.toNat (by omega), show ((c.toNat : Nat) : Int) = c by omega] at this
    exact this
theorem zcm_c {M Mx : zM} {f : Int} (fx : ∀ r, r ≠ 227 → r ≠ 228 → Mx r = M r) : zcm Mx f = zcm M f := by
  funext b t
  unfold zcm zmgl zQB
  rw [fx 215 (by omega) (by omega), fx 225 (by omega) (by omega), fx 202 (by omega) (by omega), fx 201 (by omega) (by omega), fx 205 (by omega) (by omega)]
def zcg (M : zM) (f n k x : Int) : Prop := (zcp (zokl (zcm M f) 0) (zpm n.toNat n.toNat 0) = 0 ∧ x = -4) ∨ (zcp (zokl (zcm M f) 0) (zpm n.toNat n.toNat 0) ≠ 0 ∧ k < 0 ∧ x = (zcp (zokl (zcm M f) 0) (zpm n.toNat n.toNat 0) : Nat)) ∨ (zcp (zokl (zcm M f) 0) (zpm n.toNat n.toNat 0) ≠ 0 ∧ 0 ≤ k ∧ x = (zgt (zff (zokl (zcm M f) 0) (zpm n.toNat n.toNat 0)) k.toNat : Nat))
theorem zpm_h {n : Int} (hn : 1 ≤ n ∧ n ≤ 6) : (zck n.toNat (zpm n.toNat n.toNat 0) && zid n.toNat (zpm n.toNat n.toNat 0)) = true := by
  obtain h | h | h | h | h | h : n = 1 ∨ n = 2 ∨ n = 3 ∨ n = 4 ∨ n = 5 ∨ n = 6 := by omega
  · subst h; exact zck_1
  · subst h; exact zck_2
  · subst h; exact zck_3
  · subst h; exact zck_4
  · subst h; exact zck_5
  · subst h; exact zck_6
theorem zid_x {n : Nat} {L : List (List Nat)} (h : zid n L = true) : ∃ p t, L = p :: t ∧ ∀ i, i < n → zgt p i = i := by
  cases L with
  | nil => cases h
  | cons p t => exact ⟨p, t, rfl, fun i hi => of_decide_eq_true (zbl_t n h i hi)⟩
theorem zcp_y {F : List Nat → Bool} {p : List Nat} {t : List (List Nat)} (h : F p = true) : zcp F (p :: t) = zcp F t + 1 ∧ zff F (p :: t) = p := ⟨if_pos h, if_pos h⟩
theorem zcp_n {F : List Nat → Bool} {p : List Nat} {t : List (List Nat)} (h : ¬ F p = true) : zcp F (p :: t) = zcp F t ∧ zff F (p :: t) = zff F t := ⟨if_neg h, if_neg h⟩
theorem zck_o {n : Nat} {p : List Nat} {t : List (List Nat)} (h : zck n (p :: t) = true) : zrok n p = true ∧ zrnx n p t = true ∧ zck n t = true := by
  have h : (zrok n p && (zrnx n p t && zck n t)) = true := h
  rw [Bool.and_eq_true, Bool.and_eq_true] at h
  exact h
set_option maxHeartbeats 4000000 in
set_option maxRecDepth 100000 in
theorem u_changed {G : zG} {ad : Int → Nat} {M : zM} {d q l i n k : Int} (hd : -2147483648 ≤ d ∧ d ≤ 2147483647) (hq : -2147483648 ≤ q ∧ q ≤ 2147483647) (hl : -2147483648 ≤ l ∧ l ≤ 2147483647) (hi : -2147483648 ≤ i ∧ i ≤ 2147483647) (hn : -2147483648 ≤ n ∧ n ≤ 2147483647) (hk : -2147483648 ≤ k ∧ k ≤ 2147483647) (hnb : 0 ≤ M 200 2 ∧ M 200 2 ≤ 7) (hns : 0 ≤ M 200 3 ∧ M 200 3 ≤ 16) (hB : ∀ b, 0 ≤ b ∧ b < M 200 2 → zMB M b) (hS : ∀ s, 0 ≤ s ∧ s < M 200 3 → zMS M s) (h0 : 0 ≤ M 205 0 ∧ M 205 0 ≤ 6) (h1 : 0 ≤ M 205 1 ∧ M 205 1 ≤ 6) (hla : ∀ j, 0 ≤ j ∧ j < 4 → -1 ≤ M 223 j ∧ M 223 j ≤ 2) (hln : ∀ j, 0 ≤ j ∧ j < 4 → 0 ≤ M 224 j ∧ M 224 j ≤ 100) (hI : ∀ i, 0 ≤ i ∧ i < 400 → -2147483648 ≤ M 225 i ∧ M 225 i ≤ 2147483647)  : zTI G (zw ad) mi_X8_changed [zr 200, zi d, zi q, zi l, zi i, zi n, zi k] M (fun x M' => zfrM M M' ∧ ((¬ ((0 ≤ d ∧ d ≤ 1) ∧ ((0 ≤ q ∧ q ≤ 3) ∧ (0 ≤ l ∧ l ≤ 2)) ∧ (1 ≤ n ∧ n ≤ 6) ∧ n ≤ M 200 2 ∧ (-1 ≤ k ∧ k < n)) ∧ x = -1) ∨ (((0 ≤ d ∧ d ≤ 1) ∧ ((0 ≤ q ∧ q ≤ 3) ∧ (0 ≤ l ∧ l ≤ 2)) ∧ (1 ≤ n ∧ n ≤ 6) ∧ n ≤ M 200 2 ∧ (-1 ≤ k ∧ k < n)) ∧ ∃ M1, zWay M M1 d ∧ ((1000000 ≤ M1 214 0 ∧ x = -2) ∨ (M1 214 0 < 1000000 ∧ zlak (M 223 q) (M 224 q) l i n ≠ 0 ∧ x = zlak (M 223 q) (M 224 q) l i n) ∨ (M1 214 0 < 1000000 ∧ zlak (M 223 q) (M 224 q) l i n = 0 ∧ zcg M1 (100 * q + i) n k x))))) := by
  refine zTI.of (own := RX8) (ls := [some (zr 200), some (zi d), some (zi q), some (zi l), some (zi i), some (zi n), some (zi k), none, none, none, none]) (by decide +kernel) rfl rfl (Nat.le_of_ble_eq_true rfl) (fun γ ok rt => ?_)
  refine v_iload_1 ok dX8_changed_0 (n := 1) rfl ?_
  refine v_i2l ok (by omega) dX8_changed_1 (n := 2) rfl ?_
  refine v_lconst0 ok dX8_changed_2 (n := 3) rfl ?_
  refine v_lconst1 ok dX8_changed_3 (n := 4) rfl ?_
  refine v_callSI ok (mi := mi_X8_in) mc_X8_in cs_X8_85 (by decide) ⟨Nat.zero_le _, Nat.zero_le _⟩ dX8_changed_4 (n := 7) rfl rfl rfl (Nat.le_of_ble_eq_true rfl) (u_in (by omega) (by omega) (by omega)) (fun x5 M5 h5 => ?_)
  obtain ⟨e5_, h5⟩ := h5
  subst M5
  refine v_if_eq ok dX8_changed_7 (tgt := 57) (by decide) (n := 10) rfl (by omega) (fun c7_1 => ?_) (fun c7_1 => ?_)
  · have c7_1 := c7_1
    refine v_iconst ok dX8_changed_57 (n := 58) rfl ?_
    refine v_iret rt dX8_changed_58 ?_
    exact ⟨zfrM_r M, Or.inl ⟨by omega, rfl⟩⟩
  · have c7_1 := c7_1
    refine v_iload_2 ok dX8_changed_10 (n := 11) rfl ?_
    refine v_iload_3 ok dX8_changed_11 (n := 12) rfl ?_
    refine v_callSI ok (mi := mi_X8_isSheet) mc_X8_isSheet cs_X8_230 (by decide) ⟨Nat.zero_le _, Nat.zero_le _⟩ dX8_changed_12 (n := 15) rfl rfl rfl (Nat.le_of_ble_eq_true rfl) (u_isSheet hq hl) (fun x6 M6 h6 => ?_)
    obtain ⟨e6_, h6⟩ := h6
    subst M6
    refine v_if_eq ok dX8_changed_15 (tgt := 57) (by decide) (n := 18) rfl (by omega) (fun c15_2 => ?_) (fun c15_2 => ?_)
    · have c15_2 := c15_2
      refine v_iconst ok dX8_changed_57 (n := 58) rfl ?_
      refine v_iret rt dX8_changed_58 ?_
      exact ⟨zfrM_r M, Or.inl ⟨by omega, rfl⟩⟩
    · have c15_2 := c15_2
      refine v_iload_5 ok dX8_changed_18 (n := 20) rfl ?_
      refine v_i2l ok (by omega) dX8_changed_20 (n := 21) rfl ?_
      refine v_lconst1 ok dX8_changed_21 (n := 22) rfl ?_
      refine v_ldc2 ok (c := 6) kc_X8_119 (by decide) dX8_changed_22 (n := 25) rfl ?_
      refine v_callSI ok (mi := mi_X8_in) mc_X8_in cs_X8_85 (by decide) ⟨Nat.zero_le _, Nat.zero_le _⟩ dX8_changed_25 (n := 28) rfl rfl rfl (Nat.le_of_ble_eq_true rfl) (u_in (by omega) (by omega) (by omega)) (fun x7 M7 h7 => ?_)
      obtain ⟨e7_, h7⟩ := h7
      subst M7
      refine v_if_eq ok dX8_changed_28 (tgt := 57) (by decide) (n := 31) rfl (by omega) (fun c28_3 => ?_) (fun c28_3 => ?_)
      · have c28_3 := c28_3
        refine v_iconst ok dX8_changed_57 (n := 58) rfl ?_
        refine v_iret rt dX8_changed_58 ?_
        exact ⟨zfrM_r M, Or.inl ⟨by omega, rfl⟩⟩
      · have c28_3 := c28_3
        refine v_iload_5 ok dX8_changed_31 (n := 33) rfl ?_
        refine v_aload_0 ok dX8_changed_33 (n := 34) rfl ?_
        refine v_getI ok fd_X8_81 ly_200 rfl rfl (jI := 2) rfl dX8_changed_34 (n := 37) rfl ?_
        refine v_icmp_gt ok dX8_changed_37 (tgt := 57) (by decide) (n := 40) rfl (by omega) (by omega) (fun c37_4 => ?_) (fun c37_4 => ?_)
        · have c37_4 := c37_4
          refine v_iconst ok dX8_changed_57 (n := 58) rfl ?_
          refine v_iret rt dX8_changed_58 ?_
          exact ⟨zfrM_r M, Or.inl ⟨by omega, rfl⟩⟩
        · have c37_4 := c37_4
          refine v_iload_6 ok dX8_changed_40 (n := 42) rfl ?_
          refine v_i2l ok (by omega) dX8_changed_42 (n := 43) rfl ?_
          refine v_ldc2 ok (c := -1) kc_X8_200 (by decide) dX8_changed_43 (n := 46) rfl ?_
          refine v_iload_5 ok dX8_changed_46 (n := 48) rfl ?_
          refine v_iconst ok dX8_changed_48 (n := 49) rfl ?_
          refine v_isub ok dX8_changed_49 (n := 50) rfl ?_
          refine v_i2l ok (by omega) dX8_changed_50 (n := 51) rfl ?_
          refine v_callSI ok (mi := mi_X8_in) mc_X8_in cs_X8_85 (by decide) ⟨Nat.zero_le _, Nat.zero_le _⟩ dX8_changed_51 (n := 54) rfl rfl rfl (Nat.le_of_ble_eq_true rfl) (u_in (by omega) (by omega) (by omega)) (fun x8 M8 h8 => ?_)
          obtain ⟨e8_, h8⟩ := h8
          subst M8
          refine v_if_ne ok dX8_changed_54 (tgt := 59) (by decide) (n := 57) rfl (by omega) (fun c54_5 => ?_) (fun c54_5 => ?_)
          · have c54_5 := c54_5
            refine v_aload_0 ok dX8_changed_59 (n := 60) rfl ?_
            refine v_iload_1 ok dX8_changed_60 (n := 61) rfl ?_
            refine v_callVI ok (mi := mi_X8_findWay) mc_X8_findWay cv_X8_202 ly_200 rfl rfl rfl (by decide) ⟨Nat.zero_le _, Nat.zero_le _⟩ dX8_changed_61 (n := 64) rfl rfl rfl (Nat.le_of_ble_eq_true rfl) (u_findWay (by omega) hnb hns hB hS h0 h1) (fun x1 M1 g1 => ?_)
            obtain ⟨wy, e1⟩ := g1
            have wb := zWay_b wy
            have k2 : M1 200 2 = M 200 2 := wy.2.1 2 (by omega)
            have k3 : M1 200 3 = M 200 3 := wy.2.1 3 (by omega)
            have k223 := wy.1 223 (by omega) (by omega) (by omega) (by omega) (by omega)
            have k224 := wy.1 224 (by omega) (by omega) (by omega) (by omega) (by omega)
            subst x1
            refine v_ldc ok (c := 1000000) kc_X8_192 (by decide) dX8_changed_64 (n := 66) rfl ?_
            refine v_icmp_lt ok dX8_changed_66 (tgt := 72) (by decide) (n := 69) rfl (by omega) (by omega) (fun c66_6 => ?_) (fun c66_6 => ?_)
            · have c66_6 := c66_6
              refine v_aload_0 ok dX8_changed_72 (n := 73) rfl ?_
              refine v_iload_2 ok dX8_changed_73 (n := 74) rfl ?_
              refine v_iload_3 ok dX8_changed_74 (n := 75) rfl ?_
              refine v_iload_4 ok dX8_changed_75 (n := 77) rfl ?_
              refine v_iload_5 ok dX8_changed_77 (n := 79) rfl ?_
              refine v_callVI ok (mi := mi_X8_lacksRow) mc_X8_lacksRow cv_X8_233 ly_200 rfl rfl rfl (by decide) ⟨Nat.zero_le _, Nat.zero_le _⟩ dX8_changed_79 (n := 82) rfl rfl rfl (Nat.le_of_ble_eq_true rfl) (u_lacksRow (by omega) (by omega) hl hi (by rw [k223]; exact hla) (by rw [k224]; exact hln)) (fun w7 M7 g7 => ?_)
              obtain ⟨g7, e7⟩ := g7
              subst M7
              rw [k223, k224] at e7
              have zlb := zlak_b (M 223 q) (M 224 q) l i n
              refine v_istore_7 ok (by decide) rfl dX8_changed_82 (n := 84) rfl ?_
              refine v_iload_7 ok dX8_changed_84 (n := 86) rfl ?_
              refine v_if_ge ok dX8_changed_86 (tgt := 92) (by decide) (n := 89) rfl (by omega) (fun c86_7 => ?_) (fun c86_7 => ?_)
              · have c86_7 := c86_7
                have hlk : 0 ≤ i ∧ i ≤ M 224 q - n := by
                  have h : zlak (M 223 q) (M 224 q) l i n = 0 := by omega
                  unfold zlak at h
                  by_cases e : M 223 q ≠ l
                  · rw [if_pos e] at h
                    split at h <;> omega
                  · rw [if_neg e] at h
                    by_cases e2 : 0 ≤ i ∧ i ≤ M 224 q - n
                    · exact e2
                    · rw [if_neg e2] at h
                      omega
                have hlnq := hln q (by omega)
                have htn : ((n.toNat : Nat) : Int) = n := by omega
                have hB1 : ∀ b, 0 ≤ b ∧ b < M1 200 2 → zMB M1 b := fun b hb => by
                  unfold zMB
                  rw [wy.1 201 (by omega) (by omega) (by omega) (by omega) (by omega)]
                  exact hB b (by omega)
                have hS1 : ∀ b, 0 ≤ b ∧ b < M1 200 3 → zMS M1 b := fun b hb => by
                  unfold zMS
                  rw [wy.1 202 (by omega) (by omega) (by omega) (by omega) (by omega)]
                  exact hS b (by omega)
                have h01 : 0 ≤ M1 205 0 ∧ M1 205 0 ≤ 6 := by
                  rw [wy.1 205 (by omega) (by omega) (by omega) (by omega) (by omega)]
                  exact h0
                have hI1 : ∀ i, 0 ≤ i ∧ i < 400 → -2147483648 ≤ M1 225 i ∧ M1 225 i ≤ 2147483647 := by
                  rw [wy.1 225 (by omega) (by omega) (by omega) (by omega) (by omega)]
                  exact hI
                have hns1 : 0 ≤ M1 200 3 ∧ M1 200 3 ≤ 16 := by omega
                have hw1 : ∀ i, 0 ≤ i ∧ i < n → 0 ≤ M1 215 i ∧ M1 215 i < M1 200 3 := fun i hi => by
                  rw [k3]
                  exact zWay_s wy (by omega) (by omega)
                have h2n := zpm_h (n := n) (by omega)
                rw [Bool.and_eq_true] at h2n
                obtain ⟨hck0, hid⟩ := h2n
                have hlen0 := zpm_l n.toNat n.toNat 0
                have h720 := zln_6 ⟨n.toNat, by omega⟩
                have h720 : zln (zpm n.toNat n.toNat 0) ≤ 720 := h720
                obtain ⟨F, hF⟩ : ∃ F, zokl (zcm M1 (100 * q + i)) 0 = F := ⟨_, rfl⟩
                obtain ⟨L, hL⟩ : ∃ L, zpm n.toNat n.toNat 0 = L := ⟨_, rfl⟩
                rw [hL] at hck0 hid hlen0 h720
                have hcl := zcp_l (f := F) L
                obtain ⟨p0, t0, hpt, hid0⟩ := zid_x hid
                have hfin : ∀ (x : Int) (Mx : zM), ((∀ r, r ≠ 227 → r ≠ 228 → Mx r = M1 r) ∧ Mx = Mx) → ((zcp F L = 0 ∧ x = -4) ∨ (zcp F L ≠ 0 ∧ k < 0 ∧ x = (zcp F L : Nat)) ∨ (zcp F L ≠ 0 ∧ 0 ≤ k ∧ x = (zgt (zff F L) k.toNat : Nat))) → (fun x M' => zfrM M M' ∧ ((¬ ((0 ≤ d ∧ d ≤ 1) ∧ ((0 ≤ q ∧ q ≤ 3) ∧ (0 ≤ l ∧ l ≤ 2)) ∧ (1 ≤ n ∧ n ≤ 6) ∧ n ≤ M 200 2 ∧ (-1 ≤ k ∧ k < n)) ∧ x = -1) ∨ (((0 ≤ d ∧ d ≤ 1) ∧ ((0 ≤ q ∧ q ≤ 3) ∧ (0 ≤ l ∧ l ≤ 2)) ∧ (1 ≤ n ∧ n ≤ 6) ∧ n ≤ M 200 2 ∧ (-1 ≤ k ∧ k < n)) ∧ ∃ M1, zWay M M1 d ∧ ((1000000 ≤ M1 214 0 ∧ x = -2) ∨ (M1 214 0 < 1000000 ∧ zlak (M 223 q) (M 224 q) l i n ≠ 0 ∧ x = zlak (M 223 q) (M 224 q) l i n) ∨ (M1 214 0 < 1000000 ∧ zlak (M 223 q) (M 224 q) l i n = 0 ∧ zcg M1 (100 * q + i) n k x))))) x Mx := by
                  intro x Mx hh hx
                  refine ⟨zfrM_t (zfrM_w wy) ⟨fun r hr => hh.1 r (by omega) (by omega), fun j _ _ _ => by rw [hh.1 200 (by omega) (by omega)]⟩, Or.inr ⟨by omega, M1, wy, Or.inr (Or.inr ⟨by omega, by omega, ?_⟩)⟩⟩
                  unfold zcg
                  rw [hF, hL]
                  exact hx
                have kend : ∀ (c : Int) (l10 : Option zV) (Mx : zM), 0 ≤ c → (∀ r, r ≠ 227 → r ≠ 228 → Mx r = M1 r) → (zcp F L : Int) = c → (c ≠ 0 → zis n (Mx 228) (zff F L)) → zVV G γ (zw ad) (0, 0) 123 [some (zr 200), some (zi d), some (zi q), some (zi l), some (zi i), some (zi n), some (zi k), some (zi w7), some (zi c), some (zi 0), l10] [] Mx := by
                  intro c l10 Mx hc fx hcnt hff
                  refine v_iload_9 ok dX8_changed_123 (n := 125) rfl ?_
                  refine v_if_eq ok dX8_changed_125 (tgt := 193) (by decide) (n := 128) rfl (by omega) (fun c125_1 => ?_) (fun c125_1 => ?_)
                  · have c125_1 := c125_1
                    refine v_iload_8 ok dX8_changed_193 (n := 195) rfl ?_
                    refine v_if_ne ok dX8_changed_195 (tgt := 203) (by decide) (n := 198) rfl (by omega) (fun c195_2 => ?_) (fun c195_2 => ?_)
                    · have c195_2 := c195_2
                      refine v_iload_6 ok dX8_changed_203 (n := 205) rfl ?_
                      refine v_if_ge ok dX8_changed_205 (tgt := 213) (by decide) (n := 208) rfl (by omega) (fun c205_3 => ?_) (fun c205_3 => ?_)
                      · have c205_3 := c205_3
                        refine v_aload_0 ok dX8_changed_213 (n := 214) rfl ?_
                        refine v_getR ok fd_X8_66 ly_200 rfl rfl rfl rf_200_27 dX8_changed_214 (n := 217) rfl ?_
                        refine v_iload_6 ok dX8_changed_217 (n := 219) rfl ?_
                        refine v_iald ok ly_228 rfl (by omega) (by decide) dX8_changed_219 (n := 220) rfl ?_
                        try simp (disch := omega) only [fx]
                        refine v_iret rt dX8_changed_220 ?_
                        refine hfin _ _ ⟨fun r a1 a2 => fx r a1 a2, rfl⟩ ?_
                        first
                        | exact Or.inl ⟨by omega, rfl⟩
                        | exact Or.inr (Or.inl ⟨by omega, by omega, by omega⟩)
                        | (refine Or.inr (Or.inr ⟨by omega, by omega, ?_⟩)
                           have := hff (by omega) k.toNat (by omega)
                           rw [show ((k.toNat : Nat) : Int) = k by omega] at this
                           exact this)
                      · have c205_3 := c205_3
                        refine v_iload_8 ok dX8_changed_208 (n := 210) rfl ?_
                        refine v_goto ok dX8_changed_210 (n := 220) (by decide) ?_
                        refine v_iret rt dX8_changed_220 ?_
                        refine hfin _ _ ⟨fun r a1 a2 => fx r a1 a2, rfl⟩ ?_
                        first
                        | exact Or.inl ⟨by omega, rfl⟩
                        | exact Or.inr (Or.inl ⟨by omega, by omega, by omega⟩)
                        | (refine Or.inr (Or.inr ⟨by omega, by omega, ?_⟩)
                           have := hff (by omega) k.toNat (by omega)
                           rw [show ((k.toNat : Nat) : Int) = k by omega] at this
                           exact this)
                    · have c195_2 := c195_2
                      refine v_bipush ok (by decide) dX8_changed_198 (n := 200) rfl ?_
                      refine v_goto ok dX8_changed_200 (n := 220) (by decide) ?_
                      refine v_iret rt dX8_changed_220 ?_
                      refine hfin _ _ ⟨fun r a1 a2 => fx r a1 a2, rfl⟩ ?_
                      first
                      | exact Or.inl ⟨by omega, rfl⟩
                      | exact Or.inr (Or.inl ⟨by omega, by omega, by omega⟩)
                      | (refine Or.inr (Or.inr ⟨by omega, by omega, ?_⟩)
                         have := hff (by omega) k.toNat (by omega)
                         rw [show ((k.toNat : Nat) : Int) = k by omega] at this
                         exact this)
                  · have c125_1 := c125_1
                    omega
                have lpm : ∀ (zn : Nat) (p : List Nat) (t : List (List Nat)) (c : Int) (l10 : Option zV) (Mx : zM), zn = (p :: t).length → 0 ≤ c → (∀ r, r ≠ 227 → r ≠ 228 → Mx r = M1 r) → zck n.toNat (p :: t) = true → zis n (Mx 227) p → (∀ z, z ∈ p :: t → z.length = n.toNat) → (zcp F L : Int) = c + (zcp F (p :: t) : Nat) → (c = 0 → zff F L = zff F (p :: t)) → (c ≠ 0 → zis n (Mx 228) (zff F L)) → zVV G γ (zw ad) (0, 0) 123 [some (zr 200), some (zi d), some (zi q), some (zi l), some (zi i), some (zi n), some (zi k), some (zi w7), some (zi c), some (zi 1), l10] [] Mx := by
                  refine zrec _ (fun zn ih => ?_)
                  intro p t c l10 Mx hzn hc fx hck hp hlen hcnt hf0 hf1
                  subst hzn
                  have hk2 := zck_o hck
                  have hrx := zrok_b hk2.1 (by rw [htn]; exact hp)
                  rw [htn] at hrx
                  have k2x : Mx 200 = M1 200 := fx 200 (by omega) (by omega)
                  have k5x : Mx 225 = M1 225 := fx 225 (by omega) (by omega)
                  have hBx : ∀ b, 0 ≤ b ∧ b < Mx 200 2 → zMB Mx b := fun b hb => by
                    unfold zMB
                    rw [fx 201 (by omega) (by omega)]
                    rw [k2x] at hb
                    exact hB1 b hb
                  have hSx : ∀ b, 0 ≤ b ∧ b < Mx 200 3 → zMS Mx b := fun b hb => by
                    unfold zMS
                    rw [fx 202 (by omega) (by omega)]
                    rw [k2x] at hb
                    exact hS1 b hb
                  have hlp := hlen p (List.Mem.head _)
                  have e138 := u_limpSo (G := G) (ad := ad) (M := Mx) (f := 100 * q + i) (n := n) (by rw [k2x]; omega) (by omega) hrx (by rw [fx 215 (by omega) (by omega), k2x]; exact hw1) (by rw [k2x]; exact hns1) hBx hSx (by rw [fx 205 (by omega) (by omega)]; exact h01) (by rw [k5x]; exact hI1)
                  have k182 : ∀ (c2 : Int) (l10 : Option zV) (My : zM), 0 ≤ c2 → (∀ r, r ≠ 228 → My r = Mx r) → (zcp F L : Int) = c2 + (zcp F t : Nat) → (c2 = 0 → zff F L = zff F t) → (c2 ≠ 0 → zis n (My 228) (zff F L)) → zVV G γ (zw ad) (0, 0) 182 [some (zr 200), some (zi d), some (zi q), some (zi l), some (zi i), some (zi n), some (zi k), some (zi w7), some (zi c2), some (zi 1), l10] [] My := by
                    intro c2 l10 My hc2 fy hcnt hf0 hf1
                    have hry : ∀ i, 0 ≤ i ∧ i < n → 0 ≤ My 227 i ∧ My 227 i ≤ 6 := fun i hi => by
                      rw [fy 227 (by omega)]
                      have := hrx i hi
                      omega
                    have fxy : ∀ r, r ≠ 227 → r ≠ 228 → My r = M1 r := fun r a b => by rw [fy r b, fx r a b]
                    refine v_aload_0 ok dX8_changed_182 (n := 183) rfl ?_
                    refine v_iload_5 ok dX8_changed_183 (n := 185) rfl ?_
                    refine v_callVI ok (mi := mi_X8_nextRow) mc_X8_nextRow cv_X8_240 ly_200 rfl rfl rfl (by decide) ⟨Nat.zero_le _, Nat.zero_le _⟩ dX8_changed_185 (n := 188) rfl rfl rfl (Nat.le_of_ble_eq_true rfl) (u_nextRow (by omega) hry) (fun x4 N4 g4 => ?_)
                    obtain ⟨f4, g4⟩ := g4
                    refine v_istore_9 ok (by decide) rfl dX8_changed_188 (n := 190) rfl ?_
                    refine v_goto ok dX8_changed_190 (n := 123) (by decide) ?_
                    rcases g4 with ⟨e4, rfl, hx⟩ | ⟨e4, hx⟩
                    · subst e4
                      cases t with
                      | cons q t2 =>
                        exfalso
                        refine zad_0 hk2.2.1 (by rw [htn]; exact hp) (fun i hi => ?_)
                        rw [← fy 227 (by omega)]
                        exact hx i (by omega)
                      | nil =>
                        have hcnt : (zcp F L : Int) = c2 + ((0 : Nat) : Int) := hcnt
                        exact kend _ _ _ hc2 fxy (by omega) hf1
                    · subst e4
                      rw [fy 227 (by omega)] at hx
                      cases t with
                      | nil =>
                        exfalso
                        exact zla_x hk2.2.1 (by rw [htn]; exact hp) (by rw [htn]; exact hx)
                      | cons q t2 =>
                        have hp2 := zad_n hk2.2.1 (by rw [htn]; exact hp) (by rw [htn]; exact hx)
                        rw [htn] at hp2
                        exact ih (t2.length + 1) (by show t2.length + 1 < t2.length + 1 + 1; omega) q t2 c2 _ _ rfl hc2 (fun r a b => by rw [f4 r a, fxy r a b]) hk2.2.2 hp2 (fun z hz => hlen z (List.Mem.tail _ hz)) hcnt hf0 (fun h => by rw [f4 228 (by omega)]; exact hf1 h)
                  refine v_iload_9 ok dX8_changed_123 (n := 125) rfl ?_
                  refine v_if_eq ok dX8_changed_125 (tgt := 193) (by decide) (n := 128) rfl (by omega) (fun c125_1 => ?_) (fun c125_1 => ?_)
                  · have c125_1 := c125_1
                    omega
                  · have c125_1 := c125_1
                    refine v_aload_0 ok dX8_changed_128 (n := 129) rfl ?_
                    refine v_bipush ok (by decide) dX8_changed_129 (n := 131) rfl ?_
                    refine v_iload_2 ok dX8_changed_131 (n := 132) rfl ?_
                    refine v_imul ok dX8_changed_132 (n := 133) rfl ?_
                    refine v_iload_4 ok dX8_changed_133 (n := 135) rfl ?_
                    refine v_iadd ok dX8_changed_135 (n := 136) rfl ?_
                    refine v_iload_5 ok dX8_changed_136 (n := 138) rfl ?_
                    refine v_callVI ok (mi := mi_X8_limpSo) mc_X8_limpSo cv_X8_237 ly_200 rfl rfl rfl (by decide) ⟨Nat.zero_le _, Nat.zero_le _⟩ dX8_changed_138 (n := 141) rfl rfl rfl (Nat.le_of_ble_eq_true rfl) (e138) (fun x3 N3 g3 => ?_)
                    obtain ⟨g3e, g3⟩ := g3
                    subst N3
                    rw [zlso_p hp hlp, zcm_c fx, hF] at g3
                    refine v_if_eq ok dX8_changed_141 (tgt := 182) (by decide) (n := 144) rfl (by omega) (fun c141_2 => ?_) (fun c141_2 => ?_)
                    · have c141_2 := c141_2
                      have hno := zcp_n (F := F) (t := t) (g3.elim (fun h => absurd h.1 (by omega)) (fun h => h.2))
                      rw [hno.1] at hcnt
                      exact k182 c _ Mx hc (fun _ _ => rfl) hcnt (fun h => by rw [hf0 h, hno.2]) hf1
                    · have c141_2 := c141_2
                      have hyes := zcp_y (F := F) (t := t) (g3.elim (fun h => h.2) (fun h => absurd h.1 (by omega)))
                      have lpb : ∀ (zn : Nat) (b : Int) (My : zM), zn = (8 - b).toNat → (0 ≤ b ∧ b ≤ n) → (∀ r, r ≠ 228 → My r = Mx r) → (c = 0 → ∀ i, 0 ≤ i ∧ i < b → My 228 i = Mx 227 i) → (c ≠ 0 → b = 0 ∧ My 228 = Mx 228) → zVV G γ (zw ad) (0, 0) 147 [some (zr 200), some (zi d), some (zi q), some (zi l), some (zi i), some (zi n), some (zi k), some (zi w7), some (zi c), some (zi 1), some (zi b)] [] My := by
                        refine zrec _ (fun zn ih => ?_)
                        intro b My hzn hb fy hc0 hc1
                        refine v_iload_10 ok dX8_changed_147 (n := 149) rfl ?_
                        refine v_iload_5 ok dX8_changed_149 (n := 151) rfl ?_
                        refine v_icmp_ge ok dX8_changed_151 (tgt := 179) (by decide) (n := 154) rfl (by omega) (by omega) (fun c151_1 => ?_) (fun c151_1 => ?_)
                        · have c151_1 := c151_1
                          refine v_iinc_8 ok (by decide) rfl dX8_changed_179 (n := 182) rfl ?_
                          refine k182 (c + 1) _ My (by omega) fy (by rw [hyes.1] at hcnt; omega) (fun h => by omega) (fun _ => ?_)
                          by_cases e : c = 0
                          · rw [hf0 e, hyes.2]
                            intro j hj
                            rw [hc0 e j (by omega)]
                            exact hp j hj
                          · rw [(hc1 e).2]
                            exact hf1 e
                        · have c151_1 := c151_1
                          refine v_iload_8 ok dX8_changed_154 (n := 156) rfl ?_
                          refine v_if_ne ok dX8_changed_156 (tgt := 179) (by decide) (n := 159) rfl (by omega) (fun c156_2 => ?_) (fun c156_2 => ?_)
                          · have c156_2 := c156_2
                            refine v_iinc_8 ok (by decide) rfl dX8_changed_179 (n := 182) rfl ?_
                            refine k182 (c + 1) _ My (by omega) fy (by rw [hyes.1] at hcnt; omega) (fun h => by omega) (fun _ => ?_)
                            by_cases e : c = 0
                            · rw [hf0 e, hyes.2]
                              intro j hj
                              rw [hc0 e j (by omega)]
                              exact hp j hj
                            · rw [(hc1 e).2]
                              exact hf1 e
                          · have c156_2 := c156_2
                            refine v_aload_0 ok dX8_changed_159 (n := 160) rfl ?_
                            refine v_getR ok fd_X8_66 ly_200 rfl rfl rfl rf_200_27 dX8_changed_160 (n := 163) rfl ?_
                            refine v_iload_10 ok dX8_changed_163 (n := 165) rfl ?_
                            refine v_aload_0 ok dX8_changed_165 (n := 166) rfl ?_
                            refine v_getR ok fd_X8_63 ly_200 rfl rfl rfl rf_200_26 dX8_changed_166 (n := 169) rfl ?_
                            refine v_iload_10 ok dX8_changed_169 (n := 171) rfl ?_
                            refine v_iald ok ly_227 rfl (by omega) (by decide) dX8_changed_171 (n := 172) rfl ?_
                            try simp (disch := omega) only [fy]
                            refine v_iast ok ly_228 rfl (by omega) (by decide) dX8_changed_172 (n := 173) rfl ?_
                            refine v_iinc_10 ok (by decide) rfl dX8_changed_173 (n := 176) rfl ?_
                            refine v_goto ok dX8_changed_176 (n := 147) (by decide) ?_
                            exact ih _ (by omega) (b + 1) _ rfl (by omega) (fun r hr => by rw [zset_o hr]; exact fy r hr) (fun hc j hj => by
                              by_cases e : j = b
                              · rw [e, zset_s]
                              · rw [zset_n e]
                                exact hc0 hc j (by omega)) (fun hc => by omega)
                      refine v_iconst ok dX8_changed_144 (n := 145) rfl ?_
                      refine v_istore_10 ok (by decide) rfl dX8_changed_145 (n := 147) rfl ?_
                      exact lpb _ 0 Mx rfl (by omega) (fun _ _ => rfl) (fun _ i hi => by omega) (fun _ => ⟨rfl, rfl⟩)
                have lpi : ∀ (zn : Nat) (b : Int) (Mx : zM), zn = (8 - b).toNat → (0 ≤ b ∧ b ≤ n) → (∀ r, r ≠ 227 → Mx r = M1 r) → (∀ j, 0 ≤ j ∧ j < b → Mx 227 j = j) → zVV G γ (zw ad) (0, 0) 95 [some (zr 200), some (zi d), some (zi q), some (zi l), some (zi i), some (zi n), some (zi k), some (zi w7), some (zi b), none, none] [] Mx := by
                  refine zrec _ (fun zn ih => ?_)
                  intro b Mx hzn hb fx hc
                  refine v_iload_8 ok dX8_changed_95 (n := 97) rfl ?_
                  refine v_iload_5 ok dX8_changed_97 (n := 99) rfl ?_
                  refine v_icmp_ge ok dX8_changed_99 (tgt := 117) (by decide) (n := 102) rfl (by omega) (by omega) (fun c99_1 => ?_) (fun c99_1 => ?_)
                  · have c99_1 := c99_1
                    refine v_iconst ok dX8_changed_117 (n := 118) rfl ?_
                    refine v_istore_8 ok (by decide) rfl dX8_changed_118 (n := 120) rfl ?_
                    refine v_iconst ok dX8_changed_120 (n := 121) rfl ?_
                    refine v_istore_9 ok (by decide) rfl dX8_changed_121 (n := 123) rfl ?_
                    refine lpm _ p0 t0 0 _ Mx rfl (by omega) (fun r a _ => fx r a) (by rw [← hpt]; exact hck0) (fun j hj => ?_) (by rw [← hpt]; exact hlen0) (by rw [← hpt]; omega) (fun _ => by rw [← hpt]) (fun h => absurd rfl h)
                    rw [hc j (by omega), hid0 j (by omega)]
                  · have c99_1 := c99_1
                    refine v_aload_0 ok dX8_changed_102 (n := 103) rfl ?_
                    refine v_getR ok fd_X8_63 ly_200 rfl rfl rfl rf_200_26 dX8_changed_103 (n := 106) rfl ?_
                    refine v_iload_8 ok dX8_changed_106 (n := 108) rfl ?_
                    refine v_iload_8 ok dX8_changed_108 (n := 110) rfl ?_
                    refine v_iast ok ly_227 rfl (by omega) (by decide) dX8_changed_110 (n := 111) rfl ?_
                    refine v_iinc_8 ok (by decide) rfl dX8_changed_111 (n := 114) rfl ?_
                    refine v_goto ok dX8_changed_114 (n := 95) (by decide) ?_
                    exact ih _ (by omega) (b + 1) _ rfl (by omega) (fun r hr => by rw [zset_o hr]; exact fx r hr) (fun j hj => by
                      by_cases e : j = b
                      · rw [e, zset_s]
                      · rw [zset_n e]
                        exact hc j (by omega))
                refine v_iconst ok dX8_changed_92 (n := 93) rfl ?_
                refine v_istore_8 ok (by decide) rfl dX8_changed_93 (n := 95) rfl ?_
                exact lpi _ 0 M1 rfl (by omega) (fun _ _ => rfl) (fun j hj => by omega)
              · have c86_7 := c86_7
                refine v_iload_7 ok dX8_changed_89 (n := 91) rfl ?_
                refine v_iret rt dX8_changed_91 ?_
                exact ⟨zfrM_w wy, Or.inr ⟨by omega, M1, wy, Or.inr (Or.inl ⟨by omega, by omega, by omega⟩)⟩⟩
            · have c66_6 := c66_6
              refine v_bipush ok (by decide) dX8_changed_69 (n := 71) rfl ?_
              refine v_iret rt dX8_changed_71 ?_
              exact ⟨zfrM_w wy, Or.inr ⟨by omega, M1, wy, Or.inl ⟨by omega, rfl⟩⟩⟩
          · have c54_5 := c54_5
            refine v_iconst ok dX8_changed_57 (n := 58) rfl ?_
            refine v_iret rt dX8_changed_58 ?_
            exact ⟨zfrM_r M, Or.inl ⟨by omega, rfl⟩⟩

