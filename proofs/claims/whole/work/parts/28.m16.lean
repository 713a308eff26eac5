/-! the class: tries, the call -/
set_option maxHeartbeats 4000000 in
set_option maxRecDepth 100000 in
theorem t_fewestTries {G : zG} {ad : Int → Nat} {M : zM} {a b : Int} (hab : 20 ≤ a ∧ a ≤ b ∧ b ≤ 60) (hv : 0 ≤ M (96 + (a - 20)) (b - 20 + 1) ∧ M (96 + (a - 20)) (b - 20 + 1) ≤ 100)  : zTI G (zw ad) mi_X5_fewestTries [zr 94, zi a, zi b] M (fun x M' => M' = M ∧ ((M (96 + (a - 20)) (b - 20 + 1) = 100 ∧ x = -4) ∨ (M (96 + (a - 20)) (b - 20 + 1) ≠ 100 ∧ x = M (96 + (a - 20)) (b - 20 + 1)))) := by
  refine zTI.of (own := RX5) (ls := [some (zr 94), some (zi a), some (zi b), none]) (by decide +kernel) rfl rfl (Nat.le_of_ble_eq_true rfl) (fun γ ok rt => ?_)
  refine v_aload_0 ok dX5_fewestTries_0 (n := 1) rfl ?_
  refine v_getR ok fd_X5_13 ly_94 rfl rfl rfl rf_94_0 dX5_fewestTries_1 (n := 4) rfl ?_
  refine v_iload_1 ok dX5_fewestTries_4 (n := 5) rfl ?_
  refine v_bipush ok (by decide) dX5_fewestTries_5 (n := 7) rfl ?_
  refine v_isub ok dX5_fewestTries_7 (n := 8) rfl ?_
  refine v_aald ok ly_95 (by decide) rfl (by omega) (by decide) rfl dX5_fewestTries_8 (n := 9) rfl ?_
  refine v_iload_2 ok dX5_fewestTries_9 (n := 10) rfl ?_
  refine v_bipush ok (by decide) dX5_fewestTries_10 (n := 12) rfl ?_
  refine v_isub ok dX5_fewestTries_12 (n := 13) rfl ?_
  refine v_iconst ok dX5_fewestTries_13 (n := 14) rfl ?_
  refine v_iadd ok dX5_fewestTries_14 (n := 15) rfl ?_
  refine v_iald ok (lf_fro (by omega)) rfl (by omega) (by decide) dX5_fewestTries_15 (n := 16) rfl ?_
  refine v_istore_3 ok (by decide) rfl dX5_fewestTries_16 (n := 17) rfl ?_
  refine v_iload_3 ok dX5_fewestTries_17 (n := 18) rfl ?_
  refine v_bipush ok (by decide) dX5_fewestTries_18 (n := 20) rfl ?_
  refine v_icmp_ne ok dX5_fewestTries_20 (tgt := 28) (by decide) (n := 23) rfl (by omega) (by omega) (fun c20_1 => ?_) (fun c20_1 => ?_)
  · have c20_1 := c20_1
    refine v_iload_3 ok dX5_fewestTries_28 (n := 29) rfl ?_
    refine v_iret rt dX5_fewestTries_29 ?_
    exact ⟨rfl, by omega⟩
  · have c20_1 := c20_1
    refine v_bipush ok (by decide) dX5_fewestTries_23 (n := 25) rfl ?_
    refine v_goto ok dX5_fewestTries_25 (n := 29) (by decide) ?_
    refine v_iret rt dX5_fewestTries_29 ?_
    exact ⟨rfl, by omega⟩

/-- the first place from s on, before e, where g is v: 20 more; -4: there is none -/
def zfst (g : Int → Int) (v s e x : Int) : Prop := (∃ k, (s ≤ k ∧ k < e) ∧ g k = v ∧ (∀ j, s ≤ j ∧ j < k → g j ≠ v) ∧ x = k + 20) ∨ ((∀ j, s ≤ j ∧ j < e → g j ≠ v) ∧ x = -4)
def znot (g : Int → Int) (v s e : Int) : Prop := ∀ j, s ≤ j ∧ j < e → g j ≠ v
set_option maxHeartbeats 4000000 in
set_option maxRecDepth 100000 in
theorem t_firstTried {G : zG} {ad : Int → Nat} {M : zM} {a b : Int} (hab : 20 ≤ a ∧ a ≤ b ∧ b ≤ 60) (hW : 0 ≤ M 94 1 ∧ M 94 1 ≤ 2251799813685248) (hT : ∀ g h, a - 20 ≤ g ∧ g ≤ h ∧ h ≤ b - 19 → 0 ≤ M (96 + g) h ∧ M (96 + g) h ≤ 100)  : zTI G (zw ad) mi_X5_firstTried [zr 94, zi a, zi b] M (fun x M' => M' = M ∧ (((M (96 + (a - 20)) (b - 20 + 1) = 0 ∨ M (96 + (a - 20)) (b - 20 + 1) = 100) ∧ x = -4) ∨ ((M (96 + (a - 20)) (b - 20 + 1) ≠ 0 ∧ M (96 + (a - 20)) (b - 20 + 1) ≠ 100) ∧ zfst (zby (zbit (M 94 1)) (zTT M) (a - 20) (b - 19)) (M (96 + (a - 20)) (b - 20 + 1)) (a - 20) (b - 19) x))) := by
  refine zTI.of (own := RX5) (ls := [some (zr 94), some (zi a), some (zi b), none, none, none, none]) (by decide +kernel) rfl rfl (Nat.le_of_ble_eq_true rfl) (fun γ ok rt => ?_)
  have hv : 0 ≤ M (96 + (a - 20)) (b - 20 + 1) ∧ M (96 + (a - 20)) (b - 20 + 1) ≤ 100 := hT _ _ (by omega)
  refine v_iload_1 ok dX5_firstTried_0 (n := 1) rfl ?_
  refine v_bipush ok (by decide) dX5_firstTried_1 (n := 3) rfl ?_
  refine v_isub ok dX5_firstTried_3 (n := 4) rfl ?_
  refine v_istore_3 ok (by decide) rfl dX5_firstTried_4 (n := 5) rfl ?_
  refine v_iload_2 ok dX5_firstTried_5 (n := 6) rfl ?_
  refine v_bipush ok (by decide) dX5_firstTried_6 (n := 8) rfl ?_
  refine v_isub ok dX5_firstTried_8 (n := 9) rfl ?_
  refine v_iconst ok dX5_firstTried_9 (n := 10) rfl ?_
  refine v_iadd ok dX5_firstTried_10 (n := 11) rfl ?_
  refine v_istore_4 ok (by decide) rfl dX5_firstTried_11 (n := 13) rfl ?_
  refine v_aload_0 ok dX5_firstTried_13 (n := 14) rfl ?_
  refine v_getR ok fd_X5_13 ly_94 rfl rfl rfl rf_94_0 dX5_firstTried_14 (n := 17) rfl ?_
  refine v_iload_3 ok dX5_firstTried_17 (n := 18) rfl ?_
  refine v_aald ok ly_95 (by decide) rfl (by omega) (by decide) rfl dX5_firstTried_18 (n := 19) rfl ?_
  refine v_iload_4 ok dX5_firstTried_19 (n := 21) rfl ?_
  refine v_iald ok (lf_fro (by omega)) rfl (by omega) (by decide) dX5_firstTried_21 (n := 22) rfl ?_
  refine v_istore_5 ok (by decide) rfl dX5_firstTried_22 (n := 24) rfl ?_
  refine v_iload_5 ok dX5_firstTried_24 (n := 26) rfl ?_
  refine v_if_eq ok dX5_firstTried_26 (tgt := 36) (by decide) (n := 29) rfl (by omega) (fun c26_1 => ?_) (fun c26_1 => ?_)
  · have c26_1 := c26_1
    refine v_bipush ok (by decide) dX5_firstTried_36 (n := 38) rfl ?_
    refine v_iret rt dX5_firstTried_38 ?_
    exact ⟨rfl, Or.inl ⟨by omega, rfl⟩⟩
  · have c26_1 := c26_1
    refine v_iload_5 ok dX5_firstTried_29 (n := 31) rfl ?_
    refine v_bipush ok (by decide) dX5_firstTried_31 (n := 33) rfl ?_
    refine v_icmp_ne ok dX5_firstTried_33 (tgt := 39) (by decide) (n := 36) rfl (by omega) (by omega) (fun c33_2 => ?_) (fun c33_2 => ?_)
    · have c33_2 := c33_2
      have hvn : M (96 + (a - 20)) (b - 20 + 1) ≠ 0 ∧ M (96 + (a - 20)) (b - 20 + 1) ≠ 100 := by omega
      have lp : ∀ (zn : Nat) (t : Int), zn = (41 - t).toNat → (a - 20 ≤ t ∧ t ≤ b - 19) → (znot (zby (zbit (M 94 1)) (zTT M) (a - 20) (b - 19)) (M (96 + (a - 20)) (b - 20 + 1)) (a - 20) t) → zVV G γ (zw ad) (0, 0) 42 [some (zr 94), some (zi a), some (zi b), some (zi (a - 20)), some (zi (b - 20 + 1)), some (zi (M (96 + (a - 20)) (b - 20 + 1))), some (zi t)] [] M := by
        refine zrec _ (fun zn ih => ?_)
        intro t hzn ht hno
        refine v_iload_6 ok dX5_firstTried_42 (n := 44) rfl ?_
        refine v_iload_4 ok dX5_firstTried_44 (n := 46) rfl ?_
        refine v_icmp_ge ok dX5_firstTried_46 (tgt := 75) (by decide) (n := 49) rfl (by omega) (by omega) (fun c46_1 => ?_) (fun c46_1 => ?_)
        · have c46_1 := c46_1
          refine v_bipush ok (by decide) dX5_firstTried_75 (n := 77) rfl ?_
          refine v_iret rt dX5_firstTried_77 ?_
          exact ⟨rfl, Or.inr ⟨by omega, Or.inr ⟨fun j hj => hno j (by omega), rfl⟩⟩⟩
        · have c46_1 := c46_1
          refine v_aload_0 ok dX5_firstTried_49 (n := 50) rfl ?_
          refine v_iload_6 ok dX5_firstTried_50 (n := 52) rfl ?_
          refine v_iload_3 ok dX5_firstTried_52 (n := 53) rfl ?_
          refine v_iload_4 ok dX5_firstTried_53 (n := 55) rfl ?_
          refine v_callVI ok (mi := mi_X5_fewestBy) mc_X5_fewestBy cv_X5_37 ly_94 rfl rfl rfl (by decide) ⟨Nat.zero_le _, Nat.zero_le _⟩ dX5_firstTried_55 (n := 58) rfl rfl rfl (Nat.le_of_ble_eq_true rfl) (t_fewestBy (by omega) hW (hT _ _ (by omega)) (hT _ _ (by omega))) (fun x1 M1 h1 => ?_)
          obtain ⟨h1_, h1⟩ := h1
          subst M1
          rw [show b - 20 + 1 = b - 19 by omega] at h1
          have b1 := zby_b (c := zbit (M 94 1)) (T := zTT M) (f := a - 20) (e := b - 19) (t := t) (hT (a - 20) t (by omega)).1
          rw [← h1] at b1
          refine v_iload_5 ok dX5_firstTried_58 (n := 60) rfl ?_
          refine v_icmp_ne ok dX5_firstTried_60 (tgt := 69) (by decide) (n := 63) rfl (by omega) (by omega) (fun c60_2 => ?_) (fun c60_2 => ?_)
          · have c60_2 := c60_2
            refine v_iinc_6 ok (by decide) rfl dX5_firstTried_69 (n := 72) rfl ?_
            refine v_goto ok dX5_firstTried_72 (n := 42) (by decide) ?_
            exact ih _ (by omega) _ rfl (by omega) (fun j hj => by
              by_cases h : j = t
              · subst h; rw [← h1]; assumption
              · exact hno j (by omega))
          · have c60_2 := c60_2
            refine v_iload_6 ok dX5_firstTried_63 (n := 65) rfl ?_
            refine v_bipush ok (by decide) dX5_firstTried_65 (n := 67) rfl ?_
            refine v_iadd ok dX5_firstTried_67 (n := 68) rfl ?_
            refine v_iret rt dX5_firstTried_68 ?_
            exact ⟨rfl, Or.inr ⟨by omega, Or.inl ⟨t, by omega, by rw [← h1]; assumption, hno, rfl⟩⟩⟩
      refine v_iload_3 ok dX5_firstTried_39 (n := 40) rfl ?_
      refine v_istore_6 ok (by decide) rfl dX5_firstTried_40 (n := 42) rfl ?_
      exact lp _ _ rfl (by omega) (fun j hj => by omega)
    · have c33_2 := c33_2
      refine v_bipush ok (by decide) dX5_firstTried_36 (n := 38) rfl ?_
      refine v_iret rt dX5_firstTried_38 ?_
      exact ⟨rfl, Or.inl ⟨by omega, rfl⟩⟩

/-- what tries answers, by a table that is right -/
def ztrs (c : Int → Int) (T : Int → Int → Int) (a b q x : Int) : Prop :=
  (q = 0 ∧ ((T (a - 20) (b - 19) = 100 ∧ x = -4) ∨ (T (a - 20) (b - 19) ≠ 100 ∧ x = T (a - 20) (b - 19)))) ∨
  (q = 1 ∧ (((T (a - 20) (b - 19) = 0 ∨ T (a - 20) (b - 19) = 100) ∧ x = -4) ∨ ((T (a - 20) (b - 19) ≠ 0 ∧ T (a - 20) (b - 19) ≠ 100) ∧ zfst (zby c T (a - 20) (b - 19)) (T (a - 20) (b - 19)) (a - 20) (b - 19) x)))
set_option maxHeartbeats 4000000 in
set_option maxRecDepth 100000 in
theorem t_tries {G : zG} {ad : Int → Nat} {M : zM} {d a b q : Int} (hd : -2147483648 ≤ d ∧ d ≤ 2147483647) (ha : -2147483648 ≤ a ∧ a ≤ 2147483647) (hb : -2147483648 ≤ b ∧ b ≤ 2147483647) (hq : -2147483648 ≤ q ∧ q ≤ 2147483647) (hns : 0 ≤ M 1 4 ∧ M 1 4 ≤ 16) (hS : ∀ s, 0 ≤ s ∧ s < M 1 4 → zSR (M (12 + s)))  : zTI G (zw ad) mi_X7_tries [zr 0, zi d, zi a, zi b, zi q] M (fun x M' => (¬ ((0 ≤ d ∧ d ≤ 1) ∧ (20 ≤ a ∧ a ≤ b ∧ b ≤ 60) ∧ (0 ≤ q ∧ q ≤ 1)) ∧ x = -1 ∧ M' = M) ∨ (((0 ≤ d ∧ d ≤ 1) ∧ (20 ≤ a ∧ a ≤ b ∧ b ≤ 60) ∧ (0 ≤ q ∧ q ≤ 1)) ∧ (∀ r, r < 94 ∨ 137 < r → M' r = M r) ∧ ∃ T : Int → Int → Int, zTab (zbit (zctn M d (M 1 4).toNat : Nat)) T (a - 20) (b - 19) (b - a + 2) (a - 20) ∧ ztrs (zbit (zctn M d (M 1 4).toNat : Nat)) T a b q x)) := by
  refine zTI.of (own := RX7) (ls := [some (zr 0), some (zi d), some (zi a), some (zi b), some (zi q)]) (by decide +kernel) rfl rfl (Nat.le_of_ble_eq_true rfl) (fun γ ok rt => ?_)
  refine v_iload_1 ok dX7_tries_0 (n := 1) rfl ?_
  refine v_callSI ok (mi := mi_X7_isSide) mc_X7_isSide cs_X7_101 (by decide) ⟨Nat.zero_le _, Nat.zero_le _⟩ dX7_tries_1 (n := 4) rfl rfl rfl (Nat.le_of_ble_eq_true rfl) (t_isSide hd) (fun x5 M5 h5 => ?_)
  obtain ⟨e5_, h5⟩ := h5
  subst M5
  refine v_if_eq ok dX7_tries_4 (tgt := 38) (by decide) (n := 7) rfl (by omega) (fun c4_1 => ?_) (fun c4_1 => ?_)
  · have c4_1 := c4_1
    refine v_iconst ok dX7_tries_38 (n := 39) rfl ?_
    refine v_iret rt dX7_tries_39 ?_
    exact Or.inl ⟨by omega, rfl, rfl⟩
  · have c4_1 := c4_1
    refine v_iload_2 ok dX7_tries_7 (n := 8) rfl ?_
    refine v_bipush ok (by decide) dX7_tries_8 (n := 10) rfl ?_
    refine v_bipush ok (by decide) dX7_tries_10 (n := 12) rfl ?_
    refine v_callSI ok (mi := mi_X7_isFrom) mc_X7_isFrom cs_X7_81 (by decide) ⟨Nat.zero_le _, Nat.zero_le _⟩ dX7_tries_12 (n := 15) rfl rfl rfl (Nat.le_of_ble_eq_true rfl) (t_isFrom ha (by omega) (by omega)) (fun x6 M6 h6 => ?_)
    obtain ⟨e6_, h6⟩ := h6
    subst M6
    refine v_if_eq ok dX7_tries_15 (tgt := 38) (by decide) (n := 18) rfl (by omega) (fun c15_2 => ?_) (fun c15_2 => ?_)
    · have c15_2 := c15_2
      refine v_iconst ok dX7_tries_38 (n := 39) rfl ?_
      refine v_iret rt dX7_tries_39 ?_
      exact Or.inl ⟨by omega, rfl, rfl⟩
    · have c15_2 := c15_2
      refine v_iload_3 ok dX7_tries_18 (n := 19) rfl ?_
      refine v_iload_2 ok dX7_tries_19 (n := 20) rfl ?_
      refine v_bipush ok (by decide) dX7_tries_20 (n := 22) rfl ?_
      refine v_callSI ok (mi := mi_X7_isFrom) mc_X7_isFrom cs_X7_81 (by decide) ⟨Nat.zero_le _, Nat.zero_le _⟩ dX7_tries_22 (n := 25) rfl rfl rfl (Nat.le_of_ble_eq_true rfl) (t_isFrom hb (by omega) (by omega)) (fun x7 M7 h7 => ?_)
      obtain ⟨e7_, h7⟩ := h7
      subst M7
      refine v_if_eq ok dX7_tries_25 (tgt := 38) (by decide) (n := 28) rfl (by omega) (fun c25_3 => ?_) (fun c25_3 => ?_)
      · have c25_3 := c25_3
        refine v_iconst ok dX7_tries_38 (n := 39) rfl ?_
        refine v_iret rt dX7_tries_39 ?_
        exact Or.inl ⟨by omega, rfl, rfl⟩
      · have c25_3 := c25_3
        refine v_iload_4 ok dX7_tries_28 (n := 30) rfl ?_
        refine v_iconst ok dX7_tries_30 (n := 31) rfl ?_
        refine v_iconst ok dX7_tries_31 (n := 32) rfl ?_
        refine v_callSI ok (mi := mi_X7_isFrom) mc_X7_isFrom cs_X7_81 (by decide) ⟨Nat.zero_le _, Nat.zero_le _⟩ dX7_tries_32 (n := 35) rfl rfl rfl (Nat.le_of_ble_eq_true rfl) (t_isFrom hq (by omega) (by omega)) (fun x8 M8 h8 => ?_)
        obtain ⟨e8_, h8⟩ := h8
        subst M8
        refine v_if_ne ok dX7_tries_35 (tgt := 40) (by decide) (n := 38) rfl (by omega) (fun c35_4 => ?_) (fun c35_4 => ?_)
        · have c35_4 := c35_4
          refine v_aload_0 ok dX7_tries_40 (n := 41) rfl ?_
          refine v_getR ok fd_X7_40 ly_0 rfl rfl rfl rf_0_5 dX7_tries_41 (n := 44) rfl ?_
          refine v_aload_0 ok dX7_tries_44 (n := 45) rfl ?_
          refine v_getR ok fd_X7_10 ly_0 rfl rfl rfl rf_0_0 dX7_tries_45 (n := 48) rfl ?_
          refine v_iload_1 ok dX7_tries_48 (n := 49) rfl ?_
          refine v_iload_2 ok dX7_tries_49 (n := 50) rfl ?_
          refine v_iload_3 ok dX7_tries_50 (n := 51) rfl ?_
          refine v_callVV ok (mi := mi_X5_findFewest) mc_X5_findFewest cv_X7_170 ly_94 rfl rfl rfl (by decide) ⟨Nat.zero_le _, Nat.zero_le _⟩ dX7_tries_51 (n := 54) rfl rfl rfl (Nat.le_of_ble_eq_true rfl) (t_findFewest (by omega) (by omega) hns hS) (fun M4 g4 => ?_)
          obtain ⟨f4, w4, tb⟩ := g4
          have hW : 0 ≤ M4 94 1 ∧ M4 94 1 ≤ 2251799813685248 := by
            have := zctn_b (M := M) (d := d) (M 1 4).toNat (fun q hq => (hS q (by omega)).2.1)
            rw [w4]
            omega
          have hT : ∀ g h, a - 20 ≤ g ∧ g ≤ h ∧ h ≤ b - 19 → 0 ≤ M4 (96 + g) h ∧ M4 (96 + g) h ≤ 100 := fun g h hg => (tb g h (by omega)).2
          refine v_iload_4 ok dX7_tries_54 (n := 56) rfl ?_
          refine v_if_ne ok dX7_tries_56 (tgt := 71) (by decide) (n := 59) rfl (by omega) (fun c56_5 => ?_) (fun c56_5 => ?_)
          · have c56_5 := c56_5
            refine v_aload_0 ok dX7_tries_71 (n := 72) rfl ?_
            refine v_getR ok fd_X7_40 ly_0 rfl rfl rfl rf_0_5 dX7_tries_72 (n := 75) rfl ?_
            refine v_iload_2 ok dX7_tries_75 (n := 76) rfl ?_
            refine v_iload_3 ok dX7_tries_76 (n := 77) rfl ?_
            refine v_callVI ok (mi := mi_X5_firstTried) mc_X5_firstTried cv_X7_178 ly_94 rfl rfl rfl (by decide) ⟨Nat.zero_le _, Nat.zero_le _⟩ dX7_tries_77 (n := 80) rfl rfl rfl (Nat.le_of_ble_eq_true rfl) (t_firstTried (by omega) hW hT) (fun x9 M9 g9 => ?_)
            obtain ⟨g9, w9⟩ := g9
            subst M9
            rw [show b - 20 + 1 = b - 19 by omega, w4] at w9
            refine v_iret rt dX7_tries_80 ?_
            first
            | exact Or.inr ⟨by omega, f4, zTT M4, tb, Or.inl ⟨by omega, w9⟩⟩
            | exact Or.inr ⟨by omega, f4, zTT M4, tb, Or.inr ⟨by omega, w9⟩⟩
          · have c56_5 := c56_5
            refine v_aload_0 ok dX7_tries_59 (n := 60) rfl ?_
            refine v_getR ok fd_X7_40 ly_0 rfl rfl rfl rf_0_5 dX7_tries_60 (n := 63) rfl ?_
            refine v_iload_2 ok dX7_tries_63 (n := 64) rfl ?_
            refine v_iload_3 ok dX7_tries_64 (n := 65) rfl ?_
            refine v_callVI ok (mi := mi_X5_fewestTries) mc_X5_fewestTries cv_X7_174 ly_94 rfl rfl rfl (by decide) ⟨Nat.zero_le _, Nat.zero_le _⟩ dX7_tries_65 (n := 68) rfl rfl rfl (Nat.le_of_ble_eq_true rfl) (t_fewestTries (by omega) (hT _ _ (by omega))) (fun x9 M9 g9 => ?_)
            obtain ⟨g9, w9⟩ := g9
            subst M9
            rw [show b - 20 + 1 = b - 19 by omega] at w9
            refine v_goto ok dX7_tries_68 (n := 80) (by decide) ?_
            refine v_iret rt dX7_tries_80 ?_
            first
            | exact Or.inr ⟨by omega, f4, zTT M4, tb, Or.inl ⟨by omega, w9⟩⟩
            | exact Or.inr ⟨by omega, f4, zTT M4, tb, Or.inr ⟨by omega, w9⟩⟩
        · have c35_4 := c35_4
          refine v_iconst ok dX7_tries_38 (n := 39) rfl ?_
          refine v_iret rt dX7_tries_39 ?_
          exact Or.inl ⟨by omega, rfl, rfl⟩

