/-! the model: ranks are read -/
theorem znm {n b m : Int} (hn : 0 ≤ n) (hb : 0 ≤ b) (hbm : b + 1 ≤ m) : 0 ≤ n * b ∧ n * b + n ≤ n * m := by
  have h1 := Int.mul_nonneg hn hb
  have h2 : n * (b + 1) ≤ n * m := Int.mul_le_mul_of_nonneg_left hbm hn
  rw [Int.mul_add, Int.mul_one] at h2
  exact ⟨h1, h2⟩
theorem znn {n : Int} (hn : 2 ≤ n ∧ n ≤ 7) : n * (2 * n) = 2 * (n * n) ∧ 2 * n * n = 2 * (n * n) ∧ 4 ≤ n * n ∧ n * n ≤ 49 := by
  obtain h | h | h | h | h | h : n = 2 ∨ n = 3 ∨ n = 4 ∨ n = 5 ∨ n = 6 ∨ n = 7 := by omega
  all_goals
    subst h
    omega
/-- n places that hold each below n hold nothing else, and each once -/
theorem zhit_dis {v : Int → Int} {n : Int} (hn : 0 ≤ n) (H : zhit v n n) : zdis v n n := by
  have hu : ∀ t, 0 ≤ t ∧ t < n → ∃ j, (0 ≤ j ∧ j < n) ∧ v j = t := H
  let u : Int → Int := fun t => if h : 0 ≤ t ∧ t < n then Classical.choose (hu t h) else 0
  have hu1 : ∀ t, 0 ≤ t ∧ t < n → (0 ≤ u t ∧ u t < n) ∧ v (u t) = t := by
    intro t ht
    have e : u t = Classical.choose (hu t ht) := dif_pos ht
    rw [e]
    exact Classical.choose_spec (hu t ht)
  have hud : zdis u n n := by
    refine ⟨fun i hi => (hu1 i hi).1, fun i j hij e => ?_⟩
    have h1 := (hu1 i (by omega)).2
    have h2 := (hu1 j (by omega)).2
    rw [e, h2] at h1
    omega
  refine ⟨fun i hi => ?_, fun i j hij e => ?_⟩
  · obtain ⟨t, ht, q⟩ := zdis_in hn hud hi
    rw [← q, (hu1 t ht).2]
    exact ht
  · obtain ⟨t, ht, q⟩ := zdis_in hn hud (show 0 ≤ i ∧ i < n by omega)
    obtain ⟨t2, ht2, q2⟩ := zdis_in hn hud (show 0 ≤ j ∧ j < n by omega)
    rw [← q, ← q2, (hu1 t ht).2, (hu1 t2 ht2).2] at e
    rw [e] at q
    omega
theorem zdis_hit {v : Int → Int} {n : Int} (hn : 0 ≤ n) (H : zdis v n n) : zhit v n n := fun _ ht => zdis_in hn H ht
/-- ranks in the model's order of places -/
def zrkM (v : Int → Int) (f n : Int) : Prop := ∀ p, 0 ≤ p ∧ p < 2 * n → zhit (fun j => v (f + n * p + j)) n n
def zrpM (R v : Int → Int) (f n p : Int) : Prop := ∀ q j, 0 ≤ q ∧ q < p → 0 ≤ j ∧ j < n → R (n * q + v (f + n * q + j)) = j
def zrpk (R v : Int → Int) (f n p k : Int) : Prop := ∀ j, 0 ≤ j ∧ j < k → R (n * p + v (f + n * p + j)) = j
set_option maxHeartbeats 4000000 in
set_option maxRecDepth 100000 in
theorem u_findRanks {G : zG} {ad : Int → Nat} {M : zM} {f n : Int} (hn : 2 ≤ n ∧ n ≤ 7) (hf : 0 ≤ f ∧ f + 2 * (n * n) ≤ 400) (hI : ∀ i, 0 ≤ i ∧ i < 400 → -2147483648 ≤ M 225 i ∧ M 225 i ≤ 2147483647)  : zTI G (zw ad) mi_X8_findRanks [zr 200, zi f, zi n] M (fun x M' => (∀ r, r ≠ 229 → M' r = M r) ∧ ((x = 1 ∧ zrkM (M 225) f n ∧ zrpM (M' 229) (M 225) f n (2 * n)) ∨ (x = 0 ∧ ¬ zrkM (M 225) f n))) := by
  refine zTI.ofZ (own := RX8) (ls := [some (zr 200), some (zi f), some (zi n), none, none, none]) (by decide +kernel) rfl rfl (Nat.le_of_ble_eq_true rfl) (fun γ ok rt => ?_)
  have hnn := znn hn
  have lpp : ∀ (zn : Nat) (p g : Int) (l5 : Option zV) (Mx : zM), zn = (15 - p).toNat → (0 ≤ p ∧ p ≤ 2 * n) → (∀ r, r ≠ 229 → Mx r = M r) → (g = 0 ∨ g = 1) → (g = 1 → ∀ q, 0 ≤ q ∧ q < p → zhit (fun j => M 225 (f + n * q + j)) n n) → (g = 1 → zrpM (Mx 229) (M 225) f n p) → (g = 0 → ¬ zrkM (M 225) f n) → zVV G γ (zw ad) (0, 0) 5 [some (zr 200), some (zi f), some (zi n), some (zi g), some (zi p), l5] [] Mx := by
    refine zrec _ (fun zn ih => ?_)
    intro p g l5 Mx hzn hp fx hg hgd hr hb
    refine v_iload_4 ok dX8_findRanks_5 (n := 7) rfl ?_
    refine v_iconst ok dX8_findRanks_7 (n := 8) rfl ?_
    refine v_iload_2 ok dX8_findRanks_8 (n := 9) rfl ?_
    refine v_imul ok dX8_findRanks_9 (n := 10) rfl ?_
    refine v_icmp_ge ok dX8_findRanks_10 (tgt := 80) (by decide) (n := 13) rfl (by omega) (by omega) (fun c10_1 => ?_) (fun c10_1 => ?_)
    · have c10_1 := c10_1
      refine v_iload_3 ok dX8_findRanks_80 (n := 81) rfl ?_
      refine v_zret rt dX8_findRanks_81 (by omega) ?_
      refine ⟨fx, ?_⟩
      rcases hg with h | h
      · exact Or.inr ⟨h, hb h⟩
      · refine Or.inl ⟨h, ?_, ?_⟩
        · intro q hq
          exact hgd h q (by omega)
        · intro q j hq hj
          exact hr h q j (by omega) hj
    · have c10_1 := c10_1
      refine v_iload_3 ok dX8_findRanks_13 (n := 14) rfl ?_
      refine v_if_eq ok dX8_findRanks_14 (tgt := 80) (by decide) (n := 17) rfl (by omega) (fun c14_2 => ?_) (fun c14_2 => ?_)
      · have c14_2 := c14_2
        refine v_iload_3 ok dX8_findRanks_80 (n := 81) rfl ?_
        refine v_zret rt dX8_findRanks_81 (by omega) ?_
        refine ⟨fx, ?_⟩
        rcases hg with h | h
        · exact Or.inr ⟨h, hb h⟩
        · refine Or.inl ⟨h, ?_, ?_⟩
          · intro q hq
            exact hgd h q (by omega)
          · intro q j hq hj
            exact hr h q j (by omega) hj
      · have c14_2 := c14_2
        have zp := znm (n := n) (b := p) (m := 2 * n) (by omega) (by omega) (by omega)
        have ih2 := ih
        have hg1 : g = 1 := by omega
        have hgood := hgd hg1
        have hp1 := hr hg1
        have k5x : Mx 225 = M 225 := fx 225 (by omega)
        have e25 := u_isRow (G := G) (ad := ad) (M := Mx) (f := f + n * p) (n := n) (by omega) (by omega) (by rw [k5x]; exact hI)
        rw [k5x] at e25
        refine v_aload_0 ok dX8_findRanks_17 (n := 18) rfl ?_
        refine v_iload_1 ok dX8_findRanks_18 (n := 19) rfl ?_
        refine v_iload_2 ok dX8_findRanks_19 (n := 20) rfl ?_
        refine v_iload_4 ok dX8_findRanks_20 (n := 22) rfl ?_
        refine v_imul ok dX8_findRanks_22 (n := 23) rfl ?_
        refine v_iadd ok dX8_findRanks_23 (n := 24) rfl ?_
        refine v_iload_2 ok dX8_findRanks_24 (n := 25) rfl ?_
        refine v_callVI ok (mi := mi_X8_isRow) mc_X8_isRow cv_X8_243 ly_200 rfl rfl rfl (by decide) ⟨Nat.zero_le _, Nat.zero_le _⟩ dX8_findRanks_25 (n := 28) rfl rfl rfl (Nat.le_of_ble_eq_true rfl) (e25) (fun x3 N3 g3 => ?_)
        obtain ⟨g3e, g3⟩ := g3
        subst N3
        refine v_istore_3 ok (by decide) rfl dX8_findRanks_28 (n := 29) rfl ?_
        refine v_iconst ok dX8_findRanks_29 (n := 30) rfl ?_
        refine v_istore_5 ok (by decide) rfl dX8_findRanks_30 (n := 32) rfl ?_
        rcases g3 with ⟨h3, hth⟩ | ⟨h3, hth⟩
        · subst h3
          have hds := zhit_dis (by omega) hth
          have lpk : ∀ (zn : Nat) (k : Int) (Mx : zM), zn = (8 - k).toNat → (0 ≤ k ∧ k ≤ n) → (∀ r, r ≠ 229 → Mx r = M r) → (zrpM (Mx 229) (M 225) f n p) → (zrpk (Mx 229) (M 225) f n p k) → zVV G γ (zw ad) (0, 0) 32 [some (zr 200), some (zi f), some (zi n), some (zi 1), some (zi p), some (zi k)] [] Mx := by
            refine zrec _ (fun zn ih => ?_)
            intro k Mx hzn hk fx hp1 hp2
            refine v_iload_5 ok dX8_findRanks_32 (n := 34) rfl ?_
            refine v_iload_2 ok dX8_findRanks_34 (n := 35) rfl ?_
            refine v_icmp_ge ok dX8_findRanks_35 (tgt := 74) (by decide) (n := 38) rfl (by omega) (by omega) (fun c35_1 => ?_) (fun c35_1 => ?_)
            · have c35_1 := c35_1
              refine v_iinc_4 ok (by decide) rfl dX8_findRanks_74 (n := 77) rfl ?_
              refine v_goto ok dX8_findRanks_77 (n := 5) (by decide) ?_
              refine ih2 _ (by omega) (p + 1) 1 _ _ rfl (by omega) fx (by omega) (fun _ q hq => ?_) (fun _ q j hq hj => ?_) (fun h => by omega)
              · by_cases e : q = p
                · rw [e]; exact hth
                · exact hgood q (by omega)
              · by_cases e : q = p
                · rw [e]; exact hp2 j (by omega)
                · exact hp1 q j (by omega) hj
            · have c35_1 := c35_1
              refine v_iload_3 ok dX8_findRanks_38 (n := 39) rfl ?_
              refine v_if_eq ok dX8_findRanks_39 (tgt := 74) (by decide) (n := 42) rfl (by omega) (fun c39_2 => ?_) (fun c39_2 => ?_)
              · have c39_2 := c39_2
                omega
              · have c39_2 := c39_2
                have hvk := hds.1 k (by omega)
                have hvk : 0 ≤ M 225 (f + n * p + k) ∧ M 225 (f + n * p + k) < n := hvk
                refine v_aload_0 ok dX8_findRanks_42 (n := 43) rfl ?_
                refine v_getR ok fd_X8_69 ly_200 rfl rfl rfl rf_200_28 dX8_findRanks_43 (n := 46) rfl ?_
                refine v_iload_2 ok dX8_findRanks_46 (n := 47) rfl ?_
                refine v_iload_4 ok dX8_findRanks_47 (n := 49) rfl ?_
                refine v_imul ok dX8_findRanks_49 (n := 50) rfl ?_
                refine v_aload_0 ok dX8_findRanks_50 (n := 51) rfl ?_
                refine v_getR ok fd_X8_57 ly_200 rfl rfl rfl rf_200_24 dX8_findRanks_51 (n := 54) rfl ?_
                refine v_iload_1 ok dX8_findRanks_54 (n := 55) rfl ?_
                refine v_iload_2 ok dX8_findRanks_55 (n := 56) rfl ?_
                refine v_iload_4 ok dX8_findRanks_56 (n := 58) rfl ?_
                refine v_imul ok dX8_findRanks_58 (n := 59) rfl ?_
                refine v_iadd ok dX8_findRanks_59 (n := 60) rfl ?_
                refine v_iload_5 ok dX8_findRanks_60 (n := 62) rfl ?_
                refine v_iadd ok dX8_findRanks_62 (n := 63) rfl ?_
                refine v_iald ok ly_225 rfl (by omega) (by decide) dX8_findRanks_63 (n := 64) rfl ?_
                try simp (disch := omega) only [fx]
                refine v_iadd ok dX8_findRanks_64 (n := 65) rfl ?_
                refine v_iload_5 ok dX8_findRanks_65 (n := 67) rfl ?_
                refine v_iast ok ly_229 rfl (by omega) (by decide) dX8_findRanks_67 (n := 68) rfl ?_
                refine v_iinc_5 ok (by decide) rfl dX8_findRanks_68 (n := 71) rfl ?_
                refine v_goto ok dX8_findRanks_71 (n := 32) (by decide) ?_
                refine ih _ (by omega) (k + 1) _ rfl (by omega) (fun r hr => by rw [zset_o hr]; exact fx r hr) (fun q j hq hj => ?_) (fun j hj => ?_)
                · have hvq := (zhit_dis (by omega) (hgood q hq)).1 j hj
                  have hvq : 0 ≤ M 225 (f + n * q + j) ∧ M 225 (f + n * q + j) < n := hvq
                  have z1 := znm (n := n) (b := q) (m := p) (by omega) (by omega) (by omega)
                  rw [zset_n (by omega)]
                  exact hp1 q j hq hj
                · by_cases e : j = k
                  · subst e
                    rw [zset_s]
                  · have hne := hds.2 j k (by omega)
                    have hne : M 225 (f + n * p + j) ≠ M 225 (f + n * p + k) := hne
                    rw [zset_n (by omega)]
                    exact hp2 j (by omega)
          exact lpk _ 0 Mx rfl (by omega) fx hp1 (fun j hj => by omega)
        · subst h3
          have hbad : ¬ zrkM (M 225) f n := fun h => hth (h p (by omega))
          refine v_iload_5 ok dX8_findRanks_32 (n := 34) rfl ?_
          refine v_iload_2 ok dX8_findRanks_34 (n := 35) rfl ?_
          refine v_icmp_ge ok dX8_findRanks_35 (tgt := 74) (by decide) (n := 38) rfl (by omega) (by omega) (fun c35_1 => ?_) (fun c35_1 => ?_)
          · have c35_1 := c35_1
            refine v_iinc_4 ok (by decide) rfl dX8_findRanks_74 (n := 77) rfl ?_
            refine v_goto ok dX8_findRanks_77 (n := 5) (by decide) ?_
            exact ih2 _ (by omega) (p + 1) 0 _ _ rfl (by omega) fx (by omega) (fun h => by omega) (fun h => by omega) (fun _ => hbad)
          · have c35_1 := c35_1
            refine v_iload_3 ok dX8_findRanks_38 (n := 39) rfl ?_
            refine v_if_eq ok dX8_findRanks_39 (tgt := 74) (by decide) (n := 42) rfl (by omega) (fun c39_2 => ?_) (fun c39_2 => ?_)
            · have c39_2 := c39_2
              refine v_iinc_4 ok (by decide) rfl dX8_findRanks_74 (n := 77) rfl ?_
              refine v_goto ok dX8_findRanks_77 (n := 5) (by decide) ?_
              exact ih2 _ (by omega) (p + 1) 0 _ _ rfl (by omega) fx (by omega) (fun h => by omega) (fun h => by omega) (fun _ => hbad)
            · have c39_2 := c39_2
              omega
  refine v_iconst ok dX8_findRanks_0 (n := 1) rfl ?_
  refine v_istore_3 ok (by decide) rfl dX8_findRanks_1 (n := 2) rfl ?_
  refine v_iconst ok dX8_findRanks_2 (n := 3) rfl ?_
  refine v_istore_4 ok (by decide) rfl dX8_findRanks_3 (n := 5) rfl ?_
  exact lpp _ 0 1 _ M rfl (by omega) (fun _ _ => rfl) (by omega) (fun _ q hq => by omega) (fun _ q j hq => by omega) (fun h => by omega)

