/-! the model: shod, chain, most -/
/-- scratch apart, M' is M -/
def zfrM (M M' : zM) : Prop := (∀ r, (r < 200 ∨ 232 < r ∨ (201 ≤ r ∧ r ≤ 206) ∨ r = 220 ∨ (223 ≤ r ∧ r ≤ 225)) → M' r = M r) ∧ (∀ j, j ≠ 7 → j ≠ 8 → j ≠ 11 → M' 200 j = M 200 j)
theorem zfrM_r (M : zM) : zfrM M M := ⟨fun _ _ => rfl, fun _ _ _ _ => rfl⟩
theorem zfrM_w {M M' : zM} {d : Int} (h : zWay M M' d) : zfrM M M' := ⟨fun r hr => h.1 r (by omega) (by omega) (by omega) (by omega) (by omega), fun j _ _ h3 => h.2.1 j h3⟩
theorem zfrM_t {M M1 M2 : zM} (h : zfrM M M1) (h2 : zfrM M1 M2) : zfrM M M2 := ⟨fun r hr => (h2.1 r hr).trans (h.1 r hr), fun j a b c => (h2.2 j a b c).trans (h.2 j a b c)⟩
theorem zWay_b {M M' : zM} {d : Int} (h : zWay M M' d) : 0 ≤ M' 214 0 ∧ M' 214 0 ≤ 1000000 := (h.2.2.2.2.2.1 0 (by have := zp2_pos (M' 200 11); omega)).2
theorem zWay_k {M M' : zM} {d k : Int} (h : zWay M M' d) (hk : 0 ≤ k ∧ k < M' 200 11) : 0 ≤ M' 211 k ∧ M' 211 k < M 200 3 := by
  rw [h.2.2.1] at hk
  exact (h.2.2.2.1 k hk).1
theorem zWay_s {M M' : zM} {d b : Int} (h : zWay M M' d) (hl : M' 214 0 < 1000000) (hb : 0 ≤ b ∧ b < M 200 2) : 0 ≤ M' 215 b ∧ M' 215 b < M 200 3 := by
  obtain ⟨_, _, kk, _, hg⟩ := h.2.2.2.2.2.2 hl
  have := hg b.toNat (by omega)
  rw [show ((b.toNat : Nat) : Int) = b by omega] at this
  rw [this.2]
  exact zWay_k h this.1.1
/-- what is asked when s is gone: 0 of the own shoe, 1 of another -/
def zchA (M : zM) (s b k : Int) : Int := if M 213 (16 * b + k) < 0 ∨ M 211 k = s then -4 else if M 215 b = M 211 k then 0 else 1
theorem zchA_b {M : zM} {s b k : Int} : -4 ≤ zchA M s b k ∧ zchA M s b k ≤ 6 := by
  unfold zchA
  split
  · omega
  · split <;> omega
def zchI (M1 Mx : zM) (s nb w b k : Int) : Prop := ∀ c j, 0 ≤ c ∧ c < nb → 0 ≤ j ∧ j < w → Mx 213 (16 * c + j) = if c < b ∨ (c = b ∧ j < k) then zchA M1 s c j else M1 213 (16 * c + j)
theorem zchI_s {M1 Mx : zM} {s nb w b k v : Int} (hw : w ≤ 16) (hb : 0 ≤ b ∧ b < nb) (hk : 0 ≤ k ∧ k < w) (hv : v = zchA M1 s b k) (H : zchI M1 Mx s nb w b k) : zchI M1 (zset Mx 213 (16 * b + k) v) s nb w b (k + 1) := by
  intro c j hc hj
  by_cases e : c = b ∧ j = k
  · rw [e.1, e.2, zset_s, if_pos (by omega)]
    exact hv
  · rw [zset_n (by omega), H c j hc hj]
    by_cases e2 : c < b ∨ (c = b ∧ j < k)
    · rw [if_pos e2, if_pos (by omega)]
    · rw [if_neg e2, if_neg (by omega)]
theorem zchI_n {M1 Mx : zM} {s nb w b k : Int} (hk : w ≤ k) (H : zchI M1 Mx s nb w b k) : zchI M1 Mx s nb w (b + 1) 0 := by
  intro c j hc hj
  rw [H c j hc hj]
  by_cases e2 : c < b ∨ (c = b ∧ j < k)
  · rw [if_pos e2, if_pos (by omega)]
  · rw [if_neg e2, if_neg (by omega)]
theorem zlfk_B {a a' L : Int → Int} {h : Int} (n : Nat) (H : ∀ k : Nat, k < n → a k = a' k) : zlfk a L h n = zlfk a' L h n := by
  induction n with
  | zero => rfl
  | succ n ih =>
    unfold zlfk
    rw [ih (fun k hk => H k (by omega)), H n (by omega)]
theorem zLst_B {B B' : Int → Int → Int} {nb w h : Int} {L : Int → Int} (hw : 0 ≤ w) (H : ∀ b k, 0 ≤ b ∧ b < nb → 0 ≤ k ∧ k < w → B b k = B' b k) (h1 : zLst B nb w L h) : zLst B' nb w L h := by
  intro j hj
  refine ⟨?_, (h1 j hj).2⟩
  rw [(h1 j hj).1]
  have hz := zone_b j
  unfold zlfv
  by_cases e1 : zone j = nb
  · rw [if_pos e1, if_pos e1]
  · rw [if_neg e1, if_neg e1]
    by_cases e2 : nb ≤ zone j
    · rw [if_pos e2, if_pos e2]
    · rw [if_neg e2, if_neg e2]
      exact zlfk_B _ (fun k hk => H _ _ (by omega) (by omega))
def zChn (M : zM) (s x : Int) : Prop := ∃ (M1 : zM) (L : Int → Int), zWay M M1 (M 202 (4 * s)) ∧ ((1000000 ≤ M1 214 0 ∧ x = -2) ∨ (M1 214 0 < 1000000 ∧ ¬ zwrn (M1 215) (M 200 2) s ∧ x = -2) ∨ (M1 214 0 < 1000000 ∧ zwrn (M1 215) (M 200 2) s ∧ zLst (zchA M1 s) (M 200 2) (M1 200 11) L (-1) ∧ ((1000000 ≤ L 0 ∧ x = -4) ∨ (L 0 < 1000000 ∧ x = L 0))))
set_option maxHeartbeats 4000000 in
set_option maxRecDepth 100000 in
theorem u_shod {G : zG} {ad : Int → Nat} {M : zM} {d b : Int} (hd : -2147483648 ≤ d ∧ d ≤ 2147483647) (hb : -2147483648 ≤ b ∧ b ≤ 2147483647) (hnb : 0 ≤ M 200 2 ∧ M 200 2 ≤ 7) (hns : 0 ≤ M 200 3 ∧ M 200 3 ≤ 16) (hB : ∀ b, 0 ≤ b ∧ b < M 200 2 → zMB M b) (hS : ∀ s, 0 ≤ s ∧ s < M 200 3 → zMS M s) (h0 : 0 ≤ M 205 0 ∧ M 205 0 ≤ 6) (h1 : 0 ≤ M 205 1 ∧ M 205 1 ≤ 6)  : zTI G (zw ad) mi_X8_shod [zr 200, zi d, zi b] M (fun x M' => zfrM M M' ∧ ((¬ ((0 ≤ d ∧ d ≤ 1) ∧ (-1 ≤ b ∧ b < M 200 2)) ∧ x = -1) ∨ (((0 ≤ d ∧ d ≤ 1) ∧ (-1 ≤ b ∧ b < M 200 2)) ∧ zWay M M' d ∧ ((1000000 ≤ M' 214 0 ∧ x = -4) ∨ (M' 214 0 < 1000000 ∧ b < 0 ∧ x = M' 214 0) ∨ (M' 214 0 < 1000000 ∧ 0 ≤ b ∧ x = M' 215 b))))) := by
  refine zTI.of (own := RX8) (ls := [some (zr 200), some (zi d), some (zi b), none]) (by decide +kernel) rfl rfl (Nat.le_of_ble_eq_true rfl) (fun γ ok rt => ?_)
  refine v_iload_1 ok dX8_shod_0 (n := 1) rfl ?_
  refine v_i2l ok (by omega) dX8_shod_1 (n := 2) rfl ?_
  refine v_lconst0 ok dX8_shod_2 (n := 3) rfl ?_
  refine v_lconst1 ok dX8_shod_3 (n := 4) rfl ?_
  refine v_callSI ok (mi := mi_X8_in) mc_X8_in cs_X8_85 (by decide) ⟨Nat.zero_le _, Nat.zero_le _⟩ dX8_shod_4 (n := 7) rfl rfl rfl (Nat.le_of_ble_eq_true rfl) (u_in (by omega) (by omega) (by omega)) (fun x5 M5 h5 => ?_)
  obtain ⟨e5_, h5⟩ := h5
  subst M5
  refine v_if_eq ok dX8_shod_7 (tgt := 28) (by decide) (n := 10) rfl (by omega) (fun c7_1 => ?_) (fun c7_1 => ?_)
  · have c7_1 := c7_1
    refine v_iconst ok dX8_shod_28 (n := 29) rfl ?_
    refine v_iret rt dX8_shod_29 ?_
    exact ⟨zfrM_r M, Or.inl ⟨by omega, rfl⟩⟩
  · have c7_1 := c7_1
    refine v_iload_2 ok dX8_shod_10 (n := 11) rfl ?_
    refine v_i2l ok (by omega) dX8_shod_11 (n := 12) rfl ?_
    refine v_ldc2 ok (c := -1) kc_X8_200 (by decide) dX8_shod_12 (n := 15) rfl ?_
    refine v_aload_0 ok dX8_shod_15 (n := 16) rfl ?_
    refine v_getI ok fd_X8_81 ly_200 rfl rfl (jI := 2) rfl dX8_shod_16 (n := 19) rfl ?_
    refine v_iconst ok dX8_shod_19 (n := 20) rfl ?_
    refine v_isub ok dX8_shod_20 (n := 21) rfl ?_
    refine v_i2l ok (by omega) dX8_shod_21 (n := 22) rfl ?_
    refine v_callSI ok (mi := mi_X8_in) mc_X8_in cs_X8_85 (by decide) ⟨Nat.zero_le _, Nat.zero_le _⟩ dX8_shod_22 (n := 25) rfl rfl rfl (Nat.le_of_ble_eq_true rfl) (u_in (by omega) (by omega) (by omega)) (fun x6 M6 h6 => ?_)
    obtain ⟨e6_, h6⟩ := h6
    subst M6
    refine v_if_ne ok dX8_shod_25 (tgt := 30) (by decide) (n := 28) rfl (by omega) (fun c25_2 => ?_) (fun c25_2 => ?_)
    · have c25_2 := c25_2
      refine v_aload_0 ok dX8_shod_30 (n := 31) rfl ?_
      refine v_iload_1 ok dX8_shod_31 (n := 32) rfl ?_
      refine v_callVI ok (mi := mi_X8_findWay) mc_X8_findWay cv_X8_202 ly_200 rfl rfl rfl (by decide) ⟨Nat.zero_le _, Nat.zero_le _⟩ dX8_shod_32 (n := 35) rfl rfl rfl (Nat.le_of_ble_eq_true rfl) (u_findWay (by omega) hnb hns hB hS h0 h1) (fun x3 M3 g3 => ?_)
      obtain ⟨wy, e3⟩ := g3
      have wb := zWay_b wy
      subst x3
      refine v_istore_3 ok (by decide) rfl dX8_shod_35 (n := 36) rfl ?_
      refine v_iload_3 ok dX8_shod_36 (n := 37) rfl ?_
      refine v_ldc ok (c := 1000000) kc_X8_192 (by decide) dX8_shod_37 (n := 39) rfl ?_
      refine v_icmp_lt ok dX8_shod_39 (tgt := 47) (by decide) (n := 42) rfl (by omega) (by omega) (fun c39_3 => ?_) (fun c39_3 => ?_)
      · have c39_3 := c39_3
        refine v_iload_2 ok dX8_shod_47 (n := 48) rfl ?_
        refine v_if_ge ok dX8_shod_48 (tgt := 55) (by decide) (n := 51) rfl (by omega) (fun c48_4 => ?_) (fun c48_4 => ?_)
        · have c48_4 := c48_4
          refine v_aload_0 ok dX8_shod_55 (n := 56) rfl ?_
          refine v_getR ok fd_X8_35 ly_200 rfl rfl rfl rf_200_14 dX8_shod_56 (n := 59) rfl ?_
          refine v_iload_2 ok dX8_shod_59 (n := 60) rfl ?_
          refine v_iald ok ly_215 rfl (by omega) (by decide) dX8_shod_60 (n := 61) rfl ?_
          refine v_iret rt dX8_shod_61 ?_
          refine ⟨zfrM_w wy, Or.inr ⟨by omega, wy, ?_⟩⟩
          first
          | exact Or.inl ⟨by omega, rfl⟩
          | exact Or.inr (Or.inl ⟨by omega, by omega, rfl⟩)
          | exact Or.inr (Or.inr ⟨by omega, by omega, rfl⟩)
        · have c48_4 := c48_4
          refine v_iload_3 ok dX8_shod_51 (n := 52) rfl ?_
          refine v_goto ok dX8_shod_52 (n := 61) (by decide) ?_
          refine v_iret rt dX8_shod_61 ?_
          refine ⟨zfrM_w wy, Or.inr ⟨by omega, wy, ?_⟩⟩
          first
          | exact Or.inl ⟨by omega, rfl⟩
          | exact Or.inr (Or.inl ⟨by omega, by omega, rfl⟩)
          | exact Or.inr (Or.inr ⟨by omega, by omega, rfl⟩)
      · have c39_3 := c39_3
        refine v_bipush ok (by decide) dX8_shod_42 (n := 44) rfl ?_
        refine v_goto ok dX8_shod_44 (n := 61) (by decide) ?_
        refine v_iret rt dX8_shod_61 ?_
        refine ⟨zfrM_w wy, Or.inr ⟨by omega, wy, ?_⟩⟩
        first
        | exact Or.inl ⟨by omega, rfl⟩
        | exact Or.inr (Or.inl ⟨by omega, by omega, rfl⟩)
        | exact Or.inr (Or.inr ⟨by omega, by omega, rfl⟩)
    · have c25_2 := c25_2
      refine v_iconst ok dX8_shod_28 (n := 29) rfl ?_
      refine v_iret rt dX8_shod_29 ?_
      exact ⟨zfrM_r M, Or.inl ⟨by omega, rfl⟩⟩

set_option maxHeartbeats 4000000 in
set_option maxRecDepth 100000 in
theorem u_chain {G : zG} {ad : Int → Nat} {M : zM} {s : Int} (hs2 : -2147483648 ≤ s ∧ s ≤ 2147483647) (hnb : 0 ≤ M 200 2 ∧ M 200 2 ≤ 7) (hns : 0 ≤ M 200 3 ∧ M 200 3 ≤ 16) (hB : ∀ b, 0 ≤ b ∧ b < M 200 2 → zMB M b) (hS : ∀ s, 0 ≤ s ∧ s < M 200 3 → zMS M s) (h0 : 0 ≤ M 205 0 ∧ M 205 0 ≤ 6) (h1 : 0 ≤ M 205 1 ∧ M 205 1 ≤ 6)  : zTI G (zw ad) mi_X8_chain [zr 200, zi s] M (fun x M' => zfrM M M' ∧ ((¬ (0 ≤ s ∧ s < M 200 3) ∧ x = -1) ∨ ((0 ≤ s ∧ s < M 200 3) ∧ M 202 (4 * s + 3) ≠ 0 ∧ x = -2) ∨ ((0 ≤ s ∧ s < M 200 3) ∧ M 202 (4 * s + 3) = 0 ∧ zChn M s x))) := by
  refine zTI.of (own := RX8) (ls := [some (zr 200), some (zi s), none, none, none, none]) (by decide +kernel) rfl rfl (Nat.le_of_ble_eq_true rfl) (fun γ ok rt => ?_)
  refine v_aload_0 ok dX8_chain_0 (n := 1) rfl ?_
  refine v_iload_1 ok dX8_chain_1 (n := 2) rfl ?_
  refine v_callVI ok (mi := mi_X8_isShoe) mc_X8_isShoe cv_X8_116 ly_200 rfl rfl rfl (by decide) ⟨Nat.zero_le _, Nat.zero_le _⟩ dX8_chain_2 (n := 5) rfl rfl rfl (Nat.le_of_ble_eq_true rfl) (u_isShoe hs2 (by omega)) (fun x5 M5 h5 => ?_)
  obtain ⟨e5_, h5⟩ := h5
  subst M5
  refine v_if_ne ok dX8_chain_5 (tgt := 10) (by decide) (n := 8) rfl (by omega) (fun c5_1 => ?_) (fun c5_1 => ?_)
  · have c5_1 := c5_1
    have hss := hS s (by omega)
    have hS0 := hss.1
    have hS3 := hss.2.2.2
    refine v_aload_0 ok dX8_chain_10 (n := 11) rfl ?_
    refine v_getR ok fd_X8_13 ly_200 rfl rfl rfl rf_200_1 dX8_chain_11 (n := 14) rfl ?_
    refine v_iconst ok dX8_chain_14 (n := 15) rfl ?_
    refine v_iload_1 ok dX8_chain_15 (n := 16) rfl ?_
    refine v_imul ok dX8_chain_16 (n := 17) rfl ?_
    refine v_iconst ok dX8_chain_17 (n := 18) rfl ?_
    refine v_iadd ok dX8_chain_18 (n := 19) rfl ?_
    refine v_iald ok ly_202 rfl (by omega) (by decide) dX8_chain_19 (n := 20) rfl ?_
    refine v_iconst ok dX8_chain_20 (n := 21) rfl ?_
    refine v_icmp_eq ok dX8_chain_21 (tgt := 41) (by decide) (n := 24) rfl (by omega) (by omega) (fun c21_2 => ?_) (fun c21_2 => ?_)
    · have c21_2 := c21_2
      refine v_bipush ok (by decide) dX8_chain_41 (n := 43) rfl ?_
      refine v_iret rt dX8_chain_43 ?_
      first
      | exact ⟨zfrM_r M, Or.inr (Or.inl ⟨by omega, by omega, rfl⟩)⟩
      | exact ⟨zfrM_w wy, Or.inr (Or.inr ⟨by omega, by omega, M1, fun _ => 0, wy, Or.inl ⟨by omega, rfl⟩⟩)⟩
    · have c21_2 := c21_2
      refine v_aload_0 ok dX8_chain_24 (n := 25) rfl ?_
      refine v_aload_0 ok dX8_chain_25 (n := 26) rfl ?_
      refine v_getR ok fd_X8_13 ly_200 rfl rfl rfl rf_200_1 dX8_chain_26 (n := 29) rfl ?_
      refine v_iconst ok dX8_chain_29 (n := 30) rfl ?_
      refine v_iload_1 ok dX8_chain_30 (n := 31) rfl ?_
      refine v_imul ok dX8_chain_31 (n := 32) rfl ?_
      refine v_iald ok ly_202 rfl (by omega) (by decide) dX8_chain_32 (n := 33) rfl ?_
      refine v_callVI ok (mi := mi_X8_findWay) mc_X8_findWay cv_X8_202 ly_200 rfl rfl rfl (by decide) ⟨Nat.zero_le _, Nat.zero_le _⟩ dX8_chain_33 (n := 36) rfl rfl rfl (Nat.le_of_ble_eq_true rfl) (u_findWay hS0 hnb hns hB hS h0 h1) (fun x1 M1 g1 => ?_)
      obtain ⟨wy, e1⟩ := g1
      have wb := zWay_b wy
      have w16 : M1 200 11 ≤ 16 := by
        have := zcnt_b (zMP M (M 202 (4 * s))) (M 200 3).toNat
        rw [wy.2.2.1]
        omega
      have w0 : 0 ≤ M1 200 11 := by
        have := zcnt_b (zMP M (M 202 (4 * s))) (M 200 3).toNat
        rw [wy.2.2.1]
        omega
      have k2 : M1 200 2 = M 200 2 := wy.2.1 2 (by omega)
      have hA : ∀ b k, 0 ≤ b ∧ b < M 200 2 → 0 ≤ k ∧ k < M1 200 11 → -4 ≤ M1 213 (16 * b + k) ∧ M1 213 (16 * b + k) ≤ 6 := by
        intro b k hb hk
        rw [wy.2.2.2.2.1 b k hb hk]
        have := zask_b (foot := zfo (zQB M b) (M 202 (4 * M1 211 k)) (M 201 (4 * b + 3))) (size := M 202 (4 * M1 211 k + 1)) (kind := M 202 (4 * M1 211 k + 2)) (loose := M 205 0) h1
        unfold zask2
        omega
      subst x1
      refine v_ldc ok (c := 1000000) kc_X8_192 (by decide) dX8_chain_36 (n := 38) rfl ?_
      refine v_icmp_lt ok dX8_chain_38 (tgt := 44) (by decide) (n := 41) rfl (by omega) (by omega) (fun c38_3 => ?_) (fun c38_3 => ?_)
      · have c38_3 := c38_3
        have k89 : ∀ (o : Int) (l3 : Option zV), zwrn (M1 215) (M 200 2) s → zVV G γ (zw ad) (0, 0) 89 [some (zr 200), some (zi s), some (zi o), l3, none, none] [] M1 := by
          intro o l3 hwn
          have lpb : ∀ (zn : Nat) (b : Int) (l4 l5 : Option zV) (Mx : zM), zn = (8 - b).toNat → (0 ≤ b ∧ b ≤ M 200 2) → (∀ r, r ≠ 213 → Mx r = M1 r) → (zchI M1 Mx s (M 200 2) (M1 200 11) b 0) → zVV G γ (zw ad) (0, 0) 91 [some (zr 200), some (zi s), some (zi o), some (zi b), l4, l5] [] Mx := by
            refine zrec _ (fun zn ih => ?_)
            intro b l4 l5 Mx hzn hb fx hI
            refine v_iload_3 ok dX8_chain_91 (n := 92) rfl ?_
            refine v_aload_0 ok dX8_chain_92 (n := 93) rfl ?_
            refine v_getI ok fd_X8_81 ly_200 rfl rfl (jI := 2) rfl dX8_chain_93 (n := 96) rfl ?_
            try simp (disch := omega) only [fx, k2]
            refine v_icmp_ge ok dX8_chain_96 (tgt := 191) (by decide) (n := 99) rfl (by omega) (by omega) (fun c96_1 => ?_) (fun c96_1 => ?_)
            · have c96_1 := c96_1
              refine v_aload_0 ok dX8_chain_191 (n := 192) rfl ?_
              have hA2 : ∀ c k, 0 ≤ c ∧ c < Mx 200 2 → 0 ≤ k ∧ k < Mx 200 11 → Mx 213 (16 * c + k) = zchA M1 s c k := by
                intro c k hc hk
                rw [fx 200 (by omega), k2] at hc
                rw [fx 200 (by omega)] at hk
                rw [hI c k (by omega) (by omega), if_pos (by omega)]
              have hA3 : ∀ c k, 0 ≤ c ∧ c < Mx 200 2 → 0 ≤ k ∧ k < Mx 200 11 → -4 ≤ Mx 213 (16 * c + k) ∧ Mx 213 (16 * c + k) ≤ 6 := by
                intro c k hc hk
                rw [hA2 c k hc hk]
                exact zchA_b
              refine v_callVI ok (mi := mi_X8_findLeast) mc_X8_findLeast cv_X8_197 ly_200 rfl rfl rfl (by decide) ⟨Nat.zero_le _, Nat.zero_le _⟩ dX8_chain_192 (n := 195) rfl rfl rfl (Nat.le_of_ble_eq_true rfl) (u_findLeast (by rw [fx 200 (by omega), k2]; exact hnb) (by rw [fx 200 (by omega)]; omega) hA3) (fun x5 M5 g5 => ?_)
              obtain ⟨f5, hl5, e5⟩ := g5
              have hl6 := zLst_B (by rw [fx 200 (by omega)]; omega) hA2 hl5
              rw [fx 200 (by omega), k2] at hl6
              have h50 := (hl6 0 (by have := zp2_pos (M1 200 11); omega)).2
              subst x5
              refine v_istore_3 ok (by decide) rfl dX8_chain_195 (n := 196) rfl ?_
              refine v_iload_3 ok dX8_chain_196 (n := 197) rfl ?_
              refine v_ldc ok (c := 1000000) kc_X8_192 (by decide) dX8_chain_197 (n := 199) rfl ?_
              refine v_icmp_lt ok dX8_chain_199 (tgt := 207) (by decide) (n := 202) rfl (by omega) (by omega) (fun c199_2 => ?_) (fun c199_2 => ?_)
              · have c199_2 := c199_2
                refine v_iload_3 ok dX8_chain_207 (n := 208) rfl ?_
                refine v_iret rt dX8_chain_208 ?_
                refine ⟨zfrM_t (zfrM_w wy) ⟨fun r hr => by rw [f5 r (by omega), fx r (by omega)], fun j _ _ _ => by rw [f5 200 (by omega), fx 200 (by omega)]⟩, Or.inr (Or.inr ⟨by omega, by omega, M1, M5 214, wy, Or.inr (Or.inr ⟨by omega, hwn, hl6, ?_⟩)⟩)⟩
                first
                | exact Or.inl ⟨by omega, rfl⟩
                | exact Or.inr ⟨by omega, rfl⟩
              · have c199_2 := c199_2
                refine v_bipush ok (by decide) dX8_chain_202 (n := 204) rfl ?_
                refine v_goto ok dX8_chain_204 (n := 208) (by decide) ?_
                refine v_iret rt dX8_chain_208 ?_
                refine ⟨zfrM_t (zfrM_w wy) ⟨fun r hr => by rw [f5 r (by omega), fx r (by omega)], fun j _ _ _ => by rw [f5 200 (by omega), fx 200 (by omega)]⟩, Or.inr (Or.inr ⟨by omega, by omega, M1, M5 214, wy, Or.inr (Or.inr ⟨by omega, hwn, hl6, ?_⟩)⟩)⟩
                first
                | exact Or.inl ⟨by omega, rfl⟩
                | exact Or.inr ⟨by omega, rfl⟩
            · have c96_1 := c96_1
              have ih2 := ih
              have lpk : ∀ (zn : Nat) (k : Int) (l5 : Option zV) (Mx : zM), zn = (17 - k).toNat → (0 ≤ k ∧ k ≤ M1 200 11) → (∀ r, r ≠ 213 → Mx r = M1 r) → (zchI M1 Mx s (M 200 2) (M1 200 11) b k) → zVV G γ (zw ad) (0, 0) 102 [some (zr 200), some (zi s), some (zi o), some (zi b), some (zi k), l5] [] Mx := by
                refine zrec _ (fun zn ih => ?_)
                intro k l5 Mx hzn hk fx hI
                refine v_iload_4 ok dX8_chain_102 (n := 104) rfl ?_
                refine v_aload_0 ok dX8_chain_104 (n := 105) rfl ?_
                refine v_getI ok fd_X8_186 ly_200 rfl rfl (jI := 11) rfl dX8_chain_105 (n := 108) rfl ?_
                try simp (disch := omega) only [fx, k2]
                refine v_icmp_ge ok dX8_chain_108 (tgt := 185) (by decide) (n := 111) rfl (by omega) (by omega) (fun c108_1 => ?_) (fun c108_1 => ?_)
                · have c108_1 := c108_1
                  refine v_iinc_3 ok (by decide) rfl dX8_chain_185 (n := 188) rfl ?_
                  refine v_goto ok dX8_chain_188 (n := 91) (by decide) ?_
                  exact ih2 _ (by omega) (b + 1) _ _ _ rfl (by omega) fx (zchI_n (by omega) hI)
                · have c108_1 := c108_1
                  have hk11 := zWay_k wy (show 0 ≤ k ∧ k < M1 200 11 by omega)
                  have hb15 := zWay_s wy (by omega) (show 0 ≤ b ∧ b < M 200 2 by omega)
                  have hab := hA b k (by omega) (by omega)
                  have hxk := hI b k (by omega) (by omega)
                  rw [if_neg (by omega)] at hxk
                  refine v_aload_0 ok dX8_chain_111 (n := 112) rfl ?_
                  refine v_getR ok fd_X8_28 ly_200 rfl rfl rfl rf_200_12 dX8_chain_112 (n := 115) rfl ?_
                  refine v_bipush ok (by decide) dX8_chain_115 (n := 117) rfl ?_
                  refine v_iload_3 ok dX8_chain_117 (n := 118) rfl ?_
                  refine v_imul ok dX8_chain_118 (n := 119) rfl ?_
                  refine v_iload_4 ok dX8_chain_119 (n := 121) rfl ?_
                  refine v_iadd ok dX8_chain_121 (n := 122) rfl ?_
                  refine v_iald ok ly_213 rfl (by omega) (by decide) dX8_chain_122 (n := 123) rfl ?_
                  try simp (disch := omega) only [fx, k2]
                  rw [hxk]
                  refine v_istore_5 ok (by decide) rfl dX8_chain_123 (n := 125) rfl ?_
                  refine v_aload_0 ok dX8_chain_125 (n := 126) rfl ?_
                  refine v_getR ok fd_X8_28 ly_200 rfl rfl rfl rf_200_12 dX8_chain_126 (n := 129) rfl ?_
                  refine v_bipush ok (by decide) dX8_chain_129 (n := 131) rfl ?_
                  refine v_iload_3 ok dX8_chain_131 (n := 132) rfl ?_
                  refine v_imul ok dX8_chain_132 (n := 133) rfl ?_
                  refine v_iload_4 ok dX8_chain_133 (n := 135) rfl ?_
                  refine v_iadd ok dX8_chain_135 (n := 136) rfl ?_
                  refine v_iload_5 ok dX8_chain_136 (n := 138) rfl ?_
                  refine v_if_lt ok dX8_chain_138 (tgt := 152) (by decide) (n := 141) rfl (by omega) (fun c138_2 => ?_) (fun c138_2 => ?_)
                  · have c138_2 := c138_2
                    refine v_bipush ok (by decide) dX8_chain_152 (n := 154) rfl ?_
                    refine v_goto ok dX8_chain_154 (n := 178) (by decide) ?_
                    refine v_iast ok ly_213 rfl (by omega) (by decide) dX8_chain_178 (n := 179) rfl ?_
                    refine v_iinc_4 ok (by decide) rfl dX8_chain_179 (n := 182) rfl ?_
                    refine v_goto ok dX8_chain_182 (n := 102) (by decide) ?_
                    refine ih _ (by omega) (k + 1) _ _ rfl (by omega) (fun r hr => by rw [zset_o hr]; exact fx r hr) (zchI_s w16 (by omega) (by omega) ?_ hI)
                    unfold zchA
                    first
                    | rw [if_pos (by omega)]
                    | rw [if_neg (by omega), if_pos (by omega)]
                    | rw [if_neg (by omega), if_neg (by omega)]
                  · have c138_2 := c138_2
                    refine v_aload_0 ok dX8_chain_141 (n := 142) rfl ?_
                    refine v_getR ok fd_X8_25 ly_200 rfl rfl rfl rf_200_10 dX8_chain_142 (n := 145) rfl ?_
                    refine v_iload_4 ok dX8_chain_145 (n := 147) rfl ?_
                    refine v_iald ok ly_211 rfl (by omega) (by decide) dX8_chain_147 (n := 148) rfl ?_
                    try simp (disch := omega) only [fx, k2]
                    refine v_iload_1 ok dX8_chain_148 (n := 149) rfl ?_
                    refine v_icmp_ne ok dX8_chain_149 (tgt := 157) (by decide) (n := 152) rfl (by omega) (by omega) (fun c149_3 => ?_) (fun c149_3 => ?_)
                    · have c149_3 := c149_3
                      refine v_aload_0 ok dX8_chain_157 (n := 158) rfl ?_
                      refine v_getR ok fd_X8_35 ly_200 rfl rfl rfl rf_200_14 dX8_chain_158 (n := 161) rfl ?_
                      refine v_iload_3 ok dX8_chain_161 (n := 162) rfl ?_
                      refine v_iald ok ly_215 rfl (by omega) (by decide) dX8_chain_162 (n := 163) rfl ?_
                      try simp (disch := omega) only [fx, k2]
                      refine v_aload_0 ok dX8_chain_163 (n := 164) rfl ?_
                      refine v_getR ok fd_X8_25 ly_200 rfl rfl rfl rf_200_10 dX8_chain_164 (n := 167) rfl ?_
                      refine v_iload_4 ok dX8_chain_167 (n := 169) rfl ?_
                      refine v_iald ok ly_211 rfl (by omega) (by decide) dX8_chain_169 (n := 170) rfl ?_
                      try simp (disch := omega) only [fx, k2]
                      refine v_icmp_ne ok dX8_chain_170 (tgt := 177) (by decide) (n := 173) rfl (by omega) (by omega) (fun c170_4 => ?_) (fun c170_4 => ?_)
                      · have c170_4 := c170_4
                        refine v_iconst ok dX8_chain_177 (n := 178) rfl ?_
                        refine v_iast ok ly_213 rfl (by omega) (by decide) dX8_chain_178 (n := 179) rfl ?_
                        refine v_iinc_4 ok (by decide) rfl dX8_chain_179 (n := 182) rfl ?_
                        refine v_goto ok dX8_chain_182 (n := 102) (by decide) ?_
                        refine ih _ (by omega) (k + 1) _ _ rfl (by omega) (fun r hr => by rw [zset_o hr]; exact fx r hr) (zchI_s w16 (by omega) (by omega) ?_ hI)
                        unfold zchA
                        first
                        | rw [if_pos (by omega)]
                        | rw [if_neg (by omega), if_pos (by omega)]
                        | rw [if_neg (by omega), if_neg (by omega)]
                      · have c170_4 := c170_4
                        refine v_iconst ok dX8_chain_173 (n := 174) rfl ?_
                        refine v_goto ok dX8_chain_174 (n := 178) (by decide) ?_
                        refine v_iast ok ly_213 rfl (by omega) (by decide) dX8_chain_178 (n := 179) rfl ?_
                        refine v_iinc_4 ok (by decide) rfl dX8_chain_179 (n := 182) rfl ?_
                        refine v_goto ok dX8_chain_182 (n := 102) (by decide) ?_
                        refine ih _ (by omega) (k + 1) _ _ rfl (by omega) (fun r hr => by rw [zset_o hr]; exact fx r hr) (zchI_s w16 (by omega) (by omega) ?_ hI)
                        unfold zchA
                        first
                        | rw [if_pos (by omega)]
                        | rw [if_neg (by omega), if_pos (by omega)]
                        | rw [if_neg (by omega), if_neg (by omega)]
                    · have c149_3 := c149_3
                      refine v_bipush ok (by decide) dX8_chain_152 (n := 154) rfl ?_
                      refine v_goto ok dX8_chain_154 (n := 178) (by decide) ?_
                      refine v_iast ok ly_213 rfl (by omega) (by decide) dX8_chain_178 (n := 179) rfl ?_
                      refine v_iinc_4 ok (by decide) rfl dX8_chain_179 (n := 182) rfl ?_
                      refine v_goto ok dX8_chain_182 (n := 102) (by decide) ?_
                      refine ih _ (by omega) (k + 1) _ _ rfl (by omega) (fun r hr => by rw [zset_o hr]; exact fx r hr) (zchI_s w16 (by omega) (by omega) ?_ hI)
                      unfold zchA
                      first
                      | rw [if_pos (by omega)]
                      | rw [if_neg (by omega), if_pos (by omega)]
                      | rw [if_neg (by omega), if_neg (by omega)]
              refine v_iconst ok dX8_chain_99 (n := 100) rfl ?_
              refine v_istore_4 ok (by decide) rfl dX8_chain_100 (n := 102) rfl ?_
              exact lpk _ 0 _ Mx rfl (by omega) fx hI
          refine v_iconst ok dX8_chain_89 (n := 90) rfl ?_
          refine v_istore_3 ok (by decide) rfl dX8_chain_90 (n := 91) rfl ?_
          exact lpb _ 0 _ _ M1 rfl (by omega) (fun _ _ => rfl) (fun c j hc hj => by rw [if_neg (by omega)])
        have lpa : ∀ (zn : Nat) (b o : Int), zn = (8 - b).toNat → (0 ≤ b ∧ b ≤ M 200 2) → ((o = 1 ∧ zwrn (M1 215) b s) ∨ (o = 0 ∧ ¬ zwrn (M1 215) b s)) → zVV G γ (zw ad) (0, 0) 48 [some (zr 200), some (zi s), some (zi o), some (zi b), none, none] [] M1 := by
          refine zrec _ (fun zn ih => ?_)
          intro b o hzn hb ho
          have ho1 : o = 0 ∨ o = 1 := by
            rcases ho with ⟨h, _⟩ | ⟨h, _⟩ <;> omega
          refine v_iload_3 ok dX8_chain_48 (n := 49) rfl ?_
          refine v_aload_0 ok dX8_chain_49 (n := 50) rfl ?_
          refine v_getI ok fd_X8_81 ly_200 rfl rfl (jI := 2) rfl dX8_chain_50 (n := 53) rfl ?_
          try simp (disch := omega) only [k2]
          refine v_icmp_ge ok dX8_chain_53 (tgt := 82) (by decide) (n := 56) rfl (by omega) (by omega) (fun c53_1 => ?_) (fun c53_1 => ?_)
          · have c53_1 := c53_1
            refine v_iload_2 ok dX8_chain_82 (n := 83) rfl ?_
            refine v_if_ne ok dX8_chain_83 (tgt := 89) (by decide) (n := 86) rfl (by omega) (fun c83_2 => ?_) (fun c83_2 => ?_)
            · have c83_2 := c83_2
              refine k89 _ _ ?_
              rcases ho with ⟨_, g⟩ | ⟨h, _⟩
              · rw [show M 200 2 = b by omega]
                exact g
              · exfalso
                omega
            · have c83_2 := c83_2
              refine v_bipush ok (by decide) dX8_chain_86 (n := 88) rfl ?_
              refine v_iret rt dX8_chain_88 ?_
              refine ⟨zfrM_w wy, Or.inr (Or.inr ⟨by omega, by omega, M1, fun _ => 0, wy, Or.inr (Or.inl ⟨by omega, ?_, rfl⟩)⟩)⟩
              rcases ho with ⟨h, _⟩ | ⟨_, g⟩
              · exfalso
                omega
              · rw [show M 200 2 = b by omega]
                exact g
          · have c53_1 := c53_1
            refine v_iload_2 ok dX8_chain_56 (n := 57) rfl ?_
            refine v_if_ne ok dX8_chain_57 (tgt := 70) (by decide) (n := 60) rfl (by omega) (fun c57_3 => ?_) (fun c57_3 => ?_)
            · have c57_3 := c57_3
              refine v_iconst ok dX8_chain_70 (n := 71) rfl ?_
              refine v_goto ok dX8_chain_71 (n := 75) (by decide) ?_
              refine v_istore_2 ok (by decide) rfl dX8_chain_75 (n := 76) rfl ?_
              refine v_iinc_3 ok (by decide) rfl dX8_chain_76 (n := 79) rfl ?_
              refine v_goto ok dX8_chain_79 (n := 48) (by decide) ?_
              refine ih _ (by omega) (b + 1) _ rfl (by omega) ?_
              have hnw : zwrn (M1 215) (b + 1) s ↔ zwrn (M1 215) b s ∨ M1 215 b = s := by
                constructor
                · rintro ⟨c, hc, h⟩
                  by_cases e : c = b
                  · exact Or.inr (by rw [← e]; exact h)
                  · exact Or.inl ⟨c, by omega, h⟩
                · rintro (⟨c, hc, h⟩ | h)
                  · exact ⟨c, by omega, h⟩
                  · exact ⟨b, by omega, h⟩
              rcases ho with ⟨h, g⟩ | ⟨h, g⟩
              · first
                | (exfalso; omega)
                | exact Or.inl ⟨rfl, hnw.2 (Or.inl g)⟩
              · first
                | exact Or.inl ⟨rfl, hnw.2 (Or.inr (by omega))⟩
                | exact Or.inr ⟨rfl, fun q => (hnw.1 q).elim g (by omega)⟩
                | (exfalso; omega)
            · have c57_3 := c57_3
              have hb15 := zWay_s wy (by omega) (show 0 ≤ b ∧ b < M 200 2 by omega)
              refine v_aload_0 ok dX8_chain_60 (n := 61) rfl ?_
              refine v_getR ok fd_X8_35 ly_200 rfl rfl rfl rf_200_14 dX8_chain_61 (n := 64) rfl ?_
              refine v_iload_3 ok dX8_chain_64 (n := 65) rfl ?_
              refine v_iald ok ly_215 rfl (by omega) (by decide) dX8_chain_65 (n := 66) rfl ?_
              try simp (disch := omega) only [k2]
              refine v_iload_1 ok dX8_chain_66 (n := 67) rfl ?_
              refine v_icmp_ne ok dX8_chain_67 (tgt := 74) (by decide) (n := 70) rfl (by omega) (by omega) (fun c67_4 => ?_) (fun c67_4 => ?_)
              · have c67_4 := c67_4
                refine v_iconst ok dX8_chain_74 (n := 75) rfl ?_
                refine v_istore_2 ok (by decide) rfl dX8_chain_75 (n := 76) rfl ?_
                refine v_iinc_3 ok (by decide) rfl dX8_chain_76 (n := 79) rfl ?_
                refine v_goto ok dX8_chain_79 (n := 48) (by decide) ?_
                refine ih _ (by omega) (b + 1) _ rfl (by omega) ?_
                have hnw : zwrn (M1 215) (b + 1) s ↔ zwrn (M1 215) b s ∨ M1 215 b = s := by
                  constructor
                  · rintro ⟨c, hc, h⟩
                    by_cases e : c = b
                    · exact Or.inr (by rw [← e]; exact h)
                    · exact Or.inl ⟨c, by omega, h⟩
                  · rintro (⟨c, hc, h⟩ | h)
                    · exact ⟨c, by omega, h⟩
                    · exact ⟨b, by omega, h⟩
                rcases ho with ⟨h, g⟩ | ⟨h, g⟩
                · first
                  | (exfalso; omega)
                  | exact Or.inl ⟨rfl, hnw.2 (Or.inl g)⟩
                · first
                  | exact Or.inl ⟨rfl, hnw.2 (Or.inr (by omega))⟩
                  | exact Or.inr ⟨rfl, fun q => (hnw.1 q).elim g (by omega)⟩
                  | (exfalso; omega)
              · have c67_4 := c67_4
                refine v_iconst ok dX8_chain_70 (n := 71) rfl ?_
                refine v_goto ok dX8_chain_71 (n := 75) (by decide) ?_
                refine v_istore_2 ok (by decide) rfl dX8_chain_75 (n := 76) rfl ?_
                refine v_iinc_3 ok (by decide) rfl dX8_chain_76 (n := 79) rfl ?_
                refine v_goto ok dX8_chain_79 (n := 48) (by decide) ?_
                refine ih _ (by omega) (b + 1) _ rfl (by omega) ?_
                have hnw : zwrn (M1 215) (b + 1) s ↔ zwrn (M1 215) b s ∨ M1 215 b = s := by
                  constructor
                  · rintro ⟨c, hc, h⟩
                    by_cases e : c = b
                    · exact Or.inr (by rw [← e]; exact h)
                    · exact Or.inl ⟨c, by omega, h⟩
                  · rintro (⟨c, hc, h⟩ | h)
                    · exact ⟨c, by omega, h⟩
                    · exact ⟨b, by omega, h⟩
                rcases ho with ⟨h, g⟩ | ⟨h, g⟩
                · first
                  | (exfalso; omega)
                  | exact Or.inl ⟨rfl, hnw.2 (Or.inl g)⟩
                · first
                  | exact Or.inl ⟨rfl, hnw.2 (Or.inr (by omega))⟩
                  | exact Or.inr ⟨rfl, fun q => (hnw.1 q).elim g (by omega)⟩
                  | (exfalso; omega)
        refine v_iconst ok dX8_chain_44 (n := 45) rfl ?_
        refine v_istore_2 ok (by decide) rfl dX8_chain_45 (n := 46) rfl ?_
        refine v_iconst ok dX8_chain_46 (n := 47) rfl ?_
        refine v_istore_3 ok (by decide) rfl dX8_chain_47 (n := 48) rfl ?_
        exact lpa _ 0 0 rfl (by omega) (Or.inr ⟨rfl, fun ⟨c, hc, _⟩ => by omega⟩)
      · have c38_3 := c38_3
        refine v_bipush ok (by decide) dX8_chain_41 (n := 43) rfl ?_
        refine v_iret rt dX8_chain_43 ?_
        first
        | exact ⟨zfrM_r M, Or.inr (Or.inl ⟨by omega, by omega, rfl⟩)⟩
        | exact ⟨zfrM_w wy, Or.inr (Or.inr ⟨by omega, by omega, M1, fun _ => 0, wy, Or.inl ⟨by omega, rfl⟩⟩)⟩
  · have c5_1 := c5_1
    refine v_iconst ok dX8_chain_8 (n := 9) rfl ?_
    refine v_iret rt dX8_chain_9 ?_
    exact ⟨zfrM_r M, Or.inl ⟨by omega, rfl⟩⟩

