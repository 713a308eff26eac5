/-! the model: the first way of the least sum -/
theorem znes_i (n : Nat) : ∀ x k : Nat, k < n → x / 2 ^ k % 2 = 0 → znes n (x + 2 ^ k) = znes n x + 1 := by
  induction n with
  | zero => intro x k hk; omega
  | succ n ih =>
    intro x k hk hx
    unfold znes
    cases k with
    | zero =>
      rw [Nat.pow_zero, Nat.div_one] at hx
      rw [Nat.pow_zero, show (x + 1) % 2 = 1 by omega, show (x + 1) / 2 = x / 2 by omega]
      omega
    | succ k =>
      have e : 2 ^ (k + 1) = 2 * 2 ^ k := by rw [Nat.pow_succ]; omega
      rw [e] at hx ⊢
      rw [← Nat.div_div_eq_div_mul] at hx
      rw [show (x + 2 * 2 ^ k) % 2 = x % 2 by omega, show (x + 2 * 2 ^ k) / 2 = x / 2 + 2 ^ k by omega, ih (x / 2) k (by omega) hx]
      omega
theorem zone_g {h t : Int} (hh : 0 ≤ h) (ht : 0 ≤ t ∧ t < 16) (hb : zbit h t = 0) : zone (h + zp2 t) = zone h + 1 := by
  have hx : h.toNat / 2 ^ t.toNat % 2 = 0 := by
    unfold zbit at hb
    rw [zp2_nat] at hb
    have e : h = ((h.toNat : Nat) : Int) := by omega
    rw [e] at hb
    have e2 : ((h.toNat : Nat) : Int) / ((2 ^ t.toNat : Nat) : Int) = ((h.toNat / 2 ^ t.toNat : Nat) : Int) := rfl
    rw [e2] at hb
    omega
  have e3 := znes_i 16 h.toNat t.toNat (by omega) hx
  have e4 : ∀ P : Nat, (h + (P : Int)).toNat = h.toNat + P := fun P => by omega
  unfold zone
  rw [zp2_nat, e4, e3]
  omega
def zexi (P : Int → Prop) (n : Int) : Prop := ∃ k, (0 ≤ k ∧ k < n) ∧ P k
theorem zlfk_x {a L : Int → Int} {h : Int} (n : Nat) : zlfk a L h n = 1000000 ∨ zexi (fun k => zbit h k = 0 ∧ 0 ≤ a k ∧ a k + L (h + zp2 k) = zlfk a L h n) n := by
  induction n with
  | zero => exact Or.inl rfl
  | succ n ih =>
    have kp : ∀ v, (zexi (fun k => zbit h k = 0 ∧ 0 ≤ a k ∧ a k + L (h + zp2 k) = v) n) → zexi (fun k => zbit h k = 0 ∧ 0 ≤ a k ∧ a k + L (h + zp2 k) = v) (n + 1 : Nat) := by
      rintro v ⟨k, hk, h1⟩
      exact ⟨k, by omega, h1⟩
    unfold zlfk
    split
    · next g =>
      split
      · exact Or.inr ⟨n, by omega, g.1, g.2, rfl⟩
      · exact ih.imp id (kp _)
    · exact ih.imp id (kp _)
theorem zlfk_l {a L : Int → Int} {h : Int} (n : Nat) : zlfk a L h n ≤ 1000000 ∧ ∀ k : Nat, k < n → zbit h k = 0 → 0 ≤ a k → zlfk a L h n ≤ a k + L (h + zp2 k) := by
  induction n with
  | zero => exact ⟨Int.le_refl _, fun k hk => by omega⟩
  | succ n ih =>
    unfold zlfk
    split
    · next g =>
      split
      · refine ⟨by omega, fun k hk hb ha => ?_⟩
        by_cases hkn : k = n
        · subst hkn; omega
        · have := ih.2 k (by omega) hb ha; omega
      · refine ⟨by omega, fun k hk hb ha => ?_⟩
        by_cases hkn : k = n
        · subst hkn; omega
        · exact ih.2 k (by omega) hb ha
    · next g =>
      refine ⟨ih.1, fun k hk hb ha => ?_⟩
      by_cases hkn : k = n
      · subst hkn; exact absurd ⟨hb, ha⟩ g
      · exact ih.2 k (by omega) hb ha
/-- the places of the first brides as a set -/
def zhh (kk : Int → Int) : Nat → Int
  | 0 => 0
  | b + 1 => zhh kk b + zp2 (kk b)
/-- k is a place for b by which the least sum after h is kept -/
def zcd (B : Int → Int → Int) (L : Int → Int) (h b k : Int) : Prop := zbit h k = 0 ∧ 0 ≤ B b k ∧ B b k + L (h + zp2 k) = L h
/-- and the first such -/
def zgd (B : Int → Int → Int) (L : Int → Int) (w h b k : Int) : Prop := (0 ≤ k ∧ k < w) ∧ zcd B L h b k ∧ ∀ j, 0 ≤ j ∧ j < k → ¬ zcd B L h b j
/-- the first b brides have their places so, h holds them; W the shoes at these places -/
def zGd2 (B : Int → Int → Int) (L : Int → Int) (w : Int) (W wh : Int → Int) (b h : Int) : Prop := ∃ kk, zhh kk b.toNat = h ∧ ∀ c : Nat, (c : Int) < b → zgd B L w (zhh kk c) c (kk c) ∧ W c = wh (kk c)
theorem zhh_c {f g : Int → Int} (n : Nat) (h : ∀ c : Nat, c < n → f c = g c) : zhh f n = zhh g n := by
  induction n with
  | zero => rfl
  | succ n ih =>
    unfold zhh
    rw [ih (fun c hc => h c (by omega)), h n (by omega)]
theorem zGd2_0 {B : Int → Int → Int} {L W wh : Int → Int} {w : Int} : zGd2 B L w W wh 0 0 := ⟨fun _ => 0, rfl, fun c hc => by omega⟩
theorem zGd2_s {B : Int → Int → Int} {L wh : Int → Int} {w b h k : Int} {M : zM} (hb : 0 ≤ b) (H : zGd2 B L w (M 215) wh b h) (hk : zgd B L w h b k) : zGd2 B L w (zset M 215 b (wh k) 215) wh (b + 1) (h + zp2 k) := by
  obtain ⟨kk, h1, h2⟩ := H
  have hc : ∀ n : Nat, (n : Int) ≤ b → zhh (fun c => if c = b then k else kk c) n = zhh kk n := fun n hn => zhh_c n (fun c hc => if_neg (by omega))
  refine ⟨fun c => if c = b then k else kk c, ?_, fun c hcb => ?_⟩
  · rw [show (b + 1).toNat = b.toNat + 1 by omega]
    unfold zhh
    rw [hc _ (by omega), h1, show ((b.toNat : Nat) : Int) = b by omega]
    show h + zp2 (if b = b then k else kk b) = _
    rw [if_pos rfl]
  · rw [hc c (by omega)]
    show zgd B L w (zhh kk c) c (if (c : Int) = b then k else kk c) ∧ _ = wh (if (c : Int) = b then k else kk c)
    by_cases e : (c : Int) = b
    · rw [if_pos e, show c = b.toNat by omega, h1, show ((b.toNat : Nat) : Int) = b by omega, zset_s]
      exact ⟨hk, rfl⟩
    · rw [if_neg e, zset_n e]
      exact h2 c (by omega)
abbrev zmA (M : zM) : Int → Int → Int := fun b k => M 213 (16 * b + k)
/-- what the finding of a way leaves -/
def zWay (M M' : zM) (d : Int) : Prop := (∀ r, r ≠ 200 → r ≠ 211 → r ≠ 213 → r ≠ 214 → r ≠ 215 → M' r = M r) ∧ (∀ j, j ≠ 11 → M' 200 j = M 200 j) ∧ M' 200 11 = zcnt (zMP M d) (M 200 3).toNat ∧ zwhc M d (M' 211) (M 200 3) ∧ (∀ b k, 0 ≤ b ∧ b < M 200 2 → 0 ≤ k ∧ k < M' 200 11 → M' 213 (16 * b + k) = zask2 M (M' 211) b k) ∧ zLst (zmA M') (M 200 2) (M' 200 11) (M' 214) (-1) ∧ (M' 214 0 < 1000000 → zexi (fun h => zGd2 (zmA M') (M' 214) (M' 200 11) (M' 215) (M' 211) (M 200 2) h) 65536)
/-- some place keeps the least sum -/
theorem zcd_x {B : Int → Int → Int} {nb w h : Int} {L : Int → Int} (H : zLst B nb w L (-1)) (hw : 0 ≤ w ∧ w ≤ 16) (hh : 0 ≤ h ∧ h ≤ zp2 w - 1) (hz : zone h < nb) (hL : L h < 1000000) : zexi (fun k => zcd B L h (zone h) k) w := by
  have e := (H h (by omega)).1
  unfold zlfv at e
  rw [if_neg (by omega), if_neg (by omega)] at e
  rcases zlfk_x (a := B (zone h)) (L := L) (h := h) w.toNat with g | ⟨k, hk, g1, g2, g3⟩
  · omega
  · exact ⟨k, by omega, g1, g2, by omega⟩
set_option maxHeartbeats 4000000 in
set_option maxRecDepth 100000 in
theorem u_findWay {G : zG} {ad : Int → Nat} {M : zM} {d : Int} (hd : 0 ≤ d ∧ d ≤ 1) (hnb : 0 ≤ M 200 2 ∧ M 200 2 ≤ 7) (hns : 0 ≤ M 200 3 ∧ M 200 3 ≤ 16) (hB : ∀ b, 0 ≤ b ∧ b < M 200 2 → zMB M b) (hS : ∀ s, 0 ≤ s ∧ s < M 200 3 → zMS M s) (h0 : 0 ≤ M 205 0 ∧ M 205 0 ≤ 6) (h1 : 0 ≤ M 205 1 ∧ M 205 1 ≤ 6)  : zTI G (zw ad) mi_X8_findWay [zr 200, zi d] M (fun x M' => zWay M M' d ∧ x = M' 214 0) := by
  refine zTI.of (own := RX8) (ls := [some (zr 200), some (zi d), none, none, none, none]) (by decide +kernel) rfl rfl (Nat.le_of_ble_eq_true rfl) (fun γ ok rt => ?_)
  refine v_aload_0 ok dX8_findWay_0 (n := 1) rfl ?_
  refine v_iload_1 ok dX8_findWay_1 (n := 2) rfl ?_
  refine v_callVV ok (mi := mi_X8_findSide) mc_X8_findSide cv_X8_193 ly_200 rfl rfl rfl (by decide) ⟨Nat.zero_le _, Nat.zero_le _⟩ dX8_findWay_2 (n := 5) rfl rfl rfl (Nat.le_of_ble_eq_true rfl) (u_findSide hd hnb hns hB hS h0 h1) (fun M1 gg => ?_)
  obtain ⟨f1, g1, c1, w1, a1⟩ := gg
  have q2 := g1 2 (by omega)
  have cb := zcnt_b (zMP M d) (M 200 3).toNat
  have hA1 : ∀ b k, 0 ≤ b ∧ b < M1 200 2 → 0 ≤ k ∧ k < M1 200 11 → -4 ≤ M1 213 (16 * b + k) ∧ M1 213 (16 * b + k) ≤ 6 := by
    intro b k hb hk
    rw [a1 b k (by omega) (by omega)]
    have := zask_b (foot := zfo (zQB M b) (M 202 (4 * M1 211 k)) (M 201 (4 * b + 3))) (size := M 202 (4 * M1 211 k + 1)) (kind := M 202 (4 * M1 211 k + 2)) (loose := M 205 0) h1
    unfold zask2
    omega
  refine v_aload_0 ok dX8_findWay_5 (n := 6) rfl ?_
  refine v_callVI ok (mi := mi_X8_findLeast) mc_X8_findLeast cv_X8_197 ly_200 rfl rfl rfl (by decide) ⟨Nat.zero_le _, Nat.zero_le _⟩ dX8_findWay_6 (n := 9) rfl rfl rfl (Nat.le_of_ble_eq_true rfl) (u_findLeast (by rw [q2]; exact hnb) (by rw [c1]; omega) hA1) (fun x2 M2 gg2 => ?_)
  obtain ⟨f2, hl, e0⟩ := gg2
  have e2 : M2 200 2 = M 200 2 := by rw [f2 200 (by omega)]; exact q2
  have e11 : M2 200 11 = zcnt (zMP M d) (M 200 3).toNat := by rw [f2 200 (by omega)]; exact c1
  rw [show M1 200 2 = M2 200 2 by rw [f2 200 (by omega)], show M1 200 11 = M2 200 11 by rw [f2 200 (by omega)], ← f2 213 (by omega)] at hl
  have hA : ∀ b k, 0 ≤ b ∧ b < M2 200 2 → 0 ≤ k ∧ k < M2 200 11 → -4 ≤ M2 213 (16 * b + k) ∧ M2 213 (16 * b + k) ≤ 6 := fun b k hb hk => by rw [f2 213 (by omega)]; exact hA1 b k (by omega) (by omega)
  have haa : ∀ b k, 0 ≤ b ∧ b < M 200 2 → 0 ≤ k ∧ k < M2 200 11 → M2 213 (16 * b + k) = zask2 M (M2 211) b k := fun b k hb hk => by rw [f2 213 (by omega), f2 211 (by omega)]; exact a1 b k hb (by omega)
  have h20 := (hl 0 (by have := zp2_pos (M2 200 11); omega)).2
  have hp16 : zp2 (M2 200 11) ≤ 65536 := zp2_le (b := 16) (by omega)
  subst x2
  refine v_istore_2 ok (by decide) rfl dX8_findWay_9 (n := 10) rfl ?_
  have lpo : ∀ (zn : Nat) (b h : Int) (l5 : Option zV) (Mx : zM), zn = (8 - b).toNat → (0 ≤ b ∧ b ≤ M2 200 2) → (∀ r, r ≠ 215 → Mx r = M2 r) → (zone h = b ∧ 0 ≤ h ∧ h ≤ zp2 (M2 200 11) - 1 ∧ (M2 214 0 < 1000000 → M2 214 h < 1000000)) → (zGd2 (zmA M2) (M2 214) (M2 200 11) (Mx 215) (M2 211) b h) → zVV G γ (zw ad) (0, 0) 15 [some (zr 200), some (zi d), some (zi (M2 214 0)), some (zi h), some (zi b), l5] [] Mx := by
    refine zrec _ (fun zn ih => ?_)
    intro b h l5 Mx hzn hb fx hh hG
    refine v_iload_4 ok dX8_findWay_15 (n := 17) rfl ?_
    refine v_aload_0 ok dX8_findWay_17 (n := 18) rfl ?_
    refine v_getI ok fd_X8_81 ly_200 rfl rfl (jI := 2) rfl dX8_findWay_18 (n := 21) rfl ?_
    try simp (disch := omega) only [fx]
    refine v_icmp_ge ok dX8_findWay_21 (tgt := 126) (by decide) (n := 24) rfl (by omega) (by omega) (fun c21_1 => ?_) (fun c21_1 => ?_)
    · have c21_1 := c21_1
      refine v_iload_2 ok dX8_findWay_126 (n := 127) rfl ?_
      refine v_iret rt dX8_findWay_127 ?_
      refine ⟨⟨fun r a1 a2 a3 a4 a5 => by rw [fx r a5, f2 r a4, f1 r a1 a2 a3], fun j hj => by rw [fx 200 (by omega), f2 200 (by omega), g1 j hj], by rw [fx 200 (by omega), e11], by rw [fx 211 (by omega), f2 211 (by omega)]; exact w1, fun c k hc hk => by rw [fx 213 (by omega), fx 211 (by omega)]; rw [fx 200 (by omega)] at hk; exact haa c k hc hk, by unfold zmA; rw [fx 213 (by omega), fx 200 (by omega), fx 214 (by omega), ← e2]; exact hl, fun hx => ?_⟩, by rw [fx 214 (by omega)]⟩
      rw [fx 214 (by omega)] at hx
      first
      | (exfalso; omega)
      | (refine ⟨h, by omega, ?_⟩
         unfold zmA
         rw [fx 213 (by omega), fx 214 (by omega), fx 200 (by omega), fx 211 (by omega), ← e2, show M2 200 2 = b by omega]
         exact hG)
    · have c21_1 := c21_1
      refine v_iload_2 ok dX8_findWay_24 (n := 25) rfl ?_
      refine v_ldc ok (c := 1000000) kc_X8_192 (by decide) dX8_findWay_25 (n := 27) rfl ?_
      refine v_icmp_ge ok dX8_findWay_27 (tgt := 126) (by decide) (n := 30) rfl (by omega) (by omega) (fun c27_2 => ?_) (fun c27_2 => ?_)
      · have c27_2 := c27_2
        refine v_iload_2 ok dX8_findWay_126 (n := 127) rfl ?_
        refine v_iret rt dX8_findWay_127 ?_
        refine ⟨⟨fun r a1 a2 a3 a4 a5 => by rw [fx r a5, f2 r a4, f1 r a1 a2 a3], fun j hj => by rw [fx 200 (by omega), f2 200 (by omega), g1 j hj], by rw [fx 200 (by omega), e11], by rw [fx 211 (by omega), f2 211 (by omega)]; exact w1, fun c k hc hk => by rw [fx 213 (by omega), fx 211 (by omega)]; rw [fx 200 (by omega)] at hk; exact haa c k hc hk, by unfold zmA; rw [fx 213 (by omega), fx 200 (by omega), fx 214 (by omega), ← e2]; exact hl, fun hx => ?_⟩, by rw [fx 214 (by omega)]⟩
        rw [fx 214 (by omega)] at hx
        first
        | (exfalso; omega)
        | (refine ⟨h, by omega, ?_⟩
           unfold zmA
           rw [fx 213 (by omega), fx 214 (by omega), fx 200 (by omega), fx 211 (by omega), ← e2, show M2 200 2 = b by omega]
           exact hG)
      · have c27_2 := c27_2
        have ih2 := ih
        refine v_iconst ok dX8_findWay_30 (n := 31) rfl ?_
        refine v_istore_5 ok (by decide) rfl dX8_findWay_31 (n := 33) rfl ?_
        obtain ⟨k0, hk0w, hk0⟩ := zcd_x hl (by omega) (by omega) (by omega) (hh.2.2.2 (by omega))
        rw [hh.1] at hk0
        have lpi : ∀ (zn : Nat) (k : Int), zn = (k0 - k).toNat → (0 ≤ k ∧ k ≤ k0) → (∀ j, 0 ≤ j ∧ j < k → ¬ zcd (zmA M2) (M2 214) h b j) → zVV G γ (zw ad) (0, 0) 33 [some (zr 200), some (zi d), some (zi (M2 214 0)), some (zi h), some (zi b), some (zi k)] [] Mx := by
          refine zrec _ (fun zn ih => ?_)
          intro k hzn hk hn
          have zbb := zbit_b h k
          have p1 := zp2_pos k
          have p2 : zp2 k ≤ 32768 := zp2_le (b := 15) (by omega)
          refine v_iload_3 ok dX8_findWay_33 (n := 34) rfl ?_
          refine v_iload_5 ok dX8_findWay_34 (n := 36) rfl ?_
          refine v_ishr ok dX8_findWay_36 (n := 37) rfl ?_
          refine v_iconst ok dX8_findWay_37 (n := 38) rfl ?_
          refine v_iand ok dX8_findWay_38 (n := 39) rfl ?_
          rw [zand_bit (by omega) (by omega)]
          refine v_iconst ok dX8_findWay_39 (n := 40) rfl ?_
          refine v_icmp_eq ok dX8_findWay_40 (tgt := 93) (by decide) (n := 43) rfl (by omega) (by omega) (fun c40_1 => ?_) (fun c40_1 => ?_)
          · have c40_1 := c40_1
            refine v_iinc_5 ok (by decide) rfl dX8_findWay_93 (n := 96) rfl ?_
            refine v_goto ok dX8_findWay_96 (n := 33) (by decide) ?_
            have hno : ¬ zcd (zmA M2) (M2 214) h b k := by
              rintro ⟨g1, g2, g3⟩
              have g2 : 0 ≤ M2 213 (16 * b + k) := g2
              have g3 : M2 213 (16 * b + k) + M2 214 (h + zp2 k) = M2 214 h := g3
              omega
            have hkk : k ≠ k0 := fun e => hno (by rw [e]; exact hk0)
            exact ih _ (by omega) (k + 1) rfl (by omega) (fun j hj => by
              by_cases e : j = k
              · rw [e]; exact hno
              · exact hn j (by omega))
          · have c40_1 := c40_1
            refine v_aload_0 ok dX8_findWay_43 (n := 44) rfl ?_
            refine v_getR ok fd_X8_28 ly_200 rfl rfl rfl rf_200_12 dX8_findWay_44 (n := 47) rfl ?_
            refine v_bipush ok (by decide) dX8_findWay_47 (n := 49) rfl ?_
            refine v_iload_4 ok dX8_findWay_49 (n := 51) rfl ?_
            refine v_imul ok dX8_findWay_51 (n := 52) rfl ?_
            refine v_iload_5 ok dX8_findWay_52 (n := 54) rfl ?_
            refine v_iadd ok dX8_findWay_54 (n := 55) rfl ?_
            have hab := hA b k (by omega) (by omega)
            refine v_iald ok ly_213 rfl (by omega) (by decide) dX8_findWay_55 (n := 56) rfl ?_
            try simp (disch := omega) only [fx]
            refine v_if_lt ok dX8_findWay_56 (tgt := 93) (by decide) (n := 59) rfl (by omega) (fun c56_2 => ?_) (fun c56_2 => ?_)
            · have c56_2 := c56_2
              refine v_iinc_5 ok (by decide) rfl dX8_findWay_93 (n := 96) rfl ?_
              refine v_goto ok dX8_findWay_96 (n := 33) (by decide) ?_
              have hno : ¬ zcd (zmA M2) (M2 214) h b k := by
                rintro ⟨g1, g2, g3⟩
                have g2 : 0 ≤ M2 213 (16 * b + k) := g2
                have g3 : M2 213 (16 * b + k) + M2 214 (h + zp2 k) = M2 214 h := g3
                omega
              have hkk : k ≠ k0 := fun e => hno (by rw [e]; exact hk0)
              exact ih _ (by omega) (k + 1) rfl (by omega) (fun j hj => by
                by_cases e : j = k
                · rw [e]; exact hno
                · exact hn j (by omega))
            · have c56_2 := c56_2
              have hzb : zbit h k = 0 := by omega
              have hil := zin_g (n := M2 200 11) (by omega) (by omega) (by omega) hzb
              have htb := (hl (h + zp2 k) (by omega)).2
              have hzh := (hl h (by omega)).2
              have hab := hA b k (by omega) (by omega)
              refine v_aload_0 ok dX8_findWay_59 (n := 60) rfl ?_
              refine v_getR ok fd_X8_28 ly_200 rfl rfl rfl rf_200_12 dX8_findWay_60 (n := 63) rfl ?_
              refine v_bipush ok (by decide) dX8_findWay_63 (n := 65) rfl ?_
              refine v_iload_4 ok dX8_findWay_65 (n := 67) rfl ?_
              refine v_imul ok dX8_findWay_67 (n := 68) rfl ?_
              refine v_iload_5 ok dX8_findWay_68 (n := 70) rfl ?_
              refine v_iadd ok dX8_findWay_70 (n := 71) rfl ?_
              refine v_iald ok ly_213 rfl (by omega) (by decide) dX8_findWay_71 (n := 72) rfl ?_
              try simp (disch := omega) only [fx]
              refine v_aload_0 ok dX8_findWay_72 (n := 73) rfl ?_
              refine v_getR ok fd_X8_32 ly_200 rfl rfl rfl rf_200_13 dX8_findWay_73 (n := 76) rfl ?_
              refine v_iload_3 ok dX8_findWay_76 (n := 77) rfl ?_
              refine v_iconst ok dX8_findWay_77 (n := 78) rfl ?_
              refine v_iload_5 ok dX8_findWay_78 (n := 80) rfl ?_
              refine v_ishl ok dX8_findWay_80 (n := 81) rfl ?_
              rw [zshl_1 (by omega)]
              refine v_ior ok dX8_findWay_81 (n := 82) rfl ?_
              rw [zor_in (by omega) (by omega) hzb]
              refine v_iald ok ly_214 rfl (by omega) (by decide) dX8_findWay_82 (n := 83) rfl ?_
              try simp (disch := omega) only [fx]
              refine v_iadd ok dX8_findWay_83 (n := 84) rfl ?_
              refine v_aload_0 ok dX8_findWay_84 (n := 85) rfl ?_
              refine v_getR ok fd_X8_32 ly_200 rfl rfl rfl rf_200_13 dX8_findWay_85 (n := 88) rfl ?_
              refine v_iload_3 ok dX8_findWay_88 (n := 89) rfl ?_
              refine v_iald ok ly_214 rfl (by omega) (by decide) dX8_findWay_89 (n := 90) rfl ?_
              try simp (disch := omega) only [fx]
              refine v_icmp_eq ok dX8_findWay_90 (tgt := 99) (by decide) (n := 93) rfl (by omega) (by omega) (fun c90_3 => ?_) (fun c90_3 => ?_)
              · have c90_3 := c90_3
                have hgd : zgd (zmA M2) (M2 214) (M2 200 11) h b k := ⟨by omega, ⟨hzb, by show 0 ≤ M2 213 (16 * b + k); omega, by show M2 213 (16 * b + k) + M2 214 (h + zp2 k) = M2 214 h; omega⟩, hn⟩
                refine v_aload_0 ok dX8_findWay_99 (n := 100) rfl ?_
                refine v_getR ok fd_X8_35 ly_200 rfl rfl rfl rf_200_14 dX8_findWay_100 (n := 103) rfl ?_
                refine v_iload_4 ok dX8_findWay_103 (n := 105) rfl ?_
                refine v_aload_0 ok dX8_findWay_105 (n := 106) rfl ?_
                refine v_getR ok fd_X8_25 ly_200 rfl rfl rfl rf_200_10 dX8_findWay_106 (n := 109) rfl ?_
                refine v_iload_5 ok dX8_findWay_109 (n := 111) rfl ?_
                refine v_iald ok ly_211 rfl (by omega) (by decide) dX8_findWay_111 (n := 112) rfl ?_
                try simp (disch := omega) only [fx]
                refine v_iast ok ly_215 rfl (by omega) (by decide) dX8_findWay_112 (n := 113) rfl ?_
                refine v_iload_3 ok dX8_findWay_113 (n := 114) rfl ?_
                refine v_iconst ok dX8_findWay_114 (n := 115) rfl ?_
                refine v_iload_5 ok dX8_findWay_115 (n := 117) rfl ?_
                refine v_ishl ok dX8_findWay_117 (n := 118) rfl ?_
                rw [zshl_1 (by omega)]
                refine v_ior ok dX8_findWay_118 (n := 119) rfl ?_
                rw [zor_in (by omega) (by omega) hzb]
                refine v_istore_3 ok (by decide) rfl dX8_findWay_119 (n := 120) rfl ?_
                refine v_iinc_4 ok (by decide) rfl dX8_findWay_120 (n := 123) rfl ?_
                refine v_goto ok dX8_findWay_123 (n := 15) (by decide) ?_
                have hz1 := zone_g (h := h) (t := k) (by omega) (by omega) hzb
                exact ih2 _ (by omega) (b + 1) (h + zp2 k) _ _ rfl (by omega) (fun r hr => by rw [zset_o hr]; exact fx r hr) ⟨by omega, by omega, by omega, fun _ => by omega⟩ (zGd2_s (by omega) hG hgd)
              · have c90_3 := c90_3
                refine v_iinc_5 ok (by decide) rfl dX8_findWay_93 (n := 96) rfl ?_
                refine v_goto ok dX8_findWay_96 (n := 33) (by decide) ?_
                have hno : ¬ zcd (zmA M2) (M2 214) h b k := by
                  rintro ⟨g1, g2, g3⟩
                  have g2 : 0 ≤ M2 213 (16 * b + k) := g2
                  have g3 : M2 213 (16 * b + k) + M2 214 (h + zp2 k) = M2 214 h := g3
                  omega
                have hkk : k ≠ k0 := fun e => hno (by rw [e]; exact hk0)
                exact ih _ (by omega) (k + 1) rfl (by omega) (fun j hj => by
                  by_cases e : j = k
                  · rw [e]; exact hno
                  · exact hn j (by omega))
        exact lpi _ 0 rfl (by omega) (fun j hj => by omega)
  refine v_iconst ok dX8_findWay_10 (n := 11) rfl ?_
  refine v_istore_3 ok (by decide) rfl dX8_findWay_11 (n := 12) rfl ?_
  refine v_iconst ok dX8_findWay_12 (n := 13) rfl ?_
  refine v_istore_4 ok (by decide) rfl dX8_findWay_13 (n := 15) rfl ?_
  exact lpo _ 0 0 _ _ rfl (by omega) (fun _ _ => rfl) ⟨rfl, by omega, by have := zp2_pos (M2 200 11); omega, id⟩ zGd2_0

