/-! the model: most -/
theorem zclr {x b : Int} (hx : 0 ≤ x ∧ x < 128) (hb : 0 ≤ b ∧ b < 7) (h : zbit x b = 1) : zand x (zxor (zp2 b) (-1)) = x - zp2 b := by
  have k : ∀ p : Fin 128, ∀ q : Fin 7, zbit (p.val : Int) (q.val : Int) = 1 → zand (p.val : Int) (zxor (zp2 (q.val : Int)) (-1)) = (p.val : Int) - zp2 (q.val : Int) := by decide +kernel
  have := k ⟨x.toNat, by omega⟩ ⟨b.toNat, by omega⟩
  rw [show (((⟨x.toNat, by omega⟩ : Fin 128).val : Nat) : Int) = x by show ((x.toNat : Nat) : Int) = x; omega, show (((⟨b.toNat, by omega⟩ : Fin 7).val : Nat) : Int) = b by show ((b.toNat : Nat) : Int) = b; omega] at this
  exact this h
/-- whether a set of brides can be shod: with one shoe more, over the first brides -/
def zcr (C a : Int → Int) (j : Int) : Nat → Int
  | 0 => C j
  | b + 1 => if zcr C a j b ≠ 0 ∨ (zbit j b = 1 ∧ 0 ≤ a b ∧ C (j - zp2 b) ≠ 0) then 1 else 0
def zcn (B : Int → Int → Int) (nb : Int) : Nat → Int → Int
  | 0 => fun j => if j = 0 then 1 else 0
  | k + 1 => fun j => if 0 < j ∧ j < zp2 nb then zcr (zcn B nb k) (fun b => B b k) j nb.toNat else zcn B nb k j
theorem zcr_b {C a : Int → Int} {j : Int} (n : Nat) (h : C j = 0 ∨ C j = 1) : zcr C a j n = 0 ∨ zcr C a j n = 1 := by
  cases n with
  | zero => exact h
  | succ n =>
    unfold zcr
    split
    · exact Or.inr rfl
    · exact Or.inl rfl
theorem zcn_b {B : Int → Int → Int} {nb : Int} (k : Nat) : ∀ j, zcn B nb k j = 0 ∨ zcn B nb k j = 1 := by
  induction k with
  | zero =>
    intro j
    unfold zcn
    split
    · exact Or.inr rfl
    · exact Or.inl rfl
  | succ k ih =>
    intro j
    unfold zcn
    split
    · exact zcr_b _ (ih j)
    · exact ih j
theorem zcr_B {C a a' : Int → Int} {j : Int} (n : Nat) (h : ∀ b : Nat, b < n → a b = a' b) : zcr C a j n = zcr C a' j n := by
  induction n with
  | zero => rfl
  | succ n ih =>
    unfold zcr
    rw [ih (fun b hb => h b (by omega)), h n (by omega)]
theorem zcn_B {B B' : Int → Int → Int} {nb w : Int} (hw : 0 ≤ w) (H : ∀ b k, 0 ≤ b ∧ b < nb → 0 ≤ k ∧ k < w → B b k = B' b k) (k : Nat) (hk : k ≤ w) : zcn B nb k = zcn B' nb k := by
  induction k with
  | zero => rfl
  | succ k ih =>
    unfold zcn
    rw [ih (by omega)]
    funext j
    rw [zcr_B (a' := fun b => B' b k) _ (fun b hb => H b k (by omega) (by omega))]
/-- can after the first k shoes, and with one more above the set t -/
def zcI (C C' : Int → Int) (P t : Int) (K : Int → Int) : Prop := ∀ j, 0 ≤ j ∧ j < 128 → K j = if t < j ∧ j < P then C' j else C j
/-- the most of the first n sets that can be -/
def zmsm (C : Int → Int) : Nat → Int
  | 0 => 0
  | n + 1 => if C n ≠ 0 ∧ zmsm C n < zone n then zone n else zmsm C n
theorem zmsm_b (C : Int → Int) (n : Nat) : 0 ≤ zmsm C n ∧ zmsm C n ≤ 16 := by
  induction n with
  | zero => exact ⟨Int.le_refl 0, show (0 : Int) ≤ 16 by omega⟩
  | succ n ih =>
    have := zone_b n
    unfold zmsm
    split <;> omega
theorem zmsm_c {C C' : Int → Int} (n : Nat) (h : ∀ j : Nat, j < n → C j = C' j) : zmsm C n = zmsm C' n := by
  induction n with
  | zero => rfl
  | succ n ih =>
    unfold zmsm
    rw [ih (fun j hj => h j (by omega)), h n (by omega)]
set_option maxHeartbeats 4000000 in
set_option maxRecDepth 100000 in
theorem u_most {G : zG} {ad : Int → Nat} {M : zM} {d : Int} (hd : -2147483648 ≤ d ∧ d ≤ 2147483647) (hnb : 0 ≤ M 200 2 ∧ M 200 2 ≤ 7) (hns : 0 ≤ M 200 3 ∧ M 200 3 ≤ 16) (hB : ∀ b, 0 ≤ b ∧ b < M 200 2 → zMB M b) (hS : ∀ s, 0 ≤ s ∧ s < M 200 3 → zMS M s) (h0 : 0 ≤ M 205 0 ∧ M 205 0 ≤ 6) (h1 : 0 ≤ M 205 1 ∧ M 205 1 ≤ 6)  : zTI G (zw ad) mi_X8_most [zr 200, zi d] M (fun x M' => zfrM M M' ∧ ((¬ (0 ≤ d ∧ d ≤ 1) ∧ x = -1) ∨ ((0 ≤ d ∧ d ≤ 1) ∧ ∃ W, zwhc M d W (M 200 3) ∧ x = zmsm (zcn (zask2 M W) (M 200 2) (zcnt (zMP M d) (M 200 3).toNat).toNat) (zp2 (M 200 2)).toNat))) := by
  refine zTI.of (own := RX8) (ls := [some (zr 200), some (zi d), none, none, none]) (by decide +kernel) rfl rfl (Nat.le_of_ble_eq_true rfl) (fun γ ok rt => ?_)
  refine v_iload_1 ok dX8_most_0 (n := 1) rfl ?_
  refine v_i2l ok (by omega) dX8_most_1 (n := 2) rfl ?_
  refine v_lconst0 ok dX8_most_2 (n := 3) rfl ?_
  refine v_lconst1 ok dX8_most_3 (n := 4) rfl ?_
  refine v_callSI ok (mi := mi_X8_in) mc_X8_in cs_X8_85 (by decide) ⟨Nat.zero_le _, Nat.zero_le _⟩ dX8_most_4 (n := 7) rfl rfl rfl (Nat.le_of_ble_eq_true rfl) (u_in (by omega) (by omega) (by omega)) (fun x5 M5 h5 => ?_)
  obtain ⟨e5_, h5⟩ := h5
  subst M5
  refine v_if_ne ok dX8_most_7 (tgt := 12) (by decide) (n := 10) rfl (by omega) (fun c7_1 => ?_) (fun c7_1 => ?_)
  · have c7_1 := c7_1
    refine v_aload_0 ok dX8_most_12 (n := 13) rfl ?_
    refine v_iload_1 ok dX8_most_13 (n := 14) rfl ?_
    refine v_callVV ok (mi := mi_X8_findSide) mc_X8_findSide cv_X8_193 ly_200 rfl rfl rfl (by decide) ⟨Nat.zero_le _, Nat.zero_le _⟩ dX8_most_14 (n := 17) rfl rfl rfl (Nat.le_of_ble_eq_true rfl) (u_findSide (by omega) hnb hns hB hS h0 h1) (fun M1 gg => ?_)
    obtain ⟨f1, g1, c1, w1, a1⟩ := gg
    have k2 := g1 2 (by omega)
    have cb := zcnt_b (zMP M d) (M 200 3).toNat
    have ha : ∀ b k, 0 ≤ b ∧ b < M 200 2 → 0 ≤ k ∧ k < M1 200 11 → M1 213 (16 * b + k) = zask2 M (M1 211) b k := fun b k hb hk => a1 b k hb (by omega)
    have hP0 := zp2_pos (M 200 2)
    have hP1 : zp2 (M 200 2) ≤ 128 := zp2_le (b := 7) (by omega)
    have hzb : ∀ b k, -4 ≤ zask2 M (M1 211) b k ∧ zask2 M (M1 211) b k ≤ 6 := by
      intro b k
      have := zask_b (foot := zfo (zQB M b) (M 202 (4 * M1 211 k)) (M 201 (4 * b + 3))) (size := M 202 (4 * M1 211 k + 1)) (kind := M 202 (4 * M1 211 k + 2)) (loose := M 205 0) h1
      unfold zask2
      omega
    have kend : ∀ (k2 : Int) (l3 l4 : Option zV) (Mx : zM), (∀ r, r ≠ 216 → Mx r = M1 r) → (∀ j, 0 ≤ j ∧ j < 128 → Mx 216 j = (zcn (zask2 M (M1 211)) (M 200 2) (M1 200 11).toNat) j) → zVV G γ (zw ad) (0, 0) 161 [some (zr 200), some (zi d), some (zi k2), l3, l4] [] Mx := by
      intro i2 l3 l4 Mx fx hI
      have lpe : ∀ (zn : Nat) (t m : Int), zn = (129 - t).toNat → (0 ≤ t ∧ t ≤ zp2 (M 200 2)) → (m = zmsm (zcn (zask2 M (M1 211)) (M 200 2) (M1 200 11).toNat) t.toNat) → zVV G γ (zw ad) (0, 0) 165 [some (zr 200), some (zi d), some (zi m), some (zi t), l4] [] Mx := by
        refine zrec _ (fun zn ih => ?_)
        intro t m hzn ht hm
        have hz := zone_b t
        have hmb := zmsm_b (zcn (zask2 M (M1 211)) (M 200 2) (M1 200 11).toNat) t.toNat
        rw [← hm] at hmb
        refine v_iload_3 ok dX8_most_165 (n := 166) rfl ?_
        refine v_iconst ok dX8_most_166 (n := 167) rfl ?_
        refine v_aload_0 ok dX8_most_167 (n := 168) rfl ?_
        refine v_getI ok fd_X8_81 ly_200 rfl rfl (jI := 2) rfl dX8_most_168 (n := 171) rfl ?_
        try simp (disch := omega) only [fx, k2]
        refine v_ishl ok dX8_most_171 (n := 172) rfl ?_
        rw [zshl_1 (by omega)]
        refine v_icmp_ge ok dX8_most_172 (tgt := 207) (by decide) (n := 175) rfl (by omega) (by omega) (fun c172_1 => ?_) (fun c172_1 => ?_)
        · have c172_1 := c172_1
          refine v_iload_2 ok dX8_most_207 (n := 208) rfl ?_
          refine v_iret rt dX8_most_208 ?_
          refine ⟨⟨fun r hr => by rw [fx r (by omega), f1 r (by omega) (by omega) (by omega)], fun j _ _ h3 => by rw [fx 200 (by omega), g1 j h3]⟩, Or.inr ⟨by omega, M1 211, w1, ?_⟩⟩
          rw [hm, show t = zp2 (M 200 2) by omega, c1]
        · have c172_1 := c172_1
          have hst : zmsm (zcn (zask2 M (M1 211)) (M 200 2) (M1 200 11).toNat) (t + 1).toNat = if Mx 216 t ≠ 0 ∧ m < zone t then zone t else m := by
            rw [show (t + 1).toNat = t.toNat + 1 by omega]
            conv => lhs; unfold zmsm
            rw [show ((t.toNat : Nat) : Int) = t by omega, ← hm, hI t (by omega)]
          have hcb := zcn_b (B := zask2 M (M1 211)) (nb := M 200 2) (M1 200 11).toNat t
          rw [← hI t (by omega)] at hcb
          refine v_aload_0 ok dX8_most_175 (n := 176) rfl ?_
          refine v_getR ok fd_X8_38 ly_200 rfl rfl rfl rf_200_15 dX8_most_176 (n := 179) rfl ?_
          refine v_iload_3 ok dX8_most_179 (n := 180) rfl ?_
          refine v_zald ok ly_216 rfl (by omega) (by decide) dX8_most_180 (n := 181) rfl ?_
          try simp (disch := omega) only [fx, k2]
          refine v_if_eq ok dX8_most_181 (tgt := 199) (by decide) (n := 184) rfl (by omega) (fun c181_2 => ?_) (fun c181_2 => ?_)
          · have c181_2 := c181_2
            refine v_iload_2 ok dX8_most_199 (n := 200) rfl ?_
            refine v_istore_2 ok (by decide) rfl dX8_most_200 (n := 201) rfl ?_
            refine v_iinc_3 ok (by decide) rfl dX8_most_201 (n := 204) rfl ?_
            refine v_goto ok dX8_most_204 (n := 165) (by decide) ?_
            refine ih _ (by omega) (t + 1) _ rfl (by omega) ?_
            rw [hst]
            first
            | rw [if_pos (by omega)]
            | rw [if_neg (by omega)]
          · have c181_2 := c181_2
            refine v_iload_3 ok dX8_most_184 (n := 185) rfl ?_
            refine v_callSI ok (mi := mi_X8_ones) mc_X8_ones cs_X8_189 (by decide) ⟨Nat.zero_le _, Nat.zero_le _⟩ dX8_most_185 (n := 188) rfl rfl rfl (Nat.le_of_ble_eq_true rfl) (u_ones (by omega)) (fun x2 N2 g2 => ?_)
            obtain ⟨g2, rfl⟩ := g2
            subst N2
            refine v_iload_2 ok dX8_most_188 (n := 189) rfl ?_
            refine v_icmp_le ok dX8_most_189 (tgt := 199) (by decide) (n := 192) rfl (by omega) (by omega) (fun c189_3 => ?_) (fun c189_3 => ?_)
            · have c189_3 := c189_3
              refine v_iload_2 ok dX8_most_199 (n := 200) rfl ?_
              refine v_istore_2 ok (by decide) rfl dX8_most_200 (n := 201) rfl ?_
              refine v_iinc_3 ok (by decide) rfl dX8_most_201 (n := 204) rfl ?_
              refine v_goto ok dX8_most_204 (n := 165) (by decide) ?_
              refine ih _ (by omega) (t + 1) _ rfl (by omega) ?_
              rw [hst]
              first
              | rw [if_pos (by omega)]
              | rw [if_neg (by omega)]
            · have c189_3 := c189_3
              refine v_iload_3 ok dX8_most_192 (n := 193) rfl ?_
              refine v_callSI ok (mi := mi_X8_ones) mc_X8_ones cs_X8_189 (by decide) ⟨Nat.zero_le _, Nat.zero_le _⟩ dX8_most_193 (n := 196) rfl rfl rfl (Nat.le_of_ble_eq_true rfl) (u_ones (by omega)) (fun x2 N2 g2 => ?_)
              obtain ⟨g2, rfl⟩ := g2
              subst N2
              refine v_goto ok dX8_most_196 (n := 200) (by decide) ?_
              refine v_istore_2 ok (by decide) rfl dX8_most_200 (n := 201) rfl ?_
              refine v_iinc_3 ok (by decide) rfl dX8_most_201 (n := 204) rfl ?_
              refine v_goto ok dX8_most_204 (n := 165) (by decide) ?_
              refine ih _ (by omega) (t + 1) _ rfl (by omega) ?_
              rw [hst]
              first
              | rw [if_pos (by omega)]
              | rw [if_neg (by omega)]
      refine v_iconst ok dX8_most_161 (n := 162) rfl ?_
      refine v_istore_2 ok (by decide) rfl dX8_most_162 (n := 163) rfl ?_
      refine v_iconst ok dX8_most_163 (n := 164) rfl ?_
      refine v_istore_3 ok (by decide) rfl dX8_most_164 (n := 165) rfl ?_
      exact lpe _ 0 0 rfl (by omega) rfl
    have lpk : ∀ (zn : Nat) (k : Int) (l3 l4 : Option zV) (Mx : zM), zn = (17 - k).toNat → (0 ≤ k ∧ k ≤ M1 200 11) → (∀ r, r ≠ 216 → Mx r = M1 r) → (∀ j, 0 ≤ j ∧ j < 128 → Mx 216 j = (zcn (zask2 M (M1 211)) (M 200 2) k.toNat) j) → zVV G γ (zw ad) (0, 0) 49 [some (zr 200), some (zi d), some (zi k), l3, l4] [] Mx := by
      refine zrec _ (fun zn ih => ?_)
      intro k l3 l4 Mx hzn hk fx hI
      refine v_iload_2 ok dX8_most_49 (n := 50) rfl ?_
      refine v_aload_0 ok dX8_most_50 (n := 51) rfl ?_
      refine v_getI ok fd_X8_186 ly_200 rfl rfl (jI := 11) rfl dX8_most_51 (n := 54) rfl ?_
      try simp (disch := omega) only [fx, k2]
      refine v_icmp_ge ok dX8_most_54 (tgt := 161) (by decide) (n := 57) rfl (by omega) (by omega) (fun c54_1 => ?_) (fun c54_1 => ?_)
      · have c54_1 := c54_1
        exact kend _ _ _ _ fx (by rw [show k = M1 200 11 by omega] at hI; exact hI)
      · have c54_1 := c54_1
        have ih3 := ih
        have lpt : ∀ (zn : Nat) (t : Int) (l4 : Option zV) (Mx : zM), zn = (t + 1).toNat → (0 ≤ t ∧ t ≤ zp2 (M 200 2) - 1) → (∀ r, r ≠ 216 → Mx r = M1 r) → (zcI (zcn (zask2 M (M1 211)) (M 200 2) k.toNat) (zcn (zask2 M (M1 211)) (M 200 2) (k + 1).toNat) (zp2 (M 200 2)) t (Mx 216)) → zVV G γ (zw ad) (0, 0) 66 [some (zr 200), some (zi d), some (zi k), some (zi t), l4] [] Mx := by
          refine zrec _ (fun zn ih => ?_)
          intro t l4 Mx hzn ht fx hI
          refine v_iload_3 ok dX8_most_66 (n := 67) rfl ?_
          refine v_if_le ok dX8_most_67 (tgt := 155) (by decide) (n := 70) rfl (by omega) (fun c67_1 => ?_) (fun c67_1 => ?_)
          · have c67_1 := c67_1
            refine v_iinc_2 ok (by decide) rfl dX8_most_155 (n := 158) rfl ?_
            refine v_goto ok dX8_most_158 (n := 49) (by decide) ?_
            refine ih3 _ (by omega) (k + 1) _ _ _ rfl (by omega) fx (fun j hj => ?_)
            rw [hI j hj]
            by_cases g : t < j ∧ j < zp2 (M 200 2)
            · rw [if_pos g]
            · rw [if_neg g, show (k + 1).toNat = k.toNat + 1 by omega]
              conv => rhs; unfold zcn
              rw [if_neg (by omega)]
          · have c67_1 := c67_1
            have ih2 := ih
            have lpb : ∀ (zn : Nat) (b : Int) (Mx : zM), zn = (8 - b).toNat → (0 ≤ b ∧ b ≤ M 200 2) → (∀ r, r ≠ 216 → Mx r = M1 r) → (Mx 216 t = zcr (zcn (zask2 M (M1 211)) (M 200 2) k.toNat) (fun b => zask2 M (M1 211) b k) t b.toNat) → (∀ j, 0 ≤ j ∧ j < 128 → j ≠ t → Mx 216 j = if t < j ∧ j < zp2 (M 200 2) then (zcn (zask2 M (M1 211)) (M 200 2) (k + 1).toNat) j else (zcn (zask2 M (M1 211)) (M 200 2) k.toNat) j) → zVV G γ (zw ad) (0, 0) 73 [some (zr 200), some (zi d), some (zi k), some (zi t), some (zi b)] [] Mx := by
              refine zrec _ (fun zn ih => ?_)
              intro b Mx hzn hb fx hv hI
              refine v_iload_4 ok dX8_most_73 (n := 75) rfl ?_
              refine v_aload_0 ok dX8_most_75 (n := 76) rfl ?_
              refine v_getI ok fd_X8_81 ly_200 rfl rfl (jI := 2) rfl dX8_most_76 (n := 79) rfl ?_
              try simp (disch := omega) only [fx, k2]
              refine v_icmp_ge ok dX8_most_79 (tgt := 149) (by decide) (n := 82) rfl (by omega) (by omega) (fun c79_1 => ?_) (fun c79_1 => ?_)
              · have c79_1 := c79_1
                refine v_iinc_3 ok (by decide) rfl dX8_most_149 (n := 152) rfl ?_
                refine v_goto ok dX8_most_152 (n := 66) (by decide) ?_
                refine ih2 _ (by omega) (t + -1) _ _ rfl (by omega) fx (fun j hj => ?_)
                by_cases e : j = t
                · subst e
                  rw [hv, if_pos (by omega), show (k + 1).toNat = k.toNat + 1 by omega]
                  conv => rhs; unfold zcn
                  rw [if_pos (by omega), show ((k.toNat : Nat) : Int) = k by omega, show b = M 200 2 by omega]
                · rw [hI j hj e]
                  by_cases g : t < j ∧ j < zp2 (M 200 2)
                  · rw [if_pos g, if_pos (by omega)]
                  · rw [if_neg g, if_neg (by omega)]
              · have c79_1 := c79_1
                have hb1 := zcr_b (C := (zcn (zask2 M (M1 211)) (M 200 2) k.toNat)) (a := (fun b => zask2 M (M1 211) b k)) (j := t) b.toNat (zcn_b _ t)
                rw [← hv] at hb1
                have zbb := zbit_b t b
                have hpb := zp2_pos b
                have hst : zcr (zcn (zask2 M (M1 211)) (M 200 2) k.toNat) (fun b => zask2 M (M1 211) b k) t (b + 1).toNat = if Mx 216 t ≠ 0 ∨ (zbit t b = 1 ∧ 0 ≤ zask2 M (M1 211) b k ∧ (zcn (zask2 M (M1 211)) (M 200 2) k.toNat) (t - zp2 b) ≠ 0) then 1 else 0 := by
                  rw [show (b + 1).toNat = b.toNat + 1 by omega, hv]
                  conv => lhs; unfold zcr
                  rw [show ((b.toNat : Nat) : Int) = b by omega]
                have hab := ha b k (by omega) (by omega)
                have hzbb := hzb b k
                have hc2 := zcn_b (B := zask2 M (M1 211)) (nb := M 200 2) k.toNat (t - zp2 b)
                refine v_aload_0 ok dX8_most_82 (n := 83) rfl ?_
                refine v_getR ok fd_X8_38 ly_200 rfl rfl rfl rf_200_15 dX8_most_83 (n := 86) rfl ?_
                refine v_iload_3 ok dX8_most_86 (n := 87) rfl ?_
                refine v_aload_0 ok dX8_most_87 (n := 88) rfl ?_
                refine v_getR ok fd_X8_38 ly_200 rfl rfl rfl rf_200_15 dX8_most_88 (n := 91) rfl ?_
                refine v_iload_3 ok dX8_most_91 (n := 92) rfl ?_
                refine v_zald ok ly_216 rfl (by omega) (by decide) dX8_most_92 (n := 93) rfl ?_
                try simp (disch := omega) only [fx, k2]
                refine v_if_ne ok dX8_most_93 (tgt := 137) (by decide) (n := 96) rfl (by omega) (fun c93_2 => ?_) (fun c93_2 => ?_)
                · have c93_2 := c93_2
                  refine v_iconst ok dX8_most_137 (n := 138) rfl ?_
                  refine v_goto ok dX8_most_138 (n := 142) (by decide) ?_
                  refine v_zast ok (by omega) ly_216 rfl (by omega) (by decide) dX8_most_142 (n := 143) rfl ?_
                  refine v_iinc_4 ok (by decide) rfl dX8_most_143 (n := 146) rfl ?_
                  refine v_goto ok dX8_most_146 (n := 73) (by decide) ?_
                  refine ih _ (by omega) (b + 1) _ rfl (by omega) (fun r hr => by rw [zset_o hr]; exact fx r hr) ?_ (fun j hj hjt => by rw [zset_n hjt]; exact hI j hj hjt)
                  rw [zset_s, hst]
                  first
                  | rw [if_pos (by omega)]
                  | rw [if_neg (by omega)]
                · have c93_2 := c93_2
                  refine v_iload_3 ok dX8_most_96 (n := 97) rfl ?_
                  refine v_iload_4 ok dX8_most_97 (n := 99) rfl ?_
                  refine v_ishr ok dX8_most_99 (n := 100) rfl ?_
                  refine v_iconst ok dX8_most_100 (n := 101) rfl ?_
                  refine v_iand ok dX8_most_101 (n := 102) rfl ?_
                  rw [zand_bit (by omega) (by omega)]
                  refine v_iconst ok dX8_most_102 (n := 103) rfl ?_
                  refine v_icmp_ne ok dX8_most_103 (tgt := 141) (by decide) (n := 106) rfl (by omega) (by omega) (fun c103_3 => ?_) (fun c103_3 => ?_)
                  · have c103_3 := c103_3
                    refine v_iconst ok dX8_most_141 (n := 142) rfl ?_
                    refine v_zast ok (by omega) ly_216 rfl (by omega) (by decide) dX8_most_142 (n := 143) rfl ?_
                    refine v_iinc_4 ok (by decide) rfl dX8_most_143 (n := 146) rfl ?_
                    refine v_goto ok dX8_most_146 (n := 73) (by decide) ?_
                    refine ih _ (by omega) (b + 1) _ rfl (by omega) (fun r hr => by rw [zset_o hr]; exact fx r hr) ?_ (fun j hj hjt => by rw [zset_n hjt]; exact hI j hj hjt)
                    rw [zset_s, hst]
                    first
                    | rw [if_pos (by omega)]
                    | rw [if_neg (by omega)]
                  · have c103_3 := c103_3
                    refine v_aload_0 ok dX8_most_106 (n := 107) rfl ?_
                    refine v_getR ok fd_X8_28 ly_200 rfl rfl rfl rf_200_12 dX8_most_107 (n := 110) rfl ?_
                    refine v_bipush ok (by decide) dX8_most_110 (n := 112) rfl ?_
                    refine v_iload_4 ok dX8_most_112 (n := 114) rfl ?_
                    refine v_imul ok dX8_most_114 (n := 115) rfl ?_
                    refine v_iload_2 ok dX8_most_115 (n := 116) rfl ?_
                    refine v_iadd ok dX8_most_116 (n := 117) rfl ?_
                    refine v_iald ok ly_213 rfl (by omega) (by decide) dX8_most_117 (n := 118) rfl ?_
                    try simp (disch := omega) only [fx, k2]
                    rw [hab]
                    refine v_if_lt ok dX8_most_118 (tgt := 141) (by decide) (n := 121) rfl (by omega) (fun c118_4 => ?_) (fun c118_4 => ?_)
                    · have c118_4 := c118_4
                      refine v_iconst ok dX8_most_141 (n := 142) rfl ?_
                      refine v_zast ok (by omega) ly_216 rfl (by omega) (by decide) dX8_most_142 (n := 143) rfl ?_
                      refine v_iinc_4 ok (by decide) rfl dX8_most_143 (n := 146) rfl ?_
                      refine v_goto ok dX8_most_146 (n := 73) (by decide) ?_
                      refine ih _ (by omega) (b + 1) _ rfl (by omega) (fun r hr => by rw [zset_o hr]; exact fx r hr) ?_ (fun j hj hjt => by rw [zset_n hjt]; exact hI j hj hjt)
                      rw [zset_s, hst]
                      first
                      | rw [if_pos (by omega)]
                      | rw [if_neg (by omega)]
                    · have c118_4 := c118_4
                      have hpl := zbit_lt (x := t) (b := b) (by omega) (by omega)
                      have hct := hI (t - zp2 b) (by omega) (by omega)
                      rw [if_neg (by omega)] at hct
                      refine v_aload_0 ok dX8_most_121 (n := 122) rfl ?_
                      refine v_getR ok fd_X8_38 ly_200 rfl rfl rfl rf_200_15 dX8_most_122 (n := 125) rfl ?_
                      refine v_iload_3 ok dX8_most_125 (n := 126) rfl ?_
                      refine v_iconst ok dX8_most_126 (n := 127) rfl ?_
                      refine v_iload_4 ok dX8_most_127 (n := 129) rfl ?_
                      refine v_ishl ok dX8_most_129 (n := 130) rfl ?_
                      rw [zshl_1 (by omega)]
                      refine v_iconst ok dX8_most_130 (n := 131) rfl ?_
                      refine v_ixor ok dX8_most_131 (n := 132) rfl ?_
                      refine v_iand ok dX8_most_132 (n := 133) rfl ?_
                      rw [zclr (by omega) (by omega) (by omega)]
                      refine v_zald ok ly_216 rfl (by omega) (by decide) dX8_most_133 (n := 134) rfl ?_
                      try simp (disch := omega) only [fx, k2]
                      rw [hct]
                      refine v_if_eq ok dX8_most_134 (tgt := 141) (by decide) (n := 137) rfl (by omega) (fun c134_5 => ?_) (fun c134_5 => ?_)
                      · have c134_5 := c134_5
                        refine v_iconst ok dX8_most_141 (n := 142) rfl ?_
                        refine v_zast ok (by omega) ly_216 rfl (by omega) (by decide) dX8_most_142 (n := 143) rfl ?_
                        refine v_iinc_4 ok (by decide) rfl dX8_most_143 (n := 146) rfl ?_
                        refine v_goto ok dX8_most_146 (n := 73) (by decide) ?_
                        refine ih _ (by omega) (b + 1) _ rfl (by omega) (fun r hr => by rw [zset_o hr]; exact fx r hr) ?_ (fun j hj hjt => by rw [zset_n hjt]; exact hI j hj hjt)
                        rw [zset_s, hst]
                        first
                        | rw [if_pos (by omega)]
                        | rw [if_neg (by omega)]
                      · have c134_5 := c134_5
                        refine v_iconst ok dX8_most_137 (n := 138) rfl ?_
                        refine v_goto ok dX8_most_138 (n := 142) (by decide) ?_
                        refine v_zast ok (by omega) ly_216 rfl (by omega) (by decide) dX8_most_142 (n := 143) rfl ?_
                        refine v_iinc_4 ok (by decide) rfl dX8_most_143 (n := 146) rfl ?_
                        refine v_goto ok dX8_most_146 (n := 73) (by decide) ?_
                        refine ih _ (by omega) (b + 1) _ rfl (by omega) (fun r hr => by rw [zset_o hr]; exact fx r hr) ?_ (fun j hj hjt => by rw [zset_n hjt]; exact hI j hj hjt)
                        rw [zset_s, hst]
                        first
                        | rw [if_pos (by omega)]
                        | rw [if_neg (by omega)]
            refine v_iconst ok dX8_most_70 (n := 71) rfl ?_
            refine v_istore_4 ok (by decide) rfl dX8_most_71 (n := 73) rfl ?_
            refine lpb _ 0 _ rfl (by omega) fx ?_ (fun j hj _ => hI j hj)
            rw [hI t (by omega), if_neg (by omega)]
            rfl
        refine v_iconst ok dX8_most_57 (n := 58) rfl ?_
        refine v_aload_0 ok dX8_most_58 (n := 59) rfl ?_
        refine v_getI ok fd_X8_81 ly_200 rfl rfl (jI := 2) rfl dX8_most_59 (n := 62) rfl ?_
        try simp (disch := omega) only [fx, k2]
        refine v_ishl ok dX8_most_62 (n := 63) rfl ?_
        rw [zshl_1 (by omega)]
        refine v_iconst ok dX8_most_63 (n := 64) rfl ?_
        refine v_isub ok dX8_most_64 (n := 65) rfl ?_
        refine v_istore_3 ok (by decide) rfl dX8_most_65 (n := 66) rfl ?_
        exact lpt _ (zp2 (M 200 2) - 1) _ Mx rfl (by omega) fx (fun j hj => by rw [if_neg (by omega)]; exact hI j hj)
    have lpf : ∀ (zn : Nat) (i : Int) (Mx : zM), zn = (129 - i).toNat → (0 ≤ i ∧ i ≤ 128) → (∀ r, r ≠ 216 → Mx r = M1 r) → (∀ j, 0 ≤ j ∧ j < i → Mx 216 j = if j = 0 then 1 else 0) → zVV G γ (zw ad) (0, 0) 19 [some (zr 200), some (zi d), some (zi i), none, none] [] Mx := by
      refine zrec _ (fun zn ih => ?_)
      intro i Mx hzn hi fx hI
      refine v_iload_2 ok dX8_most_19 (n := 20) rfl ?_
      refine v_sipush ok (by decide) dX8_most_20 (n := 23) rfl ?_
      refine v_icmp_ge ok dX8_most_23 (tgt := 47) (by decide) (n := 26) rfl (by omega) (by omega) (fun c23_1 => ?_) (fun c23_1 => ?_)
      · have c23_1 := c23_1
        refine v_iconst ok dX8_most_47 (n := 48) rfl ?_
        refine v_istore_2 ok (by decide) rfl dX8_most_48 (n := 49) rfl ?_
        exact lpk _ 0 _ _ Mx rfl (by omega) fx (fun j hj => hI j (by omega))
      · have c23_1 := c23_1
        refine v_aload_0 ok dX8_most_26 (n := 27) rfl ?_
        refine v_getR ok fd_X8_38 ly_200 rfl rfl rfl rf_200_15 dX8_most_27 (n := 30) rfl ?_
        refine v_iload_2 ok dX8_most_30 (n := 31) rfl ?_
        refine v_iload_2 ok dX8_most_31 (n := 32) rfl ?_
        refine v_if_ne ok dX8_most_32 (tgt := 39) (by decide) (n := 35) rfl (by omega) (fun c32_2 => ?_) (fun c32_2 => ?_)
        · have c32_2 := c32_2
          refine v_iconst ok dX8_most_39 (n := 40) rfl ?_
          refine v_zast ok (by omega) ly_216 rfl (by omega) (by decide) dX8_most_40 (n := 41) rfl ?_
          refine v_iinc_2 ok (by decide) rfl dX8_most_41 (n := 44) rfl ?_
          refine v_goto ok dX8_most_44 (n := 19) (by decide) ?_
          refine ih _ (by omega) (i + 1) _ rfl (by omega) (fun r hr => by rw [zset_o hr]; exact fx r hr) (fun j hj => ?_)
          by_cases e : j = i
          · rw [e, zset_s]
            first
            | rw [if_pos (by omega)]
            | rw [if_neg (by omega)]
          · rw [zset_n e]
            exact hI j (by omega)
        · have c32_2 := c32_2
          refine v_iconst ok dX8_most_35 (n := 36) rfl ?_
          refine v_goto ok dX8_most_36 (n := 40) (by decide) ?_
          refine v_zast ok (by omega) ly_216 rfl (by omega) (by decide) dX8_most_40 (n := 41) rfl ?_
          refine v_iinc_2 ok (by decide) rfl dX8_most_41 (n := 44) rfl ?_
          refine v_goto ok dX8_most_44 (n := 19) (by decide) ?_
          refine ih _ (by omega) (i + 1) _ rfl (by omega) (fun r hr => by rw [zset_o hr]; exact fx r hr) (fun j hj => ?_)
          by_cases e : j = i
          · rw [e, zset_s]
            first
            | rw [if_pos (by omega)]
            | rw [if_neg (by omega)]
          · rw [zset_n e]
            exact hI j (by omega)
    refine v_iconst ok dX8_most_17 (n := 18) rfl ?_
    refine v_istore_2 ok (by decide) rfl dX8_most_18 (n := 19) rfl ?_
    exact lpf _ 0 M1 rfl (by omega) (fun _ _ => rfl) (fun j hj => by omega)
  · have c7_1 := c7_1
    refine v_iconst ok dX8_most_10 (n := 11) rfl ?_
    refine v_iret rt dX8_most_11 ?_
    exact ⟨zfrM_r M, Or.inl ⟨by omega, rfl⟩⟩

