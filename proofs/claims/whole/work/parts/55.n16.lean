/-! the model: tries -/
/-- whether one of the first shoes that are there has the size t -/
def zhs (M : zM) (d : Int) : Nat → Int → Int
  | 0 => fun _ => 0
  | s + 1 => fun t => if t = M 202 (4 * s + 1) then (if zhs M d s t ≠ 0 ∨ zMP M d s then 1 else 0) else zhs M d s t
theorem zhs_b {M : zM} {d : Int} (n : Nat) : ∀ t, zhs M d n t = 0 ∨ zhs M d n t = 1 := by
  induction n with
  | zero => exact fun _ => Or.inl rfl
  | succ n ih =>
    intro t
    unfold zhs
    split
    · split
      · exact Or.inr rfl
      · exact Or.inl rfl
    · exact ih t
def zmn (C : Int → Int) (T : Int → Int → Int) (a b t : Int) : Int := if C t ≠ 0 then zMB2 T a b t else 1000000
/-- the fewest of the first k sizes from a on -/
def zmf (C : Int → Int) (T : Int → Int → Int) (a b : Int) : Nat → Int
  | 0 => 1000000
  | k + 1 => if zmn C T a b (a + k) < zmf C T a b k then zmn C T a b (a + k) else zmf C T a b k
theorem zmf_b {C : Int → Int} {T : Int → Int → Int} {a b : Int} (n : Nat) (h : ∀ k : Nat, k < n → 0 ≤ T a (a + k - 1)) : 0 ≤ zmf C T a b n ∧ zmf C T a b n ≤ 1000000 := by
  induction n with
  | zero => exact ⟨show (0 : Int) ≤ 1000000 by omega, Int.le_refl _⟩
  | succ n ih =>
    have ih := ih (fun k hk => h k (by omega))
    have h1 := h n (by omega)
    unfold zmf
    split
    · next g =>
      refine ⟨?_, by omega⟩
      unfold zmn
      split
      · unfold zMB2
        have := zmax_b (T a (a + n - 1)) (T (a + n + 1) b)
        omega
      · omega
    · exact ih
theorem zmf_c {C : Int → Int} {T T' : Int → Int → Int} {a b : Int} (h : ∀ g j, a ≤ g → j ≤ b → j - g < b - a → T' g j = T g j) (n : Nat) (hn : n ≤ b - a + 1) (hab : a ≤ b) : zmf C T' a b n = zmf C T a b n := by
  induction n with
  | zero => rfl
  | succ n ih =>
    have e : zmn C T' a b (a + n) = zmn C T a b (a + n) := by
      unfold zmn zMB2
      rw [h a (a + n - 1) (by omega) (by omega) (by omega), h (a + n + 1) b (by omega) (by omega) (by omega)]
    unfold zmf
    rw [ih (by omega), e]
theorem zmf_x {C : Int → Int} {T : Int → Int → Int} {a b : Int} (n : Nat) : zmf C T a b n = 1000000 ∨ zexi (fun k => C (a + k) ≠ 0 ∧ zMB2 T a b (a + k) = zmf C T a b n) n := by
  induction n with
  | zero => exact Or.inl rfl
  | succ n ih =>
    unfold zmf
    split
    · next g =>
      have hb : zmf C T a b n ≤ 1000000 ∨ True := Or.inr trivial
      by_cases e : C (a + n) ≠ 0
      · refine Or.inr ⟨n, by omega, e, ?_⟩
        unfold zmn
        rw [if_pos e]
      · refine Or.inl ?_
        unfold zmn
        rw [if_neg e]
    · rcases ih with h | ⟨k, hk, h⟩
      · exact Or.inl h
      · exact Or.inr ⟨k, by omega, h⟩
/-- the table is right for ranges narrower than w, and of w for those from before f -/
def zMTb (C : Int → Int) (T : Int → Int → Int) (w f : Int) : Prop := ∀ a b, 20 ≤ a → a < b → b ≤ 60 → (b - a < w ∨ (b - a = w ∧ a < f)) → T a b = zmf C T a b (b - a + 1).toNat ∧ 0 ≤ T a b ∧ T a b ≤ 1000000
theorem zMTb_b {C : Int → Int} {M : zM} {w f a b : Int} (h : zMTb C (zMT M) w f) (ha : 20 ≤ a) (hb : b ≤ 60) (hw : b - a < w) : 0 ≤ zMT M a b ∧ zMT M a b ≤ 1000000 := by
  by_cases e : b ≤ a
  · unfold zMT
    rw [if_pos e]
    omega
  · exact (h a b ha (by omega) hb (Or.inl hw)).2
theorem zMTb_s {C : Int → Int} {M : zM} {w a v : Int} (h : zMTb C (zMT M) w a) (hw : 1 ≤ w) (hf : 20 ≤ a ∧ a + w ≤ 60) (hv : v = zmf C (zMT M) a (a + w) (w + 1).toNat) (hb : 0 ≤ v ∧ v ≤ 1000000) : zMTb C (zMT (zset M 218 (41 * (a - 20) + a + w - 20) v)) w (a + 1) := by
  have ho : ∀ g j, 20 ≤ g → j ≤ 60 → ¬ (g = a ∧ j = a + w) → zMT (zset M 218 (41 * (a - 20) + a + w - 20) v) g j = zMT M g j := by
    intro g j hg hj hgj
    unfold zMT
    by_cases e : j ≤ g
    · rw [if_pos e, if_pos e]
    · rw [if_neg e, if_neg e, zset_n (by omega)]
  intro g j hg hgj hj hc
  rw [zmf_c (fun p q h1 h2 h3 => ho p q (by omega) (by omega) (by omega)) _ (by omega) (by omega)]
  by_cases e : g = a ∧ j = a + w
  · obtain ⟨rfl, rfl⟩ := e
    have e1 : zMT (zset M 218 (41 * (g - 20) + g + w - 20) v) g (g + w) = v := by
      unfold zMT
      rw [if_neg (by omega), show 41 * (g - 20) + (g + w) - 20 = 41 * (g - 20) + g + w - 20 by omega, zset_s]
    rw [e1, hv, show g + w - g + 1 = w + 1 by omega, ← hv]
    exact ⟨rfl, hb⟩
  · rw [ho g j hg hj e]
    exact h g j hg hgj hj (by omega)
theorem zMTb_n {C : Int → Int} {T : Int → Int → Int} {w f : Int} (h : zMTb C T w f) (hf : 60 < f + w) : zMTb C T (w + 1) 20 := fun a b h1 h2 h3 h4 => h a b h1 h2 h3 (by omega)
theorem zMTb_1 {C : Int → Int} {T : Int → Int → Int} : zMTb C T 1 20 := fun a b h1 h2 h3 h4 => by omega
set_option maxHeartbeats 4000000 in
set_option maxRecDepth 100000 in
theorem u_findTries {G : zG} {ad : Int → Nat} {M : zM} {d : Int} (hd : 0 ≤ d ∧ d ≤ 1) (hns : 0 ≤ M 200 3 ∧ M 200 3 ≤ 16) (hS : ∀ s, 0 ≤ s ∧ s < M 200 3 → zMS M s)  : zTV G (zw ad) mi_X8_findTries [zr 200, zi d] M (fun M' => (∀ r, r ≠ 217 → r ≠ 218 → M' r = M r) ∧ (∀ t, 0 ≤ t ∧ t < 71 → M' 217 t = zhs M d (M 200 3).toNat t) ∧ zMTb (M' 217) (zMT M') 41 20) := by
  refine zTV.of (own := RX8) (ls := [some (zr 200), some (zi d), none, none, none, none, none]) (by decide +kernel) rfl rfl (Nat.le_of_ble_eq_true rfl) (fun γ ok rt => ?_)
  have lpw : ∀ (zn : Nat) (w : Int) (l3 l4 l5 l6 : Option zV) (Mx : zM), zn = (42 - w).toNat → (1 ≤ w ∧ w ≤ 41) → (∀ r, r ≠ 217 → r ≠ 218 → Mx r = M r) → (∀ t, 0 ≤ t ∧ t < 71 → Mx 217 t = zhs M d (M 200 3).toNat t) → (zMTb (Mx 217) (zMT Mx) w 20) → zVV G γ (zw ad) (0, 0) 102 [some (zr 200), some (zi d), some (zi w), l3, l4, l5, l6] [] Mx := by
    refine zrec _ (fun zn ih => ?_)
    intro w l3 l4 l5 l6 Mx hzn hw fx hC htb
    refine v_iload_2 ok dX8_findTries_102 (n := 103) rfl ?_
    refine v_bipush ok (by decide) dX8_findTries_103 (n := 105) rfl ?_
    refine v_icmp_ge ok dX8_findTries_105 (tgt := 216) (by decide) (n := 108) rfl (by omega) (by omega) (fun c105_1 => ?_) (fun c105_1 => ?_)
    · have c105_1 := c105_1
      refine v_vret rt dX8_findTries_216 ?_
      exact ⟨fx, hC, by rw [show w = 41 by omega] at htb; exact htb⟩
    · have c105_1 := c105_1
      have ih3 := ih
      have lpa : ∀ (zn : Nat) (a : Int) (l4 l5 l6 : Option zV) (Mx : zM), zn = (62 - a).toNat → (20 ≤ a ∧ a ≤ 61) → (∀ r, r ≠ 217 → r ≠ 218 → Mx r = M r) → (∀ t, 0 ≤ t ∧ t < 71 → Mx 217 t = zhs M d (M 200 3).toNat t) → (zMTb (Mx 217) (zMT Mx) w a) → zVV G γ (zw ad) (0, 0) 111 [some (zr 200), some (zi d), some (zi w), some (zi a), l4, l5, l6] [] Mx := by
        refine zrec _ (fun zn ih => ?_)
        intro a l4 l5 l6 Mx hzn ha fx hC htb
        refine v_iload_3 ok dX8_findTries_111 (n := 112) rfl ?_
        refine v_iload_2 ok dX8_findTries_112 (n := 113) rfl ?_
        refine v_iadd ok dX8_findTries_113 (n := 114) rfl ?_
        refine v_bipush ok (by decide) dX8_findTries_114 (n := 116) rfl ?_
        refine v_icmp_gt ok dX8_findTries_116 (tgt := 210) (by decide) (n := 119) rfl (by omega) (by omega) (fun c116_1 => ?_) (fun c116_1 => ?_)
        · have c116_1 := c116_1
          refine v_iinc_2 ok (by decide) rfl dX8_findTries_210 (n := 213) rfl ?_
          refine v_goto ok dX8_findTries_213 (n := 102) (by decide) ?_
          exact ih3 _ (by omega) (w + 1) _ _ _ _ _ rfl (by omega) fx hC (zMTb_n htb (by omega))
        · have c116_1 := c116_1
          have ih2 := ih
          have lpt : ∀ (zn : Nat) (t v : Int) (l6 : Option zV), zn = (62 - t).toNat → (a ≤ t ∧ t ≤ a + w + 1) → (v = zmf (Mx 217) (zMT Mx) a (a + w) (t - a).toNat) → (0 ≤ v ∧ v ≤ 1000000) → zVV G γ (zw ad) (0, 0) 126 [some (zr 200), some (zi d), some (zi w), some (zi a), some (zi v), some (zi t), l6] [] Mx := by
            refine zrec _ (fun zn ih => ?_)
            intro t v l6 hzn ht hv hvb
            refine v_iload_5 ok dX8_findTries_126 (n := 128) rfl ?_
            refine v_iload_3 ok dX8_findTries_128 (n := 129) rfl ?_
            refine v_iload_2 ok dX8_findTries_129 (n := 130) rfl ?_
            refine v_iadd ok dX8_findTries_130 (n := 131) rfl ?_
            refine v_icmp_gt ok dX8_findTries_131 (tgt := 183) (by decide) (n := 134) rfl (by omega) (by omega) (fun c131_1 => ?_) (fun c131_1 => ?_)
            · have c131_1 := c131_1
              refine v_aload_0 ok dX8_findTries_183 (n := 184) rfl ?_
              refine v_getR ok fd_X8_45 ly_200 rfl rfl rfl rf_200_17 dX8_findTries_184 (n := 187) rfl ?_
              refine v_bipush ok (by decide) dX8_findTries_187 (n := 189) rfl ?_
              refine v_iload_3 ok dX8_findTries_189 (n := 190) rfl ?_
              refine v_bipush ok (by decide) dX8_findTries_190 (n := 192) rfl ?_
              refine v_isub ok dX8_findTries_192 (n := 193) rfl ?_
              refine v_imul ok dX8_findTries_193 (n := 194) rfl ?_
              refine v_iload_3 ok dX8_findTries_194 (n := 195) rfl ?_
              refine v_iadd ok dX8_findTries_195 (n := 196) rfl ?_
              refine v_iload_2 ok dX8_findTries_196 (n := 197) rfl ?_
              refine v_iadd ok dX8_findTries_197 (n := 198) rfl ?_
              refine v_bipush ok (by decide) dX8_findTries_198 (n := 200) rfl ?_
              refine v_isub ok dX8_findTries_200 (n := 201) rfl ?_
              refine v_iload_4 ok dX8_findTries_201 (n := 203) rfl ?_
              refine v_iast ok ly_218 rfl (by omega) (by decide) dX8_findTries_203 (n := 204) rfl ?_
              refine v_iinc_3 ok (by decide) rfl dX8_findTries_204 (n := 207) rfl ?_
              refine v_goto ok dX8_findTries_207 (n := 111) (by decide) ?_
              refine ih2 _ (by omega) (a + 1) _ _ _ _ rfl (by omega) (fun r h1 h2 => by rw [zset_o h2]; exact fx r h1 h2) (by rw [zset_o (by omega)]; exact hC) ?_
              have e := zMTb_s (v := v) htb (by omega) (by omega) (by rw [hv, show t - a = w + 1 by omega]) hvb
              rw [zset_o (by omega)]
              exact e
            · have c131_1 := c131_1
              have b1 := zMTb_b (a := a) (b := t - 1) htb (by omega) (by omega) (by omega)
              have b2 := zMTb_b (a := t + 1) (b := a + w) htb (by omega) (by omega) (by omega)
              have bm := zmax_b (zMT Mx a (t - 1)) (zMT Mx (t + 1) (a + w))
              have hst : zmf (Mx 217) (zMT Mx) a (a + w) (t + 1 - a).toNat = if zmn (Mx 217) (zMT Mx) a (a + w) t < v then zmn (Mx 217) (zMT Mx) a (a + w) t else v := by
                rw [show (t + 1 - a).toNat = (t - a).toNat + 1 by omega]
                conv => lhs; unfold zmf
                rw [← hv, show a + (((t - a).toNat : Nat) : Int) = t by omega]
              have hct : Mx 217 t = 0 ∨ Mx 217 t = 1 := by
                rw [hC t (by omega)]
                exact zhs_b _ _
              refine v_aload_0 ok dX8_findTries_134 (n := 135) rfl ?_
              refine v_getR ok fd_X8_42 ly_200 rfl rfl rfl rf_200_16 dX8_findTries_135 (n := 138) rfl ?_
              refine v_iload_5 ok dX8_findTries_138 (n := 140) rfl ?_
              refine v_zald ok ly_217 rfl (by omega) (by decide) dX8_findTries_140 (n := 141) rfl ?_
              try simp (disch := omega) only [fx]
              refine v_if_eq ok dX8_findTries_141 (tgt := 157) (by decide) (n := 144) rfl (by omega) (fun c141_2 => ?_) (fun c141_2 => ?_)
              · have c141_2 := c141_2
                refine v_ldc ok (c := 1000000) kc_X8_192 (by decide) dX8_findTries_157 (n := 159) rfl ?_
                refine v_istore_6 ok (by decide) rfl dX8_findTries_159 (n := 161) rfl ?_
                refine v_iload_6 ok dX8_findTries_161 (n := 163) rfl ?_
                refine v_iload_4 ok dX8_findTries_163 (n := 165) rfl ?_
                refine v_icmp_ge ok dX8_findTries_165 (tgt := 173) (by decide) (n := 168) rfl (by omega) (by omega) (fun c165_3 => ?_) (fun c165_3 => ?_)
                · have c165_3 := c165_3
                  refine v_iload_4 ok dX8_findTries_173 (n := 175) rfl ?_
                  refine v_istore_4 ok (by decide) rfl dX8_findTries_175 (n := 177) rfl ?_
                  refine v_iinc_5 ok (by decide) rfl dX8_findTries_177 (n := 180) rfl ?_
                  refine v_goto ok dX8_findTries_180 (n := 126) (by decide) ?_
                  first
                  | (exfalso; omega)
                  | (refine ih _ (by omega) (t + 1) _ _ rfl (by omega) ?_ (by omega)
                     rw [hst]
                     unfold zmn
                     first
                     | rw [if_pos (show Mx 217 t ≠ 0 by omega)]
                     | rw [if_neg (show ¬ Mx 217 t ≠ 0 by omega)]
                     try unfold zMB2
                     first
                     | rw [if_pos (by omega)]
                       first
                       | exact e2
                       | skip
                     | rw [if_neg (by omega)])
                · have c165_3 := c165_3
                  refine v_iload_6 ok dX8_findTries_168 (n := 170) rfl ?_
                  refine v_goto ok dX8_findTries_170 (n := 175) (by decide) ?_
                  refine v_istore_4 ok (by decide) rfl dX8_findTries_175 (n := 177) rfl ?_
                  refine v_iinc_5 ok (by decide) rfl dX8_findTries_177 (n := 180) rfl ?_
                  refine v_goto ok dX8_findTries_180 (n := 126) (by decide) ?_
                  first
                  | (exfalso; omega)
                  | (refine ih _ (by omega) (t + 1) _ _ rfl (by omega) ?_ (by omega)
                     rw [hst]
                     unfold zmn
                     first
                     | rw [if_pos (show Mx 217 t ≠ 0 by omega)]
                     | rw [if_neg (show ¬ Mx 217 t ≠ 0 by omega)]
                     try unfold zMB2
                     first
                     | rw [if_pos (by omega)]
                       first
                       | exact e2
                       | skip
                     | rw [if_neg (by omega)])
              · have c141_2 := c141_2
                refine v_aload_0 ok dX8_findTries_144 (n := 145) rfl ?_
                refine v_iload_3 ok dX8_findTries_145 (n := 146) rfl ?_
                refine v_iload_3 ok dX8_findTries_146 (n := 147) rfl ?_
                refine v_iload_2 ok dX8_findTries_147 (n := 148) rfl ?_
                refine v_iadd ok dX8_findTries_148 (n := 149) rfl ?_
                refine v_iload_5 ok dX8_findTries_149 (n := 151) rfl ?_
                refine v_callVI ok (mi := mi_X8_triesBy) mc_X8_triesBy cv_X8_212 ly_200 rfl rfl rfl (by decide) ⟨Nat.zero_le _, Nat.zero_le _⟩ dX8_findTries_151 (n := 154) rfl rfl rfl (Nat.le_of_ble_eq_true rfl) (u_triesBy (by omega) (by omega) (by omega)) (fun x2 N2 g2 => ?_)
                obtain ⟨g2, e2⟩ := g2
                subst N2
                have e2 := e2
                unfold zMB2 at e2
                refine v_goto ok dX8_findTries_154 (n := 159) (by decide) ?_
                refine v_istore_6 ok (by decide) rfl dX8_findTries_159 (n := 161) rfl ?_
                refine v_iload_6 ok dX8_findTries_161 (n := 163) rfl ?_
                refine v_iload_4 ok dX8_findTries_163 (n := 165) rfl ?_
                refine v_icmp_ge ok dX8_findTries_165 (tgt := 173) (by decide) (n := 168) rfl (by omega) (by omega) (fun c165_4 => ?_) (fun c165_4 => ?_)
                · have c165_4 := c165_4
                  refine v_iload_4 ok dX8_findTries_173 (n := 175) rfl ?_
                  refine v_istore_4 ok (by decide) rfl dX8_findTries_175 (n := 177) rfl ?_
                  refine v_iinc_5 ok (by decide) rfl dX8_findTries_177 (n := 180) rfl ?_
                  refine v_goto ok dX8_findTries_180 (n := 126) (by decide) ?_
                  first
                  | (exfalso; omega)
                  | (refine ih _ (by omega) (t + 1) _ _ rfl (by omega) ?_ (by omega)
                     rw [hst]
                     unfold zmn
                     first
                     | rw [if_pos (show Mx 217 t ≠ 0 by omega)]
                     | rw [if_neg (show ¬ Mx 217 t ≠ 0 by omega)]
                     try unfold zMB2
                     first
                     | rw [if_pos (by omega)]
                       first
                       | exact e2
                       | skip
                     | rw [if_neg (by omega)])
                · have c165_4 := c165_4
                  refine v_iload_6 ok dX8_findTries_168 (n := 170) rfl ?_
                  refine v_goto ok dX8_findTries_170 (n := 175) (by decide) ?_
                  refine v_istore_4 ok (by decide) rfl dX8_findTries_175 (n := 177) rfl ?_
                  refine v_iinc_5 ok (by decide) rfl dX8_findTries_177 (n := 180) rfl ?_
                  refine v_goto ok dX8_findTries_180 (n := 126) (by decide) ?_
                  first
                  | (exfalso; omega)
                  | (refine ih _ (by omega) (t + 1) _ _ rfl (by omega) ?_ (by omega)
                     rw [hst]
                     unfold zmn
                     first
                     | rw [if_pos (show Mx 217 t ≠ 0 by omega)]
                     | rw [if_neg (show ¬ Mx 217 t ≠ 0 by omega)]
                     try unfold zMB2
                     first
                     | rw [if_pos (by omega)]
                       first
                       | exact e2
                       | skip
                     | rw [if_neg (by omega)])
          refine v_ldc ok (c := 1000000) kc_X8_192 (by decide) dX8_findTries_119 (n := 121) rfl ?_
          refine v_istore_4 ok (by decide) rfl dX8_findTries_121 (n := 123) rfl ?_
          refine v_iload_3 ok dX8_findTries_123 (n := 124) rfl ?_
          refine v_istore_5 ok (by decide) rfl dX8_findTries_124 (n := 126) rfl ?_
          exact lpt _ a _ _ rfl (by omega) (by rw [show a - a = 0 by omega]; rfl) (by omega)
      refine v_bipush ok (by decide) dX8_findTries_108 (n := 110) rfl ?_
      refine v_istore_3 ok (by decide) rfl dX8_findTries_110 (n := 111) rfl ?_
      exact lpa _ 20 _ _ _ Mx rfl (by omega) fx hC htb
  have lps : ∀ (zn : Nat) (s : Int) (Mx : zM), zn = (17 - s).toNat → (0 ≤ s ∧ s ≤ M 200 3) → (∀ r, r ≠ 217 → Mx r = M r) → (∀ t, 0 ≤ t ∧ t < 71 → Mx 217 t = zhs M d s.toNat t) → zVV G γ (zw ad) (0, 0) 23 [some (zr 200), some (zi d), some (zi s), none, none, none, none] [] Mx := by
    refine zrec _ (fun zn ih => ?_)
    intro s Mx hzn hs fx hC
    refine v_iload_2 ok dX8_findTries_23 (n := 24) rfl ?_
    refine v_aload_0 ok dX8_findTries_24 (n := 25) rfl ?_
    refine v_getI ok fd_X8_89 ly_200 rfl rfl (jI := 3) rfl dX8_findTries_25 (n := 28) rfl ?_
    try simp (disch := omega) only [fx]
    refine v_icmp_ge ok dX8_findTries_28 (tgt := 100) (by decide) (n := 31) rfl (by omega) (by omega) (fun c28_1 => ?_) (fun c28_1 => ?_)
    · have c28_1 := c28_1
      refine v_iconst ok dX8_findTries_100 (n := 101) rfl ?_
      refine v_istore_2 ok (by decide) rfl dX8_findTries_101 (n := 102) rfl ?_
      exact lpw _ 1 _ _ _ _ Mx rfl (by omega) (fun r h1 _ => fx r h1) (by rw [show s = M 200 3 by omega] at hC; exact hC) zMTb_1
    · have c28_1 := c28_1
      have hss := hS s (by omega)
      obtain ⟨s0, s1, s2, s3⟩ := id hss
      have hcb := zhs_b (M := M) (d := d) s.toNat (M 202 (4 * s + 1))
      rw [← hC _ (by omega)] at hcb
      refine v_aload_0 ok dX8_findTries_31 (n := 32) rfl ?_
      refine v_getR ok fd_X8_42 ly_200 rfl rfl rfl rf_200_16 dX8_findTries_32 (n := 35) rfl ?_
      refine v_aload_0 ok dX8_findTries_35 (n := 36) rfl ?_
      refine v_getR ok fd_X8_13 ly_200 rfl rfl rfl rf_200_1 dX8_findTries_36 (n := 39) rfl ?_
      refine v_iconst ok dX8_findTries_39 (n := 40) rfl ?_
      refine v_iload_2 ok dX8_findTries_40 (n := 41) rfl ?_
      refine v_imul ok dX8_findTries_41 (n := 42) rfl ?_
      refine v_iconst ok dX8_findTries_42 (n := 43) rfl ?_
      refine v_iadd ok dX8_findTries_43 (n := 44) rfl ?_
      refine v_iald ok ly_202 rfl (by omega) (by decide) dX8_findTries_44 (n := 45) rfl ?_
      try simp (disch := omega) only [fx]
      refine v_aload_0 ok dX8_findTries_45 (n := 46) rfl ?_
      refine v_getR ok fd_X8_42 ly_200 rfl rfl rfl rf_200_16 dX8_findTries_46 (n := 49) rfl ?_
      refine v_aload_0 ok dX8_findTries_49 (n := 50) rfl ?_
      refine v_getR ok fd_X8_13 ly_200 rfl rfl rfl rf_200_1 dX8_findTries_50 (n := 53) rfl ?_
      refine v_iconst ok dX8_findTries_53 (n := 54) rfl ?_
      refine v_iload_2 ok dX8_findTries_54 (n := 55) rfl ?_
      refine v_imul ok dX8_findTries_55 (n := 56) rfl ?_
      refine v_iconst ok dX8_findTries_56 (n := 57) rfl ?_
      refine v_iadd ok dX8_findTries_57 (n := 58) rfl ?_
      refine v_iald ok ly_202 rfl (by omega) (by decide) dX8_findTries_58 (n := 59) rfl ?_
      try simp (disch := omega) only [fx]
      refine v_zald ok ly_217 rfl (by omega) (by decide) dX8_findTries_59 (n := 60) rfl ?_
      try simp (disch := omega) only [fx]
      refine v_if_ne ok dX8_findTries_60 (tgt := 88) (by decide) (n := 63) rfl (by omega) (fun c60_2 => ?_) (fun c60_2 => ?_)
      · have c60_2 := c60_2
        refine v_iconst ok dX8_findTries_88 (n := 89) rfl ?_
        refine v_goto ok dX8_findTries_89 (n := 93) (by decide) ?_
        refine v_zast ok (by omega) ly_217 rfl (by omega) (by decide) dX8_findTries_93 (n := 94) rfl ?_
        refine v_iinc_2 ok (by decide) rfl dX8_findTries_94 (n := 97) rfl ?_
        refine v_goto ok dX8_findTries_97 (n := 23) (by decide) ?_
        refine ih _ (by omega) (s + 1) _ rfl (by omega) (fun r hr => by rw [zset_o hr]; exact fx r hr) (fun t ht => ?_)
        rw [show (s + 1).toNat = s.toNat + 1 by omega]
        conv => rhs; unfold zhs
        rw [show ((s.toNat : Nat) : Int) = s by omega, ← hC t ht]
        by_cases e : t = M 202 (4 * s + 1)
        · rw [e, zset_s, if_pos rfl]
          first
          | rw [if_pos (by omega)]
          | rw [if_neg (by omega)]
        · rw [zset_n e, if_neg e]
      · have c60_2 := c60_2
        refine v_aload_0 ok dX8_findTries_63 (n := 64) rfl ?_
        refine v_getR ok fd_X8_13 ly_200 rfl rfl rfl rf_200_1 dX8_findTries_64 (n := 67) rfl ?_
        refine v_iconst ok dX8_findTries_67 (n := 68) rfl ?_
        refine v_iload_2 ok dX8_findTries_68 (n := 69) rfl ?_
        refine v_imul ok dX8_findTries_69 (n := 70) rfl ?_
        refine v_iald ok ly_202 rfl (by omega) (by decide) dX8_findTries_70 (n := 71) rfl ?_
        try simp (disch := omega) only [fx]
        refine v_iload_1 ok dX8_findTries_71 (n := 72) rfl ?_
        refine v_icmp_ne ok dX8_findTries_72 (tgt := 92) (by decide) (n := 75) rfl (by omega) (by omega) (fun c72_3 => ?_) (fun c72_3 => ?_)
        · have c72_3 := c72_3
          refine v_iconst ok dX8_findTries_92 (n := 93) rfl ?_
          refine v_zast ok (by omega) ly_217 rfl (by omega) (by decide) dX8_findTries_93 (n := 94) rfl ?_
          refine v_iinc_2 ok (by decide) rfl dX8_findTries_94 (n := 97) rfl ?_
          refine v_goto ok dX8_findTries_97 (n := 23) (by decide) ?_
          refine ih _ (by omega) (s + 1) _ rfl (by omega) (fun r hr => by rw [zset_o hr]; exact fx r hr) (fun t ht => ?_)
          rw [show (s + 1).toNat = s.toNat + 1 by omega]
          conv => rhs; unfold zhs
          rw [show ((s.toNat : Nat) : Int) = s by omega, ← hC t ht]
          by_cases e : t = M 202 (4 * s + 1)
          · rw [e, zset_s, if_pos rfl]
            first
            | rw [if_pos (by omega)]
            | rw [if_neg (by omega)]
          · rw [zset_n e, if_neg e]
        · have c72_3 := c72_3
          refine v_aload_0 ok dX8_findTries_75 (n := 76) rfl ?_
          refine v_getR ok fd_X8_13 ly_200 rfl rfl rfl rf_200_1 dX8_findTries_76 (n := 79) rfl ?_
          refine v_iconst ok dX8_findTries_79 (n := 80) rfl ?_
          refine v_iload_2 ok dX8_findTries_80 (n := 81) rfl ?_
          refine v_imul ok dX8_findTries_81 (n := 82) rfl ?_
          refine v_iconst ok dX8_findTries_82 (n := 83) rfl ?_
          refine v_iadd ok dX8_findTries_83 (n := 84) rfl ?_
          refine v_iald ok ly_202 rfl (by omega) (by decide) dX8_findTries_84 (n := 85) rfl ?_
          try simp (disch := omega) only [fx]
          refine v_if_ne ok dX8_findTries_85 (tgt := 92) (by decide) (n := 88) rfl (by omega) (fun c85_4 => ?_) (fun c85_4 => ?_)
          · have c85_4 := c85_4
            refine v_iconst ok dX8_findTries_92 (n := 93) rfl ?_
            refine v_zast ok (by omega) ly_217 rfl (by omega) (by decide) dX8_findTries_93 (n := 94) rfl ?_
            refine v_iinc_2 ok (by decide) rfl dX8_findTries_94 (n := 97) rfl ?_
            refine v_goto ok dX8_findTries_97 (n := 23) (by decide) ?_
            refine ih _ (by omega) (s + 1) _ rfl (by omega) (fun r hr => by rw [zset_o hr]; exact fx r hr) (fun t ht => ?_)
            rw [show (s + 1).toNat = s.toNat + 1 by omega]
            conv => rhs; unfold zhs
            rw [show ((s.toNat : Nat) : Int) = s by omega, ← hC t ht]
            by_cases e : t = M 202 (4 * s + 1)
            · rw [e, zset_s, if_pos rfl]
              first
              | rw [if_pos (by omega)]
              | rw [if_neg (by omega)]
            · rw [zset_n e, if_neg e]
          · have c85_4 := c85_4
            refine v_iconst ok dX8_findTries_88 (n := 89) rfl ?_
            refine v_goto ok dX8_findTries_89 (n := 93) (by decide) ?_
            refine v_zast ok (by omega) ly_217 rfl (by omega) (by decide) dX8_findTries_93 (n := 94) rfl ?_
            refine v_iinc_2 ok (by decide) rfl dX8_findTries_94 (n := 97) rfl ?_
            refine v_goto ok dX8_findTries_97 (n := 23) (by decide) ?_
            refine ih _ (by omega) (s + 1) _ rfl (by omega) (fun r hr => by rw [zset_o hr]; exact fx r hr) (fun t ht => ?_)
            rw [show (s + 1).toNat = s.toNat + 1 by omega]
            conv => rhs; unfold zhs
            rw [show ((s.toNat : Nat) : Int) = s by omega, ← hC t ht]
            by_cases e : t = M 202 (4 * s + 1)
            · rw [e, zset_s, if_pos rfl]
              first
              | rw [if_pos (by omega)]
              | rw [if_neg (by omega)]
            · rw [zset_n e, if_neg e]
  have lpf : ∀ (zn : Nat) (i : Int) (Mx : zM), zn = (72 - i).toNat → (0 ≤ i ∧ i ≤ 71) → (∀ r, r ≠ 217 → Mx r = M r) → (∀ t, 0 ≤ t ∧ t < i → Mx 217 t = 0) → zVV G γ (zw ad) (0, 0) 2 [some (zr 200), some (zi d), some (zi i), none, none, none, none] [] Mx := by
    refine zrec _ (fun zn ih => ?_)
    intro i Mx hzn hi fx hC
    refine v_iload_2 ok dX8_findTries_2 (n := 3) rfl ?_
    refine v_bipush ok (by decide) dX8_findTries_3 (n := 5) rfl ?_
    refine v_icmp_ge ok dX8_findTries_5 (tgt := 21) (by decide) (n := 8) rfl (by omega) (by omega) (fun c5_1 => ?_) (fun c5_1 => ?_)
    · have c5_1 := c5_1
      refine v_iconst ok dX8_findTries_21 (n := 22) rfl ?_
      refine v_istore_2 ok (by decide) rfl dX8_findTries_22 (n := 23) rfl ?_
      exact lps _ 0 Mx rfl (by omega) fx (fun t ht => hC t (by omega))
    · have c5_1 := c5_1
      refine v_aload_0 ok dX8_findTries_8 (n := 9) rfl ?_
      refine v_getR ok fd_X8_42 ly_200 rfl rfl rfl rf_200_16 dX8_findTries_9 (n := 12) rfl ?_
      refine v_iload_2 ok dX8_findTries_12 (n := 13) rfl ?_
      refine v_iconst ok dX8_findTries_13 (n := 14) rfl ?_
      refine v_zast ok (by omega) ly_217 rfl (by omega) (by decide) dX8_findTries_14 (n := 15) rfl ?_
      refine v_iinc_2 ok (by decide) rfl dX8_findTries_15 (n := 18) rfl ?_
      refine v_goto ok dX8_findTries_18 (n := 2) (by decide) ?_
      refine ih _ (by omega) (i + 1) _ rfl (by omega) (fun r hr => by rw [zset_o hr]; exact fx r hr) (fun t ht => ?_)
      by_cases e : t = i
      · rw [e, zset_s]
      · rw [zset_n e]
        exact hC t (by omega)
  refine v_iconst ok dX8_findTries_0 (n := 1) rfl ?_
  refine v_istore_2 ok (by decide) rfl dX8_findTries_1 (n := 2) rfl ?_
  exact lpf _ 0 M rfl (by omega) (fun _ _ => rfl) (fun t ht => by omega)

def zmtr (C : Int → Int) (T : Int → Int → Int) (a b q x : Int) : Prop :=
  (q = 0 ∧ ((1000000 ≤ T a b ∧ x = -4) ∨ (T a b < 1000000 ∧ x = T a b))) ∨
  (q = 1 ∧ (((1000000 ≤ T a b ∨ T a b = 0) ∧ x = -4) ∨ ((T a b < 1000000 ∧ T a b ≠ 0) ∧ (a ≤ x ∧ x ≤ b) ∧ (C x ≠ 0 ∧ zMB2 T a b x = T a b) ∧ ∀ j, a ≤ j ∧ j < x → ¬ (C j ≠ 0 ∧ zMB2 T a b j = T a b))))
set_option maxHeartbeats 4000000 in
set_option maxRecDepth 100000 in
theorem u_tries {G : zG} {ad : Int → Nat} {M : zM} {d a b q : Int} (hd : -2147483648 ≤ d ∧ d ≤ 2147483647) (ha : -2147483648 ≤ a ∧ a ≤ 2147483647) (hb : -2147483648 ≤ b ∧ b ≤ 2147483647) (hq : -2147483648 ≤ q ∧ q ≤ 2147483647) (hns : 0 ≤ M 200 3 ∧ M 200 3 ≤ 16) (hS : ∀ s, 0 ≤ s ∧ s < M 200 3 → zMS M s)  : zTI G (zw ad) mi_X8_tries [zr 200, zi d, zi a, zi b, zi q] M (fun x M' => zfrM M M' ∧ ((¬ ((0 ≤ d ∧ d ≤ 1) ∧ (20 ≤ a ∧ a ≤ b ∧ b ≤ 60) ∧ (0 ≤ q ∧ q ≤ 1)) ∧ x = -1) ∨ (((0 ≤ d ∧ d ≤ 1) ∧ (20 ≤ a ∧ a ≤ b ∧ b ≤ 60) ∧ (0 ≤ q ∧ q ≤ 1)) ∧ ∃ (C : Int → Int) (T : Int → Int → Int), (∀ t, 0 ≤ t ∧ t < 71 → C t = zhs M d (M 200 3).toNat t) ∧ zMTb C T 41 20 ∧ (∀ g h, h ≤ g → T g h = 0) ∧ zmtr C T a b q x))) := by
  refine zTI.of (own := RX8) (ls := [some (zr 200), some (zi d), some (zi a), some (zi b), some (zi q), none, none]) (by decide +kernel) rfl rfl (Nat.le_of_ble_eq_true rfl) (fun γ ok rt => ?_)
  refine v_iload_1 ok dX8_tries_0 (n := 1) rfl ?_
  refine v_i2l ok (by omega) dX8_tries_1 (n := 2) rfl ?_
  refine v_lconst0 ok dX8_tries_2 (n := 3) rfl ?_
  refine v_lconst1 ok dX8_tries_3 (n := 4) rfl ?_
  refine v_callSI ok (mi := mi_X8_in) mc_X8_in cs_X8_85 (by decide) ⟨Nat.zero_le _, Nat.zero_le _⟩ dX8_tries_4 (n := 7) rfl rfl rfl (Nat.le_of_ble_eq_true rfl) (u_in (by omega) (by omega) (by omega)) (fun x5 M5 h5 => ?_)
  obtain ⟨e5_, h5⟩ := h5
  subst M5
  refine v_if_eq ok dX8_tries_7 (tgt := 40) (by decide) (n := 10) rfl (by omega) (fun c7_1 => ?_) (fun c7_1 => ?_)
  · have c7_1 := c7_1
    refine v_iconst ok dX8_tries_40 (n := 41) rfl ?_
    refine v_iret rt dX8_tries_41 ?_
    exact ⟨zfrM_r M, Or.inl ⟨by omega, rfl⟩⟩
  · have c7_1 := c7_1
    refine v_iload_2 ok dX8_tries_10 (n := 11) rfl ?_
    refine v_i2l ok (by omega) dX8_tries_11 (n := 12) rfl ?_
    refine v_ldc2 ok (c := 20) kc_X8_94 (by decide) dX8_tries_12 (n := 15) rfl ?_
    refine v_iload_3 ok dX8_tries_15 (n := 16) rfl ?_
    refine v_i2l ok (by omega) dX8_tries_16 (n := 17) rfl ?_
    refine v_callSI ok (mi := mi_X8_in) mc_X8_in cs_X8_85 (by decide) ⟨Nat.zero_le _, Nat.zero_le _⟩ dX8_tries_17 (n := 20) rfl rfl rfl (Nat.le_of_ble_eq_true rfl) (u_in (by omega) (by omega) (by omega)) (fun x6 M6 h6 => ?_)
    obtain ⟨e6_, h6⟩ := h6
    subst M6
    refine v_if_eq ok dX8_tries_20 (tgt := 40) (by decide) (n := 23) rfl (by omega) (fun c20_2 => ?_) (fun c20_2 => ?_)
    · have c20_2 := c20_2
      refine v_iconst ok dX8_tries_40 (n := 41) rfl ?_
      refine v_iret rt dX8_tries_41 ?_
      exact ⟨zfrM_r M, Or.inl ⟨by omega, rfl⟩⟩
    · have c20_2 := c20_2
      refine v_iload_3 ok dX8_tries_23 (n := 24) rfl ?_
      refine v_bipush ok (by decide) dX8_tries_24 (n := 26) rfl ?_
      refine v_icmp_gt ok dX8_tries_26 (tgt := 40) (by decide) (n := 29) rfl (by omega) (by omega) (fun c26_3 => ?_) (fun c26_3 => ?_)
      · have c26_3 := c26_3
        refine v_iconst ok dX8_tries_40 (n := 41) rfl ?_
        refine v_iret rt dX8_tries_41 ?_
        exact ⟨zfrM_r M, Or.inl ⟨by omega, rfl⟩⟩
      · have c26_3 := c26_3
        refine v_iload_4 ok dX8_tries_29 (n := 31) rfl ?_
        refine v_i2l ok (by omega) dX8_tries_31 (n := 32) rfl ?_
        refine v_lconst0 ok dX8_tries_32 (n := 33) rfl ?_
        refine v_lconst1 ok dX8_tries_33 (n := 34) rfl ?_
        refine v_callSI ok (mi := mi_X8_in) mc_X8_in cs_X8_85 (by decide) ⟨Nat.zero_le _, Nat.zero_le _⟩ dX8_tries_34 (n := 37) rfl rfl rfl (Nat.le_of_ble_eq_true rfl) (u_in (by omega) (by omega) (by omega)) (fun x7 M7 h7 => ?_)
        obtain ⟨e7_, h7⟩ := h7
        subst M7
        refine v_if_ne ok dX8_tries_37 (tgt := 42) (by decide) (n := 40) rfl (by omega) (fun c37_4 => ?_) (fun c37_4 => ?_)
        · have c37_4 := c37_4
          refine v_aload_0 ok dX8_tries_42 (n := 43) rfl ?_
          refine v_iload_1 ok dX8_tries_43 (n := 44) rfl ?_
          refine v_callVV ok (mi := mi_X8_findTries) mc_X8_findTries cv_X8_215 ly_200 rfl rfl rfl (by decide) ⟨Nat.zero_le _, Nat.zero_le _⟩ dX8_tries_44 (n := 47) rfl rfl rfl (Nat.le_of_ble_eq_true rfl) (u_findTries (by omega) hns hS) (fun M1 g1 => ?_)
          obtain ⟨fx, hC, htb⟩ := g1
          have fr : zfrM M M1 := ⟨fun r hr => fx r (by omega) (by omega), fun j _ _ _ => by rw [fx 200 (by omega) (by omega)]⟩
          have hab := zMTb_b (a := a) (b := b) htb (by omega) (by omega) (by omega)
          refine v_aload_0 ok dX8_tries_47 (n := 48) rfl ?_
          refine v_iload_2 ok dX8_tries_48 (n := 49) rfl ?_
          refine v_iload_3 ok dX8_tries_49 (n := 50) rfl ?_
          refine v_callVI ok (mi := mi_X8_triesOf) mc_X8_triesOf cv_X8_209 ly_200 rfl rfl rfl (by decide) ⟨Nat.zero_le _, Nat.zero_le _⟩ dX8_tries_50 (n := 53) rfl rfl rfl (Nat.le_of_ble_eq_true rfl) (u_triesOf (by omega) (by omega)) (fun x8 N8 g8 => ?_)
          obtain ⟨g8, rfl⟩ := g8
          subst N8
          refine v_istore_5 ok (by decide) rfl dX8_tries_53 (n := 55) rfl ?_
          refine v_iload_4 ok dX8_tries_55 (n := 57) rfl ?_
          refine v_if_ne ok dX8_tries_57 (tgt := 75) (by decide) (n := 60) rfl (by omega) (fun c57_5 => ?_) (fun c57_5 => ?_)
          · have c57_5 := c57_5
            refine v_iload_5 ok dX8_tries_75 (n := 77) rfl ?_
            refine v_ldc ok (c := 1000000) kc_X8_192 (by decide) dX8_tries_77 (n := 79) rfl ?_
            refine v_icmp_ge ok dX8_tries_79 (tgt := 87) (by decide) (n := 82) rfl (by omega) (by omega) (fun c79_6 => ?_) (fun c79_6 => ?_)
            · have c79_6 := c79_6
              refine v_bipush ok (by decide) dX8_tries_87 (n := 89) rfl ?_
              refine v_iret rt dX8_tries_89 ?_
              refine ⟨fr, Or.inr ⟨by omega, M1 217, zMT M1, hC, htb, fun g h hgh => if_pos hgh, Or.inr ⟨by omega, Or.inl ⟨by omega, rfl⟩⟩⟩⟩
            · have c79_6 := c79_6
              refine v_iload_5 ok dX8_tries_82 (n := 84) rfl ?_
              refine v_if_ne ok dX8_tries_84 (tgt := 90) (by decide) (n := 87) rfl (by omega) (fun c84_7 => ?_) (fun c84_7 => ?_)
              · have c84_7 := c84_7
                refine v_iload_2 ok dX8_tries_90 (n := 91) rfl ?_
                refine v_istore_6 ok (by decide) rfl dX8_tries_91 (n := 93) rfl ?_
                have hlt : a < b := by
                  by_cases e : b ≤ a
                  · exfalso
                    have : zMT M1 a b = 0 := if_pos e
                    omega
                  · omega
                obtain ⟨k0, hk0b, hk0⟩ : zexi (fun k => M1 217 (a + k) ≠ 0 ∧ zMB2 (zMT M1) a b (a + k) = zMT M1 a b) (b - a + 1) := by
                  rcases zmf_x (C := M1 217) (T := zMT M1) (a := a) (b := b) (b - a + 1).toNat with h | ⟨k, hk, h⟩
                  · rw [← (htb a b (by omega) hlt (by omega) (by omega)).1] at h
                    omega
                  · rw [← (htb a b (by omega) hlt (by omega) (by omega)).1] at h
                    exact ⟨k, by omega, h⟩
                have lpz : ∀ (zn : Nat) (t : Int), zn = (a + k0 - t).toNat → (a ≤ t ∧ t ≤ a + k0) → (∀ j, a ≤ j ∧ j < t → ¬ (M1 217 j ≠ 0 ∧ zMB2 (zMT M1) a b j = zMT M1 a b)) → zVV G γ (zw ad) (0, 0) 93 [some (zr 200), some (zi d), some (zi a), some (zi b), some (zi q), some (zi (zMT M1 a b)), some (zi t)] [] M1 := by
                  refine zrec _ (fun zn ih => ?_)
                  intro t hzn ht hno
                  have b1 := zMTb_b (a := a) (b := t - 1) htb (by omega) (by omega) (by omega)
                  have b2 := zMTb_b (a := t + 1) (b := b) htb (by omega) (by omega) (by omega)
                  have bm := zmax_b (zMT M1 a (t - 1)) (zMT M1 (t + 1) b)
                  have hct : M1 217 t = 0 ∨ M1 217 t = 1 := by
                    rw [hC t (by omega)]
                    exact zhs_b _ _
                  refine v_aload_0 ok dX8_tries_93 (n := 94) rfl ?_
                  refine v_getR ok fd_X8_42 ly_200 rfl rfl rfl rf_200_16 dX8_tries_94 (n := 97) rfl ?_
                  refine v_iload_6 ok dX8_tries_97 (n := 99) rfl ?_
                  refine v_zald ok ly_217 rfl (by omega) (by decide) dX8_tries_99 (n := 100) rfl ?_
                  refine v_if_eq ok dX8_tries_100 (tgt := 116) (by decide) (n := 103) rfl (by omega) (fun c100_1 => ?_) (fun c100_1 => ?_)
                  · have c100_1 := c100_1
                    refine v_iinc_6 ok (by decide) rfl dX8_tries_116 (n := 119) rfl ?_
                    refine v_goto ok dX8_tries_119 (n := 93) (by decide) ?_
                    have hno2 : ¬ (M1 217 t ≠ 0 ∧ zMB2 (zMT M1) a b t = zMT M1 a b) := by
                      rintro ⟨g1, g2⟩
                      first
                      | exact g1 (by omega)
                      | exact (show ¬ x2 = zMT M1 a b by omega) (by rw [e2]; exact g2)
                    have hkk : t ≠ a + k0 := fun e => hno2 (by rw [e]; exact hk0)
                    exact ih _ (by omega) (t + 1) rfl (by omega) (fun j hj => by
                      by_cases e : j = t
                      · rw [e]; exact hno2
                      · exact hno j (by omega))
                  · have c100_1 := c100_1
                    refine v_aload_0 ok dX8_tries_103 (n := 104) rfl ?_
                    refine v_iload_2 ok dX8_tries_104 (n := 105) rfl ?_
                    refine v_iload_3 ok dX8_tries_105 (n := 106) rfl ?_
                    refine v_iload_6 ok dX8_tries_106 (n := 108) rfl ?_
                    refine v_callVI ok (mi := mi_X8_triesBy) mc_X8_triesBy cv_X8_212 ly_200 rfl rfl rfl (by decide) ⟨Nat.zero_le _, Nat.zero_le _⟩ dX8_tries_108 (n := 111) rfl rfl rfl (Nat.le_of_ble_eq_true rfl) (u_triesBy (by omega) (by omega) (by omega)) (fun x2 N2 g2 => ?_)
                    obtain ⟨g2, e2⟩ := g2
                    subst N2
                    have e3 := e2
                    unfold zMB2 at e3
                    refine v_iload_5 ok dX8_tries_111 (n := 113) rfl ?_
                    refine v_icmp_eq ok dX8_tries_113 (tgt := 122) (by decide) (n := 116) rfl (by omega) (by omega) (fun c113_2 => ?_) (fun c113_2 => ?_)
                    · have c113_2 := c113_2
                      refine v_iload_6 ok dX8_tries_122 (n := 124) rfl ?_
                      refine v_iret rt dX8_tries_124 ?_
                      refine ⟨fr, Or.inr ⟨by omega, M1 217, zMT M1, hC, htb, fun g h hgh => if_pos hgh, Or.inr ⟨by omega, Or.inr ⟨by omega, by omega, ⟨by omega, ?_⟩, hno⟩⟩⟩⟩
                      rw [← e2]
                      omega
                    · have c113_2 := c113_2
                      refine v_iinc_6 ok (by decide) rfl dX8_tries_116 (n := 119) rfl ?_
                      refine v_goto ok dX8_tries_119 (n := 93) (by decide) ?_
                      have hno2 : ¬ (M1 217 t ≠ 0 ∧ zMB2 (zMT M1) a b t = zMT M1 a b) := by
                        rintro ⟨g1, g2⟩
                        first
                        | exact g1 (by omega)
                        | exact (show ¬ x2 = zMT M1 a b by omega) (by rw [e2]; exact g2)
                      have hkk : t ≠ a + k0 := fun e => hno2 (by rw [e]; exact hk0)
                      exact ih _ (by omega) (t + 1) rfl (by omega) (fun j hj => by
                        by_cases e : j = t
                        · rw [e]; exact hno2
                        · exact hno j (by omega))
                exact lpz _ a rfl (by omega) (fun j hj => by omega)
              · have c84_7 := c84_7
                refine v_bipush ok (by decide) dX8_tries_87 (n := 89) rfl ?_
                refine v_iret rt dX8_tries_89 ?_
                refine ⟨fr, Or.inr ⟨by omega, M1 217, zMT M1, hC, htb, fun g h hgh => if_pos hgh, Or.inr ⟨by omega, Or.inl ⟨by omega, rfl⟩⟩⟩⟩
          · have c57_5 := c57_5
            refine v_iload_5 ok dX8_tries_60 (n := 62) rfl ?_
            refine v_ldc ok (c := 1000000) kc_X8_192 (by decide) dX8_tries_62 (n := 64) rfl ?_
            refine v_icmp_lt ok dX8_tries_64 (tgt := 72) (by decide) (n := 67) rfl (by omega) (by omega) (fun c64_8 => ?_) (fun c64_8 => ?_)
            · have c64_8 := c64_8
              refine v_iload_5 ok dX8_tries_72 (n := 74) rfl ?_
              refine v_iret rt dX8_tries_74 ?_
              refine ⟨fr, Or.inr ⟨by omega, M1 217, zMT M1, hC, htb, fun g h hgh => if_pos hgh, Or.inl ⟨by omega, ?_⟩⟩⟩
              first
              | exact Or.inl ⟨by omega, rfl⟩
              | exact Or.inr ⟨by omega, rfl⟩
            · have c64_8 := c64_8
              refine v_bipush ok (by decide) dX8_tries_67 (n := 69) rfl ?_
              refine v_goto ok dX8_tries_69 (n := 74) (by decide) ?_
              refine v_iret rt dX8_tries_74 ?_
              refine ⟨fr, Or.inr ⟨by omega, M1 217, zMT M1, hC, htb, fun g h hgh => if_pos hgh, Or.inl ⟨by omega, ?_⟩⟩⟩
              first
              | exact Or.inl ⟨by omega, rfl⟩
              | exact Or.inr ⟨by omega, rfl⟩
        · have c37_4 := c37_4
          refine v_iconst ok dX8_tries_40 (n := 41) rfl ?_
          refine v_iret rt dX8_tries_41 ?_
          exact ⟨zfrM_r M, Or.inl ⟨by omega, rfl⟩⟩

