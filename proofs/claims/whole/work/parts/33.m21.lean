/-! the class: judged -/
/-- places in rows that are told -/
def zplr (M : zM) (n : Int) : Prop := ∀ q t, 0 ≤ q ∧ q < 2 * n → 0 ≤ t ∧ t < n → 0 ≤ M (162 + q) t ∧ M (162 + q) t < n
theorem zplr_r {M : zM} {v : Int → Int → Int} {n : Int} (hn : 2 ≤ n ∧ n ≤ 7) (h : ∀ q, 0 ≤ q ∧ q < 2 * n → zdis (v q) n n ∧ zrd M (148 + q) (162 + q) (v q) n) : zplr M n := by
  intro q t hq ht
  obtain ⟨h1, h2⟩ := h q hq
  obtain ⟨i, hi, e⟩ := zdis_in (by omega) h1 ht
  have h3 := (h2 i hi).2
  rw [e] at h3
  omega
set_option maxHeartbeats 4000000 in
set_option maxRecDepth 100000 in
theorem t_groomLikesMore {G : zG} {ad : Int → Nat} {M : zM} {n g b c : Int} (hn : 2 ≤ n ∧ n ≤ 7) (hm : M 142 0 = n) (hP : zplr M n) (hg : 0 ≤ g ∧ g < n) (hb : 0 ≤ b ∧ b < n) (hc : 0 ≤ c ∧ c < n)  : zTI G (zw ad) mi_X2_groomLikesMore [zr 142, zi g, zi b, zi c] M (fun x M' => M' = M ∧ ((x = 1 ∧ M (162 + (n + g)) b < M (162 + (n + g)) c) ∨ (x = 0 ∧ ¬ M (162 + (n + g)) b < M (162 + (n + g)) c))) := by
  refine zTI.ofZ (own := RX2) (ls := [some (zr 142), some (zi g), some (zi b), some (zi c)]) (by decide +kernel) rfl rfl (Nat.le_of_ble_eq_true rfl) (fun γ ok rt => ?_)
  have p1 := hP (n + g) b (by omega) hb
  have p2 := hP (n + g) c (by omega) hc
  refine v_aload_0 ok dX2_groomLikesMore_0 (n := 1) rfl ?_
  refine v_getR ok fd_X2_20 ly_142 rfl rfl rfl rf_142_2 dX2_groomLikesMore_1 (n := 4) rfl ?_
  refine v_aload_0 ok dX2_groomLikesMore_4 (n := 5) rfl ?_
  refine v_getI ok fd_X2_9 ly_142 rfl rfl (jI := 0) rfl dX2_groomLikesMore_5 (n := 8) rfl ?_
  rw [hm]
  refine v_iload_1 ok dX2_groomLikesMore_8 (n := 9) rfl ?_
  refine v_iadd ok dX2_groomLikesMore_9 (n := 10) rfl ?_
  refine v_aald ok ly_144 (by decide) rfl (by omega) (by decide) rfl dX2_groomLikesMore_10 (n := 11) rfl ?_
  refine v_iload_2 ok dX2_groomLikesMore_11 (n := 12) rfl ?_
  refine v_iald ok (lf_pla (by omega)) rfl (by omega) (by decide) dX2_groomLikesMore_12 (n := 13) rfl ?_
  refine v_aload_0 ok dX2_groomLikesMore_13 (n := 14) rfl ?_
  refine v_getR ok fd_X2_20 ly_142 rfl rfl rfl rf_142_2 dX2_groomLikesMore_14 (n := 17) rfl ?_
  refine v_aload_0 ok dX2_groomLikesMore_17 (n := 18) rfl ?_
  refine v_getI ok fd_X2_9 ly_142 rfl rfl (jI := 0) rfl dX2_groomLikesMore_18 (n := 21) rfl ?_
  rw [hm]
  refine v_iload_1 ok dX2_groomLikesMore_21 (n := 22) rfl ?_
  refine v_iadd ok dX2_groomLikesMore_22 (n := 23) rfl ?_
  refine v_aald ok ly_144 (by decide) rfl (by omega) (by decide) rfl dX2_groomLikesMore_23 (n := 24) rfl ?_
  refine v_iload_3 ok dX2_groomLikesMore_24 (n := 25) rfl ?_
  refine v_iald ok (lf_pla (by omega)) rfl (by omega) (by decide) dX2_groomLikesMore_25 (n := 26) rfl ?_
  refine v_icmp_ge ok dX2_groomLikesMore_26 (tgt := 33) (by decide) (n := 29) rfl (by omega) (by omega) (fun c26_1 => ?_) (fun c26_1 => ?_)
  · have c26_1 := c26_1
    refine v_iconst ok dX2_groomLikesMore_33 (n := 34) rfl ?_
    refine v_zret rt dX2_groomLikesMore_34 (by omega) ?_
    first
    | exact ⟨rfl, Or.inl ⟨rfl, by omega⟩⟩
    | exact ⟨rfl, Or.inr ⟨rfl, by omega⟩⟩
  · have c26_1 := c26_1
    refine v_iconst ok dX2_groomLikesMore_29 (n := 30) rfl ?_
    refine v_goto ok dX2_groomLikesMore_30 (n := 34) (by decide) ?_
    refine v_zret rt dX2_groomLikesMore_34 (by omega) ?_
    first
    | exact ⟨rfl, Or.inl ⟨rfl, by omega⟩⟩
    | exact ⟨rfl, Or.inr ⟨rfl, by omega⟩⟩

/-- both would leave for one another -/
def zlq (P : Int → Int → Int) (G W : Int → Int) (n b g : Int) : Prop := P b g < P b (G b) ∧ P (n + g) b < P (n + g) (W g)
def zPT (M : zM) : Int → Int → Int := fun q t => M (162 + q) t
def znl (l : Int → Int → Prop) (n b g : Int) : Prop := ∀ c h, 0 ≤ c ∧ c < n → 0 ≤ h ∧ h < n → (c < b ∨ (c = b ∧ h < g)) → ¬ l c h
/-- the first two of whom it holds, as one number -/
def zfl (l : Int → Int → Prop) (n x : Int) : Prop := (∃ b g, (0 ≤ b ∧ b < n) ∧ (0 ≤ g ∧ g < n) ∧ l b g ∧ znl l n b g ∧ x = 10 * b + g) ∨ (znl l n n 0 ∧ x = -4)
theorem znl_s {l : Int → Int → Prop} {n b g : Int} (h : znl l n b g) (hl : ¬ l b g) : znl l n b (g + 1) := by
  intro c k hc hk hck
  by_cases e : c = b ∧ k = g
  · rw [e.1, e.2]
    exact hl
  · exact h c k hc hk (by omega)
theorem znl_n {l : Int → Int → Prop} {n b g : Int} (h : znl l n b g) (hg : n ≤ g) : znl l n (b + 1) 0 := fun c k hc hk hck => h c k hc hk (by omega)
set_option maxHeartbeats 4000000 in
set_option maxRecDepth 100000 in
theorem t_wouldLeave {G : zG} {ad : Int → Nat} {M : zM} {n b g : Int} (hn : 2 ≤ n ∧ n ≤ 7) (hm : M 142 0 = n) (hP : zplr M n) (hG : ∀ b, 0 ≤ b ∧ b < n → (0 ≤ M 145 b ∧ M 145 b < n) ∧ (0 ≤ M 146 b ∧ M 146 b < n)) (hb : 0 ≤ b ∧ b < n) (hg : 0 ≤ g ∧ g < n)  : zTI G (zw ad) mi_X2_wouldLeave [zr 142, zi b, zi g] M (fun x M' => M' = M ∧ ((x = 1 ∧ (zlq (zPT M) (M 145) (M 146) n) b g) ∨ (x = 0 ∧ ¬ (zlq (zPT M) (M 145) (M 146) n) b g))) := by
  refine zTI.ofZ (own := RX2) (ls := [some (zr 142), some (zi b), some (zi g)]) (by decide +kernel) rfl rfl (Nat.le_of_ble_eq_true rfl) (fun γ ok rt => ?_)
  have p1 := hP b g (by omega) hg
  have p3 := (hG b hb).1
  have p4 := (hG g hg).2
  have p2 := hP b (M 145 b) (by omega) p3
  refine v_aload_0 ok dX2_wouldLeave_0 (n := 1) rfl ?_
  refine v_getR ok fd_X2_20 ly_142 rfl rfl rfl rf_142_2 dX2_wouldLeave_1 (n := 4) rfl ?_
  refine v_iload_1 ok dX2_wouldLeave_4 (n := 5) rfl ?_
  refine v_aald ok ly_144 (by decide) rfl (by omega) (by decide) rfl dX2_wouldLeave_5 (n := 6) rfl ?_
  refine v_iload_2 ok dX2_wouldLeave_6 (n := 7) rfl ?_
  refine v_iald ok (lf_pla (by omega)) rfl (by omega) (by decide) dX2_wouldLeave_7 (n := 8) rfl ?_
  refine v_aload_0 ok dX2_wouldLeave_8 (n := 9) rfl ?_
  refine v_getR ok fd_X2_20 ly_142 rfl rfl rfl rf_142_2 dX2_wouldLeave_9 (n := 12) rfl ?_
  refine v_iload_1 ok dX2_wouldLeave_12 (n := 13) rfl ?_
  refine v_aald ok ly_144 (by decide) rfl (by omega) (by decide) rfl dX2_wouldLeave_13 (n := 14) rfl ?_
  refine v_aload_0 ok dX2_wouldLeave_14 (n := 15) rfl ?_
  refine v_getR ok fd_X2_23 ly_142 rfl rfl rfl rf_142_3 dX2_wouldLeave_15 (n := 18) rfl ?_
  refine v_iload_1 ok dX2_wouldLeave_18 (n := 19) rfl ?_
  refine v_iald ok ly_145 rfl (by omega) (by decide) dX2_wouldLeave_19 (n := 20) rfl ?_
  refine v_iald ok (lf_pla (by omega)) rfl (by omega) (by decide) dX2_wouldLeave_20 (n := 21) rfl ?_
  refine v_icmp_ge ok dX2_wouldLeave_21 (tgt := 43) (by decide) (n := 24) rfl (by omega) (by omega) (fun c21_1 => ?_) (fun c21_1 => ?_)
  · have c21_1 := c21_1
    refine v_iconst ok dX2_wouldLeave_43 (n := 44) rfl ?_
    refine v_zret rt dX2_wouldLeave_44 (by omega) ?_
    first
    | exact ⟨rfl, Or.inl ⟨rfl, (show M (162 + b) g < M (162 + b) (M 145 b) by omega), (show M (162 + (n + g)) b < M (162 + (n + g)) (M 146 g) by omega)⟩⟩
    | exact ⟨rfl, Or.inr ⟨rfl, fun q => by have q1 : M (162 + b) g < M (162 + b) (M 145 b) := q.1; have q2 : M (162 + (n + g)) b < M (162 + (n + g)) (M 146 g) := q.2; omega⟩⟩
  · have c21_1 := c21_1
    refine v_aload_0 ok dX2_wouldLeave_24 (n := 25) rfl ?_
    refine v_iload_2 ok dX2_wouldLeave_25 (n := 26) rfl ?_
    refine v_iload_1 ok dX2_wouldLeave_26 (n := 27) rfl ?_
    refine v_aload_0 ok dX2_wouldLeave_27 (n := 28) rfl ?_
    refine v_getR ok fd_X2_27 ly_142 rfl rfl rfl rf_142_4 dX2_wouldLeave_28 (n := 31) rfl ?_
    refine v_iload_2 ok dX2_wouldLeave_31 (n := 32) rfl ?_
    refine v_iald ok ly_146 rfl (by omega) (by decide) dX2_wouldLeave_32 (n := 33) rfl ?_
    refine v_callVI ok (mi := mi_X2_groomLikesMore) mc_X2_groomLikesMore cv_X2_55 ly_142 rfl rfl rfl (by decide) ⟨Nat.zero_le _, Nat.zero_le _⟩ dX2_wouldLeave_33 (n := 36) rfl rfl rfl (Nat.le_of_ble_eq_true rfl) (t_groomLikesMore hn hm hP hg hb p4) (fun x1 M1 g1 => ?_)
    obtain ⟨g1_, g1⟩ := g1
    subst M1
    refine v_if_eq ok dX2_wouldLeave_36 (tgt := 43) (by decide) (n := 39) rfl (by omega) (fun c36_2 => ?_) (fun c36_2 => ?_)
    · have c36_2 := c36_2
      refine v_iconst ok dX2_wouldLeave_43 (n := 44) rfl ?_
      refine v_zret rt dX2_wouldLeave_44 (by omega) ?_
      first
      | exact ⟨rfl, Or.inl ⟨rfl, (show M (162 + b) g < M (162 + b) (M 145 b) by omega), (show M (162 + (n + g)) b < M (162 + (n + g)) (M 146 g) by omega)⟩⟩
      | exact ⟨rfl, Or.inr ⟨rfl, fun q => by have q1 : M (162 + b) g < M (162 + b) (M 145 b) := q.1; have q2 : M (162 + (n + g)) b < M (162 + (n + g)) (M 146 g) := q.2; omega⟩⟩
    · have c36_2 := c36_2
      refine v_iconst ok dX2_wouldLeave_39 (n := 40) rfl ?_
      refine v_goto ok dX2_wouldLeave_40 (n := 44) (by decide) ?_
      refine v_zret rt dX2_wouldLeave_44 (by omega) ?_
      first
      | exact ⟨rfl, Or.inl ⟨rfl, (show M (162 + b) g < M (162 + b) (M 145 b) by omega), (show M (162 + (n + g)) b < M (162 + (n + g)) (M 146 g) by omega)⟩⟩
      | exact ⟨rfl, Or.inr ⟨rfl, fun q => by have q1 : M (162 + b) g < M (162 + b) (M 145 b) := q.1; have q2 : M (162 + (n + g)) b < M (162 + (n + g)) (M 146 g) := q.2; omega⟩⟩

set_option maxHeartbeats 4000000 in
set_option maxRecDepth 100000 in
theorem t_firstToLeave {G : zG} {ad : Int → Nat} {M : zM} {n : Int} (hn : 2 ≤ n ∧ n ≤ 7) (hm : M 142 0 = n) (hP : zplr M n) (hG : ∀ b, 0 ≤ b ∧ b < n → (0 ≤ M 145 b ∧ M 145 b < n) ∧ (0 ≤ M 146 b ∧ M 146 b < n))  : zTI G (zw ad) mi_X2_firstToLeave [zr 142] M (fun x M' => M' = M ∧ zfl (zlq (zPT M) (M 145) (M 146) n) n x) := by
  refine zTI.of (own := RX2) (ls := [some (zr 142), none, none]) (by decide +kernel) rfl rfl (Nat.le_of_ble_eq_true rfl) (fun γ ok rt => ?_)
  have lpo : ∀ (zn : Nat) (b : Int) (l2 : Option zV), zn = (7 - b).toNat → (0 ≤ b ∧ b ≤ n) → (znl (zlq (zPT M) (M 145) (M 146) n) n b 0) → zVV G γ (zw ad) (0, 0) 2 [some (zr 142), some (zi b), l2] [] M := by
    refine zrec _ (fun zn ih => ?_)
    intro b l2 hzn hb hno
    refine v_iload_1 ok dX2_firstToLeave_2 (n := 3) rfl ?_
    refine v_aload_0 ok dX2_firstToLeave_3 (n := 4) rfl ?_
    refine v_getI ok fd_X2_9 ly_142 rfl rfl (jI := 0) rfl dX2_firstToLeave_4 (n := 7) rfl ?_
    rw [hm]
    refine v_icmp_ge ok dX2_firstToLeave_7 (tgt := 48) (by decide) (n := 10) rfl (by omega) (by omega) (fun c7_1 => ?_) (fun c7_1 => ?_)
    · have c7_1 := c7_1
      refine v_bipush ok (by decide) dX2_firstToLeave_48 (n := 50) rfl ?_
      refine v_iret rt dX2_firstToLeave_50 ?_
      have hbe : b = n := by omega
      subst hbe
      exact ⟨rfl, Or.inr ⟨hno, rfl⟩⟩
    · have c7_1 := c7_1
      have ih2 := ih
      have lpi : ∀ (zn : Nat) (g : Int), zn = (7 - g).toNat → (0 ≤ g ∧ g ≤ n) → (znl (zlq (zPT M) (M 145) (M 146) n) n b g) → zVV G γ (zw ad) (0, 0) 12 [some (zr 142), some (zi b), some (zi g)] [] M := by
        refine zrec _ (fun zn ih => ?_)
        intro g hzn hg hno
        refine v_iload_2 ok dX2_firstToLeave_12 (n := 13) rfl ?_
        refine v_aload_0 ok dX2_firstToLeave_13 (n := 14) rfl ?_
        refine v_getI ok fd_X2_9 ly_142 rfl rfl (jI := 0) rfl dX2_firstToLeave_14 (n := 17) rfl ?_
        rw [hm]
        refine v_icmp_ge ok dX2_firstToLeave_17 (tgt := 42) (by decide) (n := 20) rfl (by omega) (by omega) (fun c17_1 => ?_) (fun c17_1 => ?_)
        · have c17_1 := c17_1
          refine v_iinc_1 ok (by decide) rfl dX2_firstToLeave_42 (n := 45) rfl ?_
          refine v_goto ok dX2_firstToLeave_45 (n := 2) (by decide) ?_
          exact ih2 _ (by omega) _ _ rfl (by omega) (znl_n hno (by omega))
        · have c17_1 := c17_1
          refine v_aload_0 ok dX2_firstToLeave_20 (n := 21) rfl ?_
          refine v_iload_1 ok dX2_firstToLeave_21 (n := 22) rfl ?_
          refine v_iload_2 ok dX2_firstToLeave_22 (n := 23) rfl ?_
          refine v_callVI ok (mi := mi_X2_wouldLeave) mc_X2_wouldLeave cv_X2_58 ly_142 rfl rfl rfl (by decide) ⟨Nat.zero_le _, Nat.zero_le _⟩ dX2_firstToLeave_23 (n := 26) rfl rfl rfl (Nat.le_of_ble_eq_true rfl) (t_wouldLeave hn hm hP hG (by omega) (by omega)) (fun x1 M1 g1 => ?_)
          obtain ⟨g1_, g1⟩ := g1
          subst M1
          refine v_if_eq ok dX2_firstToLeave_26 (tgt := 36) (by decide) (n := 29) rfl (by omega) (fun c26_2 => ?_) (fun c26_2 => ?_)
          · have c26_2 := c26_2
            rcases g1 with ⟨e1, _⟩ | ⟨_, g1⟩
            · exfalso; omega
            refine v_iinc_2 ok (by decide) rfl dX2_firstToLeave_36 (n := 39) rfl ?_
            refine v_goto ok dX2_firstToLeave_39 (n := 12) (by decide) ?_
            exact ih _ (by omega) _ rfl (by omega) (znl_s hno g1)
          · have c26_2 := c26_2
            rcases g1 with ⟨_, g1⟩ | ⟨e1, _⟩
            rotate_left
            · exfalso; omega
            refine v_bipush ok (by decide) dX2_firstToLeave_29 (n := 31) rfl ?_
            refine v_iload_1 ok dX2_firstToLeave_31 (n := 32) rfl ?_
            refine v_imul ok dX2_firstToLeave_32 (n := 33) rfl ?_
            refine v_iload_2 ok dX2_firstToLeave_33 (n := 34) rfl ?_
            refine v_iadd ok dX2_firstToLeave_34 (n := 35) rfl ?_
            refine v_iret rt dX2_firstToLeave_35 ?_
            exact ⟨rfl, Or.inl ⟨b, g, by omega, by omega, g1, hno, by omega⟩⟩
      refine v_iconst ok dX2_firstToLeave_10 (n := 11) rfl ?_
      refine v_istore_2 ok (by decide) rfl dX2_firstToLeave_11 (n := 12) rfl ?_
      exact lpi _ 0 rfl (by omega) hno
  refine v_iconst ok dX2_firstToLeave_0 (n := 1) rfl ?_
  refine v_istore_1 ok (by decide) rfl dX2_firstToLeave_1 (n := 2) rfl ?_
  exact lpo _ 0 _ rfl (by omega) (fun c k hc hk hck => by omega)

def zfrR (M M' : zM) : Prop := ∀ r, r < 142 ∨ 175 < r → M' r = M r
/-- what judged answers of ranks and pairs that are told -/
def zjdg (v g : Int → Int) (f n x : Int) : Prop := (¬ (zrk v f n ∧ zdis g n n) ∧ x = -2) ∨ ((zrk v f n ∧ zdis g n n) ∧ ∃ (P : Int → Int → Int) (G W : Int → Int), (∀ q, 0 ≤ q ∧ q < 2 * n → ∀ j, 0 ≤ j ∧ j < n → P q (v (f + q * n + j)) = j) ∧ (∀ b, 0 ≤ b ∧ b < n → G b = g b ∧ W (g b) = b) ∧ zfl (zlq P G W n) n x)
set_option maxHeartbeats 4000000 in
set_option maxRecDepth 100000 in
theorem t_judged {G : zG} {ad : Int → Nat} {M : zM} {q l i n p : Int} (hq : -2147483648 ≤ q ∧ q ≤ 2147483647) (hl : -2147483648 ≤ l ∧ l ≤ 2147483647) (hi : -2147483648 ≤ i ∧ i ≤ 2147483647) (hn : -2147483648 ≤ n ∧ n ≤ 2147483647) (hp : -2147483648 ≤ p ∧ p ≤ 2147483647) (hth : ∀ j, 0 ≤ j ∧ j < 4 → M (177 + j) 1 = 0 ∨ M (177 + j) 1 = 1) (hla : ∀ j, 0 ≤ j ∧ j < 4 → 0 ≤ M (177 + j) 2 ∧ M (177 + j) 2 ≤ 2) (hln : ∀ j, 0 ≤ j ∧ j < 4 → 0 ≤ M (177 + j) 3 ∧ M (177 + j) 3 ≤ 100) (hI : ∀ j i, 0 ≤ j ∧ j < 4 → 0 ≤ i ∧ i < 100 → -2147483648 ≤ M (181 + j) i ∧ M (181 + j) i ≤ 2147483647)  : zTI G (zw ad) mi_X7_judged [zr 0, zi q, zi l, zi i, zi n, zi p] M (fun x M' => (¬ ((0 ≤ q ∧ q ≤ 3) ∧ (0 ≤ l ∧ l ≤ 2) ∧ (2 ≤ n ∧ n ≤ 7) ∧ (0 ≤ p ∧ p ≤ 3)) ∧ x = -1 ∧ M' = M) ∨ ((((0 ≤ q ∧ q ≤ 3) ∧ (0 ≤ l ∧ l ≤ 2) ∧ (2 ≤ n ∧ n ≤ 7) ∧ (0 ≤ p ∧ p ≤ 3)) ∧ zref (M (177 + q) 1) (M (177 + q) 2) (M (177 + q) 3) l i (2 * n * n) ≠ 0) ∧ x = zref (M (177 + q) 1) (M (177 + q) 2) (M (177 + q) 3) l i (2 * n * n) ∧ M' = M) ∨ ((((0 ≤ q ∧ q ≤ 3) ∧ (0 ≤ l ∧ l ≤ 2) ∧ (2 ≤ n ∧ n ≤ 7) ∧ (0 ≤ p ∧ p ≤ 3)) ∧ zref (M (177 + q) 1) (M (177 + q) 2) (M (177 + q) 3) l i (2 * n * n) = 0 ∧ zref (M (177 + p) 1) (M (177 + p) 2) (M (177 + p) 3) l 0 n ≠ 0) ∧ x = zref (M (177 + p) 1) (M (177 + p) 2) (M (177 + p) 3) l 0 n ∧ M' = M) ∨ ((((0 ≤ q ∧ q ≤ 3) ∧ (0 ≤ l ∧ l ≤ 2) ∧ (2 ≤ n ∧ n ≤ 7) ∧ (0 ≤ p ∧ p ≤ 3)) ∧ zref (M (177 + q) 1) (M (177 + q) 2) (M (177 + q) 3) l i (2 * n * n) = 0 ∧ zref (M (177 + p) 1) (M (177 + p) 2) (M (177 + p) 3) l 0 n = 0) ∧ zjdg (M (181 + q)) (M (181 + p)) i n x ∧ zfrR M M')) := by
  refine zTI.of (own := RX7) (ls := [some (zr 0), some (zi q), some (zi l), some (zi i), some (zi n), some (zi p), none]) (by decide +kernel) rfl rfl (Nat.le_of_ble_eq_true rfl) (fun γ ok rt => ?_)
  refine v_iload_1 ok dX7_judged_0 (n := 1) rfl ?_
  refine v_callSI ok (mi := mi_X7_isSheet) mc_X7_isSheet cs_X7_185 (by decide) ⟨Nat.zero_le _, Nat.zero_le _⟩ dX7_judged_1 (n := 4) rfl rfl rfl (Nat.le_of_ble_eq_true rfl) (t_isSheet hq) (fun x5 M5 h5 => ?_)
  obtain ⟨e5_, h5⟩ := h5
  subst M5
  refine v_if_eq ok dX7_judged_4 (tgt := 30) (by decide) (n := 7) rfl (by omega) (fun c4_1 => ?_) (fun c4_1 => ?_)
  · have c4_1 := c4_1
    refine v_iconst ok dX7_judged_30 (n := 31) rfl ?_
    refine v_iret rt dX7_judged_31 ?_
    exact Or.inl ⟨by omega, rfl, rfl⟩
  · have c4_1 := c4_1
    refine v_iload_2 ok dX7_judged_7 (n := 8) rfl ?_
    refine v_callSI ok (mi := mi_X7_isLane) mc_X7_isLane cs_X7_188 (by decide) ⟨Nat.zero_le _, Nat.zero_le _⟩ dX7_judged_8 (n := 11) rfl rfl rfl (Nat.le_of_ble_eq_true rfl) (t_isLane hl) (fun x6 M6 h6 => ?_)
    obtain ⟨e6_, h6⟩ := h6
    subst M6
    refine v_if_eq ok dX7_judged_11 (tgt := 30) (by decide) (n := 14) rfl (by omega) (fun c11_2 => ?_) (fun c11_2 => ?_)
    · have c11_2 := c11_2
      refine v_iconst ok dX7_judged_30 (n := 31) rfl ?_
      refine v_iret rt dX7_judged_31 ?_
      exact Or.inl ⟨by omega, rfl, rfl⟩
    · have c11_2 := c11_2
      refine v_iload_4 ok dX7_judged_14 (n := 16) rfl ?_
      refine v_callSI ok (mi := mi_X7_isRanked) mc_X7_isRanked cs_X7_207 (by decide) ⟨Nat.zero_le _, Nat.zero_le _⟩ dX7_judged_16 (n := 19) rfl rfl rfl (Nat.le_of_ble_eq_true rfl) (t_isRanked hn) (fun x7 M7 h7 => ?_)
      obtain ⟨e7_, h7⟩ := h7
      subst M7
      refine v_if_eq ok dX7_judged_19 (tgt := 30) (by decide) (n := 22) rfl (by omega) (fun c19_3 => ?_) (fun c19_3 => ?_)
      · have c19_3 := c19_3
        refine v_iconst ok dX7_judged_30 (n := 31) rfl ?_
        refine v_iret rt dX7_judged_31 ?_
        exact Or.inl ⟨by omega, rfl, rfl⟩
      · have c19_3 := c19_3
        refine v_iload_5 ok dX7_judged_22 (n := 24) rfl ?_
        refine v_callSI ok (mi := mi_X7_isSheet) mc_X7_isSheet cs_X7_185 (by decide) ⟨Nat.zero_le _, Nat.zero_le _⟩ dX7_judged_24 (n := 27) rfl rfl rfl (Nat.le_of_ble_eq_true rfl) (t_isSheet hp) (fun x8 M8 h8 => ?_)
        obtain ⟨e8_, h8⟩ := h8
        subst M8
        refine v_if_ne ok dX7_judged_27 (tgt := 32) (by decide) (n := 30) rfl (by omega) (fun c27_4 => ?_) (fun c27_4 => ?_)
        · have c27_4 := c27_4
          have hP : (0 ≤ q ∧ q ≤ 3) ∧ (0 ≤ l ∧ l ≤ 2) ∧ (2 ≤ n ∧ n ≤ 7) ∧ (0 ≤ p ∧ p ≤ 3) := ⟨by omega, by omega, by omega, by omega⟩
          have hnn : 4 ≤ 2 * n * n ∧ 2 * n * n ≤ 98 := by
            have a1 := Int.mul_le_mul_of_nonneg_right (show 2 * n ≤ 14 by omega) (show 0 ≤ n by omega)
            have a2 := Int.mul_le_mul_of_nonneg_right (show 4 ≤ 2 * n by omega) (show 0 ≤ n by omega)
            omega
          refine v_aload_0 ok dX7_judged_32 (n := 33) rfl ?_
          refine v_getR ok fd_X7_60 ly_0 rfl rfl rfl rf_0_8 dX7_judged_33 (n := 36) rfl ?_
          refine v_iload_1 ok dX7_judged_36 (n := 37) rfl ?_
          refine v_aald ok ly_176 (by decide) rfl (by omega) (by decide) rfl dX7_judged_37 (n := 38) rfl ?_
          refine v_iload_2 ok dX7_judged_38 (n := 39) rfl ?_
          refine v_iload_3 ok dX7_judged_39 (n := 40) rfl ?_
          refine v_iconst ok dX7_judged_40 (n := 41) rfl ?_
          refine v_iload_4 ok dX7_judged_41 (n := 43) rfl ?_
          refine v_imul ok dX7_judged_43 (n := 44) rfl ?_
          refine v_iload_4 ok dX7_judged_44 (n := 46) rfl ?_
          refine v_imul ok dX7_judged_46 (n := 47) rfl ?_
          refine v_callVI ok (mi := mi_X3_refusal) mc_X3_refusal cv_X7_191 (lf_she (by omega)) rfl rfl rfl (by decide) ⟨Nat.zero_le _, Nat.zero_le _⟩ dX7_judged_47 (n := 50) rfl rfl rfl (Nat.le_of_ble_eq_true rfl) (t_refusal (by omega) (hth _ (by omega)) (hla _ (by omega)) (hln _ (by omega)) hl hi (by omega)) (fun x9 M9 w9 => ?_)
          obtain ⟨w9_, w9⟩ := w9
          subst M9
          have b9 : -13 ≤ x9 ∧ x9 ≤ 0 := by rw [w9]; exact zref_b _ _ _ _ _ _
          refine v_istore_6 ok (by decide) rfl dX7_judged_50 (n := 52) rfl ?_
          refine v_iload_6 ok dX7_judged_52 (n := 54) rfl ?_
          refine v_if_ne ok dX7_judged_54 (tgt := 73) (by decide) (n := 57) rfl (by omega) (fun c54_5 => ?_) (fun c54_5 => ?_)
          · have c54_5 := c54_5
            refine v_iload_6 ok dX7_judged_73 (n := 75) rfl ?_
            refine v_if_eq ok dX7_judged_75 (tgt := 81) (by decide) (n := 78) rfl (by omega) (fun c75_6 => ?_) (fun c75_6 => ?_)
            · have c75_6 := c75_6
              first
              | (exfalso; omega)
              | skip
                have z1 := zref_z (show zref (M (177 + q) 1) (M (177 + q) 2) (M (177 + q) 3) l i (2 * n * n) = 0 by rw [← w9]; omega)
                have z2 := zref_z (show zref (M (177 + p) 1) (M (177 + p) 2) (M (177 + p) 3) l 0 n = 0 by rw [← w10]; omega)
                refine v_aload_0 ok dX7_judged_81 (n := 82) rfl ?_
                refine v_getR ok fd_X7_54 ly_0 rfl rfl rfl rf_0_7 dX7_judged_82 (n := 85) rfl ?_
                refine v_aload_0 ok dX7_judged_85 (n := 86) rfl ?_
                refine v_getR ok fd_X7_60 ly_0 rfl rfl rfl rf_0_8 dX7_judged_86 (n := 89) rfl ?_
                refine v_iload_1 ok dX7_judged_89 (n := 90) rfl ?_
                refine v_aald ok ly_176 (by decide) rfl (by omega) (by decide) rfl dX7_judged_90 (n := 91) rfl ?_
                refine v_getR ok fd_X7_194 (lf_she (by omega)) rfl rfl rfl (rf_she (by omega)) dX7_judged_91 (n := 94) rfl ?_
                refine v_iload_3 ok dX7_judged_94 (n := 95) rfl ?_
                refine v_iload_4 ok dX7_judged_95 (n := 97) rfl ?_
                refine v_callVI ok (mi := mi_X2_read) mc_X2_read cv_X7_210 ly_142 rfl rfl rfl (by decide) ⟨Nat.zero_le _, Nat.zero_le _⟩ dX7_judged_97 (n := 100) rfl rfl rfl (Nat.le_of_ble_eq_true rfl) (t_read (by omega) (lf_ite (by omega)) (by omega) (by have := hln q (by omega); omega) (hI q · (by omega))) (fun x1 M1 g1 => ?_)
                obtain ⟨f1, n1, g1⟩ := g1
                refine v_if_eq ok dX7_judged_100 (tgt := 123) (by decide) (n := 103) rfl (by omega) (fun c100_7 => ?_) (fun c100_7 => ?_)
                · have c100_7 := c100_7
                  rcases g1 with ⟨e1, _⟩ | ⟨_, g1⟩
                  · exfalso; omega
                  refine v_bipush ok (by decide) dX7_judged_123 (n := 125) rfl ?_
                  refine v_iret rt dX7_judged_125 ?_
                  first
                  | exact Or.inr (Or.inr (Or.inr ⟨⟨hP, by rw [← w9]; omega, by rw [← w10]; omega⟩, Or.inl ⟨fun q => g1 q.1, rfl⟩, f1⟩))
                  | exact Or.inr (Or.inr (Or.inr ⟨⟨hP, by rw [← w9]; omega, by rw [← w10]; omega⟩, Or.inl ⟨fun q => g2 q.2, rfl⟩, fun r hr => by rw [f2 r (by omega) (by omega), f1 r hr]⟩))
                · have c100_7 := c100_7
                  rcases g1 with ⟨_, g1⟩ | ⟨e1, _⟩
                  rotate_left
                  · exfalso; omega
                  refine v_aload_0 ok dX7_judged_103 (n := 104) rfl ?_
                  refine v_getR ok fd_X7_54 ly_0 rfl rfl rfl rf_0_7 dX7_judged_104 (n := 107) rfl ?_
                  refine v_aload_0 ok dX7_judged_107 (n := 108) rfl ?_
                  refine v_getR ok fd_X7_60 ly_0 rfl rfl rfl rf_0_8 dX7_judged_108 (n := 111) rfl ?_
                  refine v_iload_5 ok dX7_judged_111 (n := 113) rfl ?_
                  refine v_aald ok ly_176 (by decide) rfl (by omega) (by decide) rfl dX7_judged_113 (n := 114) rfl ?_
                  refine v_getR ok fd_X7_194 (lf_she (by omega)) rfl rfl rfl (rf_she (by omega)) dX7_judged_114 (n := 117) rfl ?_
                  have e117 := t_readPairs (G := G) (ad := ad) (M := M1) (it := 181 + p) (n := n) (by omega) n1 (lf_ite (by omega)) (by omega) (by rw [f1 (181 + p) (by omega)]; exact fun j hj => hI p j (by omega) hj)
                  rw [f1 (181 + p) (by omega)] at e117
                  refine v_callVI ok (mi := mi_X2_readPairs) mc_X2_readPairs cv_X7_220 ly_142 rfl rfl rfl (by decide) ⟨Nat.zero_le _, Nat.zero_le _⟩ dX7_judged_117 (n := 120) rfl rfl rfl (Nat.le_of_ble_eq_true rfl) (e117) (fun x2 M2 g2 => ?_)
                  obtain ⟨f2, g2⟩ := g2
                  refine v_if_ne ok dX7_judged_120 (tgt := 126) (by decide) (n := 123) rfl (by omega) (fun c120_8 => ?_) (fun c120_8 => ?_)
                  · have c120_8 := c120_8
                    rcases g2 with ⟨_, g2, g3⟩ | ⟨e1, _⟩
                    rotate_left
                    · exfalso; omega
                    refine v_aload_0 ok dX7_judged_126 (n := 127) rfl ?_
                    refine v_getR ok fd_X7_54 ly_0 rfl rfl rfl rf_0_7 dX7_judged_127 (n := 130) rfl ?_
                    have n2 : M2 142 0 = n := by rw [f2 142 (by omega) (by omega)]; exact n1
                    have rr : ∀ q', 0 ≤ q' ∧ q' < 2 * n → zdis (fun j => M (181 + q) (i + q' * n + j)) n n ∧ zrd M2 (148 + q') (162 + q') (fun j => M (181 + q) (i + q' * n + j)) n := fun q' hq' => ⟨(g1 q' hq').1, fun j hj => by
                      rw [f2 (148 + q') (by omega) (by omega), f2 (162 + q') (by omega) (by omega)]
                      exact (g1 q' hq').2 j hj⟩
                    have e130 := t_firstToLeave (G := G) (ad := ad) (M := M2) (n := n) (by omega) n2 (zplr_r (v := fun q' j => M (181 + q) (i + q' * n + j)) (by omega) rr) (fun b hb => ⟨by rw [(g3 b hb).1]; exact g2.1 b hb, by
                      obtain ⟨j, hj, e⟩ := zdis_in (by omega) g2 hb
                      have h3 := (g3 j hj).2
                      rw [e] at h3
                      omega⟩)
                    have fr2 : zfrR M M2 := fun r hr => by rw [f2 r (by omega) (by omega), f1 r hr]
                    refine v_callVI ok (mi := mi_X2_firstToLeave) mc_X2_firstToLeave cv_X7_224 ly_142 rfl rfl rfl (by decide) ⟨Nat.zero_le _, Nat.zero_le _⟩ dX7_judged_130 (n := 133) rfl rfl rfl (Nat.le_of_ble_eq_true rfl) (e130) (fun x3 M3 g4 => ?_)
                    obtain ⟨g3_, g4⟩ := g4
                    subst M3
                    refine v_iret rt dX7_judged_133 ?_
                    exact Or.inr (Or.inr (Or.inr ⟨⟨hP, by rw [← w9]; omega, by rw [← w10]; omega⟩, Or.inr ⟨⟨fun q' hq' => (rr q' hq').1, g2⟩, zPT M2, M2 145, M2 146, fun q' hq' j hj => ((rr q' hq').2 j hj).2, g3, g4⟩, fr2⟩))
                  · have c120_8 := c120_8
                    rcases g2 with ⟨e1, _⟩ | ⟨_, g2⟩
                    · exfalso; omega
                    refine v_bipush ok (by decide) dX7_judged_123 (n := 125) rfl ?_
                    refine v_iret rt dX7_judged_125 ?_
                    first
                    | exact Or.inr (Or.inr (Or.inr ⟨⟨hP, by rw [← w9]; omega, by rw [← w10]; omega⟩, Or.inl ⟨fun q => g1 q.1, rfl⟩, f1⟩))
                    | exact Or.inr (Or.inr (Or.inr ⟨⟨hP, by rw [← w9]; omega, by rw [← w10]; omega⟩, Or.inl ⟨fun q => g2 q.2, rfl⟩, fun r hr => by rw [f2 r (by omega) (by omega), f1 r hr]⟩))
            · have c75_6 := c75_6
              first
              | (exfalso; omega)
              | skip
                refine v_iload_6 ok dX7_judged_78 (n := 80) rfl ?_
                refine v_iret rt dX7_judged_80 ?_
                first
                | exact Or.inr (Or.inl ⟨⟨hP, by rw [← w9]; assumption⟩, w9, rfl⟩)
                | exact Or.inr (Or.inr (Or.inl ⟨⟨hP, by rw [← w9]; omega, by rw [← w10]; assumption⟩, w10, rfl⟩))
          · have c54_5 := c54_5
            refine v_aload_0 ok dX7_judged_57 (n := 58) rfl ?_
            refine v_getR ok fd_X7_60 ly_0 rfl rfl rfl rf_0_8 dX7_judged_58 (n := 61) rfl ?_
            refine v_iload_5 ok dX7_judged_61 (n := 63) rfl ?_
            refine v_aald ok ly_176 (by decide) rfl (by omega) (by decide) rfl dX7_judged_63 (n := 64) rfl ?_
            refine v_iload_2 ok dX7_judged_64 (n := 65) rfl ?_
            refine v_iconst ok dX7_judged_65 (n := 66) rfl ?_
            refine v_iload_4 ok dX7_judged_66 (n := 68) rfl ?_
            refine v_callVI ok (mi := mi_X3_refusal) mc_X3_refusal cv_X7_191 (lf_she (by omega)) rfl rfl rfl (by decide) ⟨Nat.zero_le _, Nat.zero_le _⟩ dX7_judged_68 (n := 71) rfl rfl rfl (Nat.le_of_ble_eq_true rfl) (t_refusal (by omega) (hth _ (by omega)) (hla _ (by omega)) (hln _ (by omega)) hl (by omega) hn) (fun x10 M10 w10 => ?_)
            obtain ⟨w10_, w10⟩ := w10
            subst M10
            have b10 : -13 ≤ x10 ∧ x10 ≤ 0 := by rw [w10]; exact zref_b _ _ _ _ _ _
            refine v_istore_6 ok (by decide) rfl dX7_judged_71 (n := 73) rfl ?_
            refine v_iload_6 ok dX7_judged_73 (n := 75) rfl ?_
            refine v_if_eq ok dX7_judged_75 (tgt := 81) (by decide) (n := 78) rfl (by omega) (fun c75_9 => ?_) (fun c75_9 => ?_)
            · have c75_9 := c75_9
              first
              | (exfalso; omega)
              | skip
                have z1 := zref_z (show zref (M (177 + q) 1) (M (177 + q) 2) (M (177 + q) 3) l i (2 * n * n) = 0 by rw [← w9]; omega)
                have z2 := zref_z (show zref (M (177 + p) 1) (M (177 + p) 2) (M (177 + p) 3) l 0 n = 0 by rw [← w10]; omega)
                refine v_aload_0 ok dX7_judged_81 (n := 82) rfl ?_
                refine v_getR ok fd_X7_54 ly_0 rfl rfl rfl rf_0_7 dX7_judged_82 (n := 85) rfl ?_
                refine v_aload_0 ok dX7_judged_85 (n := 86) rfl ?_
                refine v_getR ok fd_X7_60 ly_0 rfl rfl rfl rf_0_8 dX7_judged_86 (n := 89) rfl ?_
                refine v_iload_1 ok dX7_judged_89 (n := 90) rfl ?_
                refine v_aald ok ly_176 (by decide) rfl (by omega) (by decide) rfl dX7_judged_90 (n := 91) rfl ?_
                refine v_getR ok fd_X7_194 (lf_she (by omega)) rfl rfl rfl (rf_she (by omega)) dX7_judged_91 (n := 94) rfl ?_
                refine v_iload_3 ok dX7_judged_94 (n := 95) rfl ?_
                refine v_iload_4 ok dX7_judged_95 (n := 97) rfl ?_
                refine v_callVI ok (mi := mi_X2_read) mc_X2_read cv_X7_210 ly_142 rfl rfl rfl (by decide) ⟨Nat.zero_le _, Nat.zero_le _⟩ dX7_judged_97 (n := 100) rfl rfl rfl (Nat.le_of_ble_eq_true rfl) (t_read (by omega) (lf_ite (by omega)) (by omega) (by have := hln q (by omega); omega) (hI q · (by omega))) (fun x1 M1 g1 => ?_)
                obtain ⟨f1, n1, g1⟩ := g1
                refine v_if_eq ok dX7_judged_100 (tgt := 123) (by decide) (n := 103) rfl (by omega) (fun c100_10 => ?_) (fun c100_10 => ?_)
                · have c100_10 := c100_10
                  rcases g1 with ⟨e1, _⟩ | ⟨_, g1⟩
                  · exfalso; omega
                  refine v_bipush ok (by decide) dX7_judged_123 (n := 125) rfl ?_
                  refine v_iret rt dX7_judged_125 ?_
                  first
                  | exact Or.inr (Or.inr (Or.inr ⟨⟨hP, by rw [← w9]; omega, by rw [← w10]; omega⟩, Or.inl ⟨fun q => g1 q.1, rfl⟩, f1⟩))
                  | exact Or.inr (Or.inr (Or.inr ⟨⟨hP, by rw [← w9]; omega, by rw [← w10]; omega⟩, Or.inl ⟨fun q => g2 q.2, rfl⟩, fun r hr => by rw [f2 r (by omega) (by omega), f1 r hr]⟩))
                · have c100_10 := c100_10
                  rcases g1 with ⟨_, g1⟩ | ⟨e1, _⟩
                  rotate_left
                  · exfalso; omega
                  refine v_aload_0 ok dX7_judged_103 (n := 104) rfl ?_
                  refine v_getR ok fd_X7_54 ly_0 rfl rfl rfl rf_0_7 dX7_judged_104 (n := 107) rfl ?_
                  refine v_aload_0 ok dX7_judged_107 (n := 108) rfl ?_
                  refine v_getR ok fd_X7_60 ly_0 rfl rfl rfl rf_0_8 dX7_judged_108 (n := 111) rfl ?_
                  refine v_iload_5 ok dX7_judged_111 (n := 113) rfl ?_
                  refine v_aald ok ly_176 (by decide) rfl (by omega) (by decide) rfl dX7_judged_113 (n := 114) rfl ?_
                  refine v_getR ok fd_X7_194 (lf_she (by omega)) rfl rfl rfl (rf_she (by omega)) dX7_judged_114 (n := 117) rfl ?_
                  have e117 := t_readPairs (G := G) (ad := ad) (M := M1) (it := 181 + p) (n := n) (by omega) n1 (lf_ite (by omega)) (by omega) (by rw [f1 (181 + p) (by omega)]; exact fun j hj => hI p j (by omega) hj)
                  rw [f1 (181 + p) (by omega)] at e117
                  refine v_callVI ok (mi := mi_X2_readPairs) mc_X2_readPairs cv_X7_220 ly_142 rfl rfl rfl (by decide) ⟨Nat.zero_le _, Nat.zero_le _⟩ dX7_judged_117 (n := 120) rfl rfl rfl (Nat.le_of_ble_eq_true rfl) (e117) (fun x2 M2 g2 => ?_)
                  obtain ⟨f2, g2⟩ := g2
                  refine v_if_ne ok dX7_judged_120 (tgt := 126) (by decide) (n := 123) rfl (by omega) (fun c120_11 => ?_) (fun c120_11 => ?_)
                  · have c120_11 := c120_11
                    rcases g2 with ⟨_, g2, g3⟩ | ⟨e1, _⟩
                    rotate_left
                    · exfalso; omega
                    refine v_aload_0 ok dX7_judged_126 (n := 127) rfl ?_
                    refine v_getR ok fd_X7_54 ly_0 rfl rfl rfl rf_0_7 dX7_judged_127 (n := 130) rfl ?_
                    have n2 : M2 142 0 = n := by rw [f2 142 (by omega) (by omega)]; exact n1
                    have rr : ∀ q', 0 ≤ q' ∧ q' < 2 * n → zdis (fun j => M (181 + q) (i + q' * n + j)) n n ∧ zrd M2 (148 + q') (162 + q') (fun j => M (181 + q) (i + q' * n + j)) n := fun q' hq' => ⟨(g1 q' hq').1, fun j hj => by
                      rw [f2 (148 + q') (by omega) (by omega), f2 (162 + q') (by omega) (by omega)]
                      exact (g1 q' hq').2 j hj⟩
                    have e130 := t_firstToLeave (G := G) (ad := ad) (M := M2) (n := n) (by omega) n2 (zplr_r (v := fun q' j => M (181 + q) (i + q' * n + j)) (by omega) rr) (fun b hb => ⟨by rw [(g3 b hb).1]; exact g2.1 b hb, by
                      obtain ⟨j, hj, e⟩ := zdis_in (by omega) g2 hb
                      have h3 := (g3 j hj).2
                      rw [e] at h3
                      omega⟩)
                    have fr2 : zfrR M M2 := fun r hr => by rw [f2 r (by omega) (by omega), f1 r hr]
                    refine v_callVI ok (mi := mi_X2_firstToLeave) mc_X2_firstToLeave cv_X7_224 ly_142 rfl rfl rfl (by decide) ⟨Nat.zero_le _, Nat.zero_le _⟩ dX7_judged_130 (n := 133) rfl rfl rfl (Nat.le_of_ble_eq_true rfl) (e130) (fun x3 M3 g4 => ?_)
                    obtain ⟨g3_, g4⟩ := g4
                    subst M3
                    refine v_iret rt dX7_judged_133 ?_
                    exact Or.inr (Or.inr (Or.inr ⟨⟨hP, by rw [← w9]; omega, by rw [← w10]; omega⟩, Or.inr ⟨⟨fun q' hq' => (rr q' hq').1, g2⟩, zPT M2, M2 145, M2 146, fun q' hq' j hj => ((rr q' hq').2 j hj).2, g3, g4⟩, fr2⟩))
                  · have c120_11 := c120_11
                    rcases g2 with ⟨e1, _⟩ | ⟨_, g2⟩
                    · exfalso; omega
                    refine v_bipush ok (by decide) dX7_judged_123 (n := 125) rfl ?_
                    refine v_iret rt dX7_judged_125 ?_
                    first
                    | exact Or.inr (Or.inr (Or.inr ⟨⟨hP, by rw [← w9]; omega, by rw [← w10]; omega⟩, Or.inl ⟨fun q => g1 q.1, rfl⟩, f1⟩))
                    | exact Or.inr (Or.inr (Or.inr ⟨⟨hP, by rw [← w9]; omega, by rw [← w10]; omega⟩, Or.inl ⟨fun q => g2 q.2, rfl⟩, fun r hr => by rw [f2 r (by omega) (by omega), f1 r hr]⟩))
            · have c75_9 := c75_9
              first
              | (exfalso; omega)
              | skip
                refine v_iload_6 ok dX7_judged_78 (n := 80) rfl ?_
                refine v_iret rt dX7_judged_80 ?_
                first
                | exact Or.inr (Or.inl ⟨⟨hP, by rw [← w9]; assumption⟩, w9, rfl⟩)
                | exact Or.inr (Or.inr (Or.inl ⟨⟨hP, by rw [← w9]; omega, by rw [← w10]; assumption⟩, w10, rfl⟩))
        · have c27_4 := c27_4
          refine v_iconst ok dX7_judged_30 (n := 31) rfl ?_
          refine v_iret rt dX7_judged_31 ?_
          exact Or.inl ⟨by omega, rfl, rfl⟩

