/-! the class: prices, all shoes added -/
set_option maxHeartbeats 4000000 in
set_option maxRecDepth 100000 in
theorem t_bitCount {G : zG} {ad : Int → Nat} {M : zM} {v : Int} (hv : 0 ≤ v ∧ v < 128) : zTI G (zw ad) mi_J6_bitCount_0f7a4 [zi v] M (fun x M' => M' = M ∧ x = zone v) := by
  refine zTI.of (own := RJ6) (ls := [some (zi v)]) (by decide +kernel) rfl rfl (Nat.le_of_ble_eq_true rfl) (fun γ ok rt => ?_)
  refine v_iload_0 ok dJ6_bitCount_0f7a4_0 (n := 1) rfl ?_
  refine v_iload_0 ok dJ6_bitCount_0f7a4_1 (n := 2) rfl ?_
  refine v_iconst ok dJ6_bitCount_0f7a4_2 (n := 3) rfl ?_
  refine v_iushr ok dJ6_bitCount_0f7a4_3 (n := 4) rfl ?_
  refine v_ldcw ok (c := 1431655765) kc_J6_265 (by decide) dJ6_bitCount_0f7a4_4 (n := 7) rfl ?_
  refine v_iand ok dJ6_bitCount_0f7a4_7 (n := 8) rfl ?_
  refine v_isub ok dJ6_bitCount_0f7a4_8 (n := 9) rfl ?_
  refine v_istore_0 ok (by decide) dJ6_bitCount_0f7a4_9 (n := 10) rfl ?_
  refine v_iload_0 ok dJ6_bitCount_0f7a4_10 (n := 11) rfl ?_
  refine v_ldcw ok (c := 858993459) kc_J6_266 (by decide) dJ6_bitCount_0f7a4_11 (n := 14) rfl ?_
  refine v_iand ok dJ6_bitCount_0f7a4_14 (n := 15) rfl ?_
  refine v_iload_0 ok dJ6_bitCount_0f7a4_15 (n := 16) rfl ?_
  refine v_iconst ok dJ6_bitCount_0f7a4_16 (n := 17) rfl ?_
  refine v_iushr ok dJ6_bitCount_0f7a4_17 (n := 18) rfl ?_
  refine v_ldcw ok (c := 858993459) kc_J6_266 (by decide) dJ6_bitCount_0f7a4_18 (n := 21) rfl ?_
  refine v_iand ok dJ6_bitCount_0f7a4_21 (n := 22) rfl ?_
  refine v_iadd ok dJ6_bitCount_0f7a4_22 (n := 23) rfl ?_
  refine v_istore_0 ok (by decide) dJ6_bitCount_0f7a4_23 (n := 24) rfl ?_
  refine v_iload_0 ok dJ6_bitCount_0f7a4_24 (n := 25) rfl ?_
  refine v_iload_0 ok dJ6_bitCount_0f7a4_25 (n := 26) rfl ?_
  refine v_iconst ok dJ6_bitCount_0f7a4_26 (n := 27) rfl ?_
  refine v_iushr ok dJ6_bitCount_0f7a4_27 (n := 28) rfl ?_
  refine v_iadd ok dJ6_bitCount_0f7a4_28 (n := 29) rfl ?_
  refine v_ldcw ok (c := 252645135) kc_J6_267 (by decide) dJ6_bitCount_0f7a4_29 (n := 32) rfl ?_
  refine v_iand ok dJ6_bitCount_0f7a4_32 (n := 33) rfl ?_
  refine v_istore_0 ok (by decide) dJ6_bitCount_0f7a4_33 (n := 34) rfl ?_
  refine v_iload_0 ok dJ6_bitCount_0f7a4_34 (n := 35) rfl ?_
  refine v_iload_0 ok dJ6_bitCount_0f7a4_35 (n := 36) rfl ?_
  refine v_bipush ok (by decide) dJ6_bitCount_0f7a4_36 (n := 38) rfl ?_
  refine v_iushr ok dJ6_bitCount_0f7a4_38 (n := 39) rfl ?_
  refine v_iadd ok dJ6_bitCount_0f7a4_39 (n := 40) rfl ?_
  refine v_istore_0 ok (by decide) dJ6_bitCount_0f7a4_40 (n := 41) rfl ?_
  refine v_iload_0 ok dJ6_bitCount_0f7a4_41 (n := 42) rfl ?_
  refine v_iload_0 ok dJ6_bitCount_0f7a4_42 (n := 43) rfl ?_
  refine v_bipush ok (by decide) dJ6_bitCount_0f7a4_43 (n := 45) rfl ?_
  refine v_iushr ok dJ6_bitCount_0f7a4_45 (n := 46) rfl ?_
  refine v_iadd ok dJ6_bitCount_0f7a4_46 (n := 47) rfl ?_
  refine v_istore_0 ok (by decide) dJ6_bitCount_0f7a4_47 (n := 48) rfl ?_
  refine v_iload_0 ok dJ6_bitCount_0f7a4_48 (n := 49) rfl ?_
  refine v_bipush ok (by decide) dJ6_bitCount_0f7a4_49 (n := 51) rfl ?_
  refine v_iand ok dJ6_bitCount_0f7a4_51 (n := 52) rfl ?_
  refine v_iret rt dJ6_bitCount_0f7a4_52 ?_
  refine ⟨rfl, ?_⟩
  obtain ⟨k, hk, rfl⟩ : ∃ k : Nat, k < 128 ∧ v = (k : Int) := ⟨v.toNat, by omega, by omega⟩
  clear ok rt hv
  revert hk
  revert k
  decide +kernel

set_option maxHeartbeats 4000000 in
set_option maxRecDepth 100000 in
theorem t_shiftOf {G : zG} {ad : Int → Nat} {M : zM} {b : Int} : zTI G (zw ad) mi_X6_shiftOf [zi b] M (fun x M' => M' = M ∧ x = 4 * (6 - b)) := by
  refine zTI.of (own := RX6) (ls := [some (zi b)]) (by decide +kernel) rfl rfl (Nat.le_of_ble_eq_true rfl) (fun γ ok rt => ?_)
  refine v_iconst ok dX6_shiftOf_0 (n := 1) rfl ?_
  refine v_bipush ok (by decide) dX6_shiftOf_1 (n := 3) rfl ?_
  refine v_iload_0 ok dX6_shiftOf_3 (n := 4) rfl ?_
  refine v_isub ok dX6_shiftOf_4 (n := 5) rfl ?_
  refine v_imul ok dX6_shiftOf_5 (n := 6) rfl ?_
  refine v_iret rt dX6_shiftOf_6 ?_
  exact ⟨rfl, rfl⟩

theorem zrl_congr {L L' pr : Int → Int} {set : Int} (hs : 0 ≤ set ∧ set ≤ 127) (h : ∀ j, 0 ≤ j ∧ j ≤ 127 → L j = L' j) (n : Nat) : zrl L pr set n = zrl L' pr set n := by
  induction n with
  | zero => exact h set hs
  | succ n ih =>
    show zrel _ _ _ = zrel _ _ _
    rw [ih]
    congr 1
    by_cases hb : zbit set n = 1
    · rw [if_pos hb, if_pos hb]
      have h3 := zbit_lt hs.1 hb
      have h4 := zp2_pos n
      exact h _ (by omega)
    · rw [if_neg hb, if_neg hb]
/-- the least prices of sets by the first shoes -/
def zds (pr : Int → Int → Int) (n : Int) : Nat → Int → Int
  | 0 => fun j => if j = 0 then 0 else -1
  | s + 1 => fun j => if 0 < j ∧ j < zp2 n then zrl (zds pr n s) (pr s) j n.toNat else zds pr n s j
theorem zds_b {pr : Int → Int → Int} {n : Int} (hn : 0 ≤ n ∧ n ≤ 7) (s : Nat) (hp : ∀ q b : Int, 0 ≤ q ∧ q < s → 0 ≤ b ∧ b < n → -1 ≤ pr q b ∧ pr q b ≤ 8589934592) : ∀ j, 0 ≤ j ∧ j ≤ 127 → -1 ≤ zds pr n s j ∧ zds pr n s j ≤ s * 8589934592 := by
  induction s with
  | zero =>
    intro j hj
    show -1 ≤ (if j = 0 then (0 : Int) else -1) ∧ (if j = 0 then (0 : Int) else -1) ≤ _
    split <;> omega
  | succ s ih =>
    have ih := ih (fun q b hq hb => hp q b (by omega) hb)
    intro j hj
    show -1 ≤ (if 0 < j ∧ j < zp2 n then zrl (zds pr n s) (pr s) j n.toNat else zds pr n s j) ∧ (if 0 < j ∧ j < zp2 n then zrl (zds pr n s) (pr s) j n.toNat else zds pr n s j) ≤ _
    split
    · have := zrl_b (L := zds pr n s) (pr := pr s) (set := j) (B := s * 8589934592) (P := 8589934592) hj ih n.toNat (fun b hb => hp s b (by omega) (by omega)) (by omega)
      omega
    · have := ih j hj
      omega
def zlea (M : zM) (f : Int → Int) : zM := fun r j => if r = 76 ∧ 0 ≤ j ∧ j < 128 then f j else M r j
theorem zlea_o {M : zM} {f : Int → Int} {r : Int} (h : r ≠ 76) : zlea M f r = M r := by
  funext j
  exact if_neg fun q => h q.1
theorem zlea_i {M : zM} {f : Int → Int} {j : Int} (h : 0 ≤ j ∧ j ≤ 127) : zlea M f 76 j = f j := if_pos (by omega)
theorem zlea_0 {M : zM} {pr : Int → Int → Int} {n : Int} : zset (zfil M 76 128 (-1)) 76 0 0 = zlea M (zds pr n 0) := by
  funext r j
  show (if r = 76 ∧ j = 0 then 0 else if r = 76 ∧ 0 ≤ j ∧ j < 128 then -1 else M r j) = if r = 76 ∧ 0 ≤ j ∧ j < 128 then (if j = 0 then 0 else -1) else M r j
  by_cases h : r = 76 ∧ j = 0
  · rw [if_pos h, if_pos (by omega), if_pos h.2]
  · rw [if_neg h]
    by_cases h2 : r = 76 ∧ 0 ≤ j ∧ j < 128
    · rw [if_pos h2, if_pos h2, if_neg (by omega)]
    · rw [if_neg h2, if_neg h2]
theorem zlea_s {M : zM} {pr : Int → Int → Int} {n s : Int} (hn : 0 ≤ n ∧ n ≤ 7) (hs : 0 ≤ s) (hr : 78 + s ≠ 76) (hp : ∀ b : Nat, (b : Int) < n → M (78 + s) b = pr s b) : zadm (zlea M (zds pr n s.toNat)) (78 + s) n 0 = zlea M (zds pr n (s + 1).toNat) := by
  have h128 : zp2 n ≤ 128 := zp2_le (b := 7) hn.2
  funext r j
  rw [show (s + 1).toNat = s.toNat + 1 by omega]
  unfold zadm
  by_cases h : r = 76 ∧ 0 < j ∧ j < zp2 n
  · rw [if_pos h, h.1, zlea_i (by omega)]
    show _ = if 0 < j ∧ j < zp2 n then zrl (zds pr n s.toNat) (pr ((s.toNat : Nat) : Int)) j n.toNat else _
    rw [if_pos h.2, zrl_congr (L' := zds pr n s.toNat) (by omega) (fun i hi => zlea_i hi), zlea_o hr, show ((s.toNat : Nat) : Int) = s by omega]
    have : ∀ q : Nat, (q : Int) ≤ n → zrl (zds pr n s.toNat) (M (78 + s)) j q = zrl (zds pr n s.toNat) (pr s) j q := by
      intro q
      induction q with
      | zero => intro _; rfl
      | succ q ih =>
        intro hq
        show zrel _ _ _ = zrel _ _ _
        rw [ih (by omega), hp q (by omega)]
    exact this _ (by omega)
  · rw [if_neg h]
    by_cases h2 : r = 76 ∧ 0 ≤ j ∧ j < 128
    · rw [h2.1, zlea_i (by omega), zlea_i (by omega)]
      show _ = if 0 < j ∧ j < zp2 n then _ else zds pr n s.toNat j
      rw [if_neg (fun q => h ⟨h2.1, q⟩)]
    · unfold zlea
      rw [if_neg h2, if_neg h2]
set_option maxHeartbeats 4000000 in
set_option maxRecDepth 100000 in
theorem t_addShoes {G : zG} {ad : Int → Nat} {M : zM} {pr : Int → Int → Int} (hnb : 0 ≤ M 1 3 ∧ M 1 3 ≤ 7) (hns : 0 ≤ M 1 4 ∧ M 1 4 ≤ 16) (hpr : ∀ s b, 0 ≤ s ∧ s < M 1 4 → 0 ≤ b ∧ b < M 1 3 → M (78 + s) b = pr s b) (hP : ∀ s b, 0 ≤ s ∧ s < M 1 4 → 0 ≤ b ∧ b < M 1 3 → -1 ≤ pr s b ∧ pr s b ≤ 8589934592) : zTV G (zw ad) mi_X6_addShoes [zr 74, zr 1] M (fun M' => M' = zlea M (zds pr (M 1 3) (M 1 4).toNat)) := by
  refine zTV.of (own := RX6) (ls := [some (zr 74), some (zr 1), none]) (by decide +kernel) rfl rfl (Nat.le_of_ble_eq_true rfl) (fun γ ok rt => ?_)
  have lp : ∀ (zn : Nat) (s : Int), zn = (16 - s).toNat → (0 ≤ s ∧ s ≤ M 1 4) → zVV G γ (zw ad) (0, 0) 19 [some (zr 74), some (zr 1), some (zi s)] [] (zlea M (zds pr (M 1 3) s.toNat)) := by
    refine zrec _ (fun zn ih => ?_)
    intro s hzn hs
    refine v_iload_2 ok dX6_addShoes_19 (n := 20) rfl ?_
    refine v_aload_1 ok dX6_addShoes_20 (n := 21) rfl ?_
    refine v_getI ok fd_X6_58 ly_1 rfl rfl (jI := 4) rfl dX6_addShoes_21 (n := 24) rfl ?_
    try simp (disch := omega) only [zlea_o]
    refine v_icmp_ge ok dX6_addShoes_24 (tgt := 47) (by decide) (n := 27) rfl (by omega) (by omega) (fun c24_1 => ?_) (fun c24_1 => ?_)
    · have c24_1 := c24_1
      refine v_vret rt dX6_addShoes_47 ?_
      rw [show s = M 1 4 by omega]
    · have c24_1 := c24_1
      refine v_aload_0 ok dX6_addShoes_27 (n := 28) rfl ?_
      refine v_aload_0 ok dX6_addShoes_28 (n := 29) rfl ?_
      refine v_getR ok fd_X6_13 ly_74 rfl rfl rfl rf_74_0 dX6_addShoes_29 (n := 32) rfl ?_
      refine v_iload_2 ok dX6_addShoes_32 (n := 33) rfl ?_
      refine v_aald ok ly_75 (by decide) rfl (by omega) (by decide) rfl dX6_addShoes_33 (n := 34) rfl ?_
      refine v_aload_1 ok dX6_addShoes_34 (n := 35) rfl ?_
      refine v_getI ok fd_X6_36 ly_1 rfl rfl (jI := 3) rfl dX6_addShoes_35 (n := 38) rfl ?_
      try simp (disch := omega) only [zlea_o]
      refine v_callVV ok (mi := mi_X6_addShoe) mc_X6_addShoe cv_X6_79 ly_74 rfl rfl rfl (by decide) ⟨Nat.zero_le _, Nat.zero_le _⟩ dX6_addShoes_38 (n := 41) rfl rfl rfl (Nat.le_of_ble_eq_true rfl) (t_addShoe (lf_pro (by omega)) (by omega) hnb (B := 16 * 8589934592) (by omega) (fun j hj => by rw [zlea_i hj]; have := zds_b (pr := pr) hnb s.toNat (fun q b hq hb => hP q b (by omega) hb) j hj; omega) (fun b hb => by rw [zlea_o (by omega), hpr s b (by omega) (by omega)]; exact hP s b (by omega) (by omega))) (fun N1 g1 => ?_)
      subst g1
      rw [zlea_s hnb hs.1 (by omega) (fun b hb => hpr s b (by omega) (by omega))]
      refine v_iinc_2 ok (by decide) rfl dX6_addShoes_41 (n := 44) rfl ?_
      refine v_goto ok dX6_addShoes_44 (n := 19) (by decide) ?_
      exact ih _ (by omega) _ rfl (by omega)
  refine v_aload_0 ok dX6_addShoes_0 (n := 1) rfl ?_
  refine v_getR ok fd_X6_16 ly_74 rfl rfl rfl rf_74_1 dX6_addShoes_1 (n := 4) rfl ?_
  refine v_ldc2 ok (c := -1) kc_X6_41 (by decide) dX6_addShoes_4 (n := 7) rfl ?_
  refine v_callSV ok (mi := mi_J7_fill_d0a16) mc_J7_fill_d0a16 cs_X6_73 (by decide) ⟨Nat.zero_le _, Nat.zero_le _⟩ dX6_addShoes_7 (n := 10) rfl rfl rfl (Nat.le_of_ble_eq_true rfl) (t_fillJ ly_76 (by decide)) (fun N0 g0 => ?_)
  subst g0
  refine v_aload_0 ok dX6_addShoes_10 (n := 11) rfl ?_
  refine v_getR ok fd_X6_16 ly_74 rfl rfl rfl rf_74_1 dX6_addShoes_11 (n := 14) rfl ?_
  refine v_iconst ok dX6_addShoes_14 (n := 15) rfl ?_
  refine v_lconst0 ok dX6_addShoes_15 (n := 16) rfl ?_
  refine v_last ok ly_76 rfl (by omega) (by decide) dX6_addShoes_16 (n := 17) rfl ?_
  rw [show zset (zfil M 76 ((128 : Nat) : Int) (-1)) 76 0 0 = zlea M (zds pr (M 1 3) 0) from zlea_0]
  refine v_iconst ok dX6_addShoes_17 (n := 18) rfl ?_
  refine v_istore_2 ok (by decide) rfl dX6_addShoes_18 (n := 19) rfl ?_
  exact lp _ 0 rfl (by omega)

/-- what is asked of the shoe s by the bride b when she is wed (-4: it isn't there, or doesn't go) -/
def zak (M : zM) (d s b : Int) : Int := if M (12 + s) 0 = d ∧ M (12 + s) 3 = 0 then zask (zfo (M (5 + b)) (M (12 + s) 0) (M (5 + b) 3)) (M (12 + s) 1) (M (12 + s) 2) (M 4 0) (M 4 1) else -4
/-- as a price: above 28 bits that hold the shoe at the bride's place -/
def zkey (a : Int → Int → Int) (s b : Int) : Int := if a s b = -4 then -1 else a s b * 268435456 + s * zp2 (4 * (6 - b))
theorem zak_b {M : zM} {d s b : Int} (h1 : 0 ≤ M 4 1 ∧ M 4 1 ≤ 6) : zak M d s b = -4 ∨ (0 ≤ zak M d s b ∧ zak M d s b ≤ 6) := by
  unfold zak
  split
  · exact zask_b h1
  · exact Or.inl rfl
theorem zp2_24 {b : Int} (h : 0 ≤ b ∧ b < 7) : 1 ≤ zp2 (4 * (6 - b)) ∧ zp2 (4 * (6 - b)) ≤ 16777216 := ⟨by have := zp2_pos (4 * (6 - b)); omega, zp2_le (b := 24) (by omega)⟩
theorem zmul_s {s x m n : Int} (h : 0 ≤ s ∧ s ≤ m) (hx : 0 ≤ x ∧ x ≤ n) : 0 ≤ s * x ∧ s * x ≤ m * n := by
  refine ⟨Int.mul_nonneg h.1 hx.1, ?_⟩
  have h1 := Int.mul_le_mul_of_nonneg_right h.2 hx.1
  have h2 := Int.mul_le_mul_of_nonneg_left hx.2 (show 0 ≤ m by omega)
  omega
theorem zkey_b {a : Int → Int → Int} {s b : Int} (ha : a s b = -4 ∨ (0 ≤ a s b ∧ a s b ≤ 6)) (hs : 0 ≤ s ∧ s < 16) (hb : 0 ≤ b ∧ b < 7) : -1 ≤ zkey a s b ∧ zkey a s b ≤ 8589934592 := by
  have h1 := zp2_24 hb
  have h2 := zmul_s (s := s) (m := 15) (x := zp2 (4 * (6 - b))) (n := 16777216) (by omega) (by omega)
  unfold zkey
  split <;> omega
/-- the prices of the first s shoes, and of the next for the first b brides -/
def zprm (M : zM) (f : Int → Int → Int) (n s b : Int) : zM := fun r j => if 78 ≤ r ∧ r ≤ 93 ∧ 0 ≤ j ∧ j < n ∧ (r < 78 + s ∨ (r = 78 + s ∧ j < b)) then f (r - 78) j else M r j
theorem zprm_o {M : zM} {f : Int → Int → Int} {n s b r : Int} (h : r < 78 ∨ 93 < r) : zprm M f n s b r = M r := by
  funext j
  exact if_neg (by omega)
theorem zprm_0 {M : zM} {f : Int → Int → Int} {n : Int} : zprm M f n 0 0 = M := by
  funext r j
  exact if_neg (by omega)
theorem zprm_n {M : zM} {f : Int → Int → Int} {n s : Int} (hs : 0 ≤ s ∧ s < 16) : zprm M f n s n = zprm M f n (s + 1) 0 := by
  funext r j
  unfold zprm
  by_cases h : 78 ≤ r ∧ r ≤ 93 ∧ 0 ≤ j ∧ j < n ∧ (r < 78 + s ∨ (r = 78 + s ∧ j < n))
  · rw [if_pos h, if_pos (by omega)]
  · rw [if_neg h, if_neg (by omega)]
theorem zprm_s {M : zM} {f : Int → Int → Int} {n s b v : Int} (hs : 0 ≤ s ∧ s < 16) (hb : 0 ≤ b ∧ b < n) (hv : v = f s b) : zset (zprm M f n s b) (78 + s) b v = zprm M f n s (b + 1) := by
  subst hv
  funext r j
  unfold zset zprm
  by_cases h : r = 78 + s ∧ j = b
  · rw [if_pos h, if_pos (by omega), h.1, h.2, show 78 + s - 78 = s by omega]
  · rw [if_neg h]
    by_cases h2 : 78 ≤ r ∧ r ≤ 93 ∧ 0 ≤ j ∧ j < n ∧ (r < 78 + s ∨ (r = 78 + s ∧ j < b))
    · rw [if_pos h2, if_pos (by omega)]
    · rw [if_neg h2, if_neg (by omega)]
set_option maxHeartbeats 4000000 in
set_option maxRecDepth 100000 in
theorem t_priceAsked {G : zG} {ad : Int → Nat} {M : zM} {d : Int} (hd : 0 ≤ d ∧ d ≤ 1) (hnb : 0 ≤ M 1 3 ∧ M 1 3 ≤ 7) (hns : 0 ≤ M 1 4 ∧ M 1 4 ≤ 16) (hB : ∀ b, 0 ≤ b ∧ b < M 1 3 → zBR (M (5 + b))) (hS : ∀ s, 0 ≤ s ∧ s < M 1 4 → zSR (M (12 + s))) (h0 : 0 ≤ M 4 0 ∧ M 4 0 ≤ 6) (h1 : 0 ≤ M 4 1 ∧ M 4 1 ≤ 6)  : zTV G (zw ad) mi_X6_priceAsked [zr 74, zr 1, zi d] M (fun M' => M' = zprm M (zkey (zak M d)) (M 1 3) (M 1 4) 0) := by
  refine zTV.of (own := RX6) (ls := [some (zr 74), some (zr 1), some (zi d), none, none, none]) (by decide +kernel) rfl rfl (Nat.le_of_ble_eq_true rfl) (fun γ ok rt => ?_)
  have lpo : ∀ (zn : Nat) (s : Int) (a4 a5 : Option zV), zn = (16 - s).toNat → (0 ≤ s ∧ s ≤ M 1 4) → zVV G γ (zw ad) (0, 0) 2 [some (zr 74), some (zr 1), some (zi d), some (zi s), a4, a5] [] (zprm M (zkey (zak M d)) (M 1 3) s 0) := by
    refine zrec _ (fun zn ih => ?_)
    intro s a4 a5 hzn hs
    refine v_iload_3 ok dX6_priceAsked_2 (n := 3) rfl ?_
    refine v_aload_1 ok dX6_priceAsked_3 (n := 4) rfl ?_
    refine v_getI ok fd_X6_58 ly_1 rfl rfl (jI := 4) rfl dX6_priceAsked_4 (n := 7) rfl ?_
    try simp (disch := omega) only [zprm_o]
    refine v_icmp_ge ok dX6_priceAsked_7 (tgt := 103) (by decide) (n := 10) rfl (by omega) (by omega) (fun c7_1 => ?_) (fun c7_1 => ?_)
    · have c7_1 := c7_1
      refine v_vret rt dX6_priceAsked_103 ?_
      rw [show s = M 1 4 by omega]
    · have c7_1 := c7_1
      have ih0 := ih
      have lpi : ∀ (zn : Nat) (b : Int) (a5 : Option zV), zn = (7 - b).toNat → (0 ≤ b ∧ b ≤ M 1 3) → zVV G γ (zw ad) (0, 0) 13 [some (zr 74), some (zr 1), some (zi d), some (zi s), some (zi b), a5] [] (zprm M (zkey (zak M d)) (M 1 3) s b) := by
        refine zrec _ (fun zn ih => ?_)
        intro b a5 hzn hb
        refine v_iload_4 ok dX6_priceAsked_13 (n := 15) rfl ?_
        refine v_aload_1 ok dX6_priceAsked_15 (n := 16) rfl ?_
        refine v_getI ok fd_X6_36 ly_1 rfl rfl (jI := 3) rfl dX6_priceAsked_16 (n := 19) rfl ?_
        try simp (disch := omega) only [zprm_o]
        refine v_icmp_ge ok dX6_priceAsked_19 (tgt := 97) (by decide) (n := 22) rfl (by omega) (by omega) (fun c19_1 => ?_) (fun c19_1 => ?_)
        · have c19_1 := c19_1
          refine v_iinc_3 ok (by decide) rfl dX6_priceAsked_97 (n := 100) rfl ?_
          refine v_goto ok dX6_priceAsked_100 (n := 2) (by decide) ?_
          rw [show b = M 1 3 by omega, zprm_n (by omega)]
          exact ih0 _ (by omega) _ _ _ rfl (by omega)
        · have c19_1 := c19_1
          have jn : ∀ x : Int, x = zak M d s b → zVV G γ (zw ad) (0, 0) 52 [some (zr 74), some (zr 1), some (zi d), some (zi s), some (zi b), a5] [zi x] (zprm M (zkey (zak M d)) (M 1 3) s b) := by
            intro x hx
            have hak := zak_b (M := M) (d := d) (s := s) (b := b) h1
            rw [← hx] at hak
            have h24 := zp2_24 (b := b) (by omega)
            have hms := zmul_s (s := s) (m := 15) (x := zp2 (4 * (6 - b))) (n := 16777216) (by omega) (by omega)
            refine v_istore_5 ok (by decide) rfl dX6_priceAsked_52 (n := 54) rfl ?_
            refine v_aload_0 ok dX6_priceAsked_54 (n := 55) rfl ?_
            refine v_getR ok fd_X6_13 ly_74 rfl rfl rfl rf_74_0 dX6_priceAsked_55 (n := 58) rfl ?_
            refine v_iload_3 ok dX6_priceAsked_58 (n := 59) rfl ?_
            refine v_aald ok ly_75 (by decide) rfl (by omega) (by decide) rfl dX6_priceAsked_59 (n := 60) rfl ?_
            refine v_iload_4 ok dX6_priceAsked_60 (n := 62) rfl ?_
            refine v_iload_5 ok dX6_priceAsked_62 (n := 64) rfl ?_
            refine v_bipush ok (by decide) dX6_priceAsked_64 (n := 66) rfl ?_
            refine v_icmp_ne ok dX6_priceAsked_66 (tgt := 75) (by decide) (n := 69) rfl (by omega) (by omega) (fun c66_1 => ?_) (fun c66_1 => ?_)
            · have c66_1 := c66_1
              refine v_iload_5 ok dX6_priceAsked_75 (n := 77) rfl ?_
              refine v_i2l ok (by omega) dX6_priceAsked_77 (n := 78) rfl ?_
              refine v_bipush ok (by decide) dX6_priceAsked_78 (n := 80) rfl ?_
              refine v_lshl ok dX6_priceAsked_80 (n := 81) rfl ?_
              rw [zshlJ_n (by omega) (by omega) (by show x * 268435456 ≤ _; omega)]
              refine v_iload_3 ok dX6_priceAsked_81 (n := 82) rfl ?_
              refine v_i2l ok (by omega) dX6_priceAsked_82 (n := 83) rfl ?_
              refine v_iload_4 ok dX6_priceAsked_83 (n := 85) rfl ?_
              refine v_callSI ok (mi := mi_X6_shiftOf) mc_X6_shiftOf cs_X6_43 (by decide) ⟨Nat.zero_le _, Nat.zero_le _⟩ dX6_priceAsked_85 (n := 88) rfl rfl rfl (Nat.le_of_ble_eq_true rfl) (t_shiftOf) (fun x9 N9 g9 => ?_)
              obtain ⟨g9, rfl⟩ := g9
              subst N9
              refine v_lshl ok dX6_priceAsked_88 (n := 89) rfl ?_
              rw [zshlJ_n (by omega) (by omega) (by omega)]
              refine v_ladd ok dX6_priceAsked_89 (n := 90) rfl ?_
              first
              | (refine v_last ok (lf_pro (by omega)) rfl (by omega) (by decide) dX6_priceAsked_90 (n := 91) rfl ?_
                 rw [zprm_s (by omega) (by omega) (show (-1 : Int) = zkey (zak M d) s b by unfold zkey; rw [if_pos (by omega)])]
                 refine v_iinc_4 ok (by decide) rfl dX6_priceAsked_91 (n := 94) rfl ?_
                 refine v_goto ok dX6_priceAsked_94 (n := 13) (by decide) ?_
                 exact ih _ (by omega) _ _ rfl (by omega))
              | (refine v_last ok (lf_pro (by omega)) rfl (by omega) (by decide) dX6_priceAsked_90 (n := 91) rfl ?_
                 rw [zprm_s (by omega) (by omega) (show _ = zkey (zak M d) s b by unfold zkey; rw [if_neg (by omega), ← hx]; rfl)]
                 refine v_iinc_4 ok (by decide) rfl dX6_priceAsked_91 (n := 94) rfl ?_
                 refine v_goto ok dX6_priceAsked_94 (n := 13) (by decide) ?_
                 exact ih _ (by omega) _ _ rfl (by omega))
            · have c66_1 := c66_1
              refine v_ldc2 ok (c := -1) kc_X6_41 (by decide) dX6_priceAsked_69 (n := 72) rfl ?_
              refine v_goto ok dX6_priceAsked_72 (n := 90) (by decide) ?_
              first
              | (refine v_last ok (lf_pro (by omega)) rfl (by omega) (by decide) dX6_priceAsked_90 (n := 91) rfl ?_
                 rw [zprm_s (by omega) (by omega) (show (-1 : Int) = zkey (zak M d) s b by unfold zkey; rw [if_pos (by omega)])]
                 refine v_iinc_4 ok (by decide) rfl dX6_priceAsked_91 (n := 94) rfl ?_
                 refine v_goto ok dX6_priceAsked_94 (n := 13) (by decide) ?_
                 exact ih _ (by omega) _ _ rfl (by omega))
              | (refine v_last ok (lf_pro (by omega)) rfl (by omega) (by decide) dX6_priceAsked_90 (n := 91) rfl ?_
                 rw [zprm_s (by omega) (by omega) (show _ = zkey (zak M d) s b by unfold zkey; rw [if_neg (by omega), ← hx]; rfl)]
                 refine v_iinc_4 ok (by decide) rfl dX6_priceAsked_91 (n := 94) rfl ?_
                 refine v_goto ok dX6_priceAsked_94 (n := 13) (by decide) ?_
                 exact ih _ (by omega) _ _ rfl (by omega))
          refine v_aload_1 ok dX6_priceAsked_22 (n := 23) rfl ?_
          refine v_iload_3 ok dX6_priceAsked_23 (n := 24) rfl ?_
          refine v_iload_2 ok dX6_priceAsked_24 (n := 25) rfl ?_
          refine v_callVI ok (mi := mi_X1_isThere) mc_X1_isThere cv_X6_61 ly_1 rfl rfl rfl (by decide) ⟨Nat.zero_le _, Nat.zero_le _⟩ dX6_priceAsked_25 (n := 28) rfl rfl rfl (Nat.le_of_ble_eq_true rfl) ((by have e := t_isThere (G := G) (ad := ad) (M := (zprm M (zkey (zak M d)) (M 1 3) s b)) (s := s) (d := d) (by omega) (by rw [zprm_o (by omega)]; exact hS s (by omega)) hd; rw [zprm_o (by omega)] at e; exact e)) (fun x1 N1 g1 => ?_)
          obtain ⟨g1, w1⟩ := g1
          subst N1
          refine v_if_eq ok dX6_priceAsked_28 (tgt := 50) (by decide) (n := 31) rfl (by omega) (fun c28_2 => ?_) (fun c28_2 => ?_)
          · have c28_2 := c28_2
            refine v_bipush ok (by decide) dX6_priceAsked_50 (n := 52) rfl ?_
            first
            | exact jn _ (by unfold zak; rw [if_pos (by omega)]; exact w2)
            | exact jn _ (by unfold zak; rw [if_neg (by omega)])
          · have c28_2 := c28_2
            refine v_aload_1 ok dX6_priceAsked_31 (n := 32) rfl ?_
            refine v_iload_3 ok dX6_priceAsked_32 (n := 33) rfl ?_
            refine v_iload_4 ok dX6_priceAsked_33 (n := 35) rfl ?_
            refine v_aload_1 ok dX6_priceAsked_35 (n := 36) rfl ?_
            refine v_getR ok fd_X6_65 ly_1 rfl rfl rfl rf_1_0 dX6_priceAsked_36 (n := 39) rfl ?_
            refine v_iload_4 ok dX6_priceAsked_39 (n := 41) rfl ?_
            refine v_aald ok ly_2 (by decide) rfl (by omega) (by decide) rfl dX6_priceAsked_41 (n := 42) rfl ?_
            refine v_iconst ok dX6_priceAsked_42 (n := 43) rfl ?_
            refine v_iald ok (lf_bro (by omega)) rfl (by omega) (by decide) dX6_priceAsked_43 (n := 44) rfl ?_
            try simp (disch := omega) only [zprm_o]
            refine v_callVI ok (mi := mi_X1_leastOut) mc_X1_leastOut cv_X6_69 ly_1 rfl rfl rfl (by decide) ⟨Nat.zero_le _, Nat.zero_le _⟩ dX6_priceAsked_44 (n := 47) rfl rfl rfl (Nat.le_of_ble_eq_true rfl) ((by have e := t_leastOut (G := G) (ad := ad) (M := (zprm M (zkey (zak M d)) (M 1 3) s b)) (s := s) (b := b) (h := M (5 + b) 3) (by omega) (by omega) (hB b (by omega)).2.2.2 (by rw [zprm_o (by omega)]; exact hB b (by omega)) (by rw [zprm_o (by omega)]; exact hS s (by omega)) (by rw [zprm_o (by omega)]; exact h0) (by rw [zprm_o (by omega)]; exact h1); rw [zprm_o (show 5 + b < 78 ∨ 93 < 5 + b by omega), zprm_o (show 12 + s < 78 ∨ 93 < 12 + s by omega), zprm_o (show (4 : Int) < 78 ∨ 93 < (4 : Int) by omega)] at e; exact e)) (fun x2 N2 g2 => ?_)
            obtain ⟨g2, w2⟩ := g2
            subst N2
            refine v_goto ok dX6_priceAsked_47 (n := 52) (by decide) ?_
            first
            | exact jn _ (by unfold zak; rw [if_pos (by omega)]; exact w2)
            | exact jn _ (by unfold zak; rw [if_neg (by omega)])
      refine v_iconst ok dX6_priceAsked_10 (n := 11) rfl ?_
      refine v_istore_4 ok (by decide) rfl dX6_priceAsked_11 (n := 13) rfl ?_
      exact lpi _ 0 a5 rfl (by omega)
  refine v_iconst ok dX6_priceAsked_0 (n := 1) rfl ?_
  refine v_istore_3 ok (by decide) rfl dX6_priceAsked_1 (n := 2) rfl ?_
  have e := lpo _ 0 none none rfl (by omega)
  rw [zprm_0] at e
  exact e

