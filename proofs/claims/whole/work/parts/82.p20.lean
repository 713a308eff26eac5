/-! the law from its entry to its loop -/
def zal0 : Int → Bool := fun r => decide (300 ≤ r)
def zrs0 : Int → Nat → Bool := fun _ _ => false
def zM0 : zM := fun _ _ => 0
theorem zwf0 : zwf zal0 zrs0 := fun r k h => by cases h
theorem zal0_f {r : Int} (h : r < 300) : zal0 r = false := decide_eq_false (by omega)
theorem zz_0 {a n : Int} : zz zM0 a n := fun _ _ _ => rfl
def zalF : Int → Bool := (zadr (zadr (zadr (zadr (zadr (zadr (zadr (zadr (zadr zal0 0 1) 1 184) 200 1) 201 2) 205 2) 210 2) 213 6) 220 1) 223 10)
def zrsF : Int → Nat → Bool := (zrsa (zrsa (zrsa (zrsa (zrsa (zrsa (zrsa (zrsa (zrsa (zrsa (zrsa (zrsa (zrsa (zrsa (zrsa (zrsa (zrsa (zrsa (zrsa (zrsa (zrsa (zrsa (zrsa (zrsa (zrsa (zrsa (zrsa (zrsa (zrsa (zrsa (zrsa (zrsa (zrsa (zrsa (zrsa (zrsa (zrsa (zrsa (zrsa (zrsa (zrsa (zrsa (zrsa (zrsa (zrsa (zrsa (zrsa (zrsa (zrsa (zrsa (zrsa (zrsa (zrsa (zrsa (zrsa (zrsa (zrsa (zrsa (zrsa (zrsa (zrsa (zrsa (zrsa (zrsa (zrsa (zrsa (zrsa (zrsa zrs0 2 0 7) 1 0 1) 3 0 16) 1 1 1) 1 2 1) 0 0 1) 29 0 7) 28 0 1) 30 0 16) 28 1 1) 28 2 1) 0 1 1) 55 0 1) 57 0 16) 55 1 1) 0 3 1) 75 0 16) 74 0 1) 74 1 1) 74 2 1) 0 4 1) 95 0 42) 94 0 1) 0 5 1) 138 0 1) 138 1 1) 138 2 1) 0 6 1) 143 0 14) 142 1 1) 144 0 14) 142 2 1) 142 3 1) 142 4 1) 142 5 1) 0 7 1) 0 8 1) 177 0 1) 176 0 1) 178 0 1) 176 1 1) 179 0 1) 176 2 1) 180 0 1) 176 3 1) 200 0 1) 200 1 1) 200 4 1) 200 5 1) 200 9 1) 200 10 1) 200 12 1) 200 13 1) 200 14 1) 200 15 1) 200 16 1) 200 17 1) 200 19 1) 200 22 1) 200 23 1) 200 24 1) 200 25 1) 200 26 1) 200 27 1) 200 28 1) 200 29 1) 200 30 1) 200 31 1)
def zMF : zM := (zset (zset (zset (zset (zset (zset (zset (zset (zset (zset zM0 4 0 2) 4 1 3) 31 0 2) 31 1 3) 223 0 (-1)) 223 1 (-1)) 223 2 (-1)) 223 3 (-1)) 205 0 2) 205 1 3)
theorem arrV_c {c : ClassId} {n : Nat} {f g : Nat → Value} (h : ∀ j, j < n → f j = g j) : arrV c n f = arrV c n g := by
  unfold arrV
  rw [show (fun j : Fin n => f j) = (fun j : Fin n => g j) from funext fun j => h j j.2]
set_option maxRecDepth 100000 in
theorem zlay_b {r : Int} (h : (zlay r).1 ≤ 6) : 0 ≤ r ∧ r < 233 := by
  by_cases a : r < 0
  · exfalso
    have e : zlay r = (9, 0, 0) := by
      unfold zlay zlay0
      rw [if_pos (by omega)]
      repeat rw [if_neg (by omega)]
    rw [e] at h
    exact absurd h (by decide)
  · by_cases b : r < 233
    · omega
    · exfalso
      have e : zlay r = (9, 0, 0) := by
        unfold zlay zlay6
        repeat rw [if_neg (by omega)]
      rw [e] at h
      exact absurd h (by decide)
set_option maxRecDepth 100000 in
theorem zalF_t : ∀ k : Nat, k < 233 → (zlay (k : Int)).1 ≤ 6 → zalF (k : Int) = true := by decide +kernel
def zplc (l : Nat × Nat × Int) : Nat := if l.1 = 6 then znf l.2.1 else if 3 ≤ l.1 ∧ l.1 ≤ 5 then l.2.1 else 0
def zrff (l : Nat × Nat × Int) (j : Nat) : Bool := if l.1 = 6 then decide (zft l.2.1 j = 2) else true
set_option maxRecDepth 100000 in
theorem zrsF_t : ∀ k : Nat, k < 233 → ∀ j : Nat, j < zplc (zlay (k : Int)) → zrff (zlay (k : Int)) j = true → zrsF (k : Int) j = true := by decide +kernel
theorem zft_b (c : Nat) : ∀ j, zft c j ≤ 2 := by
  intro j
  unfold zft
  repeat' split
  all_goals first | omega | skip
  all_goals (rw [List.getD_eq_getElem?_getD]; cases h : (_ : List Nat)[j]? with
    | none => decide
    | some y => have := List.mem_of_getElem? h; revert this; simp; omega)
theorem zHo_fin {G : zG} {ad : Int → Nat} {M : zM} {H : Heap} (h : zHo G (ad, zalF, zrsF) M H) : zHo G (zw ad) M H := by
  obtain ⟨a1, a2, a3, a4, a5⟩ := h
  have lv : ∀ r, (zlay r).1 ≤ 6 → zalF r = true := fun r h6 => by
    have b := zlay_b h6
    obtain ⟨k, hk, rfl⟩ : ∃ k : Nat, k < 233 ∧ r = (k : Int) := ⟨r.toNat, by omega, by omega⟩
    exact zalF_t k hk h6
  have rl : ∀ r (j : Nat), (zlay r).1 ≤ 6 → j < zplc (zlay r) → zrff (zlay r) j = true → zrsF r j = true := fun r j h6 hj hr => by
    have b := zlay_b h6
    obtain ⟨k, hk, rfl⟩ : ∃ k : Nat, k < 233 ∧ r = (k : Int) := ⟨r.toNat, by omega, by omega⟩
    exact zrsF_t k hk j hj hr
  refine ⟨a1, a2, fun r hr => ?_, fun r r' hr hr' e => a4 r r' ⟨lv r hr.2, hr.2⟩ ⟨lv r' hr'.2, hr'.2⟩ e, a5⟩
  have h3 := a3 r ⟨lv r hr.2, hr.2⟩
  refine ⟨h3.1, ?_⟩
  have e : va_at (zGD G) zcl (ad r, zce G (ad, zalF, zrsF) M r) H := h3.2
  show va_at (zGD G) zcl (ad r, zce G (zw ad) M r) H
  have h7 := hr.2
  by_cases h6 : (zlay r).1 = 6
  · have e2 : zce G (zw ad) M r = zce G (ad, zalF, zrsF) M r := by
      unfold zce
      rw [if_pos h6, if_pos h6]
      refine congrArg Sum.inr (congrArg (Prod.mk _) (List.map_congr_left fun j hj => ?_))
      have hj := List.mem_range.mp hj
      unfold zfv
      by_cases t0 : zft (zlay r).2.1 j = 0
      · rw [if_pos t0, if_pos t0]
      · by_cases t1 : zft (zlay r).2.1 j = 1
        · rw [if_neg t0, if_neg t0, if_pos t1, if_pos t1]
        · have t2 : zft (zlay r).2.1 j = 2 := by
            have := zft_b (zlay r).2.1 j
            omega
          rw [if_neg t0, if_neg t0, if_neg t1, if_neg t1]
          have hp : j < zplc (zlay r) := by
            unfold zplc
            rw [if_pos h6]
            exact hj
          have hq : zrff (zlay r) j = true := by
            unfold zrff
            rw [if_pos h6]
            exact decide_eq_true t2
          have hx := rl r j h7 hp hq
          show (if true = true then _ else _) = (if zrsF r j = true then _ else _)
          rw [if_pos rfl, if_pos hx]
    rw [e2]
    exact e
  · unfold zce at e ⊢
    rw [if_neg h6] at e ⊢
    have e : H[ad r]? = some (vp_cell (zGc G (zlay r).1) ((zlay r).2.1, zct (ad, zalF, zrsF) M r (zlay r).1 (zlay r).2.2)) := e
    show H[ad r]? = some (vp_cell (zGc G (zlay r).1) ((zlay r).2.1, zct (zw ad) M r (zlay r).1 (zlay r).2.2))
    rw [e]
    refine congrArg some ?_
    unfold zct
    by_cases t1 : (zlay r).1 ≤ 1
    · rw [if_pos t1, if_pos t1]
    · rw [if_neg t1, if_neg t1]
      by_cases t2 : (zlay r).1 = 2
      · rw [if_pos t2, if_pos t2]
      · rw [if_neg t2, if_neg t2, vp_cell_q, vp_cell_q]
        refine arrV_c fun j hj => congrArg va_rf ?_
        have hp : j < zplc (zlay r) := by
          unfold zplc
          rw [if_neg h6, if_pos (by omega)]
          exact hj
        have hq : zrff (zlay r) j = true := by
          unfold zrff
          rw [if_neg h6]
        have hx := rl r j h7 hp hq
        show (if zrsF r j = true then _ else _) = (if true = true then _ else _)
        rw [if_pos rfl, if_pos hx]
theorem zMF_0 {r : Int} (h : r ≠ 4 ∧ r ≠ 31 ∧ r ≠ 223 ∧ r ≠ 205) (j : Int) : zMF r j = 0 := by
  unfold zMF
  rw [zset_o h.2.2.2, zset_o h.2.2.2, zset_o h.2.2.1, zset_o h.2.2.1, zset_o h.2.2.1, zset_o h.2.2.1, zset_o h.2.1, zset_o h.2.1, zset_o h.1, zset_o h.1]
  rfl
theorem zMF_223 {j : Int} (h : 0 ≤ j ∧ j < 4) : zMF 223 j = -1 := by
  obtain rfl | rfl | rfl | rfl : j = 0 ∨ j = 1 ∨ j = 2 ∨ j = 3 := by omega
  all_goals rfl
theorem zRel_0 : zRel zMF := by
  have z : ∀ r j : Int, r ≠ 4 → r ≠ 31 → r ≠ 223 → r ≠ 205 → zMF r j = 0 := fun r j a b c d => zMF_0 ⟨a, b, c, d⟩ j
  have z200 : ∀ j, zMF 200 j = 0 := fun j => z 200 j (by decide) (by decide) (by decide) (by decide)
  have z1 : ∀ j, zMF 1 j = 0 := fun j => z 1 j (by decide) (by decide) (by decide) (by decide)
  have z0 : ∀ j, zMF 0 j = 0 := fun j => z 0 j (by decide) (by decide) (by decide) (by decide)
  have z28 : ∀ j, zMF 28 j = 0 := fun j => z 28 j (by decide) (by decide) (by decide) (by decide)
  have z206 : ∀ j, zMF 206 j = 0 := fun j => z 206 j (by decide) (by decide) (by decide) (by decide)
  have a0 : zMF 4 0 = 2 := rfl
  have a1 : zMF 4 1 = 3 := rfl
  have b0 : zMF 205 0 = 2 := rfl
  have b1 : zMF 205 1 = 3 := rfl
  refine ⟨⟨by rw [z1, z200], by rw [z200]; decide, fun b hb => by rw [z200] at hb; omega⟩, ⟨by rw [z1, z200], by rw [z200]; decide, fun b hb => by rw [z200] at hb; omega⟩, ⟨⟨by rw [a0, b0], by rw [a1, b1]⟩, by rw [b0]; decide, by rw [b1]; decide⟩, ⟨by rw [z 55 2 (by decide) (by decide) (by decide) (by decide), z200], by rw [z200]; decide, funext fun j => by rw [z206, z 56 j (by decide) (by decide) (by decide) (by decide)], fun i hi => by rw [z200] at hi; omega, fun i hi => by rw [z206]; decide⟩, fun j hj => ?_, ⟨Or.inl (z0 2), by rw [z200, z0], ⟨by rw [z28]; decide, by rw [z28]; decide⟩, fun q => by rw [z0] at q; exact absurd q (by decide)⟩⟩
  have y : ∀ k, zMF (177 + j) k = 0 := fun k => z _ k (by omega) (by omega) (by omega) (by omega)
  refine ⟨Or.inl (y 1), by rw [y]; decide, by rw [y]; decide, ?_, ?_, fun i hi => ⟨?_, ?_⟩⟩
  · rw [y, if_neg (by decide)]
    exact zMF_223 hj
  · rw [y]
    exact z 224 j (by decide) (by decide) (by decide) (by decide)
  · rw [z 225 _ (by decide) (by decide) (by decide) (by decide)]
    exact z _ i (by omega) (by omega) (by omega) (by omega)
  · rw [z 225 _ (by decide) (by decide) (by decide) (by decide)]
    decide
set_option maxHeartbeats 4000000 in
set_option maxRecDepth 100000 in
theorem l_front {G : zG} {γ : zF} {ad : Int → Nat} (ok : zOK G γ RL cL_law 4 7 151) (hs : zsc G) (ov : zOv (zFs γ)) (hc : (zFR γ).cells = 600000) (hss : (zFR γ).slots = 7302250) (rt : zRL G γ (209, 71878)) : zVV G γ (ad, zal0, zrs0) (0, 0) 0 [some (zr 306), none, none, none] [] zM0 := by
  refine v_newO (k := (0, 0)) ok (R := 0) zwf0 (c := 7) rfl ly_0 rfl tyX7 tyX7_ok hdf_7 inz_7 (zt 14 (by decide +kernel) (by decide +kernel)) (zt 15 (by decide +kernel) (by decide +kernel)) (zt 1 (by decide +kernel) (by decide +kernel)) (zal0_f (r := 0) (by decide)) (by decide) zz_0 ⟨by rw [hc]; exact Nat.le_of_ble_eq_true rfl, by rw [hss]; exact Nat.le_of_ble_eq_true rfl⟩ rfl (zlr (show zal0 306 = true from rfl) (zlnn (zlnn (zlnn rfl)))) dL_law_0 (n := 3) rfl (fun q1 => ?_)
  have wf1 := zwf_a (a := 0) (n := 1) zwf0
  generalize zadf ad 0 1 q1 = ad1
  refine v_dup ok rfl dL_law_3 (n := 4) rfl ?_
  refine v_callN (k := (1, 9)) ok ov (mi := mi_X7_init) mc_X7_init rfl ci_L_9 (by decide) ⟨by rw [hc]; exact Nat.le_of_ble_eq_true rfl, by rw [hss]; exact Nat.le_of_ble_eq_true rfl⟩ dL_law_4 (n := 7) rfl (by decide) (zsr (zadr_i (by decide)) rfl) (zlr (zadr_m rfl) (zlnn (zlnn (zlnn rfl)))) (k_X7_0 wf1 (zadr_i (by decide)) (fun r hr => ((zadr_f (a := 0) (n := 1) (r := r) (by omega)).trans (zal0_f (by omega)))) zz_0) (fun ad2 g2a g2b => ?_)
  have wf2 := wk_X7_0 wf1 (zadr_i (by decide))
  refine v_astore_1 ok (Nat.le_of_ble_eq_true rfl) rfl dL_law_7 (n := 8) rfl ?_
  refine v_newO (k := (185, 3282)) ok (R := 200) wf2 (c := 8) rfl ly_200 rfl tyX8 tyX8_ok hdf_8 inz_8 (zt 607 (by decide +kernel) (by decide +kernel)) (zt 608 (by decide +kernel) (by decide +kernel)) (zt 9 (by decide +kernel) (by decide +kernel)) ((zadr_f (a := 1) (n := 184) (r := 200) (by decide)).trans ((zadr_f (a := 0) (n := 1) (r := 200) (by decide)).trans (zal0_f (r := 200) (by decide)))) (by decide) (zz_s (zz_s (zz_s (zz_s zz_0 (by decide)) (by decide)) (by decide)) (by decide)) ⟨by rw [hc]; exact Nat.le_of_ble_eq_true rfl, by rw [hss]; exact Nat.le_of_ble_eq_true rfl⟩ rfl (zlr (zadr_m (zadr_m rfl)) (zlr (zadr_m (zadr_i (by decide))) (zlnn (zlnn rfl)))) dL_law_8 (n := 11) rfl (fun q3 => ?_)
  have wf3 := zwf_a (a := 200) (n := 1) wf2
  generalize zadf ad2 200 1 q3 = ad3
  refine v_dup ok rfl dL_law_11 (n := 12) rfl ?_
  refine v_callN (k := (186, 3314)) ok ov (mi := mi_X8_init) mc_X8_init rfl ci_L_12 (by decide) ⟨by rw [hc]; exact Nat.le_of_ble_eq_true rfl, by rw [hss]; exact Nat.le_of_ble_eq_true rfl⟩ dL_law_12 (n := 15) rfl (by decide) (zsr (zadr_i (by decide)) rfl) (zlr (zadr_m (zadr_m (zadr_m rfl))) (zlr (zadr_m (zadr_m (zadr_i (by decide)))) (zlnn (zlnn rfl)))) (k_X8_200 wf3 (zadr_i (by decide)) (fun r hr => ((zadr_f (a := 200) (n := 1) (r := r) (by omega)).trans ((zadr_f (a := 1) (n := 184) (r := r) (by omega)).trans ((zadr_f (a := 0) (n := 1) (r := r) (by omega)).trans (zal0_f (by omega)))))) (zz_s (zz_s (zz_s (zz_s zz_0 (by decide)) (by decide)) (by decide)) (by decide))) (fun ad4 g4a g4b => ?_)
  refine v_astore_2 ok (Nat.le_of_ble_eq_true rfl) rfl dL_law_15 (n := 16) rfl ?_
  refine v_iconst ok dL_law_16 (n := 17) rfl ?_
  refine v_istore_3 ok (Nat.le_of_ble_eq_true rfl) rfl dL_law_17 (n := 18) rfl ?_
  have hfin := l_loop (k := (209, 71878)) (ad := ad4) ok hs ⟨by rw [hc]; exact Nat.le_of_ble_eq_true rfl, by rw [hss]; exact Nat.le_of_ble_eq_true rfl⟩ rt _ 0 zMF rfl (by decide) zRel_0
  intro H locs cls h1 h2 h3
  exact hfin H locs cls (zHo_fin h1) h2 h3
