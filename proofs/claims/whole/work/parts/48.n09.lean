/-! the model: rows of ranks -/
theorem zor_t {s c t : Int} (hs : 0 ≤ s ∧ s < 128) (hc : 0 ≤ c ∧ c < 7) (ht : 0 ≤ t) : zbit (zor s (zp2 c)) t = 1 ↔ zbit s t = 1 ∨ t = c := by
  have h2 := zp2_pos c
  have h3 : zp2 c ≤ 128 := zp2_le (b := 7) (by omega)
  have e3 : (zp2 c).toNat = 2 ^ c.toNat := by rw [zp2_nat]; exact Int.toNat_natCast _
  have e := zor_n (x := s) (y := zp2 c) (by omega) (by omega)
  rw [e, zbit_t (by omega), Int.toNat_natCast, Nat.testBit_or, e3, Nat.testBit_two_pow, Bool.or_eq_true, ← zbit_t hs.1, decide_eq_true_eq]
  constructor
  · rintro (h | h)
    · exact Or.inl h
    · exact Or.inr (by omega)
  · rintro (h | h)
    · exact Or.inl h
    · exact Or.inr (by omega)
/-- each below n is among the first k -/
def zhit (v : Int → Int) (n k : Int) : Prop := ∀ t, 0 ≤ t ∧ t < n → zin v k t
theorem zfull : ∀ s n : Int, 0 ≤ n ∧ n ≤ 7 → 0 ≤ s ∧ s < zp2 n → (s = zp2 n - 1 ↔ ∀ t, 0 ≤ t ∧ t < n → zbit s t = 1) := by
  intro s n hn hs
  have h7 : zp2 n ≤ 128 := zp2_le (b := 7) hn.2
  have k : ∀ x : Fin 128, ∀ q : Fin 8, (x.val : Int) < zp2 (q.val : Int) → ((x.val : Int) = zp2 (q.val : Int) - 1 ↔ ∀ t : Fin 7, t.val < q.val → zbit (x.val : Int) (t.val : Int) = 1) := by decide +kernel
  have e := k ⟨s.toNat, by omega⟩ ⟨n.toNat, by omega⟩
  have e1 : (((⟨s.toNat, by omega⟩ : Fin 128).val : Nat) : Int) = s := by show ((s.toNat : Nat) : Int) = s; omega
  have e2 : (((⟨n.toNat, by omega⟩ : Fin 8).val : Nat) : Int) = n := by show ((n.toNat : Nat) : Int) = n; omega
  rw [e1, e2] at e
  rw [e hs.2]
  constructor
  · intro h t ht
    have := h ⟨t.toNat, by omega⟩ (by show t.toNat < n.toNat; omega)
    rw [show (((⟨t.toNat, by omega⟩ : Fin 7).val : Nat) : Int) = t by show ((t.toNat : Nat) : Int) = t; omega] at this
    exact this
  · intro h t ht
    have ht : t.val < n.toNat := ht
    exact h _ (by omega)
theorem zsee_y {v : Int → Int} {n k s : Int} (hn : 0 ≤ n ∧ n ≤ 7) (hk : 0 ≤ k) (hs : 0 ≤ s ∧ s < zp2 n) (h : zsee v n k s) (hv : 0 ≤ v k ∧ v k < n) : zsee v n (k + 1) (zor s (zp2 (v k))) := by
  have h7 : zp2 n ≤ 128 := zp2_le (b := 7) hn.2
  intro t ht
  rw [zor_t (by omega) (by omega) ht.1, h t ht]
  constructor
  · rintro (⟨j, hj, q⟩ | q)
    · exact ⟨j, by omega, q⟩
    · exact ⟨k, by omega, q.symm⟩
  · rintro ⟨j, hj, q⟩
    by_cases e : j = k
    · subst e
      exact Or.inr q.symm
    · exact Or.inl ⟨j, by omega, q⟩
theorem zsee_n {v : Int → Int} {n k s : Int} (h : zsee v n k s) (hv : ¬ (0 ≤ v k ∧ v k < n)) : zsee v n (k + 1) s := by
  intro t ht
  rw [h t ht]
  constructor
  · rintro ⟨j, hj, q⟩
    exact ⟨j, by omega, q⟩
  · rintro ⟨j, hj, q⟩
    by_cases e : j = k
    · subst e
      omega
    · exact ⟨j, by omega, q⟩
set_option maxHeartbeats 4000000 in
set_option maxRecDepth 100000 in
theorem u_isRow {G : zG} {ad : Int → Nat} {M : zM} {f n : Int} (hn : 0 ≤ n ∧ n ≤ 7) (hf : 0 ≤ f ∧ f + n ≤ 400) (hI : ∀ i, 0 ≤ i ∧ i < 400 → -2147483648 ≤ M 225 i ∧ M 225 i ≤ 2147483647)  : zTI G (zw ad) mi_X8_isRow [zr 200, zi f, zi n] M (fun x M' => M' = M ∧ ((x = 1 ∧ zhit (fun j => M 225 (f + j)) n n) ∨ (x = 0 ∧ ¬ zhit (fun j => M 225 (f + j)) n n))) := by
  refine zTI.ofZ (own := RX8) (ls := [some (zr 200), some (zi f), some (zi n), none, none]) (by decide +kernel) rfl rfl (Nat.le_of_ble_eq_true rfl) (fun γ ok rt => ?_)
  have p7 : zp2 n ≤ 128 := zp2_le (b := 7) hn.2
  have p0 := zp2_pos n
  have lp : ∀ (zn : Nat) (i s : Int), zn = (7 - i).toNat → (0 ≤ i ∧ i ≤ n) → (0 ≤ s ∧ s < zp2 n) → (zsee (fun j => M 225 (f + j)) n i s) → zVV G γ (zw ad) (0, 0) 5 [some (zr 200), some (zi f), some (zi n), some (zi s), some (zi i)] [] M := by
    refine zrec _ (fun zn ih => ?_)
    intro i s hzn hi hs hsee
    refine v_iload_4 ok dX8_isRow_5 (n := 7) rfl ?_
    refine v_iload_2 ok dX8_isRow_7 (n := 8) rfl ?_
    refine v_icmp_ge ok dX8_isRow_8 (tgt := 56) (by decide) (n := 11) rfl (by omega) (by omega) (fun c8_1 => ?_) (fun c8_1 => ?_)
    · have c8_1 := c8_1
      refine v_iload_3 ok dX8_isRow_56 (n := 57) rfl ?_
      refine v_iconst ok dX8_isRow_57 (n := 58) rfl ?_
      refine v_iload_2 ok dX8_isRow_58 (n := 59) rfl ?_
      refine v_ishl ok dX8_isRow_59 (n := 60) rfl ?_
      rw [zshl_1 (by omega)]
      refine v_iconst ok dX8_isRow_60 (n := 61) rfl ?_
      refine v_isub ok dX8_isRow_61 (n := 62) rfl ?_
      refine v_icmp_ne ok dX8_isRow_62 (tgt := 69) (by decide) (n := 65) rfl (by omega) (by omega) (fun c62_2 => ?_) (fun c62_2 => ?_)
      · have c62_2 := c62_2
        refine v_iconst ok dX8_isRow_69 (n := 70) rfl ?_
        refine v_zret rt dX8_isRow_70 (by omega) ?_
        have hie : i = n := by omega
        subst hie
        have hf := zfull s i hn hs
        first
        | exact ⟨rfl, Or.inl ⟨rfl, fun t ht => (hsee t ht).1 (hf.1 (by assumption) t ht)⟩⟩
        | exact ⟨rfl, Or.inr ⟨rfl, fun q => absurd (hf.2 (fun t ht => (hsee t ht).2 (q t ht))) (by assumption)⟩⟩
      · have c62_2 := c62_2
        refine v_iconst ok dX8_isRow_65 (n := 66) rfl ?_
        refine v_goto ok dX8_isRow_66 (n := 70) (by decide) ?_
        refine v_zret rt dX8_isRow_70 (by omega) ?_
        have hie : i = n := by omega
        subst hie
        have hf := zfull s i hn hs
        first
        | exact ⟨rfl, Or.inl ⟨rfl, fun t ht => (hsee t ht).1 (hf.1 (by assumption) t ht)⟩⟩
        | exact ⟨rfl, Or.inr ⟨rfl, fun q => absurd (hf.2 (fun t ht => (hsee t ht).2 (q t ht))) (by assumption)⟩⟩
    · have c8_1 := c8_1
      refine v_iload_3 ok dX8_isRow_11 (n := 12) rfl ?_
      refine v_aload_0 ok dX8_isRow_12 (n := 13) rfl ?_
      refine v_getR ok fd_X8_57 ly_200 rfl rfl rfl rf_200_24 dX8_isRow_13 (n := 16) rfl ?_
      refine v_iload_1 ok dX8_isRow_16 (n := 17) rfl ?_
      refine v_iload_4 ok dX8_isRow_17 (n := 19) rfl ?_
      refine v_iadd ok dX8_isRow_19 (n := 20) rfl ?_
      have hri := hI (f + i) (by omega)
      refine v_iald ok ly_225 rfl (by omega) (by decide) dX8_isRow_20 (n := 21) rfl ?_
      refine v_i2l ok (by omega) dX8_isRow_21 (n := 22) rfl ?_
      refine v_lconst0 ok dX8_isRow_22 (n := 23) rfl ?_
      refine v_iload_2 ok dX8_isRow_23 (n := 24) rfl ?_
      refine v_iconst ok dX8_isRow_24 (n := 25) rfl ?_
      refine v_isub ok dX8_isRow_25 (n := 26) rfl ?_
      refine v_i2l ok (by omega) dX8_isRow_26 (n := 27) rfl ?_
      refine v_callSI ok (mi := mi_X8_in) mc_X8_in cs_X8_85 (by decide) ⟨Nat.zero_le _, Nat.zero_le _⟩ dX8_isRow_27 (n := 30) rfl rfl rfl (Nat.le_of_ble_eq_true rfl) (u_in (by omega) (by omega) (by omega)) (fun x5 M5 h5 => ?_)
      obtain ⟨e5_, h5⟩ := h5
      subst M5
      refine v_if_eq ok dX8_isRow_30 (tgt := 47) (by decide) (n := 33) rfl (by omega) (fun c30_3 => ?_) (fun c30_3 => ?_)
      · have c30_3 := c30_3
        have hsee2 := zsee_n (v := (fun j => M 225 (f + j))) hsee (fun q => by have q : 0 ≤ M 225 (f + i) ∧ M 225 (f + i) < n := q; omega)
        refine v_iconst ok dX8_isRow_47 (n := 48) rfl ?_
        refine v_ior ok dX8_isRow_48 (n := 49) rfl ?_
        refine v_istore_3 ok (by decide) rfl dX8_isRow_49 (n := 50) rfl ?_
        refine v_iinc_4 ok (by decide) rfl dX8_isRow_50 (n := 53) rfl ?_
        refine v_goto ok dX8_isRow_53 (n := 5) (by decide) ?_
        first
        | exact ih _ (by omega) (i + 1) _ rfl (by omega) hs2 hsee2
        | (rw [zor_0 (by omega)]; exact ih _ (by omega) (i + 1) _ rfl (by omega) hs hsee2)
      · have c30_3 := c30_3
        refine v_iconst ok dX8_isRow_33 (n := 34) rfl ?_
        refine v_aload_0 ok dX8_isRow_34 (n := 35) rfl ?_
        refine v_getR ok fd_X8_57 ly_200 rfl rfl rfl rf_200_24 dX8_isRow_35 (n := 38) rfl ?_
        refine v_iload_1 ok dX8_isRow_38 (n := 39) rfl ?_
        refine v_iload_4 ok dX8_isRow_39 (n := 41) rfl ?_
        refine v_iadd ok dX8_isRow_41 (n := 42) rfl ?_
        refine v_iald ok ly_225 rfl (by omega) (by decide) dX8_isRow_42 (n := 43) rfl ?_
        refine v_ishl ok dX8_isRow_43 (n := 44) rfl ?_
        have hv : 0 ≤ M 225 (f + i) ∧ M 225 (f + i) < n := by omega
        rw [zshl_1 (by omega)]
        have hsee2 := zsee_y (v := (fun j => M 225 (f + j))) hn hi.1 hs hsee hv
        have hs2 := zor_l7 (n := n) hn hs hv
        refine v_goto ok dX8_isRow_44 (n := 48) (by decide) ?_
        refine v_ior ok dX8_isRow_48 (n := 49) rfl ?_
        refine v_istore_3 ok (by decide) rfl dX8_isRow_49 (n := 50) rfl ?_
        refine v_iinc_4 ok (by decide) rfl dX8_isRow_50 (n := 53) rfl ?_
        refine v_goto ok dX8_isRow_53 (n := 5) (by decide) ?_
        first
        | exact ih _ (by omega) (i + 1) _ rfl (by omega) hs2 hsee2
        | (rw [zor_0 (by omega)]; exact ih _ (by omega) (i + 1) _ rfl (by omega) hs hsee2)
  refine v_iconst ok dX8_isRow_0 (n := 1) rfl ?_
  refine v_istore_3 ok (by decide) rfl dX8_isRow_1 (n := 2) rfl ?_
  refine v_iconst ok dX8_isRow_2 (n := 3) rfl ?_
  refine v_istore_4 ok (by decide) rfl dX8_isRow_3 (n := 5) rfl ?_
  exact lp _ 0 0 rfl (by omega) (by omega) (fun t ht => ⟨fun q => by
      rw [zbit_low ⟨Int.le_refl 0, zp2_pos t⟩] at q
      exact absurd q (by decide), fun ⟨j, hj, _⟩ => by omega⟩)

