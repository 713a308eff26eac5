/-! the class: ranks are read -/
/-- the first k of a row are below n, each once -/
def zdis (v : Int → Int) (n k : Int) : Prop := (∀ i, 0 ≤ i ∧ i < k → 0 ≤ v i ∧ v i < n) ∧ ∀ i j, 0 ≤ i ∧ i < j ∧ j < k → v i ≠ v j
def zin (v : Int → Int) (k t : Int) : Prop := ∃ j, (0 ≤ j ∧ j < k) ∧ v j = t
/-- no more than m places for k -/
theorem zpig (m : Nat) : ∀ (k : Nat) (v : Int → Int), zdis v m k → k ≤ m := by
  induction m with
  | zero =>
    intro k v h
    by_cases hk : k = 0
    · omega
    · have := h.1 0 (by omega)
      omega
  | succ m ih =>
    intro k v h
    by_cases hk : k = 0
    · omega
    obtain ⟨k, rfl⟩ : ∃ q, k = q + 1 := ⟨k - 1, by omega⟩
    by_cases hi : ∃ i, (0 ≤ i ∧ i < (k : Int) + 1) ∧ v i = m
    · obtain ⟨i0, hi0, e0⟩ := hi
      have := ih k (fun i => if i = i0 then v k else v i) ⟨fun i hi => by
        show 0 ≤ (if i = i0 then v k else v i) ∧ (if i = i0 then v k else v i) < (m : Int)
        split
        · have h1 := h.1 k (by omega)
          have h2 := h.2 i0 k (by omega)
          omega
        · have h1 := h.1 i (by omega)
          have h2 : v i ≠ v i0 := by
            by_cases hlt : i < i0
            · exact h.2 i i0 (by omega)
            · exact fun q => h.2 i0 i (by omega) q.symm
          omega, fun i j hij => by
        show (if i = i0 then v k else v i) ≠ (if j = i0 then v k else v j)
        split <;> split
        · omega
        · exact fun q => h.2 j k (by omega) q.symm
        · exact h.2 i k (by omega)
        · exact h.2 i j (by omega)⟩
      omega
    · have := ih (k + 1) v ⟨fun i hi' => by
        have h1 := h.1 i (by omega)
        have h2 : v i ≠ m := fun q => hi ⟨i, by omega, q⟩
        omega, fun i j hij => h.2 i j (by omega)⟩
      omega
/-- a row of n below n has each of them -/
theorem zdis_in {v : Int → Int} {n : Int} (hn : 0 ≤ n) (h : zdis v n n) {t : Int} (ht : 0 ≤ t ∧ t < n) : zin v n t := by
  refine Classical.byContradiction (fun hc => ?_)
  have := zpig (n - 1).toNat n.toNat (fun i => if t < v i then v i - 1 else v i) ⟨fun i hi => by
    have h1 := h.1 i (by omega)
    have h2 : v i ≠ t := fun q => hc ⟨i, by omega, q⟩
    show 0 ≤ (if t < v i then v i - 1 else v i) ∧ (if t < v i then v i - 1 else v i) < (((n - 1).toNat : Nat) : Int)
    split <;> omega, fun i j hij => by
    have h1 := h.2 i j (by omega)
    have h2 : v i ≠ t := fun q => hc ⟨i, by omega, q⟩
    have h3 : v j ≠ t := fun q => hc ⟨j, by omega, q⟩
    show (if t < v i then v i - 1 else v i) ≠ (if t < v j then v j - 1 else v j)
    split <;> split <;> omega⟩
  omega
theorem zor_l7 {h t n : Int} (hn : 0 ≤ n ∧ n ≤ 7) (hh : 0 ≤ h ∧ h < zp2 n) (ht : 0 ≤ t ∧ t < n) : 0 ≤ zor h (zp2 t) ∧ zor h (zp2 t) < zp2 n := by
  have h6 : zp2 n ≤ 128 := zp2_le (b := 7) hn.2
  have h1 := zp2_pos t
  have h2 : zp2 t ≤ 128 := zp2_le (b := 7) (by omega)
  have e2 := zor_n (x := h) (y := zp2 t) (by omega) (by omega)
  have e3 : (zp2 t).toNat = 2 ^ t.toNat := by rw [zp2_nat]; exact Int.toNat_natCast _
  have e4 : zp2 n = ((2 ^ n.toNat : Nat) : Int) := zp2_nat n
  have hlt : h.toNat ||| (zp2 t).toNat < 2 ^ n.toNat := Nat.or_lt_two_pow (by omega) (by rw [e3]; exact Nat.pow_lt_pow_right (by omega) (by omega))
  omega
def zsee (v : Int → Int) (n k s : Int) : Prop := ∀ t, 0 ≤ t ∧ t < n → (zbit s t = 1 ↔ zin v k t)
theorem zsee_s {v : Int → Int} {n k s : Int} (hn : 0 ≤ n ∧ n ≤ 7) (hk : 0 ≤ k) (hs : 0 ≤ s ∧ s < zp2 n) (h : zsee v n k s) (hv : 0 ≤ v k ∧ v k < n) (hb : zbit s (v k) = 0) : zsee v n (k + 1) (zor s (zp2 (v k))) := by
  have h7 : zp2 n ≤ 128 := zp2_le (b := 7) hn.2
  rw [zor_in (by omega) (by omega) hb]
  intro t ht
  by_cases e : t = v k
  · subst e
    exact ⟨fun _ => ⟨k, by omega, rfl⟩, fun _ => zbit_s hs.1 hb⟩
  · rw [zbit_o hs.1 hv.1 ht.1 (fun q => e q.symm) hb, h t ht]
    constructor
    · rintro ⟨j, hj, q⟩
      exact ⟨j, by omega, q⟩
    · rintro ⟨j, hj, q⟩
      by_cases ej : j = k
      · subst ej
        exact absurd q.symm e
      · exact ⟨j, by omega, q⟩
theorem zdis_s {v : Int → Int} {n k s : Int} (h : zdis v n k) (hs : zsee v n k s) (hv : 0 ≤ v k ∧ v k < n) (hb : zbit s (v k) = 0) : zdis v n (k + 1) := by
  refine ⟨fun i hi => ?_, fun i j hij => ?_⟩
  · by_cases e : i = k
    · subst e
      exact hv
    · exact h.1 i (by omega)
  · by_cases e : j = k
    · subst e
      intro q
      have := (hs (v j) hv).2 ⟨i, by omega, q⟩
      omega
    · exact h.2 i j (by omega)
theorem zdis_n1 {v : Int → Int} {n k : Int} (hk : 0 ≤ k ∧ k < n) (hv : ¬ (0 ≤ v k ∧ v k < n)) : ¬ zdis v n n := fun h => hv (h.1 k hk)
theorem zdis_n2 {v : Int → Int} {n k s : Int} (hk : 0 ≤ k ∧ k < n) (hs : zsee v n k s) (hv : 0 ≤ v k ∧ v k < n) (hb : zbit s (v k) = 1) : ¬ zdis v n n := fun h => by
  obtain ⟨j, hj, q⟩ := (hs (v k) hv).1 hb
  exact h.2 j k (by omega) q
/-- what a row that was read leaves -/
def zrd (M : zM) (a b : Int) (v : Int → Int) (k : Int) : Prop := ∀ i, 0 ≤ i ∧ i < k → M a i = v i ∧ M b (v i) = i
theorem zrd_s {M : zM} {a b : Int} {v : Int → Int} {n k : Int} (hab : a ≠ b) (hk : 0 ≤ k) (hd : zdis v n (k + 1)) (h : zrd M a b v k) : zrd (zset (zset M a k (v k)) b (v k) k) a b v (k + 1) := by
  intro i hi
  by_cases e : i = k
  · subst e
    exact ⟨by rw [zset_o hab, zset_s], by rw [zset_s]⟩
  · have h1 := h i (by omega)
    have h2 := hd.2 i k (by omega)
    exact ⟨by rw [zset_o hab, zset_n e]; exact h1.1, by rw [zset_n h2, zset_o (fun q => hab q.symm)]; exact h1.2⟩
set_option maxHeartbeats 4000000 in
set_option maxRecDepth 100000 in
theorem t_readRow {G : zG} {ad : Int → Nat} {M : zM} {it f a b n : Int} (hn : 0 ≤ n ∧ n ≤ 7) (hm : M 142 0 = n) (hit : zlay it = (0, 100, 0)) (hla : zlay a = (0, 7, 0)) (hlb : zlay b = (0, 7, 0)) (hab : a ≠ b) (ha : a ≠ 142 ∧ b ≠ 142 ∧ a ≠ it ∧ b ≠ it) (hf : 0 ≤ f ∧ f + n ≤ 100) (hI : ∀ i, 0 ≤ i ∧ i < 100 → -2147483648 ≤ M it i ∧ M it i ≤ 2147483647)  : zTI G (zw ad) mi_X2_readRow [zr 142, zr it, zi f, zr a, zr b] M (fun x M' => (∀ r, r ≠ a → r ≠ b → M' r = M r) ∧ ((x = 1 ∧ zdis (fun j => M it (f + j)) n n ∧ zrd M' a b (fun j => M it (f + j)) n) ∨ (x = 0 ∧ ¬ zdis (fun j => M it (f + j)) n n))) := by
  refine zTI.ofZ (own := RX2) (ls := [some (zr 142), some (zr it), some (zi f), some (zr a), some (zr b), none, none, none]) (by decide +kernel) rfl rfl (Nat.le_of_ble_eq_true rfl) (fun γ ok rt => ?_)
  have p7 : zp2 n ≤ 128 := zp2_le (b := 7) hn.2
  have lp : ∀ (zn : Nat) (i s : Int) (l7 : Option zV) (Mx : zM), zn = (7 - i).toNat → (0 ≤ i ∧ i ≤ n) → (0 ≤ s ∧ s < zp2 n) → (∀ r, r ≠ a → r ≠ b → Mx r = M r) → (zsee (fun j => M it (f + j)) n i s) → (zdis (fun j => M it (f + j)) n i) → (zrd Mx a b (fun j => M it (f + j)) i) → zVV G γ (zw ad) (0, 0) 6 [some (zr 142), some (zr it), some (zi f), some (zr a), some (zr b), some (zi s), some (zi i), l7] [] Mx := by
    refine zrec _ (fun zn ih => ?_)
    intro i s l7 Mx hzn hi hs fx hsee hd hr
    refine v_iload_6 ok dX2_readRow_6 (n := 8) rfl ?_
    refine v_aload_0 ok dX2_readRow_8 (n := 9) rfl ?_
    have f142 : Mx 142 0 = n := by rw [fx 142 (by omega) (by omega)]; exact hm
    refine v_getI ok fd_X2_9 ly_142 rfl rfl (jI := 0) rfl dX2_readRow_9 (n := 12) rfl ?_
    rw [f142]
    refine v_icmp_ge ok dX2_readRow_12 (tgt := 79) (by decide) (n := 15) rfl (by omega) (by omega) (fun c12_1 => ?_) (fun c12_1 => ?_)
    · have c12_1 := c12_1
      refine v_iconst ok dX2_readRow_79 (n := 80) rfl ?_
      refine v_zret rt dX2_readRow_80 (by omega) ?_
      have hie : i = n := by omega
      subst hie
      exact ⟨fx, Or.inl ⟨rfl, hd, hr⟩⟩
    · have c12_1 := c12_1
      refine v_aload_1 ok dX2_readRow_15 (n := 16) rfl ?_
      refine v_iload_2 ok dX2_readRow_16 (n := 17) rfl ?_
      refine v_iload_6 ok dX2_readRow_17 (n := 19) rfl ?_
      refine v_iadd ok dX2_readRow_19 (n := 20) rfl ?_
      have fit : Mx it = M it := fx it (by omega) (by omega)
      have hri := hI (f + i) (by omega)
      refine v_iald ok hit rfl (by omega) (by decide) dX2_readRow_20 (n := 21) rfl ?_
      rw [fit]
      refine v_istore_7 ok (by decide) rfl dX2_readRow_21 (n := 23) rfl ?_
      refine v_iload_7 ok dX2_readRow_23 (n := 25) rfl ?_
      refine v_iconst ok dX2_readRow_25 (n := 26) rfl ?_
      refine v_aload_0 ok dX2_readRow_26 (n := 27) rfl ?_
      refine v_getI ok fd_X2_9 ly_142 rfl rfl (jI := 0) rfl dX2_readRow_27 (n := 30) rfl ?_
      rw [f142]
      refine v_iconst ok dX2_readRow_30 (n := 31) rfl ?_
      refine v_isub ok dX2_readRow_31 (n := 32) rfl ?_
      refine v_callSI ok (mi := mi_X7_isFrom) mc_X7_isFrom cs_X2_37 (by decide) ⟨Nat.zero_le _, Nat.zero_le _⟩ dX2_readRow_32 (n := 35) rfl rfl rfl (Nat.le_of_ble_eq_true rfl) (t_isFrom hri (by omega) (by omega)) (fun x5 M5 h5 => ?_)
      obtain ⟨e5_, h5⟩ := h5
      subst M5
      refine v_if_eq ok dX2_readRow_35 (tgt := 49) (by decide) (n := 38) rfl (by omega) (fun c35_2 => ?_) (fun c35_2 => ?_)
      · have c35_2 := c35_2
        refine v_iconst ok dX2_readRow_49 (n := 50) rfl ?_
        refine v_zret rt dX2_readRow_50 (by omega) ?_
        first
        | exact ⟨fx, Or.inr ⟨rfl, zdis_n1 (k := i) (by omega) (fun q => by have q : 0 ≤ M it (f + i) ∧ M it (f + i) < n := q; omega)⟩⟩
        | exact ⟨fx, Or.inr ⟨rfl, zdis_n2 (k := i) (by omega) hsee (show 0 ≤ M it (f + i) ∧ M it (f + i) < n by omega) (by assumption)⟩⟩
      · have c35_2 := c35_2
        refine v_iload_5 ok dX2_readRow_38 (n := 40) rfl ?_
        refine v_iload_7 ok dX2_readRow_40 (n := 42) rfl ?_
        refine v_ishr ok dX2_readRow_42 (n := 43) rfl ?_
        refine v_iconst ok dX2_readRow_43 (n := 44) rfl ?_
        refine v_iand ok dX2_readRow_44 (n := 45) rfl ?_
        rw [zand_bit (by omega) (by omega)]
        have zbb := zbit_b s (M it (f + i))
        refine v_iconst ok dX2_readRow_45 (n := 46) rfl ?_
        refine v_icmp_ne ok dX2_readRow_46 (tgt := 51) (by decide) (n := 49) rfl (by omega) (by omega) (fun c46_3 => ?_) (fun c46_3 => ?_)
        · have c46_3 := c46_3
          refine v_iload_5 ok dX2_readRow_51 (n := 53) rfl ?_
          refine v_iconst ok dX2_readRow_53 (n := 54) rfl ?_
          refine v_iload_7 ok dX2_readRow_54 (n := 56) rfl ?_
          refine v_ishl ok dX2_readRow_56 (n := 57) rfl ?_
          rw [zshl_1 (by omega)]
          refine v_ior ok dX2_readRow_57 (n := 58) rfl ?_
          have b0 : zbit s (M it (f + i)) = 0 := by omega
          have hv : 0 ≤ M it (f + i) ∧ M it (f + i) < n := by omega
          have hsee2 := zsee_s (v := (fun j => M it (f + j))) hn hi.1 hs hsee hv b0
          have hd2 := zdis_s (v := (fun j => M it (f + j))) hd hsee hv b0
          have hs2 := zor_l7 (n := n) hn hs hv
          refine v_istore_5 ok (by decide) rfl dX2_readRow_58 (n := 60) rfl ?_
          refine v_aload_3 ok dX2_readRow_60 (n := 61) rfl ?_
          refine v_iload_6 ok dX2_readRow_61 (n := 63) rfl ?_
          refine v_iload_7 ok dX2_readRow_63 (n := 65) rfl ?_
          refine v_iast ok hla rfl (by omega) (by decide) dX2_readRow_65 (n := 66) rfl ?_
          refine v_aload_4 ok dX2_readRow_66 (n := 68) rfl ?_
          refine v_iload_7 ok dX2_readRow_68 (n := 70) rfl ?_
          refine v_iload_6 ok dX2_readRow_70 (n := 72) rfl ?_
          refine v_iast ok hlb rfl (by omega) (by decide) dX2_readRow_72 (n := 73) rfl ?_
          have hr2 := zrd_s (v := (fun j => M it (f + j))) hab hi.1 hd2 hr
          refine v_iinc_6 ok (by decide) rfl dX2_readRow_73 (n := 76) rfl ?_
          refine v_goto ok dX2_readRow_76 (n := 6) (by decide) ?_
          exact ih _ (by omega) (i + 1) _ _ _ rfl (by omega) hs2 (fun r h1 h2 => by rw [zset_o h2, zset_o h1]; exact fx r h1 h2) hsee2 hd2 hr2
        · have c46_3 := c46_3
          refine v_iconst ok dX2_readRow_49 (n := 50) rfl ?_
          refine v_zret rt dX2_readRow_50 (by omega) ?_
          first
          | exact ⟨fx, Or.inr ⟨rfl, zdis_n1 (k := i) (by omega) (fun q => by have q : 0 ≤ M it (f + i) ∧ M it (f + i) < n := q; omega)⟩⟩
          | exact ⟨fx, Or.inr ⟨rfl, zdis_n2 (k := i) (by omega) hsee (show 0 ≤ M it (f + i) ∧ M it (f + i) < n by omega) (by assumption)⟩⟩
  refine v_iconst ok dX2_readRow_0 (n := 1) rfl ?_
  refine v_istore_5 ok (by decide) rfl dX2_readRow_1 (n := 3) rfl ?_
  refine v_iconst ok dX2_readRow_3 (n := 4) rfl ?_
  refine v_istore_6 ok (by decide) rfl dX2_readRow_4 (n := 6) rfl ?_
  exact lp _ 0 0 _ _ rfl (by omega) ⟨Int.le_refl 0, zp2_pos n⟩ (fun r _ _ => rfl) (fun t ht => ⟨fun q => by
      rw [zbit_low ⟨Int.le_refl 0, zp2_pos t⟩] at q
      exact absurd q (by decide), fun ⟨j, hj, _⟩ => by omega⟩) ⟨fun i hi => by omega, fun i j hij => by omega⟩ (fun i hi => by omega)

/-- ranks as told: rows of n, each a row of all -/
def zrk (v : Int → Int) (f n : Int) : Prop := ∀ q, 0 ≤ q ∧ q < 2 * n → zdis (fun j => v (f + q * n + j)) n n
set_option maxHeartbeats 4000000 in
set_option maxRecDepth 100000 in
theorem t_read {G : zG} {ad : Int → Nat} {M : zM} {it f n : Int} (hn : 2 ≤ n ∧ n ≤ 7) (hit : zlay it = (0, 100, 0)) (hq : 181 ≤ it ∧ it ≤ 184) (hf : 0 ≤ f ∧ f + 2 * n * n ≤ 100) (hI : ∀ i, 0 ≤ i ∧ i < 100 → -2147483648 ≤ M it i ∧ M it i ≤ 2147483647)  : zTI G (zw ad) mi_X2_read [zr 142, zr it, zi f, zi n] M (fun x M' => (∀ q, q < 142 ∨ 175 < q → M' q = M q) ∧ M' 142 0 = n ∧ ((x = 1 ∧ ∀ q, 0 ≤ q ∧ q < 2 * n → zdis (fun j => M it (f + q * n + j)) n n ∧ zrd M' (148 + q) (162 + q) (fun j => M it (f + q * n + j)) n) ∨ (x = 0 ∧ ¬ zrk (M it) f n))) := by
  refine zTI.ofZ (own := RX2) (ls := [some (zr 142), some (zr it), some (zi f), some (zi n), none]) (by decide +kernel) rfl rfl (Nat.le_of_ble_eq_true rfl) (fun γ ok rt => ?_)
  have lp : ∀ (zn : Nat) (r : Int) (Mx : zM), zn = (14 - r).toNat → (0 ≤ r ∧ r ≤ 2 * n) → (∀ q, q < 142 ∨ 175 < q → Mx q = M q) → (Mx 142 0 = n) → (∀ q, 0 ≤ q ∧ q < r → zdis (fun j => M it (f + q * n + j)) n n ∧ zrd Mx (148 + q) (162 + q) (fun j => M it (f + q * n + j)) n) → zVV G γ (zw ad) (0, 0) 8 [some (zr 142), some (zr it), some (zi f), some (zi n), some (zi r)] [] Mx := by
    refine zrec _ (fun zn ih => ?_)
    intro r Mx hzn hr fx fn hd
    refine v_iload_4 ok dX2_read_8 (n := 10) rfl ?_
    refine v_iconst ok dX2_read_10 (n := 11) rfl ?_
    refine v_aload_0 ok dX2_read_11 (n := 12) rfl ?_
    refine v_getI ok fd_X2_9 ly_142 rfl rfl (jI := 0) rfl dX2_read_12 (n := 15) rfl ?_
    rw [fn]
    refine v_imul ok dX2_read_15 (n := 16) rfl ?_
    refine v_icmp_ge ok dX2_read_16 (tgt := 58) (by decide) (n := 19) rfl (by omega) (by omega) (fun c16_1 => ?_) (fun c16_1 => ?_)
    · have c16_1 := c16_1
      refine v_iconst ok dX2_read_58 (n := 59) rfl ?_
      refine v_zret rt dX2_read_59 (by omega) ?_
      have hre : r = 2 * n := by omega
      subst hre
      exact ⟨fx, fn, Or.inl ⟨rfl, hd⟩⟩
    · have c16_1 := c16_1
      refine v_aload_0 ok dX2_read_19 (n := 20) rfl ?_
      refine v_aload_1 ok dX2_read_20 (n := 21) rfl ?_
      refine v_iload_2 ok dX2_read_21 (n := 22) rfl ?_
      refine v_iload_4 ok dX2_read_22 (n := 24) rfl ?_
      refine v_aload_0 ok dX2_read_24 (n := 25) rfl ?_
      refine v_getI ok fd_X2_9 ly_142 rfl rfl (jI := 0) rfl dX2_read_25 (n := 28) rfl ?_
      rw [fn]
      have hmu := Int.mul_le_mul_of_nonneg_right (show r + 1 ≤ 2 * n by omega) (show 0 ≤ n by omega)
      have hmv := Int.mul_nonneg hr.1 (show 0 ≤ n by omega)
      rw [Int.add_mul, Int.one_mul] at hmu
      refine v_imul ok dX2_read_28 (n := 29) rfl ?_
      refine v_iadd ok dX2_read_29 (n := 30) rfl ?_
      refine v_aload_0 ok dX2_read_30 (n := 31) rfl ?_
      refine v_getR ok fd_X2_17 ly_142 rfl rfl rfl rf_142_1 dX2_read_31 (n := 34) rfl ?_
      refine v_iload_4 ok dX2_read_34 (n := 36) rfl ?_
      refine v_aald ok ly_143 (by decide) rfl (by omega) (by decide) rfl dX2_read_36 (n := 37) rfl ?_
      refine v_aload_0 ok dX2_read_37 (n := 38) rfl ?_
      refine v_getR ok fd_X2_20 ly_142 rfl rfl rfl rf_142_2 dX2_read_38 (n := 41) rfl ?_
      refine v_iload_4 ok dX2_read_41 (n := 43) rfl ?_
      refine v_aald ok ly_144 (by decide) rfl (by omega) (by decide) rfl dX2_read_43 (n := 44) rfl ?_
      have e44 := t_readRow (G := G) (ad := ad) (M := Mx) (it := it) (f := f + r * n) (a := 148 + r) (b := 162 + r) (n := n) (by omega) fn hit (lf_lik (by omega)) (lf_pla (by omega)) (by omega) (by omega) (by omega) (by rw [fx it (by omega)]; exact hI)
      rw [fx it (by omega)] at e44
      refine v_callVI ok (mi := mi_X2_readRow) mc_X2_readRow cv_X2_33 ly_142 rfl rfl rfl (by decide) ⟨Nat.zero_le _, Nat.zero_le _⟩ dX2_read_44 (n := 47) rfl rfl rfl (Nat.le_of_ble_eq_true rfl) (e44) (fun x1 M1 g1 => ?_)
      obtain ⟨f1, g1⟩ := g1
      have fx1 : ∀ q, q < 142 ∨ 175 < q → M1 q = M q := fun q hq => by rw [f1 q (by omega) (by omega), fx q hq]
      have fn1 : M1 142 0 = n := by rw [f1 142 (by omega) (by omega)]; exact fn
      refine v_if_ne ok dX2_read_47 (tgt := 52) (by decide) (n := 50) rfl (by omega) (fun c47_2 => ?_) (fun c47_2 => ?_)
      · have c47_2 := c47_2
        rcases g1 with ⟨_, g2, g3⟩ | ⟨e1, _⟩
        rotate_left
        · exact absurd e1 c47_2
        refine v_iinc_4 ok (by decide) rfl dX2_read_52 (n := 55) rfl ?_
        refine v_goto ok dX2_read_55 (n := 8) (by decide) ?_
        exact ih _ (by omega) (r + 1) M1 rfl (by omega) fx1 fn1 (fun q hq => by
          by_cases e : q = r
          · subst e; exact ⟨g2, g3⟩
          · have h1 := hd q (by omega)
            refine ⟨h1.1, fun i hi => ?_⟩
            have h2 := h1.2 i hi
            rw [f1 (148 + q) (by omega) (by omega), f1 (162 + q) (by omega) (by omega)]
            exact h2)
      · have c47_2 := c47_2
        rcases g1 with ⟨e1, _⟩ | ⟨_, g2⟩
        · exfalso; omega
        refine v_iconst ok dX2_read_50 (n := 51) rfl ?_
        refine v_zret rt dX2_read_51 (by omega) ?_
        exact ⟨fx1, fn1, Or.inr ⟨rfl, fun hh => g2 (hh r (by omega))⟩⟩
  refine v_aload_0 ok dX2_read_0 (n := 1) rfl ?_
  refine v_iload_3 ok dX2_read_1 (n := 2) rfl ?_
  refine v_putI ok fw_X2_9 ly_142 rfl rfl (jI := 0) rfl dX2_read_2 (n := 5) rfl ?_
  refine v_iconst ok dX2_read_5 (n := 6) rfl ?_
  refine v_istore_4 ok (by decide) rfl dX2_read_6 (n := 8) rfl ?_
  exact lp _ 0 _ rfl (by omega) (fun q hq => zset_o (by omega)) (zset_s) (fun q hq => by omega)

set_option maxHeartbeats 4000000 in
set_option maxRecDepth 100000 in
theorem t_readPairs {G : zG} {ad : Int → Nat} {M : zM} {it n : Int} (hn : 2 ≤ n ∧ n ≤ 7) (hm : M 142 0 = n) (hit : zlay it = (0, 100, 0)) (hq : 181 ≤ it ∧ it ≤ 184) (hI : ∀ i, 0 ≤ i ∧ i < 100 → -2147483648 ≤ M it i ∧ M it i ≤ 2147483647)  : zTI G (zw ad) mi_X2_readPairs [zr 142, zr it] M (fun x M' => (∀ r, r ≠ 145 → r ≠ 146 → M' r = M r) ∧ ((x = 1 ∧ zdis (M it) n n ∧ zrd M' 145 146 (M it) n) ∨ (x = 0 ∧ ¬ zdis (M it) n n))) := by
  refine zTI.ofZ (own := RX2) (ls := [some (zr 142), some (zr it)]) (by decide +kernel) rfl rfl (Nat.le_of_ble_eq_true rfl) (fun γ ok rt => ?_)
  refine v_aload_0 ok dX2_readPairs_0 (n := 1) rfl ?_
  refine v_aload_1 ok dX2_readPairs_1 (n := 2) rfl ?_
  refine v_iconst ok dX2_readPairs_2 (n := 3) rfl ?_
  refine v_aload_0 ok dX2_readPairs_3 (n := 4) rfl ?_
  refine v_getR ok fd_X2_23 ly_142 rfl rfl rfl rf_142_3 dX2_readPairs_4 (n := 7) rfl ?_
  refine v_aload_0 ok dX2_readPairs_7 (n := 8) rfl ?_
  refine v_getR ok fd_X2_27 ly_142 rfl rfl rfl rf_142_4 dX2_readPairs_8 (n := 11) rfl ?_
  have e11 := t_readRow (G := G) (ad := ad) (M := M) (it := it) (f := 0) (a := 145) (b := 146) (n := n) (by omega) hm hit ly_145 ly_146 (by omega) (by omega) (by omega) hI
  simp only [Int.zero_add] at e11
  refine v_callVI ok (mi := mi_X2_readRow) mc_X2_readRow cv_X2_33 ly_142 rfl rfl rfl (by decide) ⟨Nat.zero_le _, Nat.zero_le _⟩ dX2_readPairs_11 (n := 14) rfl rfl rfl (Nat.le_of_ble_eq_true rfl) (e11) (fun x1 M1 g1 => ?_)
  refine v_zret rt dX2_readPairs_14 (by omega) ?_
  exact g1

