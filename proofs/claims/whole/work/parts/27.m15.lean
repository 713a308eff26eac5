/-! the class: tries -/
theorem zn_orJ (a b : Nat) : lN a ||| lN b = lN (a ||| b) := by
  apply Int64.toBitVec_inj.mp
  show BitVec.ofNat 64 a ||| BitVec.ofNat 64 b = BitVec.ofNat 64 (a ||| b)
  rw [BitVec.ofNat_or]
theorem zn_andJ (a b : Nat) : lN a &&& lN b = lN (a &&& b) := by
  apply Int64.toBitVec_inj.mp
  show BitVec.ofNat 64 a &&& BitVec.ofNat 64 b = BitVec.ofNat 64 (a &&& b)
  rw [BitVec.ofNat_and]
theorem zlN_I (n : Nat) (h : n < 2 ^ 63) : (lN n).toInt = n := zJ_of (zJ_bv n (by omega)) h
theorem zorJ_n {x y : Int} (hx : 0 ≤ x ∧ x < 9223372036854775808) (hy : 0 ≤ y ∧ y < 9223372036854775808) : zorJ x y = ((x.toNat ||| y.toNat : Nat) : Int) := by
  unfold zorJ
  rw [zn_nnJ hx.1, zn_nnJ hy.1, zn_orJ, zlN_I]
  exact Nat.or_lt_two_pow (by omega) (by omega)
theorem zandJ_1 {x : Int} (hx : 0 ≤ x ∧ x < 9223372036854775808) : zandJ x 1 = x % 2 := by
  unfold zandJ
  rw [zn_nnJ hx.1, zn_nnJ (show (0 : Int) ≤ 1 by omega), zn_andJ, show (1 : Int).toNat = 1 from rfl, Nat.and_one_is_mod, zlN_I _ (by omega)]
  omega
theorem zshrJ_n {x k : Int} (hx : 0 ≤ x ∧ x ≤ 9223372036854775807) (hk : 0 ≤ k ∧ k ≤ 62) : zshrJ x k = x / zp2 k := by
  have h2 := Nat.div_le_self x.toNat (2 ^ k.toNat)
  unfold zshrJ
  rw [zn_nnJ hx.1, zn_nn hk.1, zsmJ _ (by omega), zp2_nat, show x / ((2 ^ k.toNat : Nat) : Int) = ((x.toNat / 2 ^ k.toNat : Nat) : Int) by rw [Int.natCast_ediv, show ((x.toNat : Nat) : Int) = x by omega]]
  refine zJ_of ?_ (by omega)
  have e2 : (lN k.toNat).toBitVec.smod 64 = BitVec.ofNat 64 k.toNat := by
    have : ∀ q, q < 64 → (BitVec.ofNat 64 q).smod 64 = BitVec.ofNat 64 q := by decide +kernel
    exact this _ (by omega)
  show ((lN x.toNat).toBitVec.sshiftRight ((lN k.toNat).toBitVec.smod 64).toNat).toNat = _
  have hm : (lN x.toNat).toBitVec.msb = false := by
    rw [BitVec.msb_eq_decide, zJ_bv _ (by omega)]
    exact decide_eq_false (by omega)
  rw [e2, BitVec.sshiftRight_eq_of_msb_false hm, BitVec.toNat_ushiftRight, zJ_bv _ (by omega), BitVec.toNat_ofNat, Nat.mod_eq_of_lt (show k.toNat < 2 ^ 64 by omega), Nat.shiftRight_eq_div_pow]
theorem zandJ_bit {x b : Int} (hx : 0 ≤ x ∧ x ≤ 9223372036854775807) (h : 0 ≤ b ∧ b ≤ 62) : zandJ (zshrJ x b) 1 = zbit x b := by
  have h0 := zp2_pos b
  have h1 : 0 ≤ x / zp2 b := Int.ediv_nonneg hx.1 (by omega)
  have h2 : x / zp2 b ≤ x := Int.ediv_le_self _ hx.1
  rw [zshrJ_n hx h, zandJ_1 (by omega)]
  rfl
theorem zset_ww {M : zM} {r i v w : Int} : zset (zset M r i v) r i w = zset M r i w := by
  funext a b
  unfold zset
  by_cases h : a = r ∧ b = i
  · rw [if_pos h, if_pos h]
  · rw [if_neg h, if_neg h, if_neg h]
theorem zp2_50 {k : Int} (h : k ≤ 50) : 1 * zp2 k ≤ 9223372036854775807 ∧ 0 ≤ zp2 k ∧ zp2 k < 9223372036854775808 := by
  have h1 := zp2_pos k
  have h2 : zp2 k ≤ zp2 50 := zp2_le h
  have e : zp2 50 = 1125899906842624 := by decide
  omega
/-- the sizes of the first n shoes of the side d that are there, as a set -/
def zctn (M : zM) (d : Int) : Nat → Nat
  | 0 => 0
  | n + 1 => if M (12 + n) 0 = d ∧ M (12 + n) 3 = 0 then zctn M d n ||| 2 ^ (M (12 + n) 1 - 20).toNat else zctn M d n
theorem zctn_b {M : zM} {d : Int} (n : Nat) (h : ∀ s : Nat, s < n → 20 ≤ M (12 + s) 1 ∧ M (12 + s) 1 ≤ 70) : zctn M d n < 2 ^ 51 := by
  induction n with
  | zero => exact Nat.pow_pos (by omega)
  | succ n ih =>
    have ih := ih (fun s hs => h s (by omega))
    have hn := h n (by omega)
    unfold zctn
    split
    · refine Nat.or_lt_two_pow ih ?_
      exact Nat.pow_lt_pow_right (by omega) (by omega)
    · exact ih
def zby (c : Int → Int) (T : Int → Int → Int) (f e t : Int) : Int := if c t = 0 then 100 else zmin 100 (1 + zmax (T f t) (T (t + 1) e))
def zbf (c : Int → Int) (T : Int → Int → Int) (f e : Int) : Nat → Int
  | 0 => 100
  | k + 1 => zmin (zbf c T f e k) (zby c T f e (f + k))
/-- the fewest tries of a range, out of those of the narrower ones -/
def zclF (c : Int → Int) (T : Int → Int → Int) (f e : Int) : Int := if e - f < 2 then 0 else zbf c T f e (e - f).toNat
theorem zby_b {c : Int → Int} {T : Int → Int → Int} {f e t : Int} (h1 : 0 ≤ T f t) : 0 ≤ zby c T f e t ∧ zby c T f e t ≤ 100 := by
  unfold zby zmin zmax
  split
  · omega
  · split <;> split <;> omega
theorem zbf_b {c : Int → Int} {T : Int → Int → Int} {f e : Int} (n : Nat) (h1 : ∀ t, f ≤ t ∧ t < f + n → 0 ≤ T f t) : 0 ≤ zbf c T f e n ∧ zbf c T f e n ≤ 100 := by
  induction n with
  | zero => exact ⟨show (0 : Int) ≤ 100 by omega, show (100 : Int) ≤ 100 by omega⟩
  | succ n ih =>
    have ih := ih (fun t ht => h1 t (by omega))
    have := zby_b (c := c) (T := T) (f := f) (e := e) (t := f + n) (h1 _ (by omega))
    show 0 ≤ zmin (zbf c T f e n) (zby c T f e (f + n)) ∧ zmin (zbf c T f e n) (zby c T f e (f + n)) ≤ 100
    unfold zmin
    split <;> omega
theorem zbf_c {c : Int → Int} {T T' : Int → Int → Int} {f e : Int} (h : ∀ g j, f ≤ g ∧ g ≤ j ∧ j ≤ e ∧ j - g < e - f → T' g j = T g j) (n : Nat) (hn : n ≤ e - f) : zbf c T' f e n = zbf c T f e n := by
  induction n with
  | zero => rfl
  | succ n ih =>
    show zmin (zbf c T' f e n) (zby c T' f e (f + n)) = zmin (zbf c T f e n) (zby c T f e (f + n))
    rw [ih (by omega)]
    unfold zby
    rw [h f (f + n) (by omega), h (f + n + 1) e (by omega)]
theorem zcl_c {c : Int → Int} {T T' : Int → Int → Int} {f e : Int} (hfe : f ≤ e) (h : ∀ g j, f ≤ g ∧ g ≤ j ∧ j ≤ e ∧ j - g < e - f → T' g j = T g j) : zclF c T' f e = zclF c T f e := by
  unfold zclF
  rw [zbf_c h _ (by omega)]
/-- a table that is right below a width, and at it below a start -/
def zTab (c : Int → Int) (T : Int → Int → Int) (s e w f : Int) : Prop := ∀ g h, s ≤ g ∧ g ≤ h ∧ h ≤ e ∧ (h - g < w ∨ (h - g = w ∧ g < f)) → T g h = zclF c T g h ∧ 0 ≤ T g h ∧ T g h ≤ 100
def zTT (M : zM) : Int → Int → Int := fun g h => M (96 + g) h
theorem zTab_s {c : Int → Int} {M : zM} {s e w f v : Int} (h : zTab c (zTT M) s e w f) (hw : 0 ≤ w) (hf : s ≤ f ∧ f + w ≤ e) (hv : v = zclF c (zTT M) f (f + w)) (hb : 0 ≤ v ∧ v ≤ 100) : zTab c (zTT (zset M (96 + f) (f + w) v)) s e w (f + 1) := by
  have ho : ∀ g j, ¬ (g = f ∧ j = f + w) → zTT (zset M (96 + f) (f + w) v) g j = zTT M g j := by
    intro g j hgj
    unfold zTT zset
    rw [if_neg (by omega)]
  intro g j hgj
  have hc : zclF c (zTT (zset M (96 + f) (f + w) v)) g j = zclF c (zTT M) g j := zcl_c (by omega) (fun g' j' h' => ho g' j' (by omega))
  rw [hc]
  by_cases hq : g = f ∧ j = f + w
  · obtain ⟨rfl, rfl⟩ := hq
    have : zTT (zset M (96 + g) (g + w) v) g (g + w) = v := by
      unfold zTT zset
      rw [if_pos ⟨rfl, rfl⟩]
    rw [this, ← hv]
    exact ⟨rfl, hb⟩
  · rw [ho g j hq]
    exact h g j (by omega)
theorem zTab_n {c : Int → Int} {M : zM} {s e w f : Int} (h : zTab c (zTT M) s e w f) (hf : e < f + w) : zTab c (zTT M) s e (w + 1) s := fun g j hgj => h g j (by omega)
set_option maxHeartbeats 4000000 in
set_option maxRecDepth 100000 in
theorem t_fewestBy {G : zG} {ad : Int → Nat} {M : zM} {t f e : Int} (ht : 0 ≤ f ∧ f ≤ t ∧ t < e ∧ e ≤ 41) (hW : 0 ≤ M 94 1 ∧ M 94 1 ≤ 2251799813685248) (h1 : 0 ≤ M (96 + f) t ∧ M (96 + f) t ≤ 100) (h2 : 0 ≤ M (96 + (t + 1)) e ∧ M (96 + (t + 1)) e ≤ 100)  : zTI G (zw ad) mi_X5_fewestBy [zr 94, zi t, zi f, zi e] M (fun x M' => M' = M ∧ x = zby (zbit (M 94 1)) (zTT M) f e t) := by
  refine zTI.of (own := RX5) (ls := [some (zr 94), some (zi t), some (zi f), some (zi e)]) (by decide +kernel) rfl rfl (Nat.le_of_ble_eq_true rfl) (fun γ ok rt => ?_)
  refine v_aload_0 ok dX5_fewestBy_0 (n := 1) rfl ?_
  refine v_getJ ok fd_X5_16 ly_94 rfl rfl (jI := 1) rfl dX5_fewestBy_1 (n := 4) rfl ?_
  refine v_iload_1 ok dX5_fewestBy_4 (n := 5) rfl ?_
  refine v_lshr ok dX5_fewestBy_5 (n := 6) rfl ?_
  refine v_lconst1 ok dX5_fewestBy_6 (n := 7) rfl ?_
  refine v_land ok dX5_fewestBy_7 (n := 8) rfl ?_
  rw [zandJ_bit (by omega) (by omega)]
  have bb := zbit_b (M 94 1) t
  refine v_lconst0 ok dX5_fewestBy_8 (n := 9) rfl ?_
  refine v_lcmp ok (by omega) (by omega) dX5_fewestBy_9 (n := 10) rfl ?_
  refine v_if_ne ok dX5_fewestBy_10 (tgt := 16) (by decide) (n := 13) rfl (zcmp_b _ _) (fun c10_1 => ?_) (fun c10_1 => ?_)
  · have c10_1 := zcmp_nz c10_1
    refine v_bipush ok (by decide) dX5_fewestBy_16 (n := 18) rfl ?_
    refine v_iconst ok dX5_fewestBy_18 (n := 19) rfl ?_
    refine v_aload_0 ok dX5_fewestBy_19 (n := 20) rfl ?_
    refine v_getR ok fd_X5_13 ly_94 rfl rfl rfl rf_94_0 dX5_fewestBy_20 (n := 23) rfl ?_
    refine v_iload_2 ok dX5_fewestBy_23 (n := 24) rfl ?_
    refine v_aald ok ly_95 (by decide) rfl (by omega) (by decide) rfl dX5_fewestBy_24 (n := 25) rfl ?_
    refine v_iload_1 ok dX5_fewestBy_25 (n := 26) rfl ?_
    refine v_iald ok (lf_fro (by omega)) rfl (by omega) (by decide) dX5_fewestBy_26 (n := 27) rfl ?_
    refine v_aload_0 ok dX5_fewestBy_27 (n := 28) rfl ?_
    refine v_getR ok fd_X5_13 ly_94 rfl rfl rfl rf_94_0 dX5_fewestBy_28 (n := 31) rfl ?_
    refine v_iload_1 ok dX5_fewestBy_31 (n := 32) rfl ?_
    refine v_iconst ok dX5_fewestBy_32 (n := 33) rfl ?_
    refine v_iadd ok dX5_fewestBy_33 (n := 34) rfl ?_
    refine v_aald ok ly_95 (by decide) rfl (by omega) (by decide) rfl dX5_fewestBy_34 (n := 35) rfl ?_
    refine v_iload_3 ok dX5_fewestBy_35 (n := 36) rfl ?_
    refine v_iald ok (lf_fro (by omega)) rfl (by omega) (by decide) dX5_fewestBy_36 (n := 37) rfl ?_
    refine v_max ok mm_X5_46 ⟨by decide, Nat.le_of_ble_eq_true rfl⟩ ⟨Nat.zero_le _, Nat.zero_le _⟩ (by omega) (by omega) dX5_fewestBy_37 (n := 40) rfl ?_
    have bm : 0 ≤ zmax (M (96 + f) t) (M (96 + (t + 1)) e) ∧ zmax (M (96 + f) t) (M (96 + (t + 1)) e) ≤ 100 := by
      unfold zmax
      split <;> omega
    refine v_iadd ok dX5_fewestBy_40 (n := 41) rfl ?_
    refine v_min ok mm_X5_41 ⟨by decide, Nat.le_of_ble_eq_true rfl⟩ ⟨Nat.zero_le _, Nat.zero_le _⟩ (by omega) (by omega) dX5_fewestBy_41 (n := 44) rfl ?_
    refine v_iret rt dX5_fewestBy_44 ?_
    refine ⟨rfl, ?_⟩
    unfold zby
    rw [if_neg c10_1]
    rfl
  · have c10_1 := zcmp_z c10_1
    refine v_bipush ok (by decide) dX5_fewestBy_13 (n := 15) rfl ?_
    refine v_iret rt dX5_fewestBy_15 ?_
    refine ⟨rfl, ?_⟩
    unfold zby
    rw [if_pos c10_1]

set_option maxHeartbeats 4000000 in
set_option maxRecDepth 100000 in
theorem t_fewestOf {G : zG} {ad : Int → Nat} {M : zM} {f e : Int} (hfe : 0 ≤ f ∧ f ≤ e ∧ e ≤ 41) (hW : 0 ≤ M 94 1 ∧ M 94 1 ≤ 2251799813685248) (hT : ∀ g h, f ≤ g ∧ g ≤ h ∧ h ≤ e ∧ h - g < e - f → 0 ≤ M (96 + g) h ∧ M (96 + g) h ≤ 100)  : zTI G (zw ad) mi_X5_fewestOf [zr 94, zi f, zi e] M (fun x M' => M' = M ∧ x = zbf (zbit (M 94 1)) (zTT M) f e (e - f).toNat) := by
  refine zTI.of (own := RX5) (ls := [some (zr 94), some (zi f), some (zi e), none, none]) (by decide +kernel) rfl rfl (Nat.le_of_ble_eq_true rfl) (fun γ ok rt => ?_)
  have lp : ∀ (zn : Nat) (t : Int), zn = (41 - t).toNat → (f ≤ t ∧ t ≤ e) → zVV G γ (zw ad) (0, 0) 6 [some (zr 94), some (zi f), some (zi e), some (zi (zbf (zbit (M 94 1)) (zTT M) f e (t - f).toNat)), some (zi t)] [] M := by
    refine zrec _ (fun zn ih => ?_)
    intro t hzn ht
    refine v_iload_4 ok dX5_fewestOf_6 (n := 8) rfl ?_
    refine v_iload_2 ok dX5_fewestOf_8 (n := 9) rfl ?_
    refine v_icmp_ge ok dX5_fewestOf_9 (tgt := 31) (by decide) (n := 12) rfl (by omega) (by omega) (fun c9_1 => ?_) (fun c9_1 => ?_)
    · have c9_1 := c9_1
      refine v_iload_3 ok dX5_fewestOf_31 (n := 32) rfl ?_
      refine v_iret rt dX5_fewestOf_32 ?_
      rw [show t = e by omega]
      exact ⟨rfl, rfl⟩
    · have c9_1 := c9_1
      refine v_iload_3 ok dX5_fewestOf_12 (n := 13) rfl ?_
      refine v_aload_0 ok dX5_fewestOf_13 (n := 14) rfl ?_
      refine v_iload_4 ok dX5_fewestOf_14 (n := 16) rfl ?_
      refine v_iload_1 ok dX5_fewestOf_16 (n := 17) rfl ?_
      refine v_iload_2 ok dX5_fewestOf_17 (n := 18) rfl ?_
      refine v_callVI ok (mi := mi_X5_fewestBy) mc_X5_fewestBy cv_X5_37 ly_94 rfl rfl rfl (by decide) ⟨Nat.zero_le _, Nat.zero_le _⟩ dX5_fewestOf_18 (n := 21) rfl rfl rfl (Nat.le_of_ble_eq_true rfl) (t_fewestBy (by omega) hW (hT _ _ (by omega)) (hT _ _ (by omega))) (fun x1 M1 h1 => ?_)
      obtain ⟨h1_, rfl⟩ := h1
      subst M1
      have b1 := zby_b (c := (zbit (M 94 1))) (T := zTT M) (f := f) (e := e) (t := t) (hT f t (by omega)).1
      have b2 := zbf_b (c := (zbit (M 94 1))) (T := zTT M) (f := f) (e := e) (t - f).toNat (fun q hq => (hT f q (by omega)).1)
      refine v_min ok mm_X5_41 ⟨by decide, Nat.le_of_ble_eq_true rfl⟩ ⟨Nat.zero_le _, Nat.zero_le _⟩ (by omega) (by omega) dX5_fewestOf_21 (n := 24) rfl ?_
      refine v_istore_3 ok (by decide) rfl dX5_fewestOf_24 (n := 25) rfl ?_
      refine v_iinc_4 ok (by decide) rfl dX5_fewestOf_25 (n := 28) rfl ?_
      refine v_goto ok dX5_fewestOf_28 (n := 6) (by decide) ?_
      have e1 := ih _ (by omega) (t + 1) rfl (by omega)
      rw [show (t + 1 - f).toNat = (t - f).toNat + 1 by omega] at e1
      unfold zbf at e1
      rw [show f + (((t - f).toNat : Nat) : Int) = t by omega] at e1
      exact e1
  refine v_bipush ok (by decide) dX5_fewestOf_0 (n := 2) rfl ?_
  refine v_istore_3 ok (by decide) rfl dX5_fewestOf_2 (n := 3) rfl ?_
  refine v_iload_1 ok dX5_fewestOf_3 (n := 4) rfl ?_
  refine v_istore_4 ok (by decide) rfl dX5_fewestOf_4 (n := 6) rfl ?_
  have e1 := lp _ f rfl (by omega)
  rw [show (f - f).toNat = 0 by omega] at e1
  exact e1

set_option maxHeartbeats 4000000 in
set_option maxRecDepth 100000 in
theorem t_findFewest {G : zG} {ad : Int → Nat} {M : zM} {d a b : Int} (hd : 0 ≤ d ∧ d ≤ 1) (hab : 20 ≤ a ∧ a ≤ b ∧ b ≤ 60) (hns : 0 ≤ M 1 4 ∧ M 1 4 ≤ 16) (hS : ∀ s, 0 ≤ s ∧ s < M 1 4 → zSR (M (12 + s)))  : zTV G (zw ad) mi_X5_findFewest [zr 94, zr 1, zi d, zi a, zi b] M (fun M' => (∀ r, r < 94 ∨ 137 < r → M' r = M r) ∧ M' 94 1 = ((zctn M d (M 1 4).toNat : Nat) : Int) ∧ zTab (zbit (zctn M d (M 1 4).toNat : Nat)) (zTT M') (a - 20) (b - 19) (b - a + 2) (a - 20)) := by
  refine zTV.of (own := RX5) (ls := [some (zr 94), some (zr 1), some (zi d), some (zi a), some (zi b), none, none, none, none]) (by decide +kernel) rfl rfl (Nat.le_of_ble_eq_true rfl) (fun γ ok rt => ?_)
  have hcB := zctn_b (M := M) (d := d) (M 1 4).toNat (fun q hq => (hS q (by omega)).2.1)
  have lp2 : ∀ (zn : Nat) (w : Int) (l8 : Option zV) (Mx : zM), zn = (43 - w).toNat → (0 ≤ w ∧ w ≤ b - a + 2) → (∀ r, r < 96 ∨ 137 < r → Mx r = (zset M 94 1 ((zctn M d (M 1 4).toNat : Nat) : Int)) r) → (zTab (zbit (zctn M d (M 1 4).toNat : Nat)) (zTT Mx) (a - 20) (b - 19) w (a - 20)) → zVV G γ (zw ad) (0, 0) 74 [some (zr 94), some (zr 1), some (zi d), some (zi a), some (zi b), some (zi (a - 20)), some (zi (b - 20 + 1)), some (zi w), l8] [] Mx := by
    refine zrec _ (fun zn ih => ?_)
    intro w l8 Mx hzn hw fx tb
    refine v_iload_7 ok dX5_findFewest_74 (n := 76) rfl ?_
    refine v_iload_6 ok dX5_findFewest_76 (n := 78) rfl ?_
    refine v_iload_5 ok dX5_findFewest_78 (n := 80) rfl ?_
    refine v_isub ok dX5_findFewest_80 (n := 81) rfl ?_
    refine v_icmp_gt ok dX5_findFewest_81 (tgt := 144) (by decide) (n := 84) rfl (by omega) (by omega) (fun c81_1 => ?_) (fun c81_1 => ?_)
    · have c81_1 := c81_1
      refine v_vret rt dX5_findFewest_144 ?_
      have hwe : w = b - a + 2 := by omega
      subst hwe
      have w94 : Mx 94 1 = ((zctn M d (M 1 4).toNat : Nat) : Int) := by rw [fx 94 (by omega), zset_eq ⟨rfl, rfl⟩]
      exact ⟨fun r hr => by rw [fx r (by omega), zset_o (by omega)], w94, tb⟩
    · have c81_1 := c81_1
      have ih2 := ih
      have k138 : ∀ (f : Int) (Mx : zM), (∀ r, r < 96 ∨ 137 < r → Mx r = (zset M 94 1 ((zctn M d (M 1 4).toNat : Nat) : Int)) r) → zTab (zbit (zctn M d (M 1 4).toNat : Nat)) (zTT Mx) (a - 20) (b - 19) (w + 1) (a - 20) → zVV G γ (zw ad) (0, 0) 138 [some (zr 94), some (zr 1), some (zi d), some (zi a), some (zi b), some (zi (a - 20)), some (zi (b - 20 + 1)), some (zi w), some (zi f)] [] Mx := by
        intro f Mx fx tb
        refine v_iinc_7 ok (by decide) rfl dX5_findFewest_138 (n := 141) rfl ?_
        refine v_goto ok dX5_findFewest_141 (n := 74) (by decide) ?_
        exact ih2 _ (by omega) _ _ _ rfl (by omega) fx tb
      have lp3 : ∀ (zn : Nat) (f : Int) (Mx : zM), zn = (42 - f).toNat → (a - 20 ≤ f ∧ f + w ≤ b - 18) → (∀ r, r < 96 ∨ 137 < r → Mx r = (zset M 94 1 ((zctn M d (M 1 4).toNat : Nat) : Int)) r) → (zTab (zbit (zctn M d (M 1 4).toNat : Nat)) (zTT Mx) (a - 20) (b - 19) w f) → zVV G γ (zw ad) (0, 0) 88 [some (zr 94), some (zr 1), some (zi d), some (zi a), some (zi b), some (zi (a - 20)), some (zi (b - 20 + 1)), some (zi w), some (zi f)] [] Mx := by
        refine zrec _ (fun zn ih => ?_)
        intro f Mx hzn hf fx tb
        refine v_iload_8 ok dX5_findFewest_88 (n := 90) rfl ?_
        refine v_iload_7 ok dX5_findFewest_90 (n := 92) rfl ?_
        refine v_iadd ok dX5_findFewest_92 (n := 93) rfl ?_
        refine v_iload_6 ok dX5_findFewest_93 (n := 95) rfl ?_
        refine v_icmp_gt ok dX5_findFewest_95 (tgt := 138) (by decide) (n := 98) rfl (by omega) (by omega) (fun c95_1 => ?_) (fun c95_1 => ?_)
        · have c95_1 := c95_1
          exact k138 _ _ fx (zTab_n tb (by omega))
        · have c95_1 := c95_1
          refine v_aload_0 ok dX5_findFewest_98 (n := 99) rfl ?_
          refine v_getR ok fd_X5_13 ly_94 rfl rfl rfl rf_94_0 dX5_findFewest_99 (n := 102) rfl ?_
          refine v_iload_8 ok dX5_findFewest_102 (n := 104) rfl ?_
          refine v_aald ok ly_95 (by decide) rfl (by omega) (by decide) rfl dX5_findFewest_104 (n := 105) rfl ?_
          refine v_iload_8 ok dX5_findFewest_105 (n := 107) rfl ?_
          refine v_iload_7 ok dX5_findFewest_107 (n := 109) rfl ?_
          refine v_iadd ok dX5_findFewest_109 (n := 110) rfl ?_
          refine v_iload_7 ok dX5_findFewest_110 (n := 112) rfl ?_
          have w94 : Mx 94 1 = ((zctn M d (M 1 4).toNat : Nat) : Int) := by rw [fx 94 (by omega), zset_eq ⟨rfl, rfl⟩]
          have hT : ∀ g h, f ≤ g ∧ g ≤ h ∧ h ≤ f + w ∧ h - g < f + w - f → 0 ≤ Mx (96 + g) h ∧ Mx (96 + g) h ≤ 100 := fun g h hg => (tb g h (by omega)).2
          have bz := zbf_b (c := (zbit (zctn M d (M 1 4).toNat : Nat))) (T := zTT Mx) (f := f) (e := f + w) (f + w - f).toNat (fun t ht => (hT f t (by omega)).1)
          have jn : ∀ v, v = zclF (zbit (zctn M d (M 1 4).toNat : Nat)) (zTT Mx) f (f + w) → 0 ≤ v ∧ v ≤ 100 → zVV G γ (zw ad) (0, 0) 131 [some (zr 94), some (zr 1), some (zi d), some (zi a), some (zi b), some (zi (a - 20)), some (zi (b - 20 + 1)), some (zi w), some (zi f)] [zi v, zi (f + w), zr (96 + f)] Mx := by
            intro v hv hvb
            refine v_iast ok (lf_fro (by omega)) rfl (by omega) (by decide) dX5_findFewest_131 (n := 132) rfl ?_
            refine v_iinc_8 ok (by decide) rfl dX5_findFewest_132 (n := 135) rfl ?_
            refine v_goto ok dX5_findFewest_135 (n := 88) (by decide) ?_
            exact ih _ (by omega) (f + 1) _ rfl (by omega) (fun r hr => by rw [zset_o (by omega)]; exact fx r hr) (zTab_s tb (by omega) (by omega) hv hvb)
          refine v_iconst ok dX5_findFewest_112 (n := 113) rfl ?_
          refine v_icmp_ge ok dX5_findFewest_113 (tgt := 120) (by decide) (n := 116) rfl (by omega) (by omega) (fun c113_2 => ?_) (fun c113_2 => ?_)
          · have c113_2 := c113_2
            refine v_aload_0 ok dX5_findFewest_120 (n := 121) rfl ?_
            refine v_iload_8 ok dX5_findFewest_121 (n := 123) rfl ?_
            refine v_iload_8 ok dX5_findFewest_123 (n := 125) rfl ?_
            refine v_iload_7 ok dX5_findFewest_125 (n := 127) rfl ?_
            refine v_iadd ok dX5_findFewest_127 (n := 128) rfl ?_
            refine v_callVI ok (mi := mi_X5_fewestOf) mc_X5_fewestOf cv_X5_33 ly_94 rfl rfl rfl (by decide) ⟨Nat.zero_le _, Nat.zero_le _⟩ dX5_findFewest_128 (n := 131) rfl rfl rfl (Nat.le_of_ble_eq_true rfl) ((by have e := t_fewestOf (G := G) (ad := ad) (M := Mx) (f := f) (e := f + w) (by omega) (by omega) hT; rw [w94] at e; exact e)) (fun x1 N1 g1 => ?_)
            obtain ⟨g1, w1⟩ := g1
            subst N1
            first
            | exact jn _ (by unfold zclF; rw [if_pos (by omega)]) (by omega)
            | exact jn _ (by unfold zclF; rw [if_neg (by omega)]; exact w1) (by rw [w1]; exact bz)
          · have c113_2 := c113_2
            refine v_iconst ok dX5_findFewest_116 (n := 117) rfl ?_
            refine v_goto ok dX5_findFewest_117 (n := 131) (by decide) ?_
            first
            | exact jn _ (by unfold zclF; rw [if_pos (by omega)]) (by omega)
            | exact jn _ (by unfold zclF; rw [if_neg (by omega)]; exact w1) (by rw [w1]; exact bz)
      refine v_iload_5 ok dX5_findFewest_84 (n := 86) rfl ?_
      refine v_istore_8 ok (by decide) rfl dX5_findFewest_86 (n := 88) rfl ?_
      exact lp3 _ _ _ rfl (by omega) fx tb
  have k56 : zVV G γ (zw ad) (0, 0) 56 [some (zr 94), some (zr 1), some (zi d), some (zi a), some (zi b), some (zi (M 1 4)), none, none, none] [] (zset M 94 1 ((zctn M d (M 1 4).toNat : Nat) : Int)) := by
    refine v_iload_3 ok dX5_findFewest_56 (n := 57) rfl ?_
    refine v_bipush ok (by decide) dX5_findFewest_57 (n := 59) rfl ?_
    refine v_isub ok dX5_findFewest_59 (n := 60) rfl ?_
    refine v_istore_5 ok (by decide) rfl dX5_findFewest_60 (n := 62) rfl ?_
    refine v_iload_4 ok dX5_findFewest_62 (n := 64) rfl ?_
    refine v_bipush ok (by decide) dX5_findFewest_64 (n := 66) rfl ?_
    refine v_isub ok dX5_findFewest_66 (n := 67) rfl ?_
    refine v_iconst ok dX5_findFewest_67 (n := 68) rfl ?_
    refine v_iadd ok dX5_findFewest_68 (n := 69) rfl ?_
    refine v_istore_6 ok (by decide) rfl dX5_findFewest_69 (n := 71) rfl ?_
    refine v_iconst ok dX5_findFewest_71 (n := 72) rfl ?_
    refine v_istore_7 ok (by decide) rfl dX5_findFewest_72 (n := 74) rfl ?_
    exact lp2 _ 0 _ _ rfl (by omega) (fun r hr => rfl) (fun g h hg => by omega)
  have lp1 : ∀ (zn : Nat) (s : Int), zn = (16 - s).toNat → (0 ≤ s ∧ s ≤ M 1 4) → zVV G γ (zw ad) (0, 0) 8 [some (zr 94), some (zr 1), some (zi d), some (zi a), some (zi b), some (zi s), none, none, none] [] (zset M 94 1 ((zctn M d s.toNat : Nat) : Int)) := by
    refine zrec _ (fun zn ih => ?_)
    intro s hzn hs
    refine v_iload_5 ok dX5_findFewest_8 (n := 10) rfl ?_
    refine v_aload_1 ok dX5_findFewest_10 (n := 11) rfl ?_
    refine v_getI ok fd_X5_20 ly_1 rfl rfl (jI := 4) rfl dX5_findFewest_11 (n := 14) rfl ?_
    try simp (disch := omega) only [zset_eq, zset_o]
    refine v_icmp_ge ok dX5_findFewest_14 (tgt := 56) (by decide) (n := 17) rfl (by omega) (by omega) (fun c14_1 => ?_) (fun c14_1 => ?_)
    · have c14_1 := c14_1
      rw [show s = M 1 4 by omega]
      exact k56
    · have c14_1 := c14_1
      refine v_aload_1 ok dX5_findFewest_17 (n := 18) rfl ?_
      refine v_iload_5 ok dX5_findFewest_18 (n := 20) rfl ?_
      refine v_iload_2 ok dX5_findFewest_20 (n := 21) rfl ?_
      refine v_callVI ok (mi := mi_X1_isThere) mc_X1_isThere cv_X5_26 ly_1 rfl rfl rfl (by decide) ⟨Nat.zero_le _, Nat.zero_le _⟩ dX5_findFewest_21 (n := 24) rfl rfl rfl (Nat.le_of_ble_eq_true rfl) ((by have e := t_isThere (G := G) (ad := ad) (M := zset M 94 1 ((zctn M d s.toNat : Nat) : Int)) (s := s) (d := d) (by omega) (by rw [zset_o (by omega)]; exact hS s (by omega)) hd; rw [zset_o (by omega)] at e; exact e)) (fun x1 N1 g1 => ?_)
      obtain ⟨g1, w1⟩ := g1
      subst N1
      have hss := (hS s (by omega)).2.1
      have hcb := zctn_b (M := M) (d := d) s.toNat (fun q hq => (hS q (by omega)).2.1)
      have hcs : zctn M d (s + 1).toNat = if M (12 + s) 0 = d ∧ M (12 + s) 3 = 0 then zctn M d s.toNat ||| 2 ^ (M (12 + s) 1 - 20).toNat else zctn M d s.toNat := by
        rw [show (s + 1).toNat = s.toNat + 1 by omega]
        conv => lhs; unfold zctn
        rw [show ((s.toNat : Nat) : Int) = s by omega]
      refine v_if_eq ok dX5_findFewest_24 (tgt := 50) (by decide) (n := 27) rfl (by omega) (fun c24_2 => ?_) (fun c24_2 => ?_)
      · have c24_2 := c24_2
        rw [if_neg (by omega)] at hcs
        rw [← hcs]
        refine v_iinc_5 ok (by decide) rfl dX5_findFewest_50 (n := 53) rfl ?_
        refine v_goto ok dX5_findFewest_53 (n := 8) (by decide) ?_
        exact ih _ (by omega) _ rfl (by omega)
      · have c24_2 := c24_2
        refine v_aload_0 ok dX5_findFewest_27 (n := 28) rfl ?_
        refine v_dup ok rfl dX5_findFewest_28 (n := 29) rfl ?_
        refine v_getJ ok fd_X5_16 ly_94 rfl rfl (jI := 1) rfl dX5_findFewest_29 (n := 32) rfl ?_
        try simp (disch := omega) only [zset_eq, zset_o]
        refine v_lconst1 ok dX5_findFewest_32 (n := 33) rfl ?_
        refine v_aload_1 ok dX5_findFewest_33 (n := 34) rfl ?_
        refine v_getR ok fd_X5_30 ly_1 rfl rfl rfl rf_1_1 dX5_findFewest_34 (n := 37) rfl ?_
        refine v_iload_5 ok dX5_findFewest_37 (n := 39) rfl ?_
        refine v_aald ok ly_3 (by decide) rfl (by omega) (by decide) rfl dX5_findFewest_39 (n := 40) rfl ?_
        refine v_iconst ok dX5_findFewest_40 (n := 41) rfl ?_
        refine v_iald ok (lf_sro (by omega)) rfl (by omega) (by decide) dX5_findFewest_41 (n := 42) rfl ?_
        try simp (disch := omega) only [zset_eq, zset_o]
        refine v_bipush ok (by decide) dX5_findFewest_42 (n := 44) rfl ?_
        refine v_isub ok dX5_findFewest_44 (n := 45) rfl ?_
        refine v_lshl ok dX5_findFewest_45 (n := 46) rfl ?_
        rw [zshlJ_n (by omega) (by omega) (zp2_50 (by omega)).1, Int.one_mul]
        refine v_lor ok dX5_findFewest_46 (n := 47) rfl ?_
        rw [zorJ_n (by omega) (zp2_50 (k := M (12 + s) 1 - 20) (by omega)).2, show (zp2 (M (12 + s) 1 - 20)).toNat = 2 ^ (M (12 + s) 1 - 20).toNat by rw [zp2_nat]; exact Int.toNat_natCast _, Int.toNat_natCast]
        refine v_putJ ok fw_X5_16 ly_94 rfl rfl (jI := 1) rfl dX5_findFewest_47 (n := 50) rfl ?_
        rw [if_pos (by omega)] at hcs
        rw [← hcs, zset_ww]
        refine v_iinc_5 ok (by decide) rfl dX5_findFewest_50 (n := 53) rfl ?_
        refine v_goto ok dX5_findFewest_53 (n := 8) (by decide) ?_
        exact ih _ (by omega) _ rfl (by omega)
  refine v_aload_0 ok dX5_findFewest_0 (n := 1) rfl ?_
  refine v_lconst0 ok dX5_findFewest_1 (n := 2) rfl ?_
  refine v_putJ ok fw_X5_16 ly_94 rfl rfl (jI := 1) rfl dX5_findFewest_2 (n := 5) rfl ?_
  refine v_iconst ok dX5_findFewest_5 (n := 6) rfl ?_
  refine v_istore_5 ok (by decide) rfl dX5_findFewest_6 (n := 8) rfl ?_
  exact lp1 _ 0 rfl (by omega)

