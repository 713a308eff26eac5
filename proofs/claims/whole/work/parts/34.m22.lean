/-! the class: firm -/
/-- whose groom, whose bride, how many were asked -/
abbrev zGS := (Int → Int) × (Int → Int) × (Int → Int)
def zup (f : Int → Int) (i v : Int) : Int → Int := fun j => if j = i then v else f j
theorem zup_s (f : Int → Int) (i v : Int) : zup f i v i = v := if_pos rfl
theorem zup_o {f : Int → Int} {i v j : Int} (h : j ≠ i) : zup f i v j = f j := if_neg h
def zgp (M : zM) (s : zGS) : zM := fun r => if r = 145 then s.1 else if r = 146 then s.2.1 else if r = 147 then s.2.2 else M r
theorem zgp_o {M : zM} {s : zGS} {r : Int} (h : r < 145 ∨ 147 < r) : zgp M s r = M r := by
  unfold zgp
  rw [if_neg (by omega), if_neg (by omega), if_neg (by omega)]
theorem zgp_g {M : zM} {s : zGS} : zgp M s 145 = s.1 := rfl
theorem zgp_w {M : zM} {s : zGS} : zgp M s 146 = s.2.1 := rfl
theorem zgp_a {M : zM} {s : zGS} : zgp M s 147 = s.2.2 := rfl
theorem zgp_sg {M : zM} {s : zGS} {i v : Int} : zset (zgp M s) 145 i v = zgp M (zup s.1 i v, s.2.1, s.2.2) := by
  funext r j
  unfold zset
  by_cases h : r = 145
  · subst h
    show (if (145 : Int) = 145 ∧ j = i then v else s.1 j) = if j = i then v else s.1 j
    by_cases e : j = i
    · rw [if_pos ⟨rfl, e⟩, if_pos e]
    · rw [if_neg (fun q => e q.2), if_neg e]
  · rw [if_neg (fun q => h q.1)]
    show zgp M s r j = zgp M _ r j
    unfold zgp
    rw [if_neg h, if_neg h]
theorem zgp_sw {M : zM} {s : zGS} {i v : Int} : zset (zgp M s) 146 i v = zgp M (s.1, zup s.2.1 i v, s.2.2) := by
  funext r j
  unfold zset
  by_cases h : r = 146
  · subst h
    show (if (146 : Int) = 146 ∧ j = i then v else s.2.1 j) = if j = i then v else s.2.1 j
    by_cases e : j = i
    · rw [if_pos ⟨rfl, e⟩, if_pos e]
    · rw [if_neg (fun q => e q.2), if_neg e]
  · rw [if_neg (fun q => h q.1)]
    show zgp M s r j = zgp M _ r j
    unfold zgp
    by_cases h5 : r = 145
    · rw [if_pos h5, if_pos h5]
    · rw [if_neg h5, if_neg h5, if_neg h, if_neg h]
theorem zgp_sa {M : zM} {s : zGS} {i v : Int} : zset (zgp M s) 147 i v = zgp M (s.1, s.2.1, zup s.2.2 i v) := by
  funext r j
  unfold zset
  by_cases h : r = 147
  · subst h
    show (if (147 : Int) = 147 ∧ j = i then v else s.2.2 j) = if j = i then v else s.2.2 j
    by_cases e : j = i
    · rw [if_pos ⟨rfl, e⟩, if_pos e]
    · rw [if_neg (fun q => e q.2), if_neg e]
  · rw [if_neg (fun q => h q.1)]
    show zgp M s r j = zgp M _ r j
    unfold zgp
    by_cases h5 : r = 145
    · rw [if_pos h5, if_pos h5]
    · rw [if_neg h5, if_neg h5]
      by_cases h6 : r = 146
      · rw [if_pos h6, if_pos h6]
      · rw [if_neg h6, if_neg h6, if_neg h, if_neg h]
/-- a bride asks -/
def zstp (L P : Int → Int → Int) (n b : Int) (s : zGS) : zGS :=
  if 0 ≤ s.2.1 (L b (s.2.2 b)) ∧ ¬ P (n + L b (s.2.2 b)) b < P (n + L b (s.2.2 b)) (s.2.1 (L b (s.2.2 b))) then (s.1, s.2.1, zup s.2.2 b (s.2.2 b + 1))
  else (zup (if 0 ≤ s.2.1 (L b (s.2.2 b)) then zup s.1 (s.2.1 (L b (s.2.2 b))) (-1) else s.1) b (L b (s.2.2 b)), zup s.2.1 (L b (s.2.2 b)) b, zup s.2.2 b (s.2.2 b + 1))
theorem zstp_1 {L P : Int → Int → Int} {n b gr : Int} {s : zGS} (hg : L b (s.2.2 b) = gr) (h1 : 0 ≤ s.2.1 gr) (h2 : ¬ P (n + gr) b < P (n + gr) (s.2.1 gr)) : zstp L P n b s = (s.1, s.2.1, zup s.2.2 b (s.2.2 b + 1)) := by
  unfold zstp
  rw [hg, if_pos ⟨h1, h2⟩]
theorem zstp_2 {L P : Int → Int → Int} {n b gr : Int} {s : zGS} (hg : L b (s.2.2 b) = gr) (h1 : 0 ≤ s.2.1 gr) (h2 : P (n + gr) b < P (n + gr) (s.2.1 gr)) : zstp L P n b s = (zup (zup s.1 (s.2.1 gr) (-1)) b gr, zup s.2.1 gr b, zup s.2.2 b (s.2.2 b + 1)) := by
  unfold zstp
  rw [hg, if_neg (fun q => q.2 h2), if_pos h1]
theorem zstp_3 {L P : Int → Int → Int} {n b gr : Int} {s : zGS} (hg : L b (s.2.2 b) = gr) (h1 : ¬ 0 ≤ s.2.1 gr) : zstp L P n b s = (zup s.1 b gr, zup s.2.1 gr b, zup s.2.2 b (s.2.2 b + 1)) := by
  unfold zstp
  rw [hg, if_neg (fun q => h1 q.1), if_neg h1]
def zrg (n : Int) (s : zGS) : Prop := ∀ i, 0 ≤ i ∧ i < n → (-1 ≤ s.1 i ∧ s.1 i < n) ∧ (-1 ≤ s.2.1 i ∧ s.2.1 i < n) ∧ (0 ≤ s.2.2 i ∧ s.2.2 i ≤ n)
theorem zup_b {f : Int → Int} {i v j a c : Int} (hf : a ≤ f j ∧ f j < c) (hv : a ≤ v ∧ v < c) : a ≤ zup f i v j ∧ zup f i v j < c := by
  unfold zup
  split
  · exact hv
  · exact hf
theorem zstp_r {L P : Int → Int → Int} {n b : Int} {s : zGS} (hs : zrg n s) (hb : 0 ≤ b ∧ b < n) (ha : s.2.2 b < n) (hL : 0 ≤ L b (s.2.2 b) ∧ L b (s.2.2 b) < n) : zrg n (zstp L P n b s) := by
  intro i hi
  have h1 := hs i hi
  have h2 := hs b hb
  have h3 : 0 ≤ zup s.2.2 b (s.2.2 b + 1) i ∧ zup s.2.2 b (s.2.2 b + 1) i ≤ n := by
    have := zup_b (f := s.2.2) (i := b) (v := s.2.2 b + 1) (j := i) (a := 0) (c := n + 1) (by omega) (by omega)
    omega
  unfold zstp
  split
  · exact ⟨h1.1, h1.2.1, h3⟩
  · refine ⟨zup_b ?_ (by omega), zup_b h1.2.1 (by omega), h3⟩
    split
    · exact zup_b h1.1 (by omega)
    · exact h1.1
/-- the first who is alone, of the k from b on; -1: none -/
def zfa (g : Int → Int) : Nat → Int → Int
  | 0, _ => -1
  | k + 1, b => if g b < 0 then b else zfa g k (b + 1)
theorem zfa_b (g : Int → Int) (k : Nat) : ∀ b : Int, zfa g k b = -1 ∨ (b ≤ zfa g k b ∧ zfa g k b < b + k ∧ g (zfa g k b) < 0) := by
  induction k with
  | zero => intro b; exact Or.inl rfl
  | succ k ih =>
    intro b
    have := ih (b + 1)
    unfold zfa
    split
    · exact Or.inr ⟨by omega, by omega, by assumption⟩
    · omega
def zgs1 (L P : Int → Int → Int) (n : Int) (s : zGS) : zGS := if zfa s.1 n.toNat 0 < 0 ∨ n ≤ s.2.2 (zfa s.1 n.toNat 0) then s else zstp L P n (zfa s.1 n.toNat 0) s
/-- k brides asked -/
def zgs (L P : Int → Int → Int) (n : Int) (s : zGS) : Nat → zGS
  | 0 => s
  | k + 1 => zgs1 L P n (zgs L P n s k)
theorem zgs_e {L P : Int → Int → Int} {n : Int} {s : zGS} {k : Nat} (h : zfa (zgs L P n s k).1 n.toNat 0 < 0 ∨ n ≤ (zgs L P n s k).2.2 (zfa (zgs L P n s k).1 n.toNat 0)) (j : Nat) : zgs L P n s (k + j) = zgs L P n s k := by
  induction j with
  | zero => rfl
  | succ j ih =>
    show zgs1 L P n (zgs L P n s (k + j)) = _
    rw [ih]
    unfold zgs1
    rw [if_pos h]
set_option maxHeartbeats 4000000 in
set_option maxRecDepth 100000 in
theorem t_firstAlone {G : zG} {ad : Int → Nat} {M : zM} {n : Int} (hn : 2 ≤ n ∧ n ≤ 7) (hm : M 142 0 = n) (hg : ∀ b, 0 ≤ b ∧ b < n → -1 ≤ M 145 b ∧ M 145 b < n)  : zTI G (zw ad) mi_X2_firstAlone [zr 142] M (fun x M' => M' = M ∧ x = zfa (M 145) n.toNat 0) := by
  refine zTI.of (own := RX2) (ls := [some (zr 142), none]) (by decide +kernel) rfl rfl (Nat.le_of_ble_eq_true rfl) (fun γ ok rt => ?_)
  have lp : ∀ (zn : Nat) (b : Int), zn = (7 - b).toNat → (0 ≤ b ∧ b ≤ n) → (zfa (M 145) n.toNat 0 = zfa (M 145) (n - b).toNat b) → zVV G γ (zw ad) (0, 0) 2 [some (zr 142), some (zi b)] [] M := by
    refine zrec _ (fun zn ih => ?_)
    intro b hzn hb he
    refine v_iload_1 ok dX2_firstAlone_2 (n := 3) rfl ?_
    refine v_aload_0 ok dX2_firstAlone_3 (n := 4) rfl ?_
    refine v_getI ok fd_X2_9 ly_142 rfl rfl (jI := 0) rfl dX2_firstAlone_4 (n := 7) rfl ?_
    rw [hm]
    refine v_icmp_ge ok dX2_firstAlone_7 (tgt := 27) (by decide) (n := 10) rfl (by omega) (by omega) (fun c7_1 => ?_) (fun c7_1 => ?_)
    · have c7_1 := c7_1
      refine v_iconst ok dX2_firstAlone_27 (n := 28) rfl ?_
      refine v_iret rt dX2_firstAlone_28 ?_
      rw [show (n - b).toNat = 0 by omega] at he
      exact ⟨rfl, he.symm⟩
    · have c7_1 := c7_1
      refine v_aload_0 ok dX2_firstAlone_10 (n := 11) rfl ?_
      refine v_getR ok fd_X2_23 ly_142 rfl rfl rfl rf_142_3 dX2_firstAlone_11 (n := 14) rfl ?_
      refine v_iload_1 ok dX2_firstAlone_14 (n := 15) rfl ?_
      refine v_iald ok ly_145 rfl (by omega) (by decide) dX2_firstAlone_15 (n := 16) rfl ?_
      have hgb := hg b (by omega)
      rw [show (n - b).toNat = (n - (b + 1)).toNat + 1 by omega] at he
      conv at he => rhs; unfold zfa
      refine v_if_ge ok dX2_firstAlone_16 (tgt := 21) (by decide) (n := 19) rfl (by omega) (fun c16_2 => ?_) (fun c16_2 => ?_)
      · have c16_2 := c16_2
        refine v_iinc_1 ok (by decide) rfl dX2_firstAlone_21 (n := 24) rfl ?_
        refine v_goto ok dX2_firstAlone_24 (n := 2) (by decide) ?_
        rw [if_neg (by omega)] at he
        exact ih _ (by omega) _ rfl (by omega) he
      · have c16_2 := c16_2
        refine v_iload_1 ok dX2_firstAlone_19 (n := 20) rfl ?_
        refine v_iret rt dX2_firstAlone_20 ?_
        rw [if_pos (by omega)] at he
        exact ⟨rfl, he.symm⟩
  refine v_iconst ok dX2_firstAlone_0 (n := 1) rfl ?_
  refine v_istore_1 ok (by decide) rfl dX2_firstAlone_1 (n := 2) rfl ?_
  exact lp _ 0 rfl (by omega) (by rw [show n - 0 = n by omega])

def zPL (M : zM) : Int → Int → Int := fun q t => M (148 + q) t
theorem zplr_g {M : zM} {n : Int} {s : zGS} (h : zplr M n) : zplr (zgp M s) n := fun q t hq ht => by
  rw [zgp_o (by omega)]
  exact h q t hq ht
set_option maxHeartbeats 4000000 in
set_option maxRecDepth 100000 in
theorem t_askNext {G : zG} {ad : Int → Nat} {M : zM} {n b : Int} {s : zGS} (hn : 2 ≤ n ∧ n ≤ 7) (hm : M 142 0 = n) (hP : zplr M n) (hs : zrg n s) (hb : 0 ≤ b ∧ b < n) (ha : s.2.2 b < n) (hL : 0 ≤ M (148 + b) (s.2.2 b) ∧ M (148 + b) (s.2.2 b) < n)  : zTV G (zw ad) mi_X2_askNext [zr 142, zi b] (zgp M s) (fun M' => M' = zgp M (zstp (zPL M) (zPT M) n b s)) := by
  refine zTV.of (own := RX2) (ls := [some (zr 142), some (zi b), none, none]) (by decide +kernel) rfl rfl (Nat.le_of_ble_eq_true rfl) (fun γ ok rt => ?_)
  obtain ⟨r1, r2, r3⟩ := hs b hb
  have hw := (hs _ hL).2.1
  refine v_aload_0 ok dX2_askNext_0 (n := 1) rfl ?_
  refine v_getR ok fd_X2_17 ly_142 rfl rfl rfl rf_142_1 dX2_askNext_1 (n := 4) rfl ?_
  refine v_iload_1 ok dX2_askNext_4 (n := 5) rfl ?_
  refine v_aald ok ly_143 (by decide) rfl (by omega) (by decide) rfl dX2_askNext_5 (n := 6) rfl ?_
  refine v_aload_0 ok dX2_askNext_6 (n := 7) rfl ?_
  refine v_getR ok fd_X2_30 ly_142 rfl rfl rfl rf_142_5 dX2_askNext_7 (n := 10) rfl ?_
  refine v_iload_1 ok dX2_askNext_10 (n := 11) rfl ?_
  refine v_iald ok ly_147 rfl (by omega) (by decide) dX2_askNext_11 (n := 12) rfl ?_
  rw [zgp_a]
  refine v_iald ok (lf_lik (by omega)) rfl (by omega) (by decide) dX2_askNext_12 (n := 13) rfl ?_
  rw [zgp_o (by omega)]
  refine v_istore_2 ok (by decide) rfl dX2_askNext_13 (n := 14) rfl ?_
  refine v_aload_0 ok dX2_askNext_14 (n := 15) rfl ?_
  refine v_getR ok fd_X2_30 ly_142 rfl rfl rfl rf_142_5 dX2_askNext_15 (n := 18) rfl ?_
  refine v_iload_1 ok dX2_askNext_18 (n := 19) rfl ?_
  refine v_dup2 ok rfl rfl dX2_askNext_19 (n := 20) rfl ?_
  refine v_iald ok ly_147 rfl (by omega) (by decide) dX2_askNext_20 (n := 21) rfl ?_
  rw [zgp_a]
  refine v_iconst ok dX2_askNext_21 (n := 22) rfl ?_
  refine v_iadd ok dX2_askNext_22 (n := 23) rfl ?_
  refine v_iast ok ly_147 rfl (by omega) (by decide) dX2_askNext_23 (n := 24) rfl ?_
  rw [zgp_sa]
  refine v_aload_0 ok dX2_askNext_24 (n := 25) rfl ?_
  refine v_getR ok fd_X2_27 ly_142 rfl rfl rfl rf_142_4 dX2_askNext_25 (n := 28) rfl ?_
  refine v_iload_2 ok dX2_askNext_28 (n := 29) rfl ?_
  refine v_iald ok ly_146 rfl (by omega) (by decide) dX2_askNext_29 (n := 30) rfl ?_
  rw [zgp_w]
  try dsimp only
  refine v_istore_3 ok (by decide) rfl dX2_askNext_30 (n := 31) rfl ?_
  refine v_iload_3 ok dX2_askNext_31 (n := 32) rfl ?_
  refine v_if_lt ok dX2_askNext_32 (tgt := 46) (by decide) (n := 35) rfl (by omega) (fun c32_1 => ?_) (fun c32_1 => ?_)
  · have c32_1 := c32_1
    refine v_iload_3 ok dX2_askNext_46 (n := 47) rfl ?_
    refine v_if_lt ok dX2_askNext_47 (tgt := 57) (by decide) (n := 50) rfl (by omega) (fun c47_2 => ?_) (fun c47_2 => ?_)
    · have c47_2 := c47_2
      first
      | (exfalso; omega)
      | skip
        refine v_aload_0 ok dX2_askNext_57 (n := 58) rfl ?_
        refine v_getR ok fd_X2_27 ly_142 rfl rfl rfl rf_142_4 dX2_askNext_58 (n := 61) rfl ?_
        refine v_iload_2 ok dX2_askNext_61 (n := 62) rfl ?_
        refine v_iload_1 ok dX2_askNext_62 (n := 63) rfl ?_
        refine v_iast ok ly_146 rfl (by omega) (by decide) dX2_askNext_63 (n := 64) rfl ?_
        rw [zgp_sw]
        try dsimp only
        refine v_aload_0 ok dX2_askNext_64 (n := 65) rfl ?_
        refine v_getR ok fd_X2_23 ly_142 rfl rfl rfl rf_142_3 dX2_askNext_65 (n := 68) rfl ?_
        refine v_iload_1 ok dX2_askNext_68 (n := 69) rfl ?_
        refine v_iload_2 ok dX2_askNext_69 (n := 70) rfl ?_
        refine v_iast ok ly_145 rfl (by omega) (by decide) dX2_askNext_70 (n := 71) rfl ?_
        rw [zgp_sg]
        try dsimp only
        refine v_vret rt dX2_askNext_71 ?_
        first
        | rw [zstp_1 (gr := M (148 + b) (s.2.2 b)) rfl (by omega) (show ¬ M (162 + (n + M (148 + b) (s.2.2 b))) b < M (162 + (n + M (148 + b) (s.2.2 b))) (s.2.1 (M (148 + b) (s.2.2 b))) by omega)]
        | rw [zstp_2 (gr := M (148 + b) (s.2.2 b)) rfl (by omega) (show M (162 + (n + M (148 + b) (s.2.2 b))) b < M (162 + (n + M (148 + b) (s.2.2 b))) (s.2.1 (M (148 + b) (s.2.2 b))) by omega)]
        | rw [zstp_3 (gr := M (148 + b) (s.2.2 b)) rfl (by omega)]
    · have c47_2 := c47_2
      first
      | (exfalso; omega)
      | skip
        refine v_aload_0 ok dX2_askNext_50 (n := 51) rfl ?_
        refine v_getR ok fd_X2_23 ly_142 rfl rfl rfl rf_142_3 dX2_askNext_51 (n := 54) rfl ?_
        refine v_iload_3 ok dX2_askNext_54 (n := 55) rfl ?_
        refine v_iconst ok dX2_askNext_55 (n := 56) rfl ?_
        refine v_iast ok ly_145 rfl (by omega) (by decide) dX2_askNext_56 (n := 57) rfl ?_
        rw [zgp_sg]
        try dsimp only
        refine v_aload_0 ok dX2_askNext_57 (n := 58) rfl ?_
        refine v_getR ok fd_X2_27 ly_142 rfl rfl rfl rf_142_4 dX2_askNext_58 (n := 61) rfl ?_
        refine v_iload_2 ok dX2_askNext_61 (n := 62) rfl ?_
        refine v_iload_1 ok dX2_askNext_62 (n := 63) rfl ?_
        refine v_iast ok ly_146 rfl (by omega) (by decide) dX2_askNext_63 (n := 64) rfl ?_
        rw [zgp_sw]
        try dsimp only
        refine v_aload_0 ok dX2_askNext_64 (n := 65) rfl ?_
        refine v_getR ok fd_X2_23 ly_142 rfl rfl rfl rf_142_3 dX2_askNext_65 (n := 68) rfl ?_
        refine v_iload_1 ok dX2_askNext_68 (n := 69) rfl ?_
        refine v_iload_2 ok dX2_askNext_69 (n := 70) rfl ?_
        refine v_iast ok ly_145 rfl (by omega) (by decide) dX2_askNext_70 (n := 71) rfl ?_
        rw [zgp_sg]
        try dsimp only
        refine v_vret rt dX2_askNext_71 ?_
        first
        | rw [zstp_1 (gr := M (148 + b) (s.2.2 b)) rfl (by omega) (show ¬ M (162 + (n + M (148 + b) (s.2.2 b))) b < M (162 + (n + M (148 + b) (s.2.2 b))) (s.2.1 (M (148 + b) (s.2.2 b))) by omega)]
        | rw [zstp_2 (gr := M (148 + b) (s.2.2 b)) rfl (by omega) (show M (162 + (n + M (148 + b) (s.2.2 b))) b < M (162 + (n + M (148 + b) (s.2.2 b))) (s.2.1 (M (148 + b) (s.2.2 b))) by omega)]
        | rw [zstp_3 (gr := M (148 + b) (s.2.2 b)) rfl (by omega)]
  · have c32_1 := c32_1
    refine v_aload_0 ok dX2_askNext_35 (n := 36) rfl ?_
    refine v_iload_2 ok dX2_askNext_36 (n := 37) rfl ?_
    refine v_iload_1 ok dX2_askNext_37 (n := 38) rfl ?_
    refine v_iload_3 ok dX2_askNext_38 (n := 39) rfl ?_
    have e39 := t_groomLikesMore (G := G) (ad := ad) (M := zgp M (s.1, s.2.1, zup s.2.2 b (s.2.2 b + 1))) (n := n) (g := M (148 + b) (s.2.2 b)) (b := b) (c := s.2.1 (M (148 + b) (s.2.2 b))) hn (by rw [zgp_o (by omega)]; exact hm) (zplr_g hP) hL hb (by omega)
    rw [zgp_o (by omega)] at e39
    refine v_callVI ok (mi := mi_X2_groomLikesMore) mc_X2_groomLikesMore cv_X2_55 ly_142 rfl rfl rfl (by decide) ⟨Nat.zero_le _, Nat.zero_le _⟩ dX2_askNext_39 (n := 42) rfl rfl rfl (Nat.le_of_ble_eq_true rfl) (e39) (fun x1 M1 g1 => ?_)
    obtain ⟨g1_, g1⟩ := g1
    subst M1
    refine v_if_ne ok dX2_askNext_42 (tgt := 46) (by decide) (n := 45) rfl (by omega) (fun c42_3 => ?_) (fun c42_3 => ?_)
    · have c42_3 := c42_3
      refine v_iload_3 ok dX2_askNext_46 (n := 47) rfl ?_
      refine v_if_lt ok dX2_askNext_47 (tgt := 57) (by decide) (n := 50) rfl (by omega) (fun c47_4 => ?_) (fun c47_4 => ?_)
      · have c47_4 := c47_4
        first
        | (exfalso; omega)
        | skip
          refine v_aload_0 ok dX2_askNext_57 (n := 58) rfl ?_
          refine v_getR ok fd_X2_27 ly_142 rfl rfl rfl rf_142_4 dX2_askNext_58 (n := 61) rfl ?_
          refine v_iload_2 ok dX2_askNext_61 (n := 62) rfl ?_
          refine v_iload_1 ok dX2_askNext_62 (n := 63) rfl ?_
          refine v_iast ok ly_146 rfl (by omega) (by decide) dX2_askNext_63 (n := 64) rfl ?_
          rw [zgp_sw]
          try dsimp only
          refine v_aload_0 ok dX2_askNext_64 (n := 65) rfl ?_
          refine v_getR ok fd_X2_23 ly_142 rfl rfl rfl rf_142_3 dX2_askNext_65 (n := 68) rfl ?_
          refine v_iload_1 ok dX2_askNext_68 (n := 69) rfl ?_
          refine v_iload_2 ok dX2_askNext_69 (n := 70) rfl ?_
          refine v_iast ok ly_145 rfl (by omega) (by decide) dX2_askNext_70 (n := 71) rfl ?_
          rw [zgp_sg]
          try dsimp only
          refine v_vret rt dX2_askNext_71 ?_
          first
          | rw [zstp_1 (gr := M (148 + b) (s.2.2 b)) rfl (by omega) (show ¬ M (162 + (n + M (148 + b) (s.2.2 b))) b < M (162 + (n + M (148 + b) (s.2.2 b))) (s.2.1 (M (148 + b) (s.2.2 b))) by omega)]
          | rw [zstp_2 (gr := M (148 + b) (s.2.2 b)) rfl (by omega) (show M (162 + (n + M (148 + b) (s.2.2 b))) b < M (162 + (n + M (148 + b) (s.2.2 b))) (s.2.1 (M (148 + b) (s.2.2 b))) by omega)]
          | rw [zstp_3 (gr := M (148 + b) (s.2.2 b)) rfl (by omega)]
      · have c47_4 := c47_4
        first
        | (exfalso; omega)
        | skip
          refine v_aload_0 ok dX2_askNext_50 (n := 51) rfl ?_
          refine v_getR ok fd_X2_23 ly_142 rfl rfl rfl rf_142_3 dX2_askNext_51 (n := 54) rfl ?_
          refine v_iload_3 ok dX2_askNext_54 (n := 55) rfl ?_
          refine v_iconst ok dX2_askNext_55 (n := 56) rfl ?_
          refine v_iast ok ly_145 rfl (by omega) (by decide) dX2_askNext_56 (n := 57) rfl ?_
          rw [zgp_sg]
          try dsimp only
          refine v_aload_0 ok dX2_askNext_57 (n := 58) rfl ?_
          refine v_getR ok fd_X2_27 ly_142 rfl rfl rfl rf_142_4 dX2_askNext_58 (n := 61) rfl ?_
          refine v_iload_2 ok dX2_askNext_61 (n := 62) rfl ?_
          refine v_iload_1 ok dX2_askNext_62 (n := 63) rfl ?_
          refine v_iast ok ly_146 rfl (by omega) (by decide) dX2_askNext_63 (n := 64) rfl ?_
          rw [zgp_sw]
          try dsimp only
          refine v_aload_0 ok dX2_askNext_64 (n := 65) rfl ?_
          refine v_getR ok fd_X2_23 ly_142 rfl rfl rfl rf_142_3 dX2_askNext_65 (n := 68) rfl ?_
          refine v_iload_1 ok dX2_askNext_68 (n := 69) rfl ?_
          refine v_iload_2 ok dX2_askNext_69 (n := 70) rfl ?_
          refine v_iast ok ly_145 rfl (by omega) (by decide) dX2_askNext_70 (n := 71) rfl ?_
          rw [zgp_sg]
          try dsimp only
          refine v_vret rt dX2_askNext_71 ?_
          first
          | rw [zstp_1 (gr := M (148 + b) (s.2.2 b)) rfl (by omega) (show ¬ M (162 + (n + M (148 + b) (s.2.2 b))) b < M (162 + (n + M (148 + b) (s.2.2 b))) (s.2.1 (M (148 + b) (s.2.2 b))) by omega)]
          | rw [zstp_2 (gr := M (148 + b) (s.2.2 b)) rfl (by omega) (show M (162 + (n + M (148 + b) (s.2.2 b))) b < M (162 + (n + M (148 + b) (s.2.2 b))) (s.2.1 (M (148 + b) (s.2.2 b))) by omega)]
          | rw [zstp_3 (gr := M (148 + b) (s.2.2 b)) rfl (by omega)]
    · have c42_3 := c42_3
      refine v_vret rt dX2_askNext_45 ?_
      first
      | rw [zstp_1 (gr := M (148 + b) (s.2.2 b)) rfl (by omega) (show ¬ M (162 + (n + M (148 + b) (s.2.2 b))) b < M (162 + (n + M (148 + b) (s.2.2 b))) (s.2.1 (M (148 + b) (s.2.2 b))) by omega)]
      | rw [zstp_2 (gr := M (148 + b) (s.2.2 b)) rfl (by omega) (show M (162 + (n + M (148 + b) (s.2.2 b))) b < M (162 + (n + M (148 + b) (s.2.2 b))) (s.2.1 (M (148 + b) (s.2.2 b))) by omega)]
      | rw [zstp_3 (gr := M (148 + b) (s.2.2 b)) rfl (by omega)]

def zs0 (M : zM) : zGS := (fun j => if 0 ≤ j ∧ j < 7 then -1 else M 145 j, fun j => if 0 ≤ j ∧ j < 7 then -1 else M 146 j, fun j => if 0 ≤ j ∧ j < 7 then 0 else M 147 j)
theorem zs0_f {M : zM} : zfil (zfil (zfil M 145 7 (-1)) 146 7 (-1)) 147 7 0 = zgp M (zs0 M) := by
  funext r j
  unfold zfil zgp zs0
  by_cases h5 : r = 145
  · subst h5
    rw [if_neg (by omega), if_neg (by omega), if_pos rfl]
    dsimp only
    by_cases hj : 0 ≤ j ∧ j < 7
    · rw [if_pos (by omega), if_pos hj]
    · rw [if_neg (by omega), if_neg hj]
  · rw [if_neg h5]
    by_cases h6 : r = 146
    · subst h6
      rw [if_neg (by omega), if_pos rfl]
      dsimp only
      by_cases hj : 0 ≤ j ∧ j < 7
      · rw [if_pos (by omega), if_pos hj]
      · rw [if_neg (by omega), if_neg (by omega), if_neg hj]
    · rw [if_neg h6]
      by_cases h7 : r = 147
      · subst h7
        rw [if_pos rfl]
        dsimp only
        by_cases hj : 0 ≤ j ∧ j < 7
        · rw [if_pos (by omega), if_pos hj]
        · rw [if_neg (by omega), if_neg (by omega), if_neg (by omega), if_neg hj]
      · rw [if_neg h7, if_neg (by omega), if_neg (by omega), if_neg (by omega)]
set_option maxHeartbeats 4000000 in
set_option maxRecDepth 100000 in
theorem t_pairByBrides {G : zG} {ad : Int → Nat} {M : zM} {n : Int} (hn : 2 ≤ n ∧ n ≤ 7) (hm : M 142 0 = n) (hP : zplr M n) (hL : ∀ q t, 0 ≤ q ∧ q < n → 0 ≤ t ∧ t < n → 0 ≤ M (148 + q) t ∧ M (148 + q) t < n)  : zTV G (zw ad) mi_X2_pairByBrides [zr 142] M (fun M' => M' = zgp M (zgs (zPL M) (zPT M) n (zs0 M) (n * n).toNat)) := by
  refine zTV.of (own := RX2) (ls := [some (zr 142), none, none]) (by decide +kernel) rfl rfl (Nat.le_of_ble_eq_true rfl) (fun γ ok rt => ?_)
  have hnn : 4 ≤ n * n ∧ n * n ≤ 49 := by
    have a1 := Int.mul_le_mul_of_nonneg_right (show n ≤ 7 by omega) (show 0 ≤ n by omega)
    have a2 := Int.mul_le_mul_of_nonneg_right (show 2 ≤ n by omega) (show 0 ≤ n by omega)
    omega
  have lp : ∀ (zn : Nat) (k : Int) (l2 : Option zV), zn = (49 - k).toNat → (0 ≤ k ∧ k ≤ n * n) → (zrg n (zgs (zPL M) (zPT M) n (zs0 M) k.toNat)) → zVV G γ (zw ad) (0, 0) 26 [some (zr 142), some (zi k), l2] [] (zgp M (zgs (zPL M) (zPT M) n (zs0 M) k.toNat)) := by
    refine zrec _ (fun zn ih => ?_)
    intro k l2 hzn hk hs
    refine v_iload_1 ok dX2_pairByBrides_26 (n := 27) rfl ?_
    refine v_aload_0 ok dX2_pairByBrides_27 (n := 28) rfl ?_
    refine v_getI ok fd_X2_9 ly_142 rfl rfl (jI := 0) rfl dX2_pairByBrides_28 (n := 31) rfl ?_
    rw [zgp_o (by omega), hm]
    refine v_aload_0 ok dX2_pairByBrides_31 (n := 32) rfl ?_
    refine v_getI ok fd_X2_9 ly_142 rfl rfl (jI := 0) rfl dX2_pairByBrides_32 (n := 35) rfl ?_
    rw [zgp_o (by omega), hm]
    refine v_imul ok dX2_pairByBrides_35 (n := 36) rfl ?_
    refine v_icmp_ge ok dX2_pairByBrides_36 (tgt := 73) (by decide) (n := 39) rfl (by omega) (by omega) (fun c36_1 => ?_) (fun c36_1 => ?_)
    · have c36_1 := c36_1
      refine v_vret rt dX2_pairByBrides_73 ?_
      rw [show k = n * n by omega]
    · have c36_1 := c36_1
      refine v_aload_0 ok dX2_pairByBrides_39 (n := 40) rfl ?_
      have e40 := t_firstAlone (G := G) (ad := ad) (M := zgp M (zgs (zPL M) (zPT M) n (zs0 M) k.toNat)) (n := n) hn (by rw [zgp_o (by omega)]; exact hm) (fun b hb => (hs b hb).1)
      rw [zgp_g] at e40
      have hfb := zfa_b ((zgs (zPL M) (zPT M) n (zs0 M) k.toNat)).1 n.toNat 0
      refine v_callVI ok (mi := mi_X2_firstAlone) mc_X2_firstAlone cv_X2_47 ly_142 rfl rfl rfl (by decide) ⟨Nat.zero_le _, Nat.zero_le _⟩ dX2_pairByBrides_40 (n := 43) rfl rfl rfl (Nat.le_of_ble_eq_true rfl) (e40) (fun x1 M1 g1 => ?_)
      obtain ⟨g1_, g1⟩ := g1
      subst M1
      rw [← g1] at hfb
      refine v_istore_2 ok (by decide) rfl dX2_pairByBrides_43 (n := 44) rfl ?_
      refine v_iload_2 ok dX2_pairByBrides_44 (n := 45) rfl ?_
      refine v_if_lt ok dX2_pairByBrides_45 (tgt := 61) (by decide) (n := 48) rfl (by omega) (fun c45_2 => ?_) (fun c45_2 => ?_)
      · have c45_2 := c45_2
        refine v_vret rt dX2_pairByBrides_61 ?_
        have hq : n * n = k + (n * n - k) := by omega
        show zgp M (zgs (zPL M) (zPT M) n (zs0 M) k.toNat) = zgp M (zgs (zPL M) (zPT M) n (zs0 M) (n * n).toNat)
        rw [show (n * n).toNat = k.toNat + (n * n - k).toNat by omega, zgs_e (by rw [← g1]; omega)]
      · have c45_2 := c45_2
        have hsb := hs _ (show 0 ≤ x1 ∧ x1 < n by omega)
        refine v_aload_0 ok dX2_pairByBrides_48 (n := 49) rfl ?_
        refine v_getR ok fd_X2_30 ly_142 rfl rfl rfl rf_142_5 dX2_pairByBrides_49 (n := 52) rfl ?_
        refine v_iload_2 ok dX2_pairByBrides_52 (n := 53) rfl ?_
        refine v_iald ok ly_147 rfl (by omega) (by decide) dX2_pairByBrides_53 (n := 54) rfl ?_
        rw [zgp_a]
        refine v_aload_0 ok dX2_pairByBrides_54 (n := 55) rfl ?_
        refine v_getI ok fd_X2_9 ly_142 rfl rfl (jI := 0) rfl dX2_pairByBrides_55 (n := 58) rfl ?_
        rw [zgp_o (by omega), hm]
        refine v_icmp_lt ok dX2_pairByBrides_58 (tgt := 62) (by decide) (n := 61) rfl (by omega) (by omega) (fun c58_3 => ?_) (fun c58_3 => ?_)
        · have c58_3 := c58_3
          refine v_aload_0 ok dX2_pairByBrides_62 (n := 63) rfl ?_
          refine v_iload_2 ok dX2_pairByBrides_63 (n := 64) rfl ?_
          have hst : (zgs (zPL M) (zPT M) n (zs0 M) (k + 1).toNat) = zstp (zPL M) (zPT M) n x1 (zgs (zPL M) (zPT M) n (zs0 M) k.toNat) := by
            rw [show (k + 1).toNat = k.toNat + 1 by omega]
            conv => lhs; unfold zgs
            unfold zgs1
            rw [← g1, if_neg (by omega)]
          have e64 := t_askNext (G := G) (ad := ad) (M := M) (n := n) (b := x1) (s := (zgs (zPL M) (zPT M) n (zs0 M) k.toNat)) hn hm hP hs (by omega) (by omega) (hL _ _ (by omega) (by omega))
          have hs2 := zstp_r (L := zPL M) (P := zPT M) hs (show 0 ≤ x1 ∧ x1 < n by omega) (by omega) (hL x1 _ (by omega) (by omega))
          rw [← hst] at e64 hs2
          refine v_callVV ok (mi := mi_X2_askNext) mc_X2_askNext cv_X2_51 ly_142 rfl rfl rfl (by decide) ⟨Nat.zero_le _, Nat.zero_le _⟩ dX2_pairByBrides_64 (n := 67) rfl rfl rfl (Nat.le_of_ble_eq_true rfl) (e64) (fun M2 g2 => ?_)
          subst M2
          refine v_iinc_1 ok (by decide) rfl dX2_pairByBrides_67 (n := 70) rfl ?_
          refine v_goto ok dX2_pairByBrides_70 (n := 26) (by decide) ?_
          exact ih _ (by omega) (k + 1) _ rfl (by omega) hs2
        · have c58_3 := c58_3
          refine v_vret rt dX2_pairByBrides_61 ?_
          have hq : n * n = k + (n * n - k) := by omega
          show zgp M (zgs (zPL M) (zPT M) n (zs0 M) k.toNat) = zgp M (zgs (zPL M) (zPT M) n (zs0 M) (n * n).toNat)
          rw [show (n * n).toNat = k.toNat + (n * n - k).toNat by omega, zgs_e (by rw [← g1]; omega)]
  refine v_aload_0 ok dX2_pairByBrides_0 (n := 1) rfl ?_
  refine v_getR ok fd_X2_23 ly_142 rfl rfl rfl rf_142_3 dX2_pairByBrides_1 (n := 4) rfl ?_
  refine v_iconst ok dX2_pairByBrides_4 (n := 5) rfl ?_
  refine v_callSV ok (mi := mi_J7_fill_53178) mc_J7_fill_53178 cs_X2_41 (by decide) ⟨Nat.zero_le _, Nat.zero_le _⟩ dX2_pairByBrides_5 (n := 8) rfl rfl rfl (Nat.le_of_ble_eq_true rfl) (t_fillI ly_145 (by decide)) (fun N1 g1 => ?_)
  subst g1
  refine v_aload_0 ok dX2_pairByBrides_8 (n := 9) rfl ?_
  refine v_getR ok fd_X2_27 ly_142 rfl rfl rfl rf_142_4 dX2_pairByBrides_9 (n := 12) rfl ?_
  refine v_iconst ok dX2_pairByBrides_12 (n := 13) rfl ?_
  refine v_callSV ok (mi := mi_J7_fill_53178) mc_J7_fill_53178 cs_X2_41 (by decide) ⟨Nat.zero_le _, Nat.zero_le _⟩ dX2_pairByBrides_13 (n := 16) rfl rfl rfl (Nat.le_of_ble_eq_true rfl) (t_fillI ly_146 (by decide)) (fun N2 g2 => ?_)
  subst g2
  refine v_aload_0 ok dX2_pairByBrides_16 (n := 17) rfl ?_
  refine v_getR ok fd_X2_30 ly_142 rfl rfl rfl rf_142_5 dX2_pairByBrides_17 (n := 20) rfl ?_
  refine v_iconst ok dX2_pairByBrides_20 (n := 21) rfl ?_
  refine v_callSV ok (mi := mi_J7_fill_53178) mc_J7_fill_53178 cs_X2_41 (by decide) ⟨Nat.zero_le _, Nat.zero_le _⟩ dX2_pairByBrides_21 (n := 24) rfl rfl rfl (Nat.le_of_ble_eq_true rfl) (t_fillI ly_147 (by decide)) (fun N3 g3 => ?_)
  subst g3
  rw [show zfil (zfil (zfil M 145 ((7 : Nat) : Int) (-1)) 146 ((7 : Nat) : Int) (-1)) 147 ((7 : Nat) : Int) 0 = zgp M (zs0 M) from zs0_f]
  refine v_iconst ok dX2_pairByBrides_24 (n := 25) rfl ?_
  refine v_istore_1 ok (by decide) rfl dX2_pairByBrides_25 (n := 26) rfl ?_
  exact lp _ 0 _ rfl (by omega) (fun i hi => by
    have hj : 0 ≤ i ∧ i < 7 := by omega
    show (-1 ≤ (if 0 ≤ i ∧ i < 7 then (-1 : Int) else M 145 i) ∧ (if 0 ≤ i ∧ i < 7 then (-1 : Int) else M 145 i) < n) ∧ (-1 ≤ (if 0 ≤ i ∧ i < 7 then (-1 : Int) else M 146 i) ∧ (if 0 ≤ i ∧ i < 7 then (-1 : Int) else M 146 i) < n) ∧ (0 ≤ (if 0 ≤ i ∧ i < 7 then (0 : Int) else M 147 i) ∧ (if 0 ≤ i ∧ i < 7 then (0 : Int) else M 147 i) ≤ n)
    rw [if_pos hj, if_pos hj, if_pos hj]
    omega)

