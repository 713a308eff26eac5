/-! pure: the least price of a set of brides is the least of its ways -/
theorem zbit_set {x b c : Int} (hx : 0 ≤ x) (hb : 0 ≤ b) (hc : 0 ≤ c) (h : zbit x b = 1) : zbit (x - zp2 b) c = if c = b then 0 else zbit x c := by
  have h1 := zbit_lt hx h
  have h2 := zbit_sub hx h
  by_cases e : c = b
  · rw [if_pos e, e]
    exact h2
  · rw [if_neg e]
    have h3 := zbit_o (x := x - zp2 b) (b := b) (c := c) (by omega) hb hc (by omega) h2
    rw [show x - zp2 b + zp2 b = x by omega] at h3
    exact h3.symm
theorem zrel_b {v b p : Int} (h1 : -1 ≤ v) (h2 : -1 ≤ b) (h3 : -1 ≤ p) : -1 ≤ zrel v b p := by
  unfold zrel
  split
  · exact h1
  · split
    · omega
    · exact h1
theorem zrl_1 {L p : Int → Int} {j : Int} (hL : ∀ i, -1 ≤ L i) (n : Nat) (hp : ∀ b : Nat, b < n → -1 ≤ p b) : -1 ≤ zrl L p j n := by
  induction n with
  | zero => exact hL j
  | succ n ih =>
    have h1 := ih (fun b hb => hp b (by omega))
    have h2 := hp n (by omega)
    have h3 := hL (j - zp2 n)
    exact zrel_b h1 (by split <;> omega) h2
theorem zrl_2 {L p : Int → Int} {j : Int} (hL : ∀ i, -1 ≤ L i) (n : Nat) (hp : ∀ b : Nat, b < n → -1 ≤ p b) : (L j ≠ -1 → zrl L p j n ≠ -1 ∧ zrl L p j n ≤ L j) ∧ ∀ b : Nat, b < n → zbit j b = 1 → L (j - zp2 b) ≠ -1 → p b ≠ -1 → zrl L p j n ≠ -1 ∧ zrl L p j n ≤ L (j - zp2 b) + p b := by
  induction n with
  | zero => exact ⟨fun h => ⟨h, Int.le_refl _⟩, fun b hb => by omega⟩
  | succ n ih =>
    have h1 := ih (fun b hb => hp b (by omega))
    have h2 := hp n (by omega)
    have h4 := zrl_1 (j := j) hL n (fun b hb => hp b (by omega))
    have key : (zrl L p j (n + 1) = -1 → zrl L p j n = -1) ∧ (zrl L p j n ≠ -1 → zrl L p j (n + 1) ≤ zrl L p j n) := by
      have h3 := hL (j - zp2 n)
      conv => rhs; rw [show zrl L p j (n + 1) = zrel (zrl L p j n) (if zbit j n = 1 then L (j - zp2 n) else -1) (p n) from rfl]
      conv => lhs; rw [show zrl L p j (n + 1) = zrel (zrl L p j n) (if zbit j n = 1 then L (j - zp2 n) else -1) (p n) from rfl]
      unfold zrel
      by_cases e : zbit j n = 1
      · rw [if_pos e]
        split
        · omega
        · split <;> omega
      · rw [if_neg e, if_pos (Or.inl rfl)]
        omega
    refine ⟨fun h => ?_, fun b hb hbit hLb hpb => ?_⟩
    · have h5 := h1.1 h
      have h6 := key.2 h5.1
      exact ⟨fun q => h5.1 (key.1 q), by omega⟩
    · by_cases e : b = n
      · subst e
        have h3 := hL (j - zp2 b)
        rw [show zrl L p j (b + 1) = zrel (zrl L p j b) (if zbit j b = 1 then L (j - zp2 b) else -1) (p b) from rfl, if_pos hbit]
        unfold zrel
        rw [if_neg (by omega)]
        split <;> omega
      · have h5 := h1.2 b (by omega) hbit hLb hpb
        have h6 := key.2 h5.1
        exact ⟨fun q => h5.1 (key.1 q), by omega⟩
theorem zrl_3 {L p : Int → Int} {j : Int} (n : Nat) : zrl L p j n ≠ -1 → (zrl L p j n = L j) ∨ ∃ b : Nat, b < n ∧ zbit j b = 1 ∧ L (j - zp2 b) ≠ -1 ∧ p b ≠ -1 ∧ zrl L p j n = L (j - zp2 b) + p b := by
  induction n with
  | zero => exact fun _ => Or.inl rfl
  | succ n ih =>
    have up : zrl L p j (n + 1) = zrl L p j n → zrl L p j (n + 1) ≠ -1 → (zrl L p j (n + 1) = L j) ∨ ∃ b : Nat, b < n + 1 ∧ zbit j b = 1 ∧ L (j - zp2 b) ≠ -1 ∧ p b ≠ -1 ∧ zrl L p j (n + 1) = L (j - zp2 b) + p b := by
      intro e h
      rw [e] at h ⊢
      rcases ih h with q | ⟨b, q1, q2⟩
      · exact Or.inl q
      · exact Or.inr ⟨b, by omega, q2⟩
    have e0 : zrl L p j (n + 1) = zrel (zrl L p j n) (if zbit j n = 1 then L (j - zp2 n) else -1) (p n) := rfl
    by_cases e : zbit j n = 1
    · rw [if_pos e] at e0
      unfold zrel at e0
      by_cases e1 : L (j - zp2 n) = -1 ∨ p n = -1
      · rw [if_pos e1] at e0
        exact up e0
      · rw [if_neg e1] at e0
        split at e0
        · intro _
          exact Or.inr ⟨n, by omega, e, fun q => e1 (Or.inl q), fun q => e1 (Or.inr q), e0⟩
        · exact up e0
    · rw [if_neg e] at e0
      unfold zrel at e0
      rw [if_pos (Or.inl rfl)] at e0
      exact up e0
/-- a way: each bride of the set has a place of her own, allowed to her -/
def zWy (pr : Int → Int → Int) (n w set : Int) (f : Int → Int) : Prop := ∀ b, 0 ≤ b ∧ b < n → zbit set b = 1 → (0 ≤ f b ∧ f b < w) ∧ pr (f b) b ≠ -1 ∧ ∀ c, 0 ≤ c ∧ c < n → zbit set c = 1 → c ≠ b → f c ≠ f b
def zsm2 (pr : Int → Int → Int) (f : Int → Int) (set : Int) : Nat → Int
  | 0 => 0
  | n + 1 => zsm2 pr f set n + if zbit set n = 1 then pr (f n) n else 0
theorem zsm2_c {pr : Int → Int → Int} {f g : Int → Int} {s t : Int} (n : Nat) (h : ∀ b : Nat, b < n → (zbit s b = 1 ↔ zbit t b = 1) ∧ (zbit s b = 1 → pr (f b) b = pr (g b) b)) : zsm2 pr f s n = zsm2 pr g t n := by
  induction n with
  | zero => rfl
  | succ n ih =>
    have h1 := h n (by omega)
    unfold zsm2
    rw [ih (fun b hb => h b (by omega))]
    by_cases e : zbit s n = 1
    · rw [if_pos e, if_pos (h1.1.1 e), h1.2 e]
    · rw [if_neg e, if_neg (fun q => e (h1.1.2 q))]
/-- the sum with the bride b apart -/
theorem zsm2_b {pr : Int → Int → Int} {f : Int → Int} {s b : Int} (hs : 0 ≤ s) (hb : 0 ≤ b) (h : zbit s b = 1) (n : Nat) : zsm2 pr f s n = zsm2 pr f (s - zp2 b) n + if b < n then pr (f b) b else 0 := by
  induction n with
  | zero =>
    rw [if_neg (by omega)]
    rfl
  | succ n ih =>
    unfold zsm2
    rw [ih, zbit_set hs hb (by omega) h]
    by_cases e : (n : Int) = b
    · rw [if_pos e, if_neg (show ¬ b < (n : Int) by omega), if_pos (show b < ((n + 1 : Nat) : Int) by omega), e, if_pos h, if_neg (by omega)]
      try omega
    · rw [if_neg e]
      by_cases q : b < (n : Int)
      · rw [if_pos q, if_pos (show b < ((n + 1 : Nat) : Int) by omega)]
        omega
      · rw [if_neg q, if_neg (show ¬ b < ((n + 1 : Nat) : Int) by omega)]
        omega
theorem zbit_0 (b : Int) : zbit 0 b = 0 := by
  unfold zbit
  rw [Int.zero_ediv]
  rfl
theorem zsm2_0 {pr : Int → Int → Int} {f : Int → Int} (n : Nat) : zsm2 pr f 0 n = 0 := by
  induction n with
  | zero => rfl
  | succ n ih =>
    unfold zsm2
    rw [ih, zbit_0, if_neg (by omega)]
    rfl
theorem zds_1 {pr : Int → Int → Int} {n : Int} (w : Nat) (hp : ∀ k b : Nat, k < w → (b : Int) < n → -1 ≤ pr k b) : ∀ j, -1 ≤ zds pr n w j := by
  induction w with
  | zero =>
    intro j
    unfold zds
    split <;> omega
  | succ w ih =>
    intro j
    have ih := ih (fun k b hk hb => hp k b (by omega) hb)
    unfold zds
    split
    · exact zrl_1 ih _ (fun b hb => hp w b (by omega) (by omega))
    · exact ih j
theorem zds_0 {pr : Int → Int → Int} {n : Int} (w : Nat) : zds pr n w 0 = 0 := by
  induction w with
  | zero =>
    show (if (0 : Int) = 0 then (0 : Int) else -1) = 0
    exact if_pos rfl
  | succ w ih =>
    unfold zds
    rw [if_neg (by omega)]
    exact ih
theorem zbit_nz {x : Int} {n : Nat} (hx : 0 < x ∧ x < zp2 n) : ∃ b : Nat, b < n ∧ zbit x b = 1 := by
  induction n generalizing x with
  | zero =>
    have : zp2 ((0 : Nat) : Int) = 1 := rfl
    omega
  | succ n ih =>
    by_cases e : x < zp2 n
    · obtain ⟨b, h1, h2⟩ := ih ⟨hx.1, e⟩
      exact ⟨b, by omega, h2⟩
    · refine ⟨n, by omega, ?_⟩
      have h1 : zp2 ((n + 1 : Nat) : Int) = 2 * zp2 n := zp2_s (b := n) (by omega)
      have h2 := zp2_pos n
      unfold zbit
      have h3 : x / zp2 n = 1 := by
        have a1 : x / zp2 n < 2 := Int.ediv_lt_of_lt_mul h2 (by omega)
        have a2 : 1 ≤ x / zp2 n := Int.le_ediv_of_mul_le h2 (by omega)
        omega
      rw [h3]
      rfl
theorem zds_l {pr : Int → Int → Int} {n : Int} (hn : 0 ≤ n ∧ n ≤ 7) (w : Nat) (hp : ∀ k b : Nat, k < w → (b : Int) < n → -1 ≤ pr k b) : ∀ set f, 0 ≤ set ∧ set < zp2 n → zWy pr n w set f → zds pr n w set ≠ -1 ∧ zds pr n w set ≤ zsm2 pr f set n.toNat := by
  induction w with
  | zero =>
    intro set f hs hf
    by_cases e : set = 0
    · rw [e, zds_0, zsm2_0]
      omega
    · exfalso
      obtain ⟨b, hb, h⟩ := zbit_nz (n := n.toNat) (x := set) (by rw [show ((n.toNat : Nat) : Int) = n by omega]; omega)
      have := (hf b (by omega) h).1
      omega
  | succ w ih =>
    intro set f hs hf
    have hp1 : ∀ k b : Nat, k < w → (b : Int) < n → -1 ≤ pr k b := fun k b hk hb => hp k b (by omega) hb
    by_cases e0 : set = 0
    · rw [e0, zds_0, zsm2_0]
      omega
    have h2 := zrl_2 (j := set) (zds_1 (pr := pr) (n := n) w hp1) n.toNat (fun b hb => hp w b (by omega) (by omega))
    unfold zds
    rw [if_pos (by omega)]
    by_cases e : ∃ b, (0 ≤ b ∧ b < n) ∧ zbit set b = 1 ∧ f b = w
    · obtain ⟨b, hb, hbit, hfb⟩ := e
      have hb2 := zbit_lt hs.1 hbit
      have hpb := zp2_pos b
      have hw : zWy pr n w (set - zp2 b) f := by
        intro c hc hcb
        rw [zbit_set hs.1 hb.1 hc.1 hbit] at hcb
        by_cases q : c = b
        · rw [if_pos q] at hcb
          omega
        · rw [if_neg q] at hcb
          have h3 := hf c hc hcb
          have h4 := h3.2.2 b hb hbit (by omega)
          refine ⟨by omega, h3.2.1, fun d hd hdb hdc => ?_⟩
          rw [zbit_set hs.1 hb.1 hd.1 hbit] at hdb
          by_cases q2 : d = b
          · rw [if_pos q2] at hdb
            omega
          · rw [if_neg q2] at hdb
            exact h3.2.2 d hd hdb hdc
      have h3 := ih hp1 (set - zp2 b) f (by omega) hw
      have h4 := (hf b hb hbit).2.1
      rw [hfb] at h4
      have h5 := h2.2 b.toNat (by omega)
      rw [show ((b.toNat : Nat) : Int) = b by omega] at h5
      have h6 := h5 hbit h3.1 h4
      refine ⟨h6.1, ?_⟩
      rw [zsm2_b hs.1 hb.1 hbit, if_pos (by omega), hfb]
      omega
    · have hw : zWy pr n w set f := by
        intro c hc hcb
        have h3 := hf c hc hcb
        refine ⟨⟨h3.1.1, ?_⟩, h3.2⟩
        by_cases q : f c = w
        · exact absurd ⟨c, hc, hcb, q⟩ e
        · omega
      have h3 := ih hp1 set f hs hw
      have h4 := h2.1 h3.1
      exact ⟨h4.1, by omega⟩
theorem zds_e {pr : Int → Int → Int} {n : Int} (hn : 0 ≤ n ∧ n ≤ 7) (w : Nat) : ∀ set, 0 ≤ set ∧ set < zp2 n → zds pr n w set ≠ -1 → ∃ f, zWy pr n w set f ∧ zds pr n w set = zsm2 pr f set n.toNat := by
  induction w with
  | zero =>
    intro set hs h
    by_cases e : set = 0
    · refine ⟨fun _ => 0, fun b _ hb => ?_, ?_⟩
      · rw [e, zbit_0] at hb
        omega
      · rw [e, zds_0, zsm2_0]
    · exact absurd (if_neg e) h
  | succ w ih =>
    intro set hs h
    by_cases e0 : set = 0
    · refine ⟨fun _ => 0, fun b _ hb => ?_, ?_⟩
      · rw [e0, zbit_0] at hb
        omega
      · rw [e0, zds_0, zsm2_0]
    have ed : zds pr n (w + 1) set = zrl (zds pr n w) (pr w) set n.toNat := if_pos (by omega)
    rw [ed] at h ⊢
    rcases zrl_3 n.toNat h with q | ⟨b, hb, hbit, hL, hpb, q⟩
    · rw [q] at h ⊢
      obtain ⟨f, h1, h2⟩ := ih set hs h
      refine ⟨f, fun c hc hcb => ?_, h2⟩
      have := h1 c hc hcb
      exact ⟨by omega, this.2⟩
    · rw [q]
      have hb2 := zbit_lt hs.1 hbit
      have hpb2 := zp2_pos b
      obtain ⟨f, h1, h2⟩ := ih (set - zp2 b) (by omega) hL
      have hbi : ∀ c, 0 ≤ c → zbit (set - zp2 b) c = if c = (b : Int) then 0 else zbit set c := fun c hc => zbit_set hs.1 (by omega) hc hbit
      refine ⟨fun c => if c = (b : Int) then (w : Int) else f c, fun c hc hcb => ?_, ?_⟩
      · show (0 ≤ (if c = (b : Int) then (w : Int) else f c) ∧ (if c = (b : Int) then (w : Int) else f c) < _) ∧ pr (if c = (b : Int) then (w : Int) else f c) c ≠ -1 ∧ ∀ d, 0 ≤ d ∧ d < n → zbit set d = 1 → d ≠ c → (if d = (b : Int) then (w : Int) else f d) ≠ (if c = (b : Int) then (w : Int) else f c)
        by_cases e : c = (b : Int)
        · rw [if_pos e, e]
          refine ⟨by omega, hpb, fun d hd hdb hdc => ?_⟩
          rw [if_neg hdc]
          have := h1 d hd (by rw [hbi d hd.1, if_neg hdc]; exact hdb)
          omega
        · rw [if_neg e]
          have h3 := h1 c hc (by rw [hbi c hc.1, if_neg e]; exact hcb)
          refine ⟨by omega, h3.2.1, fun d hd hdb hdc => ?_⟩
          by_cases e2 : d = (b : Int)
          · rw [if_pos e2]
            omega
          · rw [if_neg e2]
            exact h3.2.2 d hd (by rw [hbi d hd.1, if_neg e2]; exact hdb) hdc
      · rw [zsm2_b hs.1 (by omega) hbit, if_pos (show (b : Int) < (n.toNat : Nat) by omega), h2]
        show _ = _ + pr (if (b : Int) = (b : Int) then (w : Int) else f b) b
        rw [if_pos rfl]
        congr 1
        refine zsm2_c _ (fun c hc => ⟨Iff.rfl, fun hcb => ?_⟩)
        rw [hbi c (by omega)] at hcb
        by_cases e : (c : Int) = (b : Int)
        · rw [if_pos e] at hcb
          omega
        · show _ = pr (if (c : Int) = (b : Int) then (w : Int) else f c) c
          rw [if_neg e]
/-- shoes that are not there may be left out -/
theorem zcnt_m {p : Int → Prop} [DecidablePred p] {a b : Nat} (h : a ≤ b) : zcnt p a ≤ zcnt p b := by
  induction b with
  | zero => rw [show a = 0 by omega]; exact Int.le_refl _
  | succ b ih =>
    by_cases e : a = b + 1
    · rw [e]; exact Int.le_refl _
    · have h1 := ih (by omega)
      conv => rhs; unfold zcnt
      split <;> omega
theorem zrl_n {L p : Int → Int} {j : Int} (n : Nat) (hp : ∀ b : Nat, b < n → p b = -1) : zrl L p j n = L j := by
  induction n with
  | zero => rfl
  | succ n ih =>
    have e0 : zrl L p j (n + 1) = zrel (zrl L p j n) (if zbit j n = 1 then L (j - zp2 n) else -1) (p n) := rfl
    rw [e0, hp n (by omega)]
    unfold zrel
    rw [if_pos (Or.inr rfl)]
    exact ih (fun b hb => hp b (by omega))
theorem zrl_p {L p p2 : Int → Int} {j : Int} (n : Nat) (hp : ∀ b : Nat, b < n → p b = p2 b) : zrl L p j n = zrl L p2 j n := by
  induction n with
  | zero => rfl
  | succ n ih =>
    have e0 : zrl L p j (n + 1) = zrel (zrl L p j n) (if zbit j n = 1 then L (j - zp2 n) else -1) (p n) := rfl
    have e1 : zrl L p2 j (n + 1) = zrel (zrl L p2 j n) (if zbit j n = 1 then L (j - zp2 n) else -1) (p2 n) := rfl
    rw [e0, e1, hp n (by omega), ih (fun b hb => hp b (by omega))]
theorem zds_p {pr p2 : Int → Int → Int} {n : Int} (w : Nat) (hp : ∀ k b : Nat, k < w → (b : Int) < n → pr k b = p2 k b) : zds pr n w = zds p2 n w := by
  induction w with
  | zero => rfl
  | succ w ih =>
    funext j
    unfold zds
    rw [ih (fun k b hk hb => hp k b (by omega) hb), zrl_p _ (fun b hb => hp w b (by omega) (by omega))]
/-- W lists those of the first s for which p holds -/
def zlst2 (p : Int → Prop) [DecidablePred p] (W : Int → Int) (s : Int) : Prop := ∀ k, 0 ≤ k ∧ k < zcnt p s.toNat → (0 ≤ W k ∧ W k < s) ∧ p (W k) ∧ zcnt p (W k).toNat = k
theorem zds_w {p : Int → Prop} [DecidablePred p] {pr : Int → Int → Int} {n : Int} {W : Int → Int} (s : Nat) (hW : zlst2 p W s) (hp : ∀ k b : Nat, k < s → (b : Int) < n → ¬ p k → pr k b = -1) : zds pr n s = zds (fun k b => pr (W k) b) n (zcnt p s).toNat := by
  induction s with
  | zero => rfl
  | succ s ih =>
    have hc := zcnt_b p s
    have hW1 : zlst2 p W s := by
      intro k hk
      rw [Int.toNat_natCast] at hk
      have h1 : zcnt p s ≤ zcnt p (s + 1) := zcnt_m (by omega)
      have h2 := hW k (by rw [Int.toNat_natCast]; omega)
      refine ⟨⟨h2.1.1, ?_⟩, h2.2⟩
      by_cases e : W k = s
      · have h3 := h2.2.2
        rw [e, Int.toNat_natCast] at h3
        omega
      · omega
    have ih := ih hW1 (fun k b hk hb => hp k b (by omega) hb)
    have e1 : zcnt p (s + 1) = zcnt p s + if p s then 1 else 0 := rfl
    funext j
    by_cases e : p s
    · rw [e1, if_pos e, show (zcnt p s + 1).toNat = (zcnt p s).toNat + 1 by omega]
      have hWs : W (zcnt p s) = s := by
        have h2 := hW (zcnt p s) (by rw [Int.toNat_natCast, e1, if_pos e]; omega)
        by_cases q : W (zcnt p s) = s
        · exact q
        · exfalso
          have h3 : zcnt p ((W (zcnt p s)).toNat + 1) ≤ zcnt p s := zcnt_m (by omega)
          have h4 : zcnt p ((W (zcnt p s)).toNat + 1) = zcnt p (W (zcnt p s)).toNat + if p ((W (zcnt p s)).toNat : Nat) then 1 else 0 := rfl
          rw [show (((W (zcnt p s)).toNat : Nat) : Int) = W (zcnt p s) by omega, if_pos h2.2.1, h2.2.2] at h4
          omega
      unfold zds
      rw [ih, show (((zcnt p s).toNat : Nat) : Int) = zcnt p s by omega, hWs]
    · rw [e1, if_neg e, Int.add_zero, ← ih]
      show (if 0 < j ∧ j < zp2 n then zrl (zds pr n s) (pr s) j n.toNat else zds pr n s j) = zds pr n s j
      split
      · exact zrl_n n.toNat (fun b hb => hp s b (by omega) (by omega) e)
      · rfl
