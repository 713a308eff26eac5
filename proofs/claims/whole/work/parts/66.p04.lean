/-! pure: chains, the most, tries -/
theorem r_cha {M M1 : zM} {s : Int} {L : Int → Int} (hb : zRb M) (hs : zRs M) (hg : zRg M) (hsn : 0 ≤ s ∧ s < M 200 3) (h : zWay M M1 (M 202 (4 * s))) (hL1 : M1 214 0 < 1000000) (hl : zLst (zchA M1 s) (M 200 2) (M1 200 11) L (-1)) : (1000000 ≤ L 0 → zcha M s = -1) ∧ (L 0 < 1000000 → zcha M s = L 0) := by
  obtain ⟨sa, s0, s1, s2, s3⟩ := hs.2.2 s hsn
  have hw := r_way hb hs hg h
  obtain ⟨hall, hall2, hown⟩ := hw.2 hL1
  obtain ⟨_, _, hwc, hwh, has, _, _⟩ := h
  obtain ⟨d, hd⟩ : ∃ d, M 202 (4 * s) = d := ⟨_, rfl⟩
  rw [hd] at hall hall2 hown hwc hwh s0
  have hb2 := hb.2.1
  have hs2 := hs.2.1
  have cb := zcnt_b (zMP M d) (M 200 3).toNat
  have hds := zR_ds hs hb hwh (zchg (zkey (zak M d)) (zshe (zall M d)) s) (fun s2 b hs1 _ hn => by
    unfold zchg zkey
    rw [zR_n hs hs1 hn, if_pos (Or.inr (if_pos rfl))])
  have ech : zcha M s = zds (fun k b => zchg (zkey (zak M d)) (zshe (zall M d)) s (M1 211 k) b) (M 200 2) (M1 200 11).toNat (zp2 (M 200 2) - 1) := by
    unfold zcha zbst
    rw [s0, hds, hb.1, hwc]
  rw [ech]
  refine zchn_m hb2 (by omega) hl (fun b k => zchA_b.2) (fun k b hbn hk => ?_)
  have h1 := hwh k (by omega)
  have h2 := zR_a hb hs hg hbn h1.1 h1.2.1
  have h3 := zask2_b (W := M1 211) hg b k
  have h4 := has b k hbn hk
  have hz := zp2_pos (4 * (6 - b))
  have h5 := Int.mul_nonneg h1.1.1 (show 0 ≤ zp2 (4 * (6 - b)) by omega)
  show zchg (zkey (zak M d)) (zshe (zall M d)) s (M1 211 k) b = _
  unfold zchg zkey zchA
  rw [h2, h4, hown b hbn]
  by_cases e1 : M1 211 k = s
  · rw [if_pos (Or.inl e1), if_pos (Or.inr e1), if_pos (by omega)]
  · by_cases e2 : zask2 M (M1 211) b k = -4
    · rw [if_pos (Or.inr (if_pos e2)), if_pos (Or.inl (by omega)), if_pos (by omega)]
    · rw [if_neg (fun q => by
        rcases q with q | q
        · exact e1 q
        · rw [if_neg e2] at q
          omega), if_neg (show ¬ (zask2 M (M1 211) b k < 0 ∨ M1 211 k = s) by omega)]
      by_cases e3 : M1 215 b = M1 211 k
      · rw [if_pos e3, if_neg (by omega)]
      · rw [if_neg e3, if_neg (by omega)]
theorem zcr_rl {C L a p : Int → Int} {j : Int} (hj : 0 ≤ j) (hL : ∀ i, -1 ≤ L i) (h : ∀ i, 0 ≤ i ∧ i ≤ j → (C i ≠ 0 ↔ L i ≠ -1)) (n : Nat) (hp : ∀ b : Nat, b < n → -1 ≤ p b ∧ (p b ≠ -1 ↔ 0 ≤ a b)) : zcr C a j n ≠ 0 ↔ zrl L p j n ≠ -1 := by
  induction n with
  | zero => exact h j ⟨hj, Int.le_refl _⟩
  | succ n ih =>
    have ih := ih (fun b hb => hp b (by omega))
    have h1 := hp n (by omega)
    have h2 := zrl_1 (j := j) hL n (fun b hb => (hp b (by omega)).1)
    have e0 : zrl L p j (n + 1) = zrel (zrl L p j n) (if zbit j n = 1 then L (j - zp2 n) else -1) (p n) := rfl
    have e1 : zcr C a j (n + 1) = if zcr C a j n ≠ 0 ∨ (zbit j n = 1 ∧ 0 ≤ a n ∧ C (j - zp2 n) ≠ 0) then 1 else 0 := rfl
    rw [e0, e1]
    unfold zrel
    by_cases e : zbit j n = 1
    · have h3 := zbit_lt hj e
      have h4 := zp2_pos n
      have h5 := h (j - zp2 n) (by omega)
      have h6 := hL (j - zp2 n)
      rw [if_pos e]
      by_cases q : L (j - zp2 n) = -1 ∨ p n = -1
      · rw [if_pos q]
        by_cases r : zcr C a j n ≠ 0
        · rw [if_pos (Or.inl r)]
          exact ⟨fun _ => ih.1 r, fun _ => by omega⟩
        · rw [if_neg (fun z => by
            rcases z with z | ⟨_, z1, z2⟩
            · exact r z
            · rcases q with q | q
              · exact (h5.1 z2) q
              · exact (h1.2.2 z1) q)]
          exact ⟨fun z => absurd rfl z, fun z => absurd (ih.2 z) r⟩
      · rw [if_neg q, if_pos (Or.inr ⟨e, h1.2.1 (fun z => q (Or.inr z)), h5.2 (fun z => q (Or.inl z))⟩)]
        refine ⟨fun _ => ?_, fun _ => by omega⟩
        split <;> omega
    · rw [if_neg e, if_pos (Or.inl rfl)]
      by_cases r : zcr C a j n ≠ 0
      · rw [if_pos (Or.inl r)]
        exact ⟨fun _ => ih.1 r, fun _ => by omega⟩
      · rw [if_neg (fun z => by
          rcases z with z | ⟨z, _⟩
          · exact r z
          · exact e z)]
        exact ⟨fun z => absurd rfl z, fun z => absurd (ih.2 z) r⟩
theorem zcn_ds {B : Int → Int → Int} {pr : Int → Int → Int} {n : Int} (k : Nat) (hp : ∀ q b : Nat, q < k → (b : Int) < n → -1 ≤ pr q b ∧ (pr q b ≠ -1 ↔ 0 ≤ B b q)) : ∀ j, 0 ≤ j → (zcn B n k j ≠ 0 ↔ zds pr n k j ≠ -1) := by
  induction k with
  | zero =>
    intro j hj
    show (if j = 0 then (1 : Int) else 0) ≠ 0 ↔ (if j = 0 then (0 : Int) else -1) ≠ -1
    by_cases e : j = 0
    · rw [if_pos e, if_pos e]
      omega
    · rw [if_neg e, if_neg e]
      omega
  | succ k ih =>
    intro j hj
    have ih := ih (fun q b hq hb => hp q b (by omega) hb)
    show (if 0 < j ∧ j < zp2 n then zcr (zcn B n k) (fun b => B b k) j n.toNat else zcn B n k j) ≠ 0 ↔ (if 0 < j ∧ j < zp2 n then zrl (zds pr n k) (pr k) j n.toNat else zds pr n k j) ≠ -1
    by_cases e : 0 < j ∧ j < zp2 n
    · rw [if_pos e, if_pos e]
      exact zcr_rl hj (zds_1 k (fun q b hq hb => (hp q b (by omega) hb).1)) (fun i hi => ih i hi.1) _ (fun b hb => hp k b (by omega) (by omega))
    · rw [if_neg e, if_neg e]
      exact ih j hj
theorem zmst_m {C L : Int → Int} (n : Nat) (h : ∀ j : Nat, j < n → (C j ≠ 0 ↔ L j ≠ -1)) : zmst L n = zmsm C n := by
  induction n with
  | zero => rfl
  | succ n ih =>
    have ih := ih (fun j hj => h j (by omega))
    have h1 := h n (by omega)
    show (if L n = -1 then zmst L n else zmax (zmst L n) (zone n)) = (if C n ≠ 0 ∧ zmsm C n < zone n then zone n else zmsm C n)
    rw [ih]
    by_cases e : L n = -1
    · rw [if_pos e, if_neg (fun z => h1.1 z.1 e)]
    · rw [if_neg e]
      have h2 := h1.2 e
      by_cases q : zmsm C n < zone n
      · rw [if_pos ⟨h2, q⟩]
        unfold zmax
        split <;> omega
      · rw [if_neg (fun z => q z.2)]
        unfold zmax
        split <;> omega
theorem r_most {M : zM} {d : Int} {W : Int → Int} (hb : zRb M) (hs : zRs M) (hg : zRg M) (hw : zwhc M d W (M 200 3)) : zmst (zds (zkey (zak M d)) (M 1 3) (M 1 4).toNat) (zp2 (M 1 3)).toNat = zmsm (zcn (zask2 M W) (M 200 2) (zcnt (zMP M d) (M 200 3).toNat).toNat) (zp2 (M 200 2)).toNat := by
  have hb2 := hb.2.1
  have hs2 := hs.2.1
  have cb := zcnt_b (zMP M d) (M 200 3).toNat
  have hds := zR_ds hs hb hw (zkey (zak M d)) (fun s b hs1 _ hn => by unfold zkey; rw [zR_n hs hs1 hn, if_pos rfl])
  rw [hds, hb.1]
  refine zmst_m _ (fun j hj => zcn_ds _ (fun k b hk hbn => ?_) j (by omega))
  have h1 := hw k (by omega)
  have h2 := zR_a hb hs hg (show 0 ≤ (b : Int) ∧ (b : Int) < M 200 2 by omega) h1.1 h1.2.1
  have h3 := zask2_b (W := W) hg b k
  have hz := zp2_pos (4 * (6 - (b : Int)))
  have h5 := Int.mul_nonneg h1.1.1 (show 0 ≤ zp2 (4 * (6 - (b : Int))) by omega)
  show -1 ≤ zkey (zak M d) (W k) b ∧ (zkey (zak M d) (W k) b ≠ -1 ↔ _)
  unfold zkey
  rw [h2]
  by_cases e : zask2 M W b k = -4
  · rw [if_pos e]
    omega
  · rw [if_neg e]
    omega
/-- sizes that are there -/
theorem zR_sz {M : zM} (hs : zRs M) {d : Int} (n : Nat) (hn : n ≤ M 200 3) : ∀ t, 20 ≤ t ∧ t ≤ 70 → zbit ((zctn M d n : Nat) : Int) (t - 20) = zhs M d n t := by
  induction n with
  | zero =>
    intro t _
    exact zbit_0 _
  | succ n ih =>
    intro t ht
    have ih := ih (by omega) t ht
    obtain ⟨⟨a1, a2, a3, a4⟩, s0, s1, s2, s3⟩ := hs.2.2 n (by omega)
    have hb1 := zbit_b ((zctn M d (n + 1) : Nat) : Int) (t - 20)
    have hb2 := zbit_b ((zctn M d n : Nat) : Int) (t - 20)
    have t1 := zbit_t (x := ((zctn M d (n + 1) : Nat) : Int)) (b := t - 20) (by omega)
    have t2 := zbit_t (x := ((zctn M d n : Nat) : Int)) (b := t - 20) (by omega)
    rw [Int.toNat_natCast] at t1 t2
    show _ = if t = M 202 (4 * n + 1) then (if zhs M d n t ≠ 0 ∨ zMP M d n then 1 else 0) else zhs M d n t
    have e0 : zctn M d (n + 1) = if M (12 + n) 0 = d ∧ M (12 + n) 3 = 0 then zctn M d n ||| 2 ^ (M (12 + n) 1 - 20).toNat else zctn M d n := rfl
    rw [← ih]
    by_cases e : zMP M d n
    · rw [if_pos ⟨by rw [s0]; exact e.1, by rw [s3]; exact e.2⟩] at e0
      rw [e0, Nat.testBit_or, Bool.or_eq_true, Nat.testBit_two_pow, decide_eq_true_eq] at t1
      by_cases q : t = M 202 (4 * n + 1)
      · rw [if_pos q, if_pos (Or.inr e)]
        rw [e0]
        exact t1.2 (Or.inr (by omega))
      · rw [if_neg q, e0]
        rw [e0] at hb1
        have h1 : zbit ((zctn M d n ||| 2 ^ (M (12 + n) 1 - 20).toNat : Nat) : Int) (t - 20) = 1 ↔ zbit ((zctn M d n : Nat) : Int) (t - 20) = 1 := by
          rw [t1, t2]
          constructor
          · rintro (h | h)
            · exact h
            · omega
          · exact Or.inl
        omega
    · rw [if_neg (fun z => e ⟨by rw [← s0]; exact z.1, by rw [← s3]; exact z.2⟩)] at e0
      rw [e0]
      by_cases q : t = M 202 (4 * n + 1)
      · rw [if_pos q]
        by_cases r : zbit ((zctn M d n : Nat) : Int) (t - 20) ≠ 0
        · rw [if_pos (Or.inl r)]
          omega
        · rw [if_neg (fun z => z.elim r e)]
          omega
      · rw [if_neg q]
/-- the model's and the class's fewest tries -/
def zT2 (x y m : Int) : Prop := (x = 1000000 ∧ y = 100) ∨ (x = y ∧ 0 ≤ x ∧ x ≤ m)
theorem zT2_by {C c : Int → Int} {U T : Int → Int → Int} {a b t m : Int} (hm : 0 ≤ m ∧ m ≤ 39) (hc : C t ≠ 0 ↔ c (t - 20) ≠ 0) (h1 : zT2 (U a (t - 1)) (T (a - 20) (t - 20)) m) (h2 : zT2 (U (t + 1) b) (T (t - 20 + 1) (b - 19)) m) : (zby c T (a - 20) (b - 19) (t - 20) = 100 ∧ (C t = 0 ∨ 1000000 ≤ zMB2 U a b t)) ∨ (C t ≠ 0 ∧ zby c T (a - 20) (b - 19) (t - 20) = zMB2 U a b t ∧ 1 ≤ zMB2 U a b t ∧ zMB2 U a b t ≤ m + 1) := by
  unfold zby zMB2
  by_cases e : C t = 0
  · refine Or.inl ⟨?_, Or.inl e⟩
    rw [if_pos]
    by_cases q : c (t - 20) = 0
    · exact q
    · exact absurd e (hc.2 q)
  · rw [if_neg (hc.1 e)]
    unfold zT2 at h1 h2
    unfold zmin zmax
    rcases h1 with h1 | h1
    · refine Or.inl ⟨?_, Or.inr ?_⟩
      · split <;> split <;> omega
      · split <;> omega
    · rcases h2 with h2 | h2
      · refine Or.inl ⟨?_, Or.inr ?_⟩
        · split <;> split <;> omega
        · split <;> omega
      · refine Or.inr ⟨e, ?_, ?_, ?_⟩
        · rw [← h1.1, ← h2.1]
          split <;> split <;> omega
        · split <;> omega
        · split <;> omega
theorem zT2_t {C c : Int → Int} {U T : Int → Int → Int} {a0 b0 : Int} (hab : 20 ≤ a0 ∧ a0 ≤ b0 ∧ b0 ≤ 60) (hc : ∀ t, 20 ≤ t ∧ t ≤ 70 → (C t ≠ 0 ↔ c (t - 20) ≠ 0)) (hU : zMTb C U 41 20) (hU0 : ∀ g h, h ≤ g → U g h = 0) (hT : zTab c T (a0 - 20) (b0 - 19) (b0 - a0 + 2) (a0 - 20)) (n : Nat) : ∀ a b, a0 ≤ a → b ≤ b0 → a ≤ b + 1 → b - a ≤ n → zT2 (U a b) (T (a - 20) (b - 19)) (if b ≤ a then 0 else b - a) := by
  induction n with
  | zero =>
    intro a b ha hb hab2 hn
    rw [if_pos (by omega)]
    refine Or.inr ⟨?_, ?_⟩
    · rw [hU0 a b (by omega), (hT (a - 20) (b - 19) (by omega)).1]
      exact (if_pos (by omega)).symm
    · rw [hU0 a b (by omega)]
      omega
  | succ n ih =>
    intro a b ha hb hab2 hn
    by_cases e : b ≤ a
    · rw [if_pos e]
      refine Or.inr ⟨?_, ?_⟩
      · rw [hU0 a b (by omega), (hT (a - 20) (b - 19) (by omega)).1]
        exact (if_pos (by omega)).symm
      · rw [hU0 a b (by omega)]
        omega
    · rw [if_neg e, (hU a b (by omega) (by omega) (by omega) (by omega)).1, (hT (a - 20) (b - 19) (by omega)).1]
      unfold zclF
      rw [if_neg (by omega), show b - 19 - (a - 20) = b - a + 1 by omega]
      have key : ∀ k : Nat, (k : Int) ≤ b - a + 1 → zT2 (zmf C U a b k) (zbf c T (a - 20) (b - 19) k) (b - a) := by
        intro k
        induction k with
        | zero => exact fun _ => Or.inl ⟨rfl, rfl⟩
        | succ k ihk =>
          intro hk
          have h0 := ihk (by omega)
          have h1 := ih a (a + k - 1) (by omega) (by omega) (by omega) (by omega)
          have h2 := ih (a + k + 1) b (by omega) (by omega) (by omega) (by omega)
          have w1 : zT2 (U a (a + k - 1)) (T (a - 20) (a + k - 20)) (b - a - 1) := by
            rw [show a + k - 1 - 19 = a + k - 20 by omega] at h1
            rcases h1 with h1 | h1
            · exact Or.inl h1
            · refine Or.inr ⟨h1.1, h1.2.1, ?_⟩
              have h3 := h1.2.2
              split at h3 <;> omega
          have w2 : zT2 (U (a + k + 1) b) (T (a + k - 20 + 1) (b - 19)) (b - a - 1) := by
            rw [show a + k + 1 - 20 = a + k - 20 + 1 by omega] at h2
            rcases h2 with h2 | h2
            · exact Or.inl h2
            · refine Or.inr ⟨h2.1, h2.2.1, ?_⟩
              have h3 := h2.2.2
              split at h3 <;> omega
          have h3 := zT2_by (by omega) (hc (a + k) (by omega)) w1 w2
          show zT2 (if zmn C U a b (a + k) < zmf C U a b k then zmn C U a b (a + k) else zmf C U a b k) (zmin (zbf c T (a - 20) (b - 19) k) (zby c T (a - 20) (b - 19) (a - 20 + k))) (b - a)
          rw [show a - 20 + (k : Int) = a + k - 20 by omega]
          unfold zmn zT2
          unfold zT2 at h0
          have hmn := zmin_b (zbf c T (a - 20) (b - 19) k) (zby c T (a - 20) (b - 19) (a + k - 20))
          rcases h3 with ⟨h3, h4⟩ | ⟨h3, h4⟩
          · by_cases q : C (a + k) ≠ 0
            · rw [if_pos q, if_neg (by omega)]
              omega
            · rw [if_neg q, if_neg (by omega)]
              omega
          · rw [if_pos h3]
            by_cases q : zMB2 U a b (a + k) < zmf C U a b k
            · rw [if_pos q]
              omega
            · rw [if_neg q]
              omega
      exact key _ (by omega)
theorem r_tries {C c : Int → Int} {U T : Int → Int → Int} {a b q x y : Int} (hab : 20 ≤ a ∧ a ≤ b ∧ b ≤ 60) (hc : ∀ t, 20 ≤ t ∧ t ≤ 70 → (C t ≠ 0 ↔ c (t - 20) ≠ 0)) (hU : zMTb C U 41 20) (hU0 : ∀ g h, h ≤ g → U g h = 0) (hT : zTab c T (a - 20) (b - 19) (b - a + 2) (a - 20)) (h1 : ztrs c T a b q x) (h2 : zmtr C U a b q y) : x = y := by
  have hr := zT2_t hab hc hU hU0 hT (b - a).toNat a b (by omega) (by omega) (by omega) (by omega)
  have hr2 : (U a b = 1000000 ∧ T (a - 20) (b - 19) = 100) ∨ (U a b = T (a - 20) (b - 19) ∧ 0 ≤ U a b ∧ U a b ≤ 40) := by
    rcases hr with h | h
    · exact Or.inl h
    · refine Or.inr ⟨h.1, h.2.1, ?_⟩
      have h3 := h.2.2
      split at h3 <;> omega
  unfold ztrs at h1
  unfold zmtr at h2
  rcases h1 with ⟨hq, h1⟩ | ⟨hq, h1⟩
  · rcases h2 with ⟨_, h2⟩ | ⟨hq2, _⟩
    · omega
    · omega
  · rcases h2 with ⟨hq2, _⟩ | ⟨_, h2⟩
    · omega
    · rcases h2 with h2 | ⟨h2, hx, hy, hn⟩
      · rcases h1 with h1 | ⟨h1, _⟩
        · omega
        · omega
      · rcases h1 with h1 | ⟨h1, hf⟩
        · omega
        · have hlt : a < b := by
            by_cases e : b ≤ a
            · have := hU0 a b e
              omega
            · omega
          have heq : U a b = T (a - 20) (b - 19) ∧ 0 ≤ U a b ∧ U a b ≤ 40 := by omega
          have hby : ∀ t, a ≤ t ∧ t ≤ b → ((C t ≠ 0 ∧ zMB2 U a b t = U a b) ↔ zby c T (a - 20) (b - 19) (t - 20) = T (a - 20) (b - 19)) := by
            intro t ht
            have e1 := zT2_t hab hc hU hU0 hT 40 a (t - 1) (by omega) (by omega) (by omega) (by omega)
            have e2 := zT2_t hab hc hU hU0 hT 40 (t + 1) b (by omega) (by omega) (by omega) (by omega)
            have w1 : zT2 (U a (t - 1)) (T (a - 20) (t - 20)) (b - a - 1) := by
              rw [show t - 1 - 19 = t - 20 by omega] at e1
              rcases e1 with e1 | e1
              · exact Or.inl e1
              · refine Or.inr ⟨e1.1, e1.2.1, ?_⟩
                have h3 := e1.2.2
                split at h3 <;> omega
            have w2 : zT2 (U (t + 1) b) (T (t - 20 + 1) (b - 19)) (b - a - 1) := by
              rw [show t + 1 - 20 = t - 20 + 1 by omega] at e2
              rcases e2 with e2 | e2
              · exact Or.inl e2
              · refine Or.inr ⟨e2.1, e2.2.1, ?_⟩
                have h3 := e2.2.2
                split at h3 <;> omega
            have h3 := zT2_by (by omega) (hc t (by omega)) w1 w2
            constructor
            · rintro ⟨z1, z2⟩
              omega
            · intro z
              omega
          rcases hf with ⟨k, hk, hk1, hk2, hk3⟩ | ⟨hno, _⟩
          · have z1 := (hby (k + 20) (by omega)).2 (by rw [show k + 20 - 20 = k by omega]; exact hk1)
            have z2 := (hby y (by omega)).1 hy
            by_cases e : k + 20 < y
            · exact absurd z1 (hn _ (by omega))
            · by_cases e2 : y < k + 20
              · exact absurd z2 (hk2 _ (by omega))
              · omega
          · exact absurd ((hby y (by omega)).1 hy) (hno _ (by omega))
