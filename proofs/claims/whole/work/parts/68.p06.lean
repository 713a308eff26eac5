/-! pure: shoes that were changed -/
theorem zcp_a {F : List Nat → Bool} (a b : List (List Nat)) : zcp F (zapd a b) = zcp F a + zcp F b := by
  induction a with
  | nil =>
    show zcp F b = 0 + zcp F b
    omega
  | cons p a ih =>
    show (if F p = true then zcp F (zapd a b) + 1 else zcp F (zapd a b)) = (if F p = true then zcp F a + 1 else zcp F a) + zcp F b
    rw [ih]
    split <;> omega
theorem zff_a {F : List Nat → Bool} (a b : List (List Nat)) : zff F (zapd a b) = if zcp F a = 0 then zff F b else zff F a := by
  induction a with
  | nil => exact (if_pos rfl).symm
  | cons p a ih =>
    show (if F p = true then p else zff F (zapd a b)) = if (if F p = true then zcp F a + 1 else zcp F a) = 0 then zff F b else (if F p = true then p else zff F a)
    by_cases e : F p = true
    · rw [if_pos e, if_pos e, if_pos e, if_neg (by omega)]
    · rw [if_neg e, if_neg e, if_neg e, ih]
theorem zcp_p {c : Int → Int → Bool} {b : Int} {t : Nat} (L : List (List Nat)) : zcp (zokl c b) (zpre t L) = if c b t = true then zcp (zokl c (b + 1)) L else 0 := by
  induction L with
  | nil =>
    show 0 = if c b t = true then 0 else 0
    split <;> rfl
  | cons p L ih =>
    show (if (c b t && zokl c (b + 1) p) = true then zcp (zokl c b) (zpre t L) + 1 else zcp (zokl c b) (zpre t L)) = if c b t = true then (if zokl c (b + 1) p = true then zcp (zokl c (b + 1)) L + 1 else zcp (zokl c (b + 1)) L) else 0
    have hand : (c b t && zokl c (b + 1) p) = true ↔ c b t = true ∧ zokl c (b + 1) p = true := by rw [Bool.and_eq_true]
    rw [ih]
    by_cases e : c b t = true
    · rw [if_pos e, if_pos e]
      by_cases q : zokl c (b + 1) p = true
      · rw [if_pos q, if_pos (hand.2 ⟨e, q⟩)]
      · rw [if_neg q, if_neg (fun z => q (hand.1 z).2)]
    · rw [if_neg (fun z => e (hand.1 z).1), if_neg e, if_neg e]
theorem zff_p {c : Int → Int → Bool} {b : Int} {t : Nat} (L : List (List Nat)) (h : zcp (zokl c b) (zpre t L) ≠ 0) : zff (zokl c b) (zpre t L) = t :: zff (zokl c (b + 1)) L := by
  induction L with
  | nil => exact absurd rfl h
  | cons p L ih =>
    have e : c b t = true := by
      by_cases q : c b t = true
      · exact q
      · rw [zcp_p, if_neg q] at h
        exact absurd rfl h
    show (if (c b t && zokl c (b + 1) p) = true then t :: p else zff (zokl c b) (zpre t L)) = t :: (if zokl c (b + 1) p = true then p else zff (zokl c (b + 1)) L)
    have hand : (c b t && zokl c (b + 1) p) = true ↔ c b t = true ∧ zokl c (b + 1) p = true := by rw [Bool.and_eq_true]
    by_cases q : zokl c (b + 1) p = true
    · rw [if_pos q, if_pos (hand.2 ⟨e, q⟩)]
    · rw [if_neg q, if_neg (fun z => q (hand.1 z).2)]
      refine ih ?_
      rw [zcp_p, if_pos e] at h ⊢
      have h : (if zokl c (b + 1) p = true then zcp (zokl c (b + 1)) L + 1 else zcp (zokl c (b + 1)) L) ≠ 0 := h
      rw [if_neg q] at h
      exact h
theorem zone_f : ∀ n : Fin 7, zone (zp2 (n.val : Int) - 1) = (n.val : Int) := by decide +kernel
/-- the counts by sets are the numbers of rows -/
theorem zRow_c {c : Int → Int → Bool} {m R : Int → Int} {n : Int} (hn : 1 ≤ n ∧ n ≤ 6) (hm : ∀ b, 0 ≤ b ∧ b < n → 0 ≤ m b ∧ m b < 64) (hc : ∀ b t, 0 ≤ b ∧ b < n → 0 ≤ t ∧ t < n → (c b t = true ↔ zbit (m b) t = 1)) (H : zRow m n R (-1)) (k : Nat) : ∀ h, 0 ≤ h ∧ h < zp2 n → zone h + k = n → R h = ((zcp (zokl c (zone h)) (zpm n.toNat k h) : Nat) : Int) := by
  have h64 : zp2 n ≤ 64 := zp2_le (b := 6) hn.2
  induction k with
  | zero =>
    intro h hh hz
    have h1 := zone_l h n (by omega) hh
    rw [(H h (by omega)).1]
    show (if h = zp2 n - 1 then 1 else _) = _
    rw [if_pos (by omega)]
    rfl
  | succ k ih =>
    intro h hh hz
    have h1 := zone_l h n (by omega) hh
    have hne : h ≠ zp2 n - 1 := by
      intro q
      have h2 := zone_f ⟨n.toNat, by omega⟩
      have h2 : zone (zp2 ((n.toNat : Nat) : Int) - 1) = ((n.toNat : Nat) : Int) := h2
      rw [show ((n.toNat : Nat) : Int) = n by omega, ← q] at h2
      omega
    rw [(H h (by omega)).1]
    show (if h = zp2 n - 1 then 1 else zsmo (zsb (m (zone h)) h) R h n.toNat) = _
    rw [if_neg hne]
    have key : ∀ t : Nat, t ≤ n.toNat → zsmo (zsb (m (zone h)) h) R h t = ((zcp (zokl c (zone h)) (zpe (fun t => if zbit h t = 0 then zpre t (zpm n.toNat k (h + zp2 t)) else []) t) : Nat) : Int) := by
      intro t
      induction t with
      | zero => exact fun _ => rfl
      | succ t iht =>
        intro ht
        have iht := iht (by omega)
        show (if zbit (zsb (m (zone h)) h) t = 1 then zsmo (zsb (m (zone h)) h) R h t + R (h + zp2 t) else zsmo (zsb (m (zone h)) h) R h t) = ((zcp (zokl c (zone h)) (zapd (zpe (fun t => if zbit h t = 0 then zpre t (zpm n.toNat k (h + zp2 t)) else []) t) (if zbit h t = 0 then zpre t (zpm n.toNat k (h + zp2 t)) else [])) : Nat) : Int)
        rw [zcp_a, iht]
        have h2 := zsb_t (x := m (zone h)) (y := h) (t := t) (hm (zone h) (by omega)) (by omega) (by omega)
        have h3 := hc (zone h) t (by omega) (by omega)
        have h4 := zbit_b h t
        by_cases e : zbit h t = 0
        · rw [if_pos e, zcp_p]
          have h5 := zone_i h t (by omega) (by omega) e
          have h6 := zin_l (n := n) (by omega) hh (show 0 ≤ (t : Int) ∧ (t : Int) < n by omega) e
          have h7 := zp2_pos t
          by_cases q : c (zone h) t = true
          · rw [if_pos q, if_pos (h2.2 ⟨h3.1 q, e⟩), ih (h + zp2 t) (by omega) (by omega), h5]
            omega
          · rw [if_neg q, if_neg (fun z => q (h3.2 (h2.1 z).1))]
            omega
        · rw [if_neg e, if_neg (fun z => e (h2.1 z).2)]
          show _ = (((zcp (zokl c (zone h)) (zpe (fun t => if zbit h t = 0 then zpre t (zpm n.toNat k (h + zp2 t)) else []) t) + 0 : Nat)) : Int)
          omega
    exact key _ (Nat.le_refl _)
theorem zfr_e {x : Int} {R : Int → Int} {h t : Int} (ht : zbit x t = 1 ∧ 0 < R (zor h (zp2 t))) (k : Nat) : ∀ s, s ≤ t → t < s + k → (∀ j, s ≤ j ∧ j < t → ¬ (zbit x j = 1 ∧ 0 < R (zor h (zp2 j)))) → zfr x R h k s = t := by
  induction k with
  | zero => intro s h1 h2; omega
  | succ k ih =>
    intro s h1 h2 hno
    show (if zbit x s = 1 ∧ 0 < R (zor h (zp2 s)) then s else zfr x R h k (s + 1)) = t
    by_cases e : s = t
    · rw [e, if_pos ht]
    · rw [if_neg (hno s (by omega))]
      exact ih (s + 1) (by omega) (by omega) (fun j hj => hno j (by omega))
/-- the first row, place by place -/
theorem zRow_g {c : Int → Int → Bool} {m R : Int → Int} {n : Int} (hn : 1 ≤ n ∧ n ≤ 6) (hm : ∀ b, 0 ≤ b ∧ b < n → 0 ≤ m b ∧ m b < 64) (hc : ∀ b t, 0 ≤ b ∧ b < n → 0 ≤ t ∧ t < n → (c b t = true ↔ zbit (m b) t = 1)) (H : zRow m n R (-1)) (k : Nat) : ∀ b : Nat, (b : Int) + k = n → zone (zhd m R n b) = b → R (zhd m R n b) ≠ 0 → ∀ j : Nat, j < k → ((zgt (zff (zokl c b) (zpm n.toNat k (zhd m R n b))) j : Nat) : Int) = zfi m R n (b + j) := by
  have h64 : zp2 n ≤ 64 := zp2_le (b := 6) hn.2
  induction k with
  | zero => intro b _ _ _ j hj; omega
  | succ k ih =>
    intro b hb hz hR j hj
    obtain ⟨h, hh⟩ : ∃ h, zhd m R n b = h := ⟨_, rfl⟩
    have hhb := zhd_b (m := m) (R := R) hn b
    rw [hh] at hhb hz hR
    have hct := zRow_c hn hm hc H (k + 1) h hhb (by omega)
    rw [hz] at hct
    have key : ∀ t : Nat, t ≤ n.toNat → zcp (zokl c b) (zpe (fun t => if zbit h t = 0 then zpre t (zpm n.toNat k (h + zp2 t)) else []) t) ≠ 0 → ∃ u : Nat, u < t ∧ zbit h u = 0 ∧ (zbit (zsb (m b) h) u = 1 ∧ R (h + zp2 u) ≠ 0) ∧ (∀ v : Nat, v < u → ¬ (zbit (zsb (m b) h) v = 1 ∧ R (h + zp2 v) ≠ 0)) ∧ zff (zokl c b) (zpe (fun t => if zbit h t = 0 then zpre t (zpm n.toNat k (h + zp2 t)) else []) t) = u :: zff (zokl c (b + 1)) (zpm n.toNat k (h + zp2 u)) := by
      have none : ∀ t : Nat, t ≤ n.toNat → zcp (zokl c b) (zpe (fun t => if zbit h t = 0 then zpre t (zpm n.toNat k (h + zp2 t)) else []) t) = 0 → ∀ v : Nat, v < t → ¬ (zbit (zsb (m b) h) v = 1 ∧ R (h + zp2 v) ≠ 0) := by
        intro t
        induction t with
        | zero => intro _ _ v hv; omega
        | succ t iht =>
          intro ht h0 v hv
          have h0 : zcp (zokl c b) (zapd (zpe (fun t => if zbit h t = 0 then zpre t (zpm n.toNat k (h + zp2 t)) else []) t) (if zbit h t = 0 then zpre t (zpm n.toNat k (h + zp2 t)) else [])) = 0 := h0
          rw [zcp_a] at h0
          by_cases e : v = t
          · rw [e]
            rintro ⟨q1, q2⟩
            have h2 := zsb_t (x := m b) (y := h) (t := t) (hm b (by omega)) (by omega) (by omega)
            have h3 := (h2.1 q1)
            have h4 := (hc b t (by omega) (by omega)).2 h3.1
            have h5 := zone_i h t (by omega) (by omega) h3.2
            have h6 := zin_l (n := n) (by omega) hhb (show 0 ≤ (t : Int) ∧ (t : Int) < n by omega) h3.2
            have h7 := zp2_pos t
            have h8 := zRow_c hn hm hc H k (h + zp2 t) (by omega) (by omega)
            rw [if_pos h3.2, zcp_p, if_pos h4] at h0
            rw [h5, hz] at h8
            omega
          · exact iht (by omega) (by omega) v (by omega)
      intro t
      induction t with
      | zero => exact fun _ h0 => absurd rfl h0
      | succ t iht =>
        intro ht h0
        have e0 : zpe (fun t => if zbit h t = 0 then zpre t (zpm n.toNat k (h + zp2 t)) else []) (t + 1) = zapd (zpe (fun t => if zbit h t = 0 then zpre t (zpm n.toNat k (h + zp2 t)) else []) t) (if zbit h t = 0 then zpre t (zpm n.toNat k (h + zp2 t)) else []) := rfl
        rw [e0, zcp_a] at h0
        rw [e0, zff_a]
        by_cases e : zcp (zokl c b) (zpe (fun t => if zbit h t = 0 then zpre t (zpm n.toNat k (h + zp2 t)) else []) t) = 0
        · rw [if_pos e]
          have hno := none t (by omega) e
          rw [e] at h0
          by_cases q : zbit h t = 0
          · rw [if_pos q] at h0 ⊢
            have h1 := h0
            rw [Nat.zero_add, zcp_p] at h1
            have h4 : c b t = true := by
              by_cases z : c b t = true
              · exact z
              · rw [if_neg z] at h1
                exact absurd rfl h1
            rw [if_pos h4] at h1
            have h5 := zone_i h t (by omega) (by omega) q
            have h6 := zin_l (n := n) (by omega) hhb (show 0 ≤ (t : Int) ∧ (t : Int) < n by omega) q
            have h7 := zp2_pos t
            have h8 := zRow_c hn hm hc H k (h + zp2 t) (by omega) (by omega)
            rw [h5, hz] at h8
            have h2 := zsb_t (x := m b) (y := h) (t := t) (hm b (by omega)) (by omega) (by omega)
            refine ⟨t, by omega, q, ⟨h2.2 ⟨(hc b t (by omega) (by omega)).1 h4, q⟩, by omega⟩, hno, ?_⟩
            exact zff_p _ (by omega)
          · rw [if_neg q] at h0
            exact absurd rfl h0
        · rw [if_neg e]
          obtain ⟨u, u1, u2⟩ := iht (by omega) e
          exact ⟨u, by omega, u2⟩
    obtain ⟨u, u1, u2, u3, u4, u5⟩ := key n.toNat (Nat.le_refl _) (by
      have e0 : zpm n.toNat (k + 1) h = zpe (fun t => if zbit h t = 0 then zpre t (zpm n.toNat k (h + zp2 t)) else []) n.toNat := rfl
      rw [e0] at hct
      omega)
    have hor : ∀ v : Int, 0 ≤ v ∧ v < n → zbit h v = 0 → zor h (zp2 v) = h + zp2 v := fun v hv q => zor_in (by omega) (by omega) q
    have hRn : ∀ i, 0 ≤ i ∧ i < zp2 n → 0 ≤ R i := fun i hi => (H i (by omega)).2.1
    have h6 := zin_l (n := n) (by omega) hhb (show 0 ≤ (u : Int) ∧ (u : Int) < n by omega) u2
    have h7 := zp2_pos u
    have hfr : zfr (zsb (m b) h) R h n.toNat 0 = u := by
      refine zfr_e ⟨u3.1, ?_⟩ n.toNat 0 (by omega) (by omega) (fun v hv => ?_)
      · rw [hor u (by omega) u2]
        have := hRn (h + zp2 u) (by omega)
        have := u3.2
        omega
      · rintro ⟨q1, q2⟩
        have h2 := zsb_t (x := m b) (y := h) (t := v) (hm b (by omega)) (by omega) (by omega)
        rw [hor v (by omega) (h2.1 q1).2] at q2
        have := u4 v.toNat (by omega)
        rw [show ((v.toNat : Nat) : Int) = v by omega] at this
        exact this ⟨q1, by omega⟩
    have ezfi : zfi m R n b = u := by
      unfold zfi
      rw [Int.toNat_natCast, hh]
      exact hfr
    have ehd : zhd m R n (b + 1) = h + zp2 u := by
      show zor (zhd m R n b) (zp2 (zfr (zsb (m b) (zhd m R n b)) R (zhd m R n b) n.toNat 0)) = _
      rw [hh, hfr, hor u (by omega) u2]
    rw [hh]
    have e0 : zpm n.toNat (k + 1) h = zpe (fun t => if zbit h t = 0 then zpre t (zpm n.toNat k (h + zp2 t)) else []) n.toNat := rfl
    rw [e0, u5]
    cases j with
    | zero =>
      show (u : Int) = zfi m R n (b + ((0 : Nat) : Int))
      rw [show (b : Int) + ((0 : Nat) : Int) = b by omega, ezfi]
    | succ j =>
      show ((zgt (zff (zokl c (b + 1)) (zpm n.toNat k (h + zp2 u))) j : Nat) : Int) = zfi m R n (b + ((j + 1 : Nat) : Int))
      have h5 := zone_i h u (by omega) (by omega) u2
      have := ih (b + 1) (by omega) (by rw [ehd]; omega) (by rw [ehd]; exact u3.2) j (by omega)
      rw [ehd, show ((b + 1 : Nat) : Int) = (b : Int) + 1 by omega] at this
      rw [this, show (b : Int) + ((j + 1 : Nat) : Int) = (b : Int) + 1 + (j : Int) by omega]
theorem zmay_t {g : Int → Int} {v : Int} (k : Nat) (hk : k ≤ 6) : ∀ t : Int, 0 ≤ t ∧ t < k → (zbit (zmay g v k) t = 1 ↔ g t = v) := by
  induction k with
  | zero => intro t ht; omega
  | succ k ih =>
    intro t ht
    have hb := zmay_b g v k
    have hl : zbit (zmay g v k) k = 0 := zbit_low hb
    show zbit (if g k = v then zmay g v k + zp2 k else zmay g v k) t = 1 ↔ g t = v
    by_cases e : t = k
    · rw [e]
      by_cases q : g k = v
      · rw [if_pos q, zbit_s hb.1 hl]
        exact ⟨fun _ => q, fun _ => rfl⟩
      · rw [if_neg q, hl]
        exact ⟨fun z => by omega, fun z => absurd z q⟩
    · have h1 := ih (by omega) t (by omega)
      by_cases q : g k = v
      · rw [if_pos q, zbit_o hb.1 (by omega) ht.1 (by omega) hl]
        exact h1
      · rw [if_neg q]
        exact h1
