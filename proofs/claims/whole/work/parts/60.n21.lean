/-! pure: the asking of brides, in any order, ends in the same pairs -/
/-- the rows of brides hold each groom once, with its place; of two brides a groom ranks one higher -/
def zHR (L P : Int → Int → Int) (n : Int) : Prop := (∀ b, 0 ≤ b ∧ b < n → zdis (L b) n n ∧ ∀ j, 0 ≤ j ∧ j < n → P b (L b j) = j) ∧ ∀ g b c, 0 ≤ g ∧ g < n → 0 ≤ b ∧ b < n → 0 ≤ c ∧ c < n → P (n + g) b = P (n + g) c → b = c
/-- pairs that no two would leave together -/
def zstb (P : Int → Int → Int) (n : Int) (S : Int → Int) : Prop := (∀ b, 0 ≤ b ∧ b < n → 0 ≤ S b ∧ S b < n) ∧ (∀ b c, 0 ≤ b ∧ b < n → 0 ≤ c ∧ c < n → S b = S c → b = c) ∧ ∀ b c, 0 ≤ b ∧ b < n → 0 ≤ c ∧ c < n → P b (S c) < P b (S b) → P (n + S c) b < P (n + S c) c → False
/-- on the way: grooms, brides, how many were asked -/
def zIv1 (L : Int → Int → Int) (n : Int) (G W A : Int → Int) : Prop := ∀ b, 0 ≤ b ∧ b < n → (0 ≤ A b ∧ A b ≤ n) ∧ (G b < 0 ∨ (0 < A b ∧ G b = L b (A b - 1) ∧ W (G b) = b))
def zIv2 (n : Int) (G W : Int → Int) : Prop := ∀ g, 0 ≤ g ∧ g < n → W g < 0 ∨ ((0 ≤ W g ∧ W g < n) ∧ G (W g) = g)
def zIv3 (L P : Int → Int → Int) (n : Int) (W A : Int → Int) : Prop := ∀ b j, 0 ≤ b ∧ b < n → 0 ≤ j ∧ j < A b → 0 ≤ W (L b j) ∧ P (n + L b j) (W (L b j)) ≤ P (n + L b j) b
def zIv4 (L P : Int → Int → Int) (n : Int) (G A : Int → Int) : Prop := ∀ b j S, 0 ≤ b ∧ b < n → 0 ≤ j ∧ j < A b → L b j ≠ G b → zstb P n S → S b ≠ L b j
def zIv (L P : Int → Int → Int) (n : Int) (G W A : Int → Int) : Prop := zIv1 L n G W A ∧ zIv2 n G W ∧ zIv3 L P n W A ∧ zIv4 L P n G A
theorem zIv_0 {L P : Int → Int → Int} {n : Int} {G W A : Int → Int} (hn : 0 ≤ n) (h : ∀ i, 0 ≤ i ∧ i < n → G i < 0 ∧ W i < 0 ∧ A i = 0) : zIv L P n G W A :=
  ⟨fun b hb => ⟨by have := h b hb; omega, Or.inl (h b hb).1⟩, fun g hg => Or.inl (h g hg).2.1, fun b j hb hj => by have := h b hb; omega, fun b j S hb hj => by have := h b hb; omega⟩
/-- who is alone has someone left to ask -/
theorem zIv_a {L P : Int → Int → Int} {n b : Int} {G W A : Int → Int} (hn : 0 ≤ n) (hR : zHR L P n) (hI : zIv L P n G W A) (hb : 0 ≤ b ∧ b < n) (hG : G b < 0) : A b < n := by
  have h1 := (hI.1 b hb).1
  by_cases e : A b < n
  · exact e
  · exfalso
    have hall : ∀ t, 0 ≤ t ∧ t < n → 0 ≤ W t := by
      intro t ht
      obtain ⟨j, hj, q⟩ := zdis_in hn (hR.1 b hb).1 ht
      have := (hI.2.2.1 b j hb (by omega)).1
      rw [q] at this
      exact this
    have hd : zdis W n n := by
      refine ⟨fun t ht => ?_, fun t u htu q => ?_⟩
      · have h2 := hall t ht
        rcases hI.2.1 t ht with h | h
        · omega
        · exact h.1
      · have h2 := hall t (by omega)
        have h3 := hall u (by omega)
        have e1 : G (W t) = t := by
          rcases hI.2.1 t (by omega) with h | h
          · omega
          · exact h.2
        have e2 : G (W u) = u := by
          rcases hI.2.1 u (by omega) with h | h
          · omega
          · exact h.2
        rw [q, e2] at e1
        omega
    obtain ⟨t, ht, q⟩ := zdis_in hn hd hb
    have h2 := hall t ht
    rcases hI.2.1 t ht with h | h
    · omega
    · have := h.2
      rw [q] at this
      omega
theorem zIv_pos {L P : Int → Int → Int} {n b g : Int} (hn : 0 ≤ n) (hR : zHR L P n) (hb : 0 ≤ b ∧ b < n) (hg : 0 ≤ g ∧ g < n) : (0 ≤ P b g ∧ P b g < n) ∧ L b (P b g) = g := by
  obtain ⟨j, hj, q⟩ := zdis_in hn (hR.1 b hb).1 hg
  have := (hR.1 b hb).2 j hj
  rw [q] at this
  rw [this]
  exact ⟨hj, q⟩
/-- a bride asks and is refused -/
theorem zIv_n {L P : Int → Int → Int} {n b g : Int} {G W A A2 : Int → Int} (hn : 0 ≤ n) (hR : zHR L P n) (hI : zIv L P n G W A) (hb : 0 ≤ b ∧ b < n) (hG : G b < 0) (hg : L b (A b) = g) (hW : 0 ≤ W g) (hP : ¬ P (n + g) b < P (n + g) (W g)) (hA : ∀ i, A2 i = if i = b then A b + 1 else A i) : zIv L P n G W A2 := by
  have hab := zIv_a hn hR hI hb hG
  have hA0 := (hI.1 b hb).1
  have hgn : 0 ≤ g ∧ g < n := by rw [← hg]; exact (hR.1 b hb).1.1 _ (by omega)
  have hAb : A2 b = A b + 1 := by rw [hA, if_pos rfl]
  have hAo : ∀ i, i ≠ b → A2 i = A i := fun i hi => by rw [hA, if_neg hi]
  refine ⟨fun c hc => ?_, hI.2.1, fun c j hc hj => ?_, fun c j S hc hj hne hS => ?_⟩
  · by_cases e : c = b
    · rw [e, hAb]
      exact ⟨by omega, Or.inl hG⟩
    · rw [hAo c e]
      exact hI.1 c hc
  · by_cases e : c = b ∧ j = A b
    · rw [e.1, e.2, hg]
      exact ⟨hW, by omega⟩
    · refine hI.2.2.1 c j hc ?_
      by_cases e2 : c = b
      · rw [e2] at hj ⊢
        rw [hAb] at hj
        omega
      · rw [hAo c e2] at hj
        exact hj
  · by_cases e : c = b ∧ j = A b
    · obtain ⟨rfl, rfl⟩ := e
      rw [hg]
      intro hSg
      -- whom the groom has
      obtain ⟨hWn, hGW⟩ : (0 ≤ W g ∧ W g < n) ∧ G (W g) = g := by
        rcases hI.2.1 g hgn with h | h
        · omega
        · exact h
      have hwc : W g ≠ c := fun q => by rw [q] at hGW; omega
      have hSw : S (W g) ≠ g := fun q => hwc (hS.2.1 _ _ hWn hc (by rw [q, hSg]))
      have hSn := hS.1 (W g) hWn
      obtain ⟨hpn, hpL⟩ := zIv_pos hn hR hWn hSn
      have hw := hI.1 (W g) hWn
      have hwA : 0 < A (W g) ∧ g = L (W g) (A (W g) - 1) := by
        rcases hw.2 with h | h
        · omega
        · exact ⟨h.1, by rw [← h.2.1, hGW]⟩
      have hPg : P (W g) g = A (W g) - 1 := by
        have := (hR.1 (W g) hWn).2 (A (W g) - 1) (by omega)
        rw [← hwA.2] at this
        exact this
      have hge : A (W g) - 1 < P (W g) (S (W g)) := by
        by_cases q : P (W g) (S (W g)) < A (W g)
        · by_cases q2 : L (W g) (P (W g) (S (W g))) = G (W g)
          · exfalso
            rw [hpL, hGW] at q2
            exact hSw q2
          · exfalso
            exact hI.2.2.2 (W g) _ S hWn (by omega) q2 hS hpL.symm
        · omega
      refine hS.2.2 (W g) c hWn hc ?_ ?_
      · rw [hSg, hPg]
        exact hge
      · rw [hSg]
        have hne2 : P (n + g) (W g) ≠ P (n + g) c := fun q => hwc (hR.2 g _ _ hgn hWn hc q)
        omega
    · refine hI.2.2.2 c j S hc ?_ hne hS
      by_cases e2 : c = b
      · rw [e2] at hj ⊢
        rw [hAb] at hj
        omega
      · rw [hAo c e2] at hj
        exact hj
/-- a bride asks and is taken; whom the groom had, if any, is alone -/
theorem zIv_y {L P : Int → Int → Int} {n b g : Int} {G W A G2 W2 A2 : Int → Int} (hn : 0 ≤ n) (hR : zHR L P n) (hI : zIv L P n G W A) (hb : 0 ≤ b ∧ b < n) (hG : G b < 0) (hg : L b (A b) = g) (hP : 0 ≤ W g → P (n + g) b < P (n + g) (W g)) (hA : ∀ i, A2 i = if i = b then A b + 1 else A i) (hW2 : ∀ i, W2 i = if i = g then b else W i) (hGb : G2 b = g) (hGw : 0 ≤ W g → G2 (W g) < 0) (hGo : ∀ c, 0 ≤ c ∧ c < n → c ≠ b → c ≠ W g → G2 c = G c) : zIv L P n G2 W2 A2 := by
  have hab := zIv_a hn hR hI hb hG
  have hA0 := (hI.1 b hb).1
  have hgn : 0 ≤ g ∧ g < n := by rw [← hg]; exact (hR.1 b hb).1.1 _ (by omega)
  have hAb : A2 b = A b + 1 := by rw [hA, if_pos rfl]
  have hAo : ∀ i, i ≠ b → A2 i = A i := fun i hi => by rw [hA, if_neg hi]
  have hWg : W2 g = b := by rw [hW2, if_pos rfl]
  have hWo : ∀ i, i ≠ g → W2 i = W i := fun i hi => by rw [hW2, if_neg hi]
  have hgw : 0 ≤ W g → (W g < n ∧ G (W g) = g) := by
    intro h
    rcases hI.2.1 g hgn with q | q
    · omega
    · exact ⟨q.1.2, q.2⟩
  -- only who has the groom has him
  have huq : ∀ c, 0 ≤ c ∧ c < n → G c = g → c = W g := by
    intro c hc q
    rcases (hI.1 c hc).2 with h | h
    · omega
    · rw [q] at h
      exact h.2.2.symm
  refine ⟨fun c hc => ?_, fun t ht => ?_, fun c j hc hj => ?_, fun c j S hc hj hne hS => ?_⟩
  · by_cases e : c = b
    · rw [e, hAb, hGb, hWg]
      exact ⟨by omega, Or.inr ⟨by omega, by rw [show A b + 1 - 1 = A b by omega]; exact hg.symm, rfl⟩⟩
    · rw [hAo c e]
      have h1 := hI.1 c hc
      refine ⟨h1.1, ?_⟩
      by_cases e2 : c = W g
      · exact Or.inl (by rw [e2]; exact hGw (by omega))
      · rw [hGo c hc e e2]
        rcases h1.2 with h | h
        · exact Or.inl h
        · refine Or.inr ⟨h.1, h.2.1, ?_⟩
          rw [hWo _ (fun q => e2 (huq c hc q))]
          exact h.2.2
  · by_cases e : t = g
    · rw [e, hWg]
      exact Or.inr ⟨hb, hGb⟩
    · rw [hWo t e]
      rcases hI.2.1 t ht with h | h
      · exact Or.inl h
      · refine Or.inr ⟨h.1, ?_⟩
        have e1 : W t ≠ b := fun q => by have := h.2; rw [q] at this; omega
        have e2 : W t ≠ W g := fun q => by
          have h2 := hgw (by omega)
          have := h.2
          rw [q, h2.2] at this
          omega
        rw [hGo _ h.1 e1 e2]
        exact h.2
  · by_cases e : c = b ∧ j = A b
    · rw [e.1, e.2, hg, hWg]
      exact ⟨hb.1, Int.le_refl _⟩
    · have hj2 : 0 ≤ j ∧ j < A c := by
        by_cases e2 : c = b
        · rw [e2] at hj e ⊢
          rw [hAb] at hj
          omega
        · rw [hAo c e2] at hj
          exact hj
      have h3 := hI.2.2.1 c j hc hj2
      by_cases e3 : L c j = g
      · rw [e3] at h3 ⊢
        rw [hWg]
        have := hP h3.1
        omega
      · rw [hWo _ e3]
        exact h3
  · by_cases e : c = b
    · subst e
      rw [hAb] at hj
      rw [hGb] at hne
      have hj2 : 0 ≤ j ∧ j < A c := by
        by_cases e2 : j = A c
        · rw [e2] at hne
          exact absurd hg hne
        · omega
      exact hI.2.2.2 c j S hc hj2 (by have := (hR.1 c hc).1.1 j (by omega); omega) hS
    · rw [hAo c e] at hj
      by_cases e2 : c = W g
      · by_cases e3 : L c j = g
        · rw [e3]
          intro hSg
          have hSb : S b ≠ g := fun q => e (hS.2.1 _ _ hc hb (by rw [q, hSg]))
          have hSn := hS.1 b hb
          obtain ⟨hpn, hpL⟩ := zIv_pos hn hR hb hSn
          have hPg : P b g = A b := by
            have := (hR.1 b hb).2 (A b) (by omega)
            rw [hg] at this
            exact this
          have hge : A b < P b (S b) := by
            by_cases q : P b (S b) < A b
            · exfalso
              exact hI.2.2.2 b _ S hb (by omega) (by rw [hpL]; omega) hS hpL.symm
            · by_cases q2 : P b (S b) = A b
              · exfalso
                rw [q2, hg] at hpL
                exact hSb hpL.symm
              · omega
          refine hS.2.2 b c hb hc ?_ ?_
          · rw [hSg, hPg]
            exact hge
          · rw [hSg, e2]
            exact hP (by omega)
        · refine hI.2.2.2 c j S hc hj ?_ hS
          have h2 := hgw (by omega)
          rw [e2, h2.2, ← e2]
          exact e3
      · rw [hGo c hc e e2] at hne
        exact hI.2.2.2 c j S hc hj hne hS
/-- when none is alone, the pairs hold -/
theorem zIv_e {L P : Int → Int → Int} {n : Int} {G W A : Int → Int} (hn : 0 ≤ n) (hR : zHR L P n) (hI : zIv L P n G W A) (hG : ∀ b, 0 ≤ b ∧ b < n → 0 ≤ G b) : zstb P n G := by
  have h1 : ∀ b, 0 ≤ b ∧ b < n → 0 < A b ∧ A b ≤ n ∧ G b = L b (A b - 1) ∧ W (G b) = b := by
    intro b hb
    have := hI.1 b hb
    have h2 := hG b hb
    rcases this.2 with h | h
    · omega
    · exact ⟨h.1, this.1.2, h.2⟩
  have h2 : ∀ b, 0 ≤ b ∧ b < n → 0 ≤ G b ∧ G b < n := by
    intro b hb
    have := h1 b hb
    rw [this.2.2.1]
    exact (hR.1 b hb).1.1 _ (by omega)
  refine ⟨h2, fun b c hb hc q => ?_, fun b c hb hc q1 q2 => ?_⟩
  · have e1 := (h1 b hb).2.2.2
    have e2 := (h1 c hc).2.2.2
    rw [q, e2] at e1
    exact e1.symm
  · obtain ⟨hpn, hpL⟩ := zIv_pos hn hR hb (h2 c hc)
    have e1 := h1 b hb
    have e2 : P b (G b) = A b - 1 := by
      have := (hR.1 b hb).2 (A b - 1) (by omega)
      rw [← e1.2.2.1] at this
      exact this
    have h3 := (hI.2.2.1 b (P b (G c)) hb (by omega)).2
    rw [hpL, (h1 c hc).2.2.2] at h3
    omega
/-- and are the only ones that the asking can end in -/
theorem zIv_u {L P : Int → Int → Int} {n : Int} {G W A G2 W2 A2 : Int → Int} (hn : 0 ≤ n) (hR : zHR L P n) (hI : zIv L P n G W A) (hG : ∀ b, 0 ≤ b ∧ b < n → 0 ≤ G b) (hI2 : zIv L P n G2 W2 A2) (hG2 : ∀ b, 0 ≤ b ∧ b < n → 0 ≤ G2 b) : ∀ b, 0 ≤ b ∧ b < n → G b = G2 b := by
  intro b hb
  have s1 := zIv_e hn hR hI hG
  have s2 := zIv_e hn hR hI2 hG2
  have a1 := hG b hb
  have a2 := hG2 b hb
  have h1 : 0 < A b ∧ G b = L b (A b - 1) := by
    rcases (hI.1 b hb).2 with h | h
    · omega
    · exact ⟨h.1, h.2.1⟩
  have h2 : 0 < A2 b ∧ G2 b = L b (A2 b - 1) := by
    rcases (hI2.1 b hb).2 with h | h
    · omega
    · exact ⟨h.1, h.2.1⟩
  by_cases e : A2 b - 1 < A b
  · by_cases q : L b (A2 b - 1) = G b
    · rw [h2.2, q]
    · exact absurd h2.2 (hI.2.2.2 b _ G2 hb (by omega) q s2)
  · by_cases q : L b (A b - 1) = G2 b
    · rw [h1.2, q]
    · exact absurd h1.2 (hI2.2.2.2 b _ G hb (by omega) q s1)
/-- how many were asked together -/
def zsA (A : Int → Int) : Nat → Int
  | 0 => 0
  | n + 1 => zsA A n + A n
theorem zsA_s {A A2 : Int → Int} {b : Int} (hA : ∀ i, A2 i = if i = b then A b + 1 else A i) (n : Nat) : zsA A2 n = zsA A n + (if 0 ≤ b ∧ b < n then 1 else 0) := by
  induction n with
  | zero =>
    rw [if_neg (by omega)]
    rfl
  | succ n ih =>
    show zsA A2 n + A2 n = zsA A n + A n + _
    rw [ih, hA n]
    by_cases e : (n : Int) = b
    · rw [if_pos e, if_neg (by omega), if_pos (by omega), e]
      omega
    · rw [if_neg e]
      by_cases q : 0 ≤ b ∧ b < (n : Int)
      · rw [if_pos q, if_pos (by omega)]
        omega
      · rw [if_neg q, if_neg (by omega)]
        omega
theorem zsA_b {A : Int → Int} {m : Int} (n : Nat) (h : ∀ i, 0 ≤ i ∧ i < n → 0 ≤ A i ∧ A i ≤ m) : 0 ≤ zsA A n ∧ zsA A n ≤ m * n := by
  induction n with
  | zero =>
    show (0 : Int) ≤ 0 ∧ (0 : Int) ≤ m * 0
    omega
  | succ n ih =>
    have h1 := h n (by omega)
    have h2 := ih (fun i hi => h i (by omega))
    have e : m * ((n + 1 : Nat) : Int) = m * n + m := by rw [Int.natCast_add, Int.mul_add]; omega
    rw [e]
    show 0 ≤ zsA A n + A n ∧ zsA A n + A n ≤ m * n + m
    omega
theorem zsA_f {A : Int → Int} {m b : Int} (n : Nat) (h : ∀ i, 0 ≤ i ∧ i < n → 0 ≤ A i ∧ A i ≤ m) (hb : 0 ≤ b ∧ b < n) (hA : A b < m) : zsA A n < m * n := by
  induction n with
  | zero => omega
  | succ n ih =>
    have h1 := h n (by omega)
    have h2 := zsA_b n (fun i hi => h i (by omega))
    have e : m * ((n + 1 : Nat) : Int) = m * n + m := by rw [Int.natCast_add, Int.mul_add]; omega
    rw [e]
    show zsA A n + A n < m * n + m
    by_cases q : b = n
    · rw [q] at hA
      omega
    · have := ih (fun i hi => h i (by omega)) (by omega)
      omega
