/-! both answer alike: texts, images, sheets -/
theorem zrn_v {T : Int → Int} {len p lo hi : Int} (hp : p ≤ len) (hl : 0 ≤ lo) (h : ¬ (zrn T len p lo hi).1 < 0) : lo ≤ (zrn T len p lo hi).1 ∧ (zrn T len p lo hi).1 ≤ hi := by
  have := zrn_b (T := T) (hi := hi) hp hl
  omega
theorem zop_h {T : Int → Int} {len p c m : Int} {f : Int → Int × Int} (hp : p ≤ len) (hm : 0 ≤ m) (hf : ∀ q, q ≤ len → (f q).1 ≤ m) : (zop (zps T len p c) f).1 ≤ m := by
  have b5 := zps_b (T := T) (c := c) hp
  unfold zop
  split
  · exact hf _ b5.2.1
  · exact hm
theorem zrb_v {T : Int → Int} {len p : Int} (hp : p ≤ len) (h : (zrb T len p).1 ≠ 0) : zBR (zrb T len p).2.2 := by
  have b1 := zrn_b (T := T) (hi := 60) hp (show (0 : Int) ≤ 20 by omega)
  revert h
  unfold zrb zb1
  split
  · exact fun h => absurd rfl h
  · next g1 =>
    have b2 := zps_b (T := T) (c := 47) b1.2.1
    unfold zb2
    split
    · exact fun h => absurd rfl h
    · have b3 := zrn_b (T := T) (hi := 60) b2.2.1 (show (0 : Int) ≤ 20 by omega)
      unfold zb3
      split
      · exact fun h => absurd rfl h
      · next g3 =>
        have b4 := zop_b (T := T) (c := 115) (f := zdg T len) b3.2.1 (fun q hq => by have := zdg_b (T := T) hq; omega)
        have v4 := zop_h (T := T) (c := 115) (f := zdg T len) (m := 4) b3.2.1 (by omega) (fun q hq => by have := zdg_b (T := T) hq; omega)
        obtain ⟨a4, ha4⟩ : ∃ a, zop (zps T len (zrn T len (zps T len (zrn T len p 20 60).2 47).2 20 60).2 115) (zdg T len) = a := ⟨_, rfl⟩
        rw [ha4] at b4 v4 ⊢
        unfold zb4
        split
        · exact fun h => absurd rfl h
        · next g4 =>
          have v5 := zop_h (T := T) (c := 104) (f := fun q => zrn T len q 0 11) (m := 11) b4.2 (by omega) (fun q hq => by have := zrn_b (T := T) (lo := 0) (hi := 11) hq (by omega); omega)
          obtain ⟨a5, ha5⟩ : ∃ a, zop (zps T len a4.2 104) (fun q => zrn T len q 0 11) = a := ⟨_, rfl⟩
          rw [ha5] at v5 ⊢
          unfold zb5
          split
          · exact fun h => absurd rfl h
          · next g5 =>
            intro _
            refine ⟨?_, ?_, ?_, ?_⟩
            · show 20 ≤ (zrn T len p 20 60).1 ∧ (zrn T len p 20 60).1 ≤ 60
              omega
            · show 20 ≤ (zrn T len (zps T len (zrn T len p 20 60).2 47).2 20 60).1 ∧ (zrn T len (zps T len (zrn T len p 20 60).2 47).2 20 60).1 ≤ 60
              omega
            · show 0 ≤ a4.1 ∧ a4.1 ≤ 4
              omega
            · show 0 ≤ a5.1 ∧ a5.1 ≤ 11
              omega
theorem zrs_v {T : Int → Int} {len p : Int} (hp : p ≤ len) (h : (zrs T len p).1 ≠ 0) : zSR (zrs T len p).2.2 ∧ (zrs T len p).2.2 3 = 0 := by
  have b0 := zsk_bd (T := T) hp
  have key : ∀ d, (d = 0 ∨ d = 1) → zsk T len p < len → (zs1 T len d (zrn T len (zsk T len p + 1) 20 70)).1 ≠ 0 → zSR (zs1 T len d (zrn T len (zsk T len p + 1) 20 70)).2.2 ∧ (zs1 T len d (zrn T len (zsk T len p + 1) 20 70)).2.2 3 = 0 := by
    intro d hd hlt h
    have b1 := zrn_b (T := T) (p := zsk T len p + 1) (lo := 20) (hi := 70) (len := len) (by omega) (by omega)
    have hz : ∀ k, 0 ≤ k ∧ k ≤ 3 → ¬ (zrn T len (zsk T len p + 1) 20 70).1 < 0 → zSR (zrow d (zrn T len (zsk T len p + 1) 20 70).1 k 0) ∧ zrow d (zrn T len (zsk T len p + 1) 20 70).1 k 0 3 = 0 := by
      intro k hk hg
      refine ⟨⟨?_, ?_, hk, ?_⟩, rfl⟩
      · show 0 ≤ d ∧ d ≤ 1
        omega
      · show 20 ≤ (zrn T len (zsk T len p + 1) 20 70).1 ∧ (zrn T len (zsk T len p + 1) 20 70).1 ≤ 70
        omega
      · show (0 : Int) ≤ 0 ∧ (0 : Int) ≤ 1
        omega
    revert h
    unfold zs1
    split
    · exact fun h => absurd rfl h
    · next g =>
      unfold zs2
      split
      · exact fun _ => hz 1 (by omega) g
      · unfold zs3
        split
        · exact fun _ => hz 2 (by omega) g
        · unfold zs4
          split
          · exact fun _ => hz 3 (by omega) g
          · exact fun _ => hz 0 (by omega) g
  revert h
  unfold zrs
  split
  · next g => exact key 0 (Or.inl rfl) g.1
  · split
    · next g => exact key 1 (Or.inr rfl) g.1
    · exact fun h => absurd rfl h
/-- what holds of each that is read holds of all that are -/
theorem zal_v {f : Int → zTR} {T : Int → Int} {len : Int} {P : (Int → Int) → Prop} (hb : ∀ p, p ≤ len → p ≤ (f p).2.1 ∧ (f p).2.1 ≤ len) (hf : ∀ p, p ≤ len → (f p).1 ≠ 0 → P (f p).2.2) (n : Nat) : ∀ k p (Q : Int → Int → Int), 0 ≤ k → 0 ≤ p → p ≤ len → (∀ i, 0 ≤ i ∧ i < k → P (Q i)) → ∀ i, 0 ≤ i ∧ i < (zal f T len n k p Q).1 → P ((zal f T len n k p Q).2 i) := by
  induction n with
  | zero =>
    intro k p Q hk hp0 hp hQ i hi
    have hi : 0 ≤ i ∧ i < -20 - p := hi
    omega
  | succ n ih =>
    intro k p Q hk hp0 hp hQ i hi
    have h1 := hb p hp
    have h2 := zsk_bd (T := T) h1.2
    have up : (f p).1 ≠ 0 → ∀ i, 0 ≤ i ∧ i < k + 1 → P ((fun a j => if a = k then (f p).2.2 j else Q a j) i) := by
      intro hne i hi
      show P (fun j => if i = k then (f p).2.2 j else Q i j)
      by_cases e : i = k
      · have : (fun j => if i = k then (f p).2.2 j else Q i j) = (f p).2.2 := by
          funext j
          exact if_pos e
        rw [this]
        exact hf p hp hne
      · have : (fun j => if i = k then (f p).2.2 j else Q i j) = Q i := by
          funext j
          exact if_neg e
        rw [this]
        exact hQ i (by omega)
    rw [zal_s] at hi ⊢
    by_cases e1 : (f p).1 = 0
    · rw [if_pos e1] at hi
      have hi : 0 ≤ i ∧ i < -20 - (f p).2.1 := hi
      omega
    · rw [if_neg e1] at hi ⊢
      by_cases e2 : len ≤ zsk T len (f p).2.1
      · rw [if_pos e2] at hi ⊢
        exact up e1 i hi
      · rw [if_neg e2] at hi ⊢
        by_cases e3 : n = 0 ∨ T (zsk T len (f p).2.1) ≠ 44
        · rw [if_pos e3] at hi
          have hi : 0 ≤ i ∧ i < -20 - zsk T len (f p).2.1 := hi
          omega
        · rw [if_neg e3] at hi ⊢
          exact ih (k + 1) _ _ (by omega) (by omega) (by omega) (up e1) i hi
theorem zapp_o {M : zM} {w n i r : Int} (h1 : r ≠ 55) (h2 : r ≠ 56) : zapp M w n i r = M r := by
  funext j
  unfold zapp
  rw [if_neg (by omega), if_neg (by omega)]
theorem zapM_o {M : zM} {w n i r : Int} (h1 : r ≠ 200) (h2 : r ≠ 206) : zapM M w n i r = M r := by
  funext j
  unfold zapM
  rw [if_neg (by omega), if_neg (by omega)]
set_option maxHeartbeats 1000000 in
theorem s_type {G : zG} {ad : Int → Nat} {M : zM} {v n : Int} (hn : -2147483648 ≤ n ∧ n ≤ 2147483647) (hR : zRel M) : zTI G (zw ad) mi_X7_type [zr 0, zj v, zi n] M (fun x M1 => zTI G (zw ad) mi_X8_type [zr 200, zj v, zi n] M1 (fun y M2 => x = y ∧ zRel M2)) := by
  obtain ⟨rb, rs, rg, rt, rh, ri⟩ := id hR
  have k3 := rb.1
  have k4 := rs.1
  have nb2 := rb.2.1
  have ns2 := rs.2.1
  refine (t_type hn (by rw [rt.1]; exact rt.2.1)).weaken ?_
  rintro x M1 q1
  obtain ⟨t1, t2, t3, t4, t5⟩ := id rt
  have hby : ∀ n : Int, n ≤ 8 → ((∀ t, 0 ≤ t ∧ t < n → 32 ≤ zbyt v t ∧ zbyt v t ≤ 126) ↔ (∀ t, 0 ≤ t ∧ t < n → 32 ≤ zbyM v t ∧ zbyM v t ≤ 126)) := by
    intro n hn8
    constructor
    · intro h t ht
      have := h t ht
      rw [zbyt_M (by omega)] at this
      exact this
    · intro h t ht
      rw [zbyt_M (by omega)]
      exact h t ht
  have n6 : M1 200 6 = M 200 6 := by
    rcases q1 with ⟨w, e, e1⟩ | ⟨w, e, e1⟩ | ⟨w, e, e1⟩
    · rw [e1]
    · rw [e1]
    · rw [e1, zapp_o (by omega) (by omega)]
  refine (u_type hn (by rw [n6]; exact t2)).weaken ?_
  rintro y M2 q2
  rw [n6] at q2
  rw [t1] at q1
  by_cases ok : (1 ≤ n ∧ n ≤ 8) ∧ (∀ t, 0 ≤ t ∧ t < n → 32 ≤ zbyt v t ∧ zbyt v t ≤ 126)
  · have ok2 : (1 ≤ n ∧ n ≤ 8) ∧ (∀ t, 0 ≤ t ∧ t < n → 32 ≤ zbyM v t ∧ zbyM v t ≤ 126) := ⟨ok.1, (hby n ok.1.2).1 ok.2⟩
    rcases q1 with ⟨w, e, e1⟩ | ⟨⟨_, w⟩, e, e1⟩ | ⟨⟨_, w⟩, e, e1⟩
    · exact absurd ok w
    · rcases q2 with ⟨w2, e2, e3⟩ | ⟨⟨_, w2⟩, e2, e3⟩ | ⟨⟨_, w2⟩, e2, e3⟩
      · exact absurd ok2 w2
      · exact ⟨by omega, by rw [e3, e1]; exact hR⟩
      · omega
    · rcases q2 with ⟨w2, e2, e3⟩ | ⟨⟨_, w2⟩, e2, e3⟩ | ⟨⟨_, w2⟩, e2, e3⟩
      · exact absurd ok2 w2
      · omega
      · refine ⟨by omega, ?_⟩
        have ko : ∀ r, r ≠ 55 → r ≠ 56 → r ≠ 200 → r ≠ 206 → M2 r = M r := fun r a1 a2 a3 a4 => by
          rw [e3, zapM_o a3 a4, e1, zapp_o a1 a2]
        have k2 : ∀ j, j ≠ 6 → M2 200 j = M 200 j := fun j hj => by
          rw [e3]
          unfold zapM
          rw [if_neg (by omega), if_neg (by omega), e1, zapp_o (by omega) (by omega)]
        have k1 : ∀ j, M2 1 j = M 1 j := fun j => by rw [ko 1 (by omega) (by omega) (by omega) (by omega)]
        have k0 : ∀ j, M2 0 j = M 0 j := fun j => by rw [ko 0 (by omega) (by omega) (by omega) (by omega)]
        have l6 : M2 200 6 = M 200 6 + n := by
          rw [e3, zapM_l, n6]
          omega
        have l5 : M2 55 2 = M 200 6 + n := by
          rw [e3, zapM_o (by omega) (by omega), e1, zapp_l, t1]
          omega
        have l206 : ∀ j, M2 206 j = if M 200 6 ≤ j ∧ j < M 200 6 + n then zbyM v (n - 1 - (j - M 200 6)) else M 206 j := by
          intro j
          rw [e3]
          unfold zapM
          rw [n6]
          by_cases q : M 200 6 ≤ j ∧ j < M 200 6 + n
          · rw [if_pos (by omega), if_pos q]
          · rw [if_neg (by omega), if_neg (by omega), if_neg q, e1, zapp_o (by omega) (by omega)]
        have l56 : ∀ j, M2 56 j = if M 200 6 ≤ j ∧ j < M 200 6 + n then zbyM v (n - 1 - (j - M 200 6)) else M 206 j := by
          intro j
          rw [e3, zapM_o (by omega) (by omega), e1]
          unfold zapp
          rw [t1]
          by_cases q : M 200 6 ≤ j ∧ j < M 200 6 + n
          · rw [if_pos (by omega), if_pos q, zbyt_M (by omega)]
          · rw [if_neg (by omega), if_neg (by omega), if_neg q, t3]
        refine ⟨zRb_c (k1 3) (k2 2 (by omega)) (fun r hr => ko r (by omega) (by omega) (by omega) (by omega)) (ko 201 (by omega) (by omega) (by omega) (by omega)) rb,
          zRs_c (k1 4) (k2 3 (by omega)) (fun r hr => ko r (by omega) (by omega) (by omega) (by omega)) (ko 202 (by omega) (by omega) (by omega) (by omega)) rs,
          zRg_c (ko 4 (by omega) (by omega) (by omega) (by omega)) (ko 205 (by omega) (by omega) (by omega) (by omega)) rg, ?_,
          zRh_c (fun r hr => ko r (by omega) (by omega) (by omega) (by omega)) (ko 223 (by omega) (by omega) (by omega) (by omega)) (ko 224 (by omega) (by omega) (by omega) (by omega)) (ko 225 (by omega) (by omega) (by omega) (by omega)) rh,
          zRi_c (k0 2) (k2 18 (by omega)) (k2 20 (by omega)) (k2 21 (by omega)) (fun r hr => ko r (by omega) (by omega) (by omega) (by omega)) (ko 220 (by omega) (by omega) (by omega) (by omega)) ri⟩
        refine ⟨by rw [l5, l6], by omega, by funext j; rw [l56, l206], fun j hj => ?_, fun j hj => ?_⟩
        · rw [l6] at hj
          rw [l206]
          by_cases q : M 200 6 ≤ j ∧ j < M 200 6 + n
          · rw [if_pos q]
            exact ok2.2 _ (by omega)
          · rw [if_neg q]
            exact t4 j (by omega)
        · rw [l206]
          by_cases q : M 200 6 ≤ j ∧ j < M 200 6 + n
          · rw [if_pos q]
            exact zbyM_b _ _
          · rw [if_neg q]
            exact t5 j hj
  · have ok2 : ¬ ((1 ≤ n ∧ n ≤ 8) ∧ (∀ t, 0 ≤ t ∧ t < n → 32 ≤ zbyM v t ∧ zbyM v t ≤ 126)) := fun z => ok ⟨z.1, (hby n z.1.2).2 z.2⟩
    rcases q1 with ⟨w, e, e1⟩ | ⟨⟨z, w⟩, e, e1⟩ | ⟨⟨z, w⟩, e, e1⟩
    · rcases q2 with ⟨w2, e2, e3⟩ | ⟨⟨z, w2⟩, e2, e3⟩ | ⟨⟨z, w2⟩, e2, e3⟩
      · exact ⟨by omega, by rw [e3, e1]; exact hR⟩
      · exact absurd z ok2
      · exact absurd z ok2
    · exact absurd z ok
    · exact absurd z ok

set_option maxHeartbeats 1000000 in
theorem s_brides {G : zG} {ad : Int → Nat} {M : zM} (hR : zRel M) : zTI G (zw ad) mi_X7_brides [zr 0] M (fun x M1 => zTI G (zw ad) mi_X8_brides [zr 200] M1 (fun y M2 => x = y ∧ zRel M2)) := by
  obtain ⟨rb, rs, rg, rt, rh, ri⟩ := id hR
  have k3 := rb.1
  have k4 := rs.1
  have nb2 := rb.2.1
  have ns2 := rs.2.1
  refine (t_brides (by rw [rt.1]; exact rt.2.1) (by rw [rt.1, rt.2.2.1]; exact rt.2.2.2.1)).weaken ?_
  rintro x M1 q1
  obtain ⟨t1, t2, t3, t4, t5⟩ := id rt
  obtain ⟨e, f1, f2, f3, q1⟩ := q1
  rw [t3, t1] at e q1
  have m206 : M1 206 = M 206 := f1 206 (by omega) (by omega) (by omega) (by omega)
  have m200 : M1 200 = M 200 := f1 200 (by omega) (by omega) (by omega) (by omega)
  have a1 := u_brides (G := G) (ad := ad) (M := M1) (by rw [m200]; exact t2) (by rw [m206]; exact t5)
  rw [m206, m200] at a1
  refine a1.weaken ?_
  rintro y M2 ⟨e2, g1, g2, g3, q2⟩
  obtain ⟨Z, hZ⟩ : ∃ Z, zal (zrb (M 206) (M 200 6)) (M 206) (M 200 6) 7 0 0 (fun _ _ => 0) = Z := ⟨_, rfl⟩
  have hval := zal_v (f := zrb (M 206) (M 200 6)) (T := M 206) (len := M 200 6) (P := fun r => zBR r) (fun p hp => ⟨(zrb_b hp).1, (zrb_b hp).2.1⟩) (fun p hp h => zrb_v hp h) 7 0 0 (fun _ _ => 0) (by omega) (by omega) t2.1 (fun i hi => by omega)
  rw [hZ] at e e2 q1 q2 hval
  refine ⟨by omega, ?_⟩
  have kk : ∀ r, (r < 58 ∨ 73 < r) → r ≠ 55 → r ≠ 1 → (r < 5 ∨ 11 < r) → r ≠ 200 → r ≠ 210 → r ≠ 201 → M2 r = M r := fun r h1 h2 h3 h4 h5 h6 h7 => by
    rw [g1 r h5 h6 h7, f1 r h1 h2 h3 h4]
  have k1 : ∀ j, j ≠ 3 → M2 1 j = M 1 j := fun j hj => by rw [g1 1 (by omega) (by omega) (by omega), f2 j hj]
  have k2 : ∀ j, j ≠ 6 → j ≠ 7 → j ≠ 8 → j ≠ 2 → M2 200 j = M 200 j := fun j h1 h2 h3 h4 => g2 j h1 h2 h3 h4
  have k0 : ∀ j, M2 0 j = M 0 j := fun j => by rw [kk 0 (by omega) (by omega) (by omega) (by omega) (by omega) (by omega) (by omega)]
  have l5 : M2 55 2 = 0 := by rw [g1 55 (by omega) (by omega) (by omega)]; exact f3
  refine ⟨?_, zRs_c (k1 4 (by omega)) (k2 3 (by omega) (by omega) (by omega) (by omega)) (fun r hr => (kk r (by omega) (by omega) (by omega) (by omega) (by omega) (by omega) (by omega))) (kk 202 (by omega) (by omega) (by omega) (by omega) (by omega) (by omega) (by omega)) rs, zRg_c (kk 4 (by omega) (by omega) (by omega) (by omega) (by omega) (by omega) (by omega)) (kk 205 (by omega) (by omega) (by omega) (by omega) (by omega) (by omega) (by omega)) rg, ⟨by rw [l5, g3], by omega, by rw [(kk 56 (by omega) (by omega) (by omega) (by omega) (by omega) (by omega) (by omega)), (kk 206 (by omega) (by omega) (by omega) (by omega) (by omega) (by omega) (by omega))]; exact t3, fun i hi => by omega, by rw [(kk 206 (by omega) (by omega) (by omega) (by omega) (by omega) (by omega) (by omega))]; exact t5⟩, zRh_c (fun r hr => (kk r (by omega) (by omega) (by omega) (by omega) (by omega) (by omega) (by omega))) (kk 223 (by omega) (by omega) (by omega) (by omega) (by omega) (by omega) (by omega)) (kk 224 (by omega) (by omega) (by omega) (by omega) (by omega) (by omega) (by omega)) (kk 225 (by omega) (by omega) (by omega) (by omega) (by omega) (by omega) (by omega)) rh, zRi_c (k0 2) (k2 18 (by omega) (by omega) (by omega) (by omega)) (k2 20 (by omega) (by omega) (by omega) (by omega)) (k2 21 (by omega) (by omega) (by omega) (by omega)) (fun r hr => (kk r (by omega) (by omega) (by omega) (by omega) (by omega) (by omega) (by omega))) (kk 220 (by omega) (by omega) (by omega) (by omega) (by omega) (by omega) (by omega)) ri⟩
  rcases q1 with ⟨w, c1, c2⟩ | ⟨w, w2, c1, c2⟩
  · rcases q2 with ⟨_, d1, d2⟩ | ⟨z, _⟩
    · refine zRb_c (by rw [g1 1 (by omega) (by omega) (by omega)]; exact c1) (by rw [d1]) (fun r hr => by rw [g1 r (by omega) (by omega) (by omega), c2 r hr.1 hr.2]) (by funext i; rw [d2 i, f1 201 (by omega) (by omega) (by omega) (by omega)]) rb
    · omega
  · rcases q2 with ⟨z, _⟩ | ⟨_, _, d1, d2⟩
    · omega
    · have e31 : M2 1 3 = x := by rw [g1 1 (by omega) (by omega) (by omega)]; exact c1
      refine ⟨by omega, by omega, fun p hp => ?_⟩
      rw [d1] at hp
      have hv := hval p (by omega)
      have hv : zBR (Z.2 p) := hv
      obtain ⟨v0, v1, v2, v3⟩ := hv
      have h0 := d2 p (by omega) 0 (by omega)
      have h1 := d2 p (by omega) 1 (by omega)
      have h2 := d2 p (by omega) 2 (by omega)
      have h3 := d2 p (by omega) 3 (by omega)
      rw [Int.add_zero] at h0
      have p0 := c2 p (by omega) 0 (by omega)
      have p1 := c2 p (by omega) 1 (by omega)
      have p2 := c2 p (by omega) 2 (by omega)
      have p3 := c2 p (by omega) 3 (by omega)
      have m5 := g1 (5 + p) (by omega) (by omega) (by omega)
      unfold zMB
      rw [m5]
      omega

set_option maxHeartbeats 1000000 in
theorem s_heap {G : zG} {ad : Int → Nat} {M : zM} (hR : zRel M) : zTI G (zw ad) mi_X7_heap [zr 0] M (fun x M1 => zTI G (zw ad) mi_X8_heap [zr 200] M1 (fun y M2 => x = y ∧ zRel M2)) := by
  obtain ⟨rb, rs, rg, rt, rh, ri⟩ := id hR
  have k3 := rb.1
  have k4 := rs.1
  have nb2 := rb.2.1
  have ns2 := rs.2.1
  refine (t_heap (by rw [rt.1]; exact rt.2.1) (by rw [rt.1, rt.2.2.1]; exact rt.2.2.2.1)).weaken ?_
  rintro x M1 q1
  obtain ⟨t1, t2, t3, t4, t5⟩ := id rt
  obtain ⟨e, f1, f2, f3, q1⟩ := q1
  rw [t3, t1] at e q1
  have m206 : M1 206 = M 206 := f1 206 (by omega) (by omega) (by omega) (by omega)
  have m200 : M1 200 = M 200 := f1 200 (by omega) (by omega) (by omega) (by omega)
  have a1 := u_heap (G := G) (ad := ad) (M := M1) (by rw [m200]; exact t2) (by rw [m206]; exact t5)
  rw [m206, m200] at a1
  refine a1.weaken ?_
  rintro y M2 ⟨e2, g1, g2, g3, q2⟩
  obtain ⟨Z, hZ⟩ : ∃ Z, zal (zrs (M 206) (M 200 6)) (M 206) (M 200 6) 16 0 0 (fun _ _ => 0) = Z := ⟨_, rfl⟩
  have hval := zal_v (f := zrs (M 206) (M 200 6)) (T := M 206) (len := M 200 6) (P := fun r => zSR r ∧ r 3 = 0) (fun p hp => ⟨(zrs_b hp).1, (zrs_b hp).2.1⟩) (fun p hp h => zrs_v hp h) 16 0 0 (fun _ _ => 0) (by omega) (by omega) t2.1 (fun i hi => by omega)
  rw [hZ] at e e2 q1 q2 hval
  refine ⟨by omega, ?_⟩
  have kk : ∀ r, (r < 58 ∨ 73 < r) → r ≠ 55 → r ≠ 1 → (r < 12 ∨ 27 < r) → r ≠ 200 → r ≠ 210 → r ≠ 202 → M2 r = M r := fun r h1 h2 h3 h4 h5 h6 h7 => by
    rw [g1 r h5 h6 h7, f1 r h1 h2 h3 h4]
  have k1 : ∀ j, j ≠ 4 → M2 1 j = M 1 j := fun j hj => by rw [g1 1 (by omega) (by omega) (by omega), f2 j hj]
  have k2 : ∀ j, j ≠ 6 → j ≠ 7 → j ≠ 8 → j ≠ 3 → M2 200 j = M 200 j := fun j h1 h2 h3 h4 => g2 j h1 h2 h3 h4
  have k0 : ∀ j, M2 0 j = M 0 j := fun j => by rw [kk 0 (by omega) (by omega) (by omega) (by omega) (by omega) (by omega) (by omega)]
  have l5 : M2 55 2 = 0 := by rw [g1 55 (by omega) (by omega) (by omega)]; exact f3
  refine ⟨zRb_c (k1 3 (by omega)) (k2 2 (by omega) (by omega) (by omega) (by omega)) (fun r hr => (kk r (by omega) (by omega) (by omega) (by omega) (by omega) (by omega) (by omega))) (kk 201 (by omega) (by omega) (by omega) (by omega) (by omega) (by omega) (by omega)) rb, ?_, zRg_c (kk 4 (by omega) (by omega) (by omega) (by omega) (by omega) (by omega) (by omega)) (kk 205 (by omega) (by omega) (by omega) (by omega) (by omega) (by omega) (by omega)) rg, ⟨by rw [l5, g3], by omega, by rw [(kk 56 (by omega) (by omega) (by omega) (by omega) (by omega) (by omega) (by omega)), (kk 206 (by omega) (by omega) (by omega) (by omega) (by omega) (by omega) (by omega))]; exact t3, fun i hi => by omega, by rw [(kk 206 (by omega) (by omega) (by omega) (by omega) (by omega) (by omega) (by omega))]; exact t5⟩, zRh_c (fun r hr => (kk r (by omega) (by omega) (by omega) (by omega) (by omega) (by omega) (by omega))) (kk 223 (by omega) (by omega) (by omega) (by omega) (by omega) (by omega) (by omega)) (kk 224 (by omega) (by omega) (by omega) (by omega) (by omega) (by omega) (by omega)) (kk 225 (by omega) (by omega) (by omega) (by omega) (by omega) (by omega) (by omega)) rh, zRi_c (k0 2) (k2 18 (by omega) (by omega) (by omega) (by omega)) (k2 20 (by omega) (by omega) (by omega) (by omega)) (k2 21 (by omega) (by omega) (by omega) (by omega)) (fun r hr => (kk r (by omega) (by omega) (by omega) (by omega) (by omega) (by omega) (by omega))) (kk 220 (by omega) (by omega) (by omega) (by omega) (by omega) (by omega) (by omega)) ri⟩
  rcases q1 with ⟨w, c1, c2⟩ | ⟨w, w2, c1, c2⟩
  · rcases q2 with ⟨_, d1, d2⟩ | ⟨z, _⟩
    · refine zRs_c (by rw [g1 1 (by omega) (by omega) (by omega)]; exact c1) (by rw [d1]) (fun r hr => by rw [g1 r (by omega) (by omega) (by omega), c2 r hr.1 hr.2]) (by funext i; rw [d2 i, f1 202 (by omega) (by omega) (by omega) (by omega)]) rs
    · omega
  · rcases q2 with ⟨z, _⟩ | ⟨_, _, d1, d2⟩
    · omega
    · have e31 : M2 1 4 = x := by rw [g1 1 (by omega) (by omega) (by omega)]; exact c1
      refine ⟨by omega, by omega, fun p hp => ?_⟩
      rw [d1] at hp
      have hv := hval p (by omega)
      have hv : zSR (Z.2 p) ∧ Z.2 p 3 = 0 := hv
      obtain ⟨⟨v0, v1, v2, v3⟩, v4⟩ := hv
      have h0 := (d2 p (by omega)).1 0 (by omega)
      have h1 := (d2 p (by omega)).1 1 (by omega)
      have h2 := (d2 p (by omega)).1 2 (by omega)
      have h3 := (d2 p (by omega)).2
      rw [Int.add_zero] at h0
      have p0 := c2 p (by omega) 0 (by omega)
      have p1 := c2 p (by omega) 1 (by omega)
      have p2 := c2 p (by omega) 2 (by omega)
      have p3 := c2 p (by omega) 3 (by omega)
      have m5 := g1 (12 + p) (by omega) (by omega) (by omega)
      unfold zMS
      rw [m5]
      omega

