/-! both answer alike: calls that change what is told -/
set_option maxHeartbeats 1000000 in
theorem s_bride {G : zG} {ad : Int → Nat} {M : zM} {a b c d : Int} (ha : -2147483648 ≤ a ∧ a ≤ 2147483647) (hb : -2147483648 ≤ b ∧ b ≤ 2147483647) (hc : -2147483648 ≤ c ∧ c ≤ 2147483647) (hd : -2147483648 ≤ d ∧ d ≤ 2147483647) (hR : zRel M) : zTI G (zw ad) mi_X7_bride [zr 0, zi a, zi b, zi c, zi d] M (fun x M1 => zTI G (zw ad) mi_X8_bride [zr 200, zi a, zi b, zi c, zi d] M1 (fun y M2 => x = y ∧ zRel M2)) := by
  obtain ⟨rb, rs, rg, rt, rh, ri⟩ := id hR
  have k3 := rb.1
  have k4 := rs.1
  have nb2 := rb.2.1
  have ns2 := rs.2.1
  refine (t_bride ha hb hc hd (zRb_n rb)).weaken ?_
  rintro x M1 q1
  rcases q1 with ⟨w, e, e1⟩ | ⟨w, e, e1⟩ | ⟨w, e, e1⟩
  · subst e1
    refine (u_bride ha hb hc hd nb2).weaken ?_
    rintro y M2 (⟨w2, e2, e3⟩ | ⟨w2, e2, e3⟩ | ⟨w2, e2, e3⟩)
    · subst e3
      exact ⟨by omega, hR⟩
    · omega
    · omega
  · subst e1
    refine (u_bride ha hb hc hd nb2).weaken ?_
    rintro y M2 (⟨w2, e2, e3⟩ | ⟨w2, e2, e3⟩ | ⟨w2, e2, e3⟩)
    · omega
    · subst e3
      exact ⟨by omega, hR⟩
    · omega
  · rw [k3] at e1 w e
    have n2 : M1 200 2 = M 200 2 := by
      rw [e1]
      simp (disch := omega) only [zset_s, zset_n, zset_o, zset_ne]
    refine (u_bride ha hb hc hd (by rw [n2]; exact nb2)).weaken ?_
    rintro y M2 (⟨w2, e2, e3⟩ | ⟨w2, e2, e3⟩ | ⟨w2, e2, e3⟩)
    · omega
    · omega
    · rw [n2] at e2 e3
      refine ⟨by omega, ?_⟩
      subst e1
      subst e3
      refine ⟨?_, zRs_c (by simp (disch := omega) only [zset_s, zset_n, zset_o, zset_ne]) (by simp (disch := omega) only [zset_s, zset_n, zset_o, zset_ne]) (fun r hr => by simp (disch := omega) only [zset_s, zset_n, zset_o, zset_ne]) (by simp (disch := omega) only [zset_s, zset_n, zset_o, zset_ne]) rs, zRg_c (by simp (disch := omega) only [zset_s, zset_n, zset_o, zset_ne]) (by simp (disch := omega) only [zset_s, zset_n, zset_o, zset_ne]) rg, zRt_c (by simp (disch := omega) only [zset_s, zset_n, zset_o, zset_ne]) (by simp (disch := omega) only [zset_s, zset_n, zset_o, zset_ne]) (by simp (disch := omega) only [zset_s, zset_n, zset_o, zset_ne]) (by simp (disch := omega) only [zset_s, zset_n, zset_o, zset_ne]) rt, zRh_c (fun r hr => by simp (disch := omega) only [zset_s, zset_n, zset_o, zset_ne]) (by simp (disch := omega) only [zset_s, zset_n, zset_o, zset_ne]) (by simp (disch := omega) only [zset_s, zset_n, zset_o, zset_ne]) (by simp (disch := omega) only [zset_s, zset_n, zset_o, zset_ne]) rh, zRi_c (by simp (disch := omega) only [zset_s, zset_n, zset_o, zset_ne]) (by simp (disch := omega) only [zset_s, zset_n, zset_o, zset_ne]) (by simp (disch := omega) only [zset_s, zset_n, zset_o, zset_ne]) (by simp (disch := omega) only [zset_s, zset_n, zset_o, zset_ne]) (fun r hr => by simp (disch := omega) only [zset_s, zset_n, zset_o, zset_ne]) (by simp (disch := omega) only [zset_s, zset_n, zset_o, zset_ne]) ri⟩
      refine ⟨by simp (disch := omega) only [zset_s, zset_n, zset_o, zset_ne], by simp (disch := omega) only [zset_s, zset_n, zset_o, zset_ne]; omega, fun p hp => ?_⟩
      unfold zMB
      have hp : 0 ≤ p ∧ p < M 200 2 + 1 := by
        rw [zset_s] at hp
        exact hp
      by_cases q : p = M 200 2
      · rw [q]
        simp (disch := omega) only [zset_s, zset_n, zset_o, zset_ne]
        refine ⟨⟨w.1.1, w.1.2.1, w.1.2.2.1, w.1.2.2.2⟩, ?_, ?_, ?_, ?_⟩ <;> trivial
      · have := rb.2.2 p (by omega)
        unfold zMB at this
        simp (disch := omega) only [zset_s, zset_n, zset_o, zset_ne]
        exact this

set_option maxHeartbeats 1000000 in
theorem s_make {G : zG} {ad : Int → Nat} {M : zM} {b q v : Int} (hb : -2147483648 ≤ b ∧ b ≤ 2147483647) (hq : -2147483648 ≤ q ∧ q ≤ 2147483647) (hv : -2147483648 ≤ v ∧ v ≤ 2147483647) (hR : zRel M) : zTI G (zw ad) mi_X7_make [zr 0, zi b, zi q, zi v] M (fun x M1 => zTI G (zw ad) mi_X8_make [zr 200, zi b, zi q, zi v] M1 (fun y M2 => x = y ∧ zRel M2)) := by
  obtain ⟨rb, rs, rg, rt, rh, ri⟩ := id hR
  have k3 := rb.1
  have k4 := rs.1
  have nb2 := rb.2.1
  have ns2 := rs.2.1
  refine (t_make hb hq hv (zRb_n rb)).weaken ?_
  rintro x M1 q1
  rcases q1 with ⟨w, e, e1⟩ | ⟨w, e, e1⟩
  · subst e1
    refine (u_make hb hq hv nb2).weaken ?_
    rintro y M2 (⟨w2, e2, e3⟩ | ⟨w2, e2, e3⟩)
    · subst e3
      exact ⟨by omega, hR⟩
    · omega
  · rw [k3] at w
    have n2 : M1 200 2 = M 200 2 := by
      rw [e1]
      simp (disch := omega) only [zset_s, zset_n, zset_o, zset_ne]
    have n201 : M1 201 = M 201 := by
      rw [e1]
      simp (disch := omega) only [zset_s, zset_n, zset_o, zset_ne]
    refine (u_make hb hq hv (by rw [n2]; exact nb2)).weaken ?_
    rintro y M2 (⟨w2, e2, e3⟩ | ⟨w2, e2, e3⟩)
    · omega
    · rw [n201] at e2
      have e4 := zRb_q rb w.1 w.2.1
      refine ⟨by omega, ?_⟩
      subst e1
      subst e3
      refine ⟨?_, zRs_c (by simp (disch := omega) only [zset_s, zset_n, zset_o, zset_ne]) (by simp (disch := omega) only [zset_s, zset_n, zset_o, zset_ne]) (fun r hr => by simp (disch := omega) only [zset_s, zset_n, zset_o, zset_ne]) (by simp (disch := omega) only [zset_s, zset_n, zset_o, zset_ne]) rs, zRg_c (by simp (disch := omega) only [zset_s, zset_n, zset_o, zset_ne]) (by simp (disch := omega) only [zset_s, zset_n, zset_o, zset_ne]) rg, zRt_c (by simp (disch := omega) only [zset_s, zset_n, zset_o, zset_ne]) (by simp (disch := omega) only [zset_s, zset_n, zset_o, zset_ne]) (by simp (disch := omega) only [zset_s, zset_n, zset_o, zset_ne]) (by simp (disch := omega) only [zset_s, zset_n, zset_o, zset_ne]) rt, zRh_c (fun r hr => by simp (disch := omega) only [zset_s, zset_n, zset_o, zset_ne]) (by simp (disch := omega) only [zset_s, zset_n, zset_o, zset_ne]) (by simp (disch := omega) only [zset_s, zset_n, zset_o, zset_ne]) (by simp (disch := omega) only [zset_s, zset_n, zset_o, zset_ne]) rh, zRi_c (by simp (disch := omega) only [zset_s, zset_n, zset_o, zset_ne]) (by simp (disch := omega) only [zset_s, zset_n, zset_o, zset_ne]) (by simp (disch := omega) only [zset_s, zset_n, zset_o, zset_ne]) (by simp (disch := omega) only [zset_s, zset_n, zset_o, zset_ne]) (fun r hr => by simp (disch := omega) only [zset_s, zset_n, zset_o, zset_ne]) (by simp (disch := omega) only [zset_s, zset_n, zset_o, zset_ne]) ri⟩
      refine ⟨by simp (disch := omega) only [zset_s, zset_n, zset_o, zset_ne]; exact k3, by simp (disch := omega) only [zset_s, zset_n, zset_o, zset_ne]; omega, fun p hp => ?_⟩
      have hp : 0 ≤ p ∧ p < M 200 2 := by
        rw [zset_o (by omega), zset_o (by omega)] at hp
        exact hp
      have hr := rb.2.2 p hp
      unfold zMB at hr ⊢
      by_cases e5 : p = b
      · subst e5
        obtain rfl | rfl | rfl | rfl : q = 0 ∨ q = 1 ∨ q = 2 ∨ q = 3 := by omega
        · simp (disch := omega) only [Int.add_zero, zset_s, zset_n, zset_o, zset_ne]
          try simp only [and_true, true_and]
          omega
        · simp (disch := omega) only [zset_s, zset_n, zset_o, zset_ne]
          try simp only [and_true, true_and]
          omega
        · simp (disch := omega) only [zset_s, zset_n, zset_o, zset_ne]
          try simp only [and_true, true_and]
          omega
        · simp (disch := omega) only [zset_s, zset_n, zset_o, zset_ne]
          try simp only [and_true, true_and]
          omega
      · simp (disch := omega) only [zset_s, zset_n, zset_o, zset_ne]
        exact hr

set_option maxHeartbeats 1000000 in
theorem s_shoe {G : zG} {ad : Int → Nat} {M : zM} {a b c : Int} (ha : -2147483648 ≤ a ∧ a ≤ 2147483647) (hb : -2147483648 ≤ b ∧ b ≤ 2147483647) (hc : -2147483648 ≤ c ∧ c ≤ 2147483647) (hR : zRel M) : zTI G (zw ad) mi_X7_shoe [zr 0, zi a, zi b, zi c] M (fun x M1 => zTI G (zw ad) mi_X8_shoe [zr 200, zi a, zi b, zi c] M1 (fun y M2 => x = y ∧ zRel M2)) := by
  obtain ⟨rb, rs, rg, rt, rh, ri⟩ := id hR
  have k3 := rb.1
  have k4 := rs.1
  have nb2 := rb.2.1
  have ns2 := rs.2.1
  refine (t_shoe ha hb hc (zRs_n rs)).weaken ?_
  rintro x M1 q1
  rcases q1 with ⟨w, e, e1⟩ | ⟨w, e, e1⟩ | ⟨w, e, e1⟩
  · subst e1
    refine (u_shoe ha hb hc ns2).weaken ?_
    rintro y M2 (⟨w2, e2, e3⟩ | ⟨w2, e2, e3⟩ | ⟨w2, e2, e3⟩)
    · subst e3
      exact ⟨by omega, hR⟩
    · omega
    · omega
  · subst e1
    refine (u_shoe ha hb hc ns2).weaken ?_
    rintro y M2 (⟨w2, e2, e3⟩ | ⟨w2, e2, e3⟩ | ⟨w2, e2, e3⟩)
    · omega
    · subst e3
      exact ⟨by omega, hR⟩
    · omega
  · rw [k4] at e1 w e
    have n2 : M1 200 3 = M 200 3 := by
      rw [e1]
      simp (disch := omega) only [zset_s, zset_n, zset_o, zset_ne]
    refine (u_shoe ha hb hc (by rw [n2]; exact ns2)).weaken ?_
    rintro y M2 (⟨w2, e2, e3⟩ | ⟨w2, e2, e3⟩ | ⟨w2, e2, e3⟩)
    · omega
    · omega
    · rw [n2] at e2 e3
      refine ⟨by omega, ?_⟩
      subst e1
      subst e3
      refine ⟨zRb_c (by simp (disch := omega) only [zset_s, zset_n, zset_o, zset_ne]) (by simp (disch := omega) only [zset_s, zset_n, zset_o, zset_ne]) (fun r hr => by simp (disch := omega) only [zset_s, zset_n, zset_o, zset_ne]) (by simp (disch := omega) only [zset_s, zset_n, zset_o, zset_ne]) rb, ?_, zRg_c (by simp (disch := omega) only [zset_s, zset_n, zset_o, zset_ne]) (by simp (disch := omega) only [zset_s, zset_n, zset_o, zset_ne]) rg, zRt_c (by simp (disch := omega) only [zset_s, zset_n, zset_o, zset_ne]) (by simp (disch := omega) only [zset_s, zset_n, zset_o, zset_ne]) (by simp (disch := omega) only [zset_s, zset_n, zset_o, zset_ne]) (by simp (disch := omega) only [zset_s, zset_n, zset_o, zset_ne]) rt, zRh_c (fun r hr => by simp (disch := omega) only [zset_s, zset_n, zset_o, zset_ne]) (by simp (disch := omega) only [zset_s, zset_n, zset_o, zset_ne]) (by simp (disch := omega) only [zset_s, zset_n, zset_o, zset_ne]) (by simp (disch := omega) only [zset_s, zset_n, zset_o, zset_ne]) rh, zRi_c (by simp (disch := omega) only [zset_s, zset_n, zset_o, zset_ne]) (by simp (disch := omega) only [zset_s, zset_n, zset_o, zset_ne]) (by simp (disch := omega) only [zset_s, zset_n, zset_o, zset_ne]) (by simp (disch := omega) only [zset_s, zset_n, zset_o, zset_ne]) (fun r hr => by simp (disch := omega) only [zset_s, zset_n, zset_o, zset_ne]) (by simp (disch := omega) only [zset_s, zset_n, zset_o, zset_ne]) ri⟩
      refine ⟨by simp (disch := omega) only [zset_s, zset_n, zset_o, zset_ne], by simp (disch := omega) only [zset_s, zset_n, zset_o, zset_ne]; omega, fun p hp => ?_⟩
      unfold zMS
      have hp : 0 ≤ p ∧ p < M 200 3 + 1 := by
        rw [zset_s] at hp
        exact hp
      by_cases q : p = M 200 3
      · rw [q]
        simp (disch := omega) only [zset_s, zset_n, zset_o, zset_ne]
        refine ⟨⟨w.1.1, w.1.2.1, w.1.2.2, by omega, by omega⟩, ?_, ?_, ?_, ?_⟩ <;> trivial
      · have := rs.2.2 p (by omega)
        unfold zMS at this
        simp (disch := omega) only [zset_s, zset_n, zset_o, zset_ne]
        exact this

set_option maxHeartbeats 1000000 in
theorem s_lose {G : zG} {ad : Int → Nat} {M : zM} {s v : Int} (hs : -2147483648 ≤ s ∧ s ≤ 2147483647) (hv : -2147483648 ≤ v ∧ v ≤ 2147483647) (hR : zRel M) : zTI G (zw ad) mi_X7_lose [zr 0, zi s, zi v] M (fun x M1 => zTI G (zw ad) mi_X8_lose [zr 200, zi s, zi v] M1 (fun y M2 => x = y ∧ zRel M2)) := by
  obtain ⟨rb, rs, rg, rt, rh, ri⟩ := id hR
  have k3 := rb.1
  have k4 := rs.1
  have nb2 := rb.2.1
  have ns2 := rs.2.1
  refine (t_lose hs hv (zRs_n rs)).weaken ?_
  rintro x M1 q1
  have n2 : M1 200 3 = M 200 3 := by
    rcases q1 with ⟨w, e, e1⟩ | ⟨w, e, e1⟩ | ⟨w, e, e1⟩
    · rw [e1]
    · rw [e1]
      simp (disch := omega) only [zset_s, zset_n, zset_o, zset_ne]
    · rw [e1]
      simp (disch := omega) only [zset_s, zset_n, zset_o, zset_ne]
  have n202 : M1 202 = M 202 := by
    rcases q1 with ⟨w, e, e1⟩ | ⟨w, e, e1⟩ | ⟨w, e, e1⟩
    · rw [e1]
    · rw [e1]
      simp (disch := omega) only [zset_s, zset_n, zset_o, zset_ne]
    · rw [e1]
      simp (disch := omega) only [zset_s, zset_n, zset_o, zset_ne]
  have key : ∀ u : Int, 0 ≤ u ∧ u ≤ 1 → 0 ≤ s ∧ s < M 200 3 → zRel (zset (zset M (12 + s) 3 u) 202 (4 * s + 3) u) := by
    intro u hu hsn
    refine ⟨zRb_c (by simp (disch := omega) only [zset_s, zset_n, zset_o, zset_ne]) (by simp (disch := omega) only [zset_s, zset_n, zset_o, zset_ne]) (fun r hr => by simp (disch := omega) only [zset_s, zset_n, zset_o, zset_ne]) (by simp (disch := omega) only [zset_s, zset_n, zset_o, zset_ne]) rb, ?_, zRg_c (by simp (disch := omega) only [zset_s, zset_n, zset_o, zset_ne]) (by simp (disch := omega) only [zset_s, zset_n, zset_o, zset_ne]) rg, zRt_c (by simp (disch := omega) only [zset_s, zset_n, zset_o, zset_ne]) (by simp (disch := omega) only [zset_s, zset_n, zset_o, zset_ne]) (by simp (disch := omega) only [zset_s, zset_n, zset_o, zset_ne]) (by simp (disch := omega) only [zset_s, zset_n, zset_o, zset_ne]) rt, zRh_c (fun r hr => by simp (disch := omega) only [zset_s, zset_n, zset_o, zset_ne]) (by simp (disch := omega) only [zset_s, zset_n, zset_o, zset_ne]) (by simp (disch := omega) only [zset_s, zset_n, zset_o, zset_ne]) (by simp (disch := omega) only [zset_s, zset_n, zset_o, zset_ne]) rh, zRi_c (by simp (disch := omega) only [zset_s, zset_n, zset_o, zset_ne]) (by simp (disch := omega) only [zset_s, zset_n, zset_o, zset_ne]) (by simp (disch := omega) only [zset_s, zset_n, zset_o, zset_ne]) (by simp (disch := omega) only [zset_s, zset_n, zset_o, zset_ne]) (fun r hr => by simp (disch := omega) only [zset_s, zset_n, zset_o, zset_ne]) (by simp (disch := omega) only [zset_s, zset_n, zset_o, zset_ne]) ri⟩
    refine ⟨by simp (disch := omega) only [zset_s, zset_n, zset_o, zset_ne]; exact k4, by simp (disch := omega) only [zset_s, zset_n, zset_o, zset_ne]; omega, fun p hp => ?_⟩
    have hp : 0 ≤ p ∧ p < M 200 3 := by
      rw [zset_o (by omega), zset_o (by omega)] at hp
      exact hp
    have hr := rs.2.2 p hp
    unfold zMS at hr ⊢
    by_cases e5 : p = s
    · subst e5
      simp (disch := omega) only [zset_s, zset_n, zset_o, zset_ne]
      try simp only [and_true, true_and]
      omega
    · simp (disch := omega) only [zset_s, zset_n, zset_o, zset_ne]
      exact hr
  refine (u_lose hs hv (by rw [n2]; exact ns2)).weaken ?_
  rintro y M2 q2
  by_cases ok : 0 ≤ s ∧ s < M 200 3
  · have e4 := zRs_q rs (q := 3) ok (by omega)
    rcases q1 with ⟨w, e, e1⟩ | ⟨w, e, e1⟩ | ⟨w, e, e1⟩
    · omega
    · rcases q2 with ⟨w2, e2, e3⟩ | ⟨w2, e2, e3⟩ | ⟨w2, e2, e3⟩
      · omega
      · rw [n202] at e2
        refine ⟨by omega, ?_⟩
        rw [e3, e1]
        exact key 1 (by omega) ok
      · omega
    · rcases q2 with ⟨w2, e2, e3⟩ | ⟨w2, e2, e3⟩ | ⟨w2, e2, e3⟩
      · omega
      · omega
      · rw [n202] at e2
        refine ⟨by omega, ?_⟩
        rw [e3, e1]
        exact key 0 (by omega) ok
  · rcases q1 with ⟨w, e, e1⟩ | ⟨w, e, e1⟩ | ⟨w, e, e1⟩
    · rcases q2 with ⟨w2, e2, e3⟩ | ⟨w2, e2, e3⟩ | ⟨w2, e2, e3⟩
      · exact ⟨by omega, by rw [e3, e1]; exact hR⟩
      · omega
      · omega
    · omega
    · omega

set_option maxHeartbeats 1000000 in
theorem s_setg {G : zG} {ad : Int → Nat} {M : zM} {q v : Int} (hq : -2147483648 ≤ q ∧ q ≤ 2147483647) (hv : -2147483648 ≤ v ∧ v ≤ 2147483647) (hR : zRel M) : zTI G (zw ad) mi_X7_set [zr 0, zi q, zi v] M (fun x M1 => zTI G (zw ad) mi_X8_set [zr 200, zi q, zi v] M1 (fun y M2 => x = y ∧ zRel M2)) := by
  obtain ⟨rb, rs, rg, rt, rh, ri⟩ := id hR
  have k3 := rb.1
  have k4 := rs.1
  have nb2 := rb.2.1
  have ns2 := rs.2.1
  refine (t_setg hq hv).weaken ?_
  rintro x M1 q1
  rcases q1 with ⟨w, e, e1⟩ | ⟨w, e, e1⟩
  · subst e1
    refine (u_setg hq hv).weaken ?_
    rintro y M2 (⟨w2, e2, e3⟩ | ⟨w2, e2, e3⟩)
    · subst e3
      exact ⟨by omega, hR⟩
    · omega
  · refine (u_setg hq hv).weaken ?_
    rintro y M2 (⟨w2, e2, e3⟩ | ⟨w2, e2, e3⟩)
    · omega
    · subst e1
      rw [zset_o (by omega)] at e2
      obtain ⟨⟨g0, g1⟩, g2, g3⟩ := id rg
      subst e3
      obtain rfl | rfl : q = 0 ∨ q = 1 := by omega
      · refine ⟨by omega, ⟨zRb_c (by simp (disch := omega) only [zset_s, zset_n, zset_o, zset_ne]) (by simp (disch := omega) only [zset_s, zset_n, zset_o, zset_ne]) (fun r hr => by simp (disch := omega) only [zset_s, zset_n, zset_o, zset_ne]) (by simp (disch := omega) only [zset_s, zset_n, zset_o, zset_ne]) rb, zRs_c (by simp (disch := omega) only [zset_s, zset_n, zset_o, zset_ne]) (by simp (disch := omega) only [zset_s, zset_n, zset_o, zset_ne]) (fun r hr => by simp (disch := omega) only [zset_s, zset_n, zset_o, zset_ne]) (by simp (disch := omega) only [zset_s, zset_n, zset_o, zset_ne]) rs, ?_, zRt_c (by simp (disch := omega) only [zset_s, zset_n, zset_o, zset_ne]) (by simp (disch := omega) only [zset_s, zset_n, zset_o, zset_ne]) (by simp (disch := omega) only [zset_s, zset_n, zset_o, zset_ne]) (by simp (disch := omega) only [zset_s, zset_n, zset_o, zset_ne]) rt, zRh_c (fun r hr => by simp (disch := omega) only [zset_s, zset_n, zset_o, zset_ne]) (by simp (disch := omega) only [zset_s, zset_n, zset_o, zset_ne]) (by simp (disch := omega) only [zset_s, zset_n, zset_o, zset_ne]) (by simp (disch := omega) only [zset_s, zset_n, zset_o, zset_ne]) rh, zRi_c (by simp (disch := omega) only [zset_s, zset_n, zset_o, zset_ne]) (by simp (disch := omega) only [zset_s, zset_n, zset_o, zset_ne]) (by simp (disch := omega) only [zset_s, zset_n, zset_o, zset_ne]) (by simp (disch := omega) only [zset_s, zset_n, zset_o, zset_ne]) (fun r hr => by simp (disch := omega) only [zset_s, zset_n, zset_o, zset_ne]) (by simp (disch := omega) only [zset_s, zset_n, zset_o, zset_ne]) ri⟩⟩
        unfold zRg
        simp (disch := omega) only [zset_s, zset_n, zset_o, zset_ne]
        try simp only [and_true, true_and]
        omega
      · refine ⟨by omega, ⟨zRb_c (by simp (disch := omega) only [zset_s, zset_n, zset_o, zset_ne]) (by simp (disch := omega) only [zset_s, zset_n, zset_o, zset_ne]) (fun r hr => by simp (disch := omega) only [zset_s, zset_n, zset_o, zset_ne]) (by simp (disch := omega) only [zset_s, zset_n, zset_o, zset_ne]) rb, zRs_c (by simp (disch := omega) only [zset_s, zset_n, zset_o, zset_ne]) (by simp (disch := omega) only [zset_s, zset_n, zset_o, zset_ne]) (fun r hr => by simp (disch := omega) only [zset_s, zset_n, zset_o, zset_ne]) (by simp (disch := omega) only [zset_s, zset_n, zset_o, zset_ne]) rs, ?_, zRt_c (by simp (disch := omega) only [zset_s, zset_n, zset_o, zset_ne]) (by simp (disch := omega) only [zset_s, zset_n, zset_o, zset_ne]) (by simp (disch := omega) only [zset_s, zset_n, zset_o, zset_ne]) (by simp (disch := omega) only [zset_s, zset_n, zset_o, zset_ne]) rt, zRh_c (fun r hr => by simp (disch := omega) only [zset_s, zset_n, zset_o, zset_ne]) (by simp (disch := omega) only [zset_s, zset_n, zset_o, zset_ne]) (by simp (disch := omega) only [zset_s, zset_n, zset_o, zset_ne]) (by simp (disch := omega) only [zset_s, zset_n, zset_o, zset_ne]) rh, zRi_c (by simp (disch := omega) only [zset_s, zset_n, zset_o, zset_ne]) (by simp (disch := omega) only [zset_s, zset_n, zset_o, zset_ne]) (by simp (disch := omega) only [zset_s, zset_n, zset_o, zset_ne]) (by simp (disch := omega) only [zset_s, zset_n, zset_o, zset_ne]) (fun r hr => by simp (disch := omega) only [zset_s, zset_n, zset_o, zset_ne]) (by simp (disch := omega) only [zset_s, zset_n, zset_o, zset_ne]) ri⟩⟩
        unfold zRg
        simp (disch := omega) only [zset_s, zset_n, zset_o, zset_ne]
        try simp only [and_true, true_and]
        omega

