/-! both answer alike: calls that keep what is told -/
set_option maxHeartbeats 1000000 in
theorem s_told {G : zG} {ad : Int → Nat} {M : zM} {s q : Int} (hs : -2147483648 ≤ s ∧ s ≤ 2147483647) (hq : -2147483648 ≤ q ∧ q ≤ 2147483647) (hR : zRel M) : zTI G (zw ad) mi_X7_told [zr 0, zi s, zi q] M (fun x M1 => zTI G (zw ad) mi_X8_told [zr 200, zi s, zi q] M1 (fun y M2 => x = y ∧ zRel M2)) := by
  obtain ⟨rb, rs, rg, rt, rh, ri⟩ := id hR
  have k3 := rb.1
  have k4 := rs.1
  have nb2 := rb.2.1
  have ns2 := rs.2.1
  refine (t_told hs hq (zRs_n rs)).weaken ?_
  rintro x M1 q1
  have e1 : M1 = M := by
    rcases q1 with ⟨_, _, e⟩ | ⟨_, _, e⟩ <;> exact e
  subst M1
  refine (u_told hs hq rs.2.1).weaken ?_
  rintro y M2 q2
  have e2 : M2 = M := by
    rcases q2 with ⟨_, _, e⟩ | ⟨_, _, e⟩ <;> exact e
  subst M2
  refine ⟨?_, hR⟩
  by_cases ok : (0 ≤ s ∧ s < M 200 3) ∧ (0 ≤ q ∧ q ≤ 3)
  · have e := zRs_q rs ok.1 ok.2
    omega
  · omega

set_option maxHeartbeats 1000000 in
theorem s_foot {G : zG} {ad : Int → Nat} {M : zM} {b s h : Int} (hb : -2147483648 ≤ b ∧ b ≤ 2147483647) (hs : -2147483648 ≤ s ∧ s ≤ 2147483647) (hh : -2147483648 ≤ h ∧ h ≤ 2147483647) (hR : zRel M) : zTI G (zw ad) mi_X7_foot [zr 0, zi b, zi s, zi h] M (fun x M1 => zTI G (zw ad) mi_X8_foot [zr 200, zi b, zi s, zi h] M1 (fun y M2 => x = y ∧ zRel M2)) := by
  obtain ⟨rb, rs, rg, rt, rh, ri⟩ := id hR
  have k3 := rb.1
  have k4 := rs.1
  have nb2 := rb.2.1
  have ns2 := rs.2.1
  refine (t_foot hb hs hh (zRb_n rb) (zRb_B rb)).weaken ?_
  rintro x M1 q1
  have e1 : M1 = M := by
    rcases q1 with ⟨_, _, e⟩ | ⟨_, _, e⟩ <;> exact e
  subst M1
  refine (u_foot hb hs hh rb.2.1 (zRb_M rb)).weaken ?_
  rintro y M2 q2
  have e2 : M2 = M := by
    rcases q2 with ⟨_, _, e⟩ | ⟨_, _, e⟩ <;> exact e
  subst M2
  refine ⟨?_, hR⟩
  by_cases ok : (0 ≤ b ∧ b < M 200 2) ∧ (0 ≤ s ∧ s ≤ 1)
  · have e := zRb_f rb (x := h) ok.1 ok.2
    omega
  · omega

set_option maxHeartbeats 1000000 in
theorem s_asked {G : zG} {ad : Int → Nat} {M : zM} {s b h : Int} (hs : -2147483648 ≤ s ∧ s ≤ 2147483647) (hb : -2147483648 ≤ b ∧ b ≤ 2147483647) (hh : -2147483648 ≤ h ∧ h ≤ 2147483647) (hR : zRel M) : zTI G (zw ad) mi_X7_asked [zr 0, zi s, zi b, zi h] M (fun x M1 => zTI G (zw ad) mi_X8_asked [zr 200, zi s, zi b, zi h] M1 (fun y M2 => x = y ∧ zRel M2)) := by
  obtain ⟨rb, rs, rg, rt, rh, ri⟩ := id hR
  have k3 := rb.1
  have k4 := rs.1
  have nb2 := rb.2.1
  have ns2 := rs.2.1
  refine (t_asked hs hb hh (zRb_n rb) (zRs_n rs) (zRb_B rb) (zRs_S rs) (zRg_0 rg) (zRg_1 rg)).weaken ?_
  rintro x M1 q1
  have e1 : M1 = M := by
    rcases q1 with ⟨_, _, e⟩ | ⟨_, _, e⟩ <;> exact e
  subst M1
  refine (u_asked hs hb hh rb.2.1 rs.2.1 (zRb_M rb) (zRs_M rs) rg.2.1 rg.2.2).weaken ?_
  rintro y M2 q2
  have e2 : M2 = M := by
    rcases q2 with ⟨_, _, e⟩ | ⟨_, _, e⟩ <;> exact e
  subst M2
  refine ⟨?_, hR⟩
  by_cases ok : (0 ≤ s ∧ s < M 200 3) ∧ (0 ≤ b ∧ b < M 200 2)
  · have e := r_ask rb rs rg (h := h) ok.1 ok.2
    omega
  · omega

set_option maxHeartbeats 1000000 in
theorem s_whose {G : zG} {ad : Int → Nat} {M : zM} {s h : Int} (hs : -2147483648 ≤ s ∧ s ≤ 2147483647) (hh : -2147483648 ≤ h ∧ h ≤ 2147483647) (hR : zRel M) : zTI G (zw ad) mi_X7_whose [zr 0, zi s, zi h] M (fun x M1 => zTI G (zw ad) mi_X8_whose [zr 200, zi s, zi h] M1 (fun y M2 => x = y ∧ zRel M2)) := by
  obtain ⟨rb, rs, rg, rt, rh, ri⟩ := id hR
  have k3 := rb.1
  have k4 := rs.1
  have nb2 := rb.2.1
  have ns2 := rs.2.1
  refine (t_whose hs hh (zRb_n rb) (zRs_n rs) (zRb_B rb) (zRs_S rs) (zRg_0 rg) (zRg_1 rg)).weaken ?_
  rintro x M1 q1
  have e1 : M1 = M := by
    rcases q1 with ⟨_, _, e⟩ | ⟨_, _, e⟩ <;> exact e
  subst M1
  refine (u_whose hs hh rb.2.1 rs.2.1 (zRb_M rb) (zRs_M rs) rg.2.1 rg.2.2).weaken ?_
  rintro y M2 q2
  have e2 : M2 = M := by
    rcases q2 with ⟨_, _, e⟩ | ⟨_, _, e⟩ <;> exact e
  subst M2
  refine ⟨?_, hR⟩
  by_cases ok : (0 ≤ s ∧ s < M 200 3)
  · have e := zwho_c (f := fun i => zask (zfo (M (5 + i)) (M (12 + s) 0) h) (M (12 + s) 1) (M (12 + s) 2) (M 4 0) (M 4 1)) (g := fun i => zask (zfo (zQB M i) (M 202 (4 * s)) h) (M 202 (4 * s + 1)) (M 202 (4 * s + 2)) (M 205 0) (M 205 1)) (M 200 2).toNat (fun k hk => r_ask rb rs rg ok (by omega))
    rw [k3] at q1
    omega
  · omega

set_option maxHeartbeats 1000000 in
theorem s_count {G : zG} {ad : Int → Nat} {M : zM} {v : Int} (hv : -2147483648 ≤ v ∧ v ≤ 2147483647) (hR : zRel M) : zTI G (zw ad) mi_X7_count [zr 0, zi v] M (fun x M1 => zTI G (zw ad) mi_X8_count [zr 200, zi v] M1 (fun y M2 => x = y ∧ zRel M2)) := by
  obtain ⟨rb, rs, rg, rt, rh, ri⟩ := id hR
  have k3 := rb.1
  have k4 := rs.1
  have nb2 := rb.2.1
  have ns2 := rs.2.1
  refine (t_count hv (zRs_n rs) (zRs_S rs)).weaken ?_
  rintro x M1 q1
  have e1 : M1 = M := by
    rcases q1 with ⟨_, _, e⟩ | ⟨_, _, e⟩ | ⟨_, _, e⟩ | ⟨_, _, e⟩ | ⟨_, _, e⟩ | ⟨_, _, e⟩ <;> exact e
  subst M1
  refine (u_count hv rs.2.1 (zRs_M rs)).weaken ?_
  rintro y M2 q2
  have e2 : M2 = M := by
    rcases q2 with ⟨_, _, e⟩ | ⟨_, _, e⟩ | ⟨_, _, e⟩ | ⟨_, _, e⟩ | ⟨_, _, e⟩ | ⟨_, _, e⟩ <;> exact e
  subst M2
  refine ⟨?_, hR⟩
  have e : ∀ d : Int, zcnt (fun s => M (12 + s) 0 = d ∧ M (12 + s) 3 = 0) (M 200 3).toNat = zcnt (fun s => M 202 (4 * s) = d ∧ M 202 (4 * s + 3) = 0) (M 200 3).toNat := fun d => zcnt_c _ (fun k hk => by
    obtain ⟨_, s0, _, _, s3⟩ := rs.2.2 k (by omega)
    rw [s0, s3])
  have e0 := e 0
  have e1 := e 1
  rw [k4] at q1
  omega

set_option maxHeartbeats 1000000 in
theorem s_limps {G : zG} {ad : Int → Nat} {M : zM} {b s h : Int} (hb : -2147483648 ≤ b ∧ b ≤ 2147483647) (hs : -2147483648 ≤ s ∧ s ≤ 2147483647) (hh : -2147483648 ≤ h ∧ h ≤ 2147483647) (hR : zRel M) : zTI G (zw ad) mi_X7_limps [zr 0, zi b, zi s, zi h] M (fun x M1 => zTI G (zw ad) mi_X8_limps [zr 200, zi b, zi s, zi h] M1 (fun y M2 => x = y ∧ zRel M2)) := by
  obtain ⟨rb, rs, rg, rt, rh, ri⟩ := id hR
  have k3 := rb.1
  have k4 := rs.1
  have nb2 := rb.2.1
  have ns2 := rs.2.1
  refine (t_limps hb hs hh (zRb_n rb) (zRs_n rs) (zRb_B rb) (zRs_S rs) (zRg_0 rg)).weaken ?_
  rintro x M1 q1
  have e1 : M1 = M := by
    rcases q1 with ⟨_, _, e⟩ | ⟨_, _, e⟩ <;> exact e
  subst M1
  refine (u_limps hb hs hh rb.2.1 rs.2.1 (zRb_M rb) (zRs_M rs) rg.2.1).weaken ?_
  rintro y M2 q2
  have e2 : M2 = M := by
    rcases q2 with ⟨_, _, e⟩ | ⟨_, _, e⟩ <;> exact e
  subst M2
  refine ⟨?_, hR⟩
  by_cases ok : (0 ≤ s ∧ s < M 200 3) ∧ (0 ≤ b ∧ b < M 200 2)
  · have e := r_lim rb rs rg (h := h) ok.1 ok.2
    omega
  · omega

set_option maxHeartbeats 1000000 in
theorem s_shod {G : zG} {ad : Int → Nat} {M : zM} {d b : Int} (hd : -2147483648 ≤ d ∧ d ≤ 2147483647) (hb : -2147483648 ≤ b ∧ b ≤ 2147483647) (hR : zRel M) : zTI G (zw ad) mi_X7_shod [zr 0, zi d, zi b] M (fun x M1 => zTI G (zw ad) mi_X8_shod [zr 200, zi d, zi b] M1 (fun y M2 => x = y ∧ zRel M2)) := by
  obtain ⟨rb, rs, rg, rt, rh, ri⟩ := id hR
  have k3 := rb.1
  have k4 := rs.1
  have nb2 := rb.2.1
  have ns2 := rs.2.1
  refine (t_shod hd hb (zRb_n rb) (zRs_n rs) (zRb_B rb) (zRs_S rs) (zRg_0 rg) (zRg_1 rg)).weaken ?_
  rintro x M1 q1
  have f1 : zfrT M M1 := by
    rcases q1 with ⟨_, _, e⟩ | ⟨_, _, e⟩ | ⟨_, _, e⟩ | ⟨_, _, e⟩
    · rw [e]; exact zfrT_r M
    · exact zfrT_W e
    · exact zfrT_W e
    · exact zfrT_W e
  have hR1 := zRel_1 hR f1
  obtain ⟨nb1, sb1, gb1, tb1, hb1, ib1⟩ := id hR1
  have n2 : M1 200 2 = M 200 2 := by rw [f1.1 200 (by omega) (by omega)]
  have n3 : M1 200 3 = M 200 3 := by rw [f1.1 200 (by omega) (by omega)]
  refine (u_shod hd hb nb1.2.1 sb1.2.1 (zRb_M nb1) (zRs_M sb1) gb1.2.1 gb1.2.2).weaken ?_
  rintro y M2 q2
  refine ⟨?_, zRel_f hR f1 q2.1⟩
  replace q2 := q2.2
  rcases q2 with ⟨ok, e2⟩ | ⟨ok, wy, q2⟩
  · omega
  · have r := r_way nb1 sb1 gb1 wy
    rw [zall_c f1 rb rs] at r
    have wb := zWay_b wy
    by_cases hL : M2 214 0 < 1000000
    · obtain ⟨r1, r2, r3⟩ := r.2 hL
      by_cases hb0 : 0 ≤ b
      · have r4 := r3 b (by omega)
        omega
      · omega
    · have r1 := r.1 (by omega)
      omega

set_option maxHeartbeats 1000000 in
theorem s_most {G : zG} {ad : Int → Nat} {M : zM} {d : Int} (hd : -2147483648 ≤ d ∧ d ≤ 2147483647) (hR : zRel M) : zTI G (zw ad) mi_X7_most [zr 0, zi d] M (fun x M1 => zTI G (zw ad) mi_X8_most [zr 200, zi d] M1 (fun y M2 => x = y ∧ zRel M2)) := by
  obtain ⟨rb, rs, rg, rt, rh, ri⟩ := id hR
  have k3 := rb.1
  have k4 := rs.1
  have nb2 := rb.2.1
  have ns2 := rs.2.1
  refine (t_most hd (zRb_n rb) (zRs_n rs) (zRb_B rb) (zRs_S rs) (zRg_0 rg) (zRg_1 rg)).weaken ?_
  rintro x M1 q1
  have f1 : zfrT M M1 := by
    rcases q1 with ⟨_, _, e⟩ | ⟨_, _, e⟩
    · rw [e]; exact zfrT_r M
    · exact zfrT_W e
  have hR1 := zRel_1 hR f1
  obtain ⟨nb1, sb1, gb1, tb1, hb1, ib1⟩ := id hR1
  have n2 : M1 200 2 = M 200 2 := by rw [f1.1 200 (by omega) (by omega)]
  have n3 : M1 200 3 = M 200 3 := by rw [f1.1 200 (by omega) (by omega)]
  refine (u_most hd nb1.2.1 sb1.2.1 (zRb_M nb1) (zRs_M sb1) gb1.2.1 gb1.2.2).weaken ?_
  rintro y M2 q2
  refine ⟨?_, zRel_f hR f1 q2.1⟩
  replace q2 := q2.2
  rcases q2 with ⟨ok, e2⟩ | ⟨ok, W, hw, e2⟩
  · omega
  · have r := r_most nb1 sb1 gb1 hw
    rw [zmst_c f1 rb rs] at r
    omega

set_option maxHeartbeats 1000000 in
theorem s_chain {G : zG} {ad : Int → Nat} {M : zM} {s : Int} (hs : -2147483648 ≤ s ∧ s ≤ 2147483647) (hR : zRel M) : zTI G (zw ad) mi_X7_chain [zr 0, zi s] M (fun x M1 => zTI G (zw ad) mi_X8_chain [zr 200, zi s] M1 (fun y M2 => x = y ∧ zRel M2)) := by
  obtain ⟨rb, rs, rg, rt, rh, ri⟩ := id hR
  have k3 := rb.1
  have k4 := rs.1
  have nb2 := rb.2.1
  have ns2 := rs.2.1
  refine (t_chain hs (zRb_n rb) (zRs_n rs) (zRb_B rb) (zRs_S rs) (zRg_0 rg) (zRg_1 rg)).weaken ?_
  rintro x M1 q1
  have f1 : zfrT M M1 := by
    rcases q1 with ⟨_, _, e⟩ | ⟨_, _, e⟩ | ⟨_, _, e⟩ | ⟨_, _, e⟩
    · rw [e]; exact zfrT_r M
    · exact zfrT_W e
    · exact zfrT_W e
    · exact zfrT_W e
  have hR1 := zRel_1 hR f1
  obtain ⟨nb1, sb1, gb1, tb1, hb1, ib1⟩ := id hR1
  have n2 : M1 200 2 = M 200 2 := by rw [f1.1 200 (by omega) (by omega)]
  have n3 : M1 200 3 = M 200 3 := by rw [f1.1 200 (by omega) (by omega)]
  refine (u_chain hs nb1.2.1 sb1.2.1 (zRb_M nb1) (zRs_M sb1) gb1.2.1 gb1.2.2).weaken ?_
  rintro y M2 q2
  refine ⟨?_, zRel_f hR f1 q2.1⟩
  replace q2 := q2.2
  by_cases ok : 0 ≤ s ∧ s < M 200 3
  · obtain ⟨sa, s0, s1, s2, s3⟩ := rs.2.2 s ok
    have m202 : M1 202 = M 202 := f1.1 202 (by omega) (by omega)
    rw [m202] at q2
    rcases q2 with ⟨z, _⟩ | ⟨_, e2⟩ | ⟨_, e2, M3, L, wy, q2⟩
    · omega
    · omega
    · rw [m202] at wy
      have r := r_way nb1 sb1 gb1 wy
      rw [zall_c f1 rb rs, ← s0] at r
      have wb := zWay_b wy
      by_cases hL : M3 214 0 < 1000000
      · obtain ⟨r1, r2, r3⟩ := r.2 hL
        have hwn : zwrn (zshe (zall M (M (12 + s) 0))) (M 1 3) s ↔ zwrn (M3 215) (M1 200 2) s := by
          constructor
          · rintro ⟨b, hb, e⟩
            exact ⟨b, by omega, by rw [← r3 b (by omega)]; exact e⟩
          · rintro ⟨b, hb, e⟩
            exact ⟨b, by omega, by rw [r3 b (by omega)]; exact e⟩
        rcases q2 with ⟨z, _⟩ | ⟨_, z, e3⟩ | ⟨_, z, hl, e3⟩
        · omega
        · rcases q1 with ⟨w, _⟩ | ⟨w, e, _⟩ | ⟨w, e, _⟩ | ⟨⟨_, _, _, w⟩, _⟩
          · omega
          · omega
          · omega
          · exact absurd (hwn.1 w) z
        · rcases q1 with ⟨w, _⟩ | ⟨⟨_, w⟩, e, _⟩ | ⟨⟨_, _, _, w⟩, e, _⟩ | ⟨_, e, _⟩
          · omega
          · omega
          · exact absurd (hwn.2 z) w
          · have rc := r_cha nb1 sb1 gb1 (s := s) (by omega) (by rw [m202]; exact wy) hL hl
            rw [zcha_c f1 rb rs (by omega)] at rc
            have hL0 := (hl 0 (by have := zp2_pos (M3 200 11); omega)).2
            by_cases hL2 : L 0 < 1000000
            · have := rc.2 hL2
              omega
            · have := rc.1 (by omega)
              omega
      · have r1 := r.1 (by omega)
        rcases q1 with ⟨w, _⟩ | ⟨⟨_, w⟩, e, _⟩ | ⟨⟨_, _, w, _⟩, e, _⟩ | ⟨⟨_, _, w, _⟩, _⟩
        · omega
        · rcases q2 with ⟨_, e3⟩ | ⟨z, _⟩ | ⟨z, _⟩ <;> omega
        · omega
        · omega
  · rcases q2 with ⟨_, e2⟩ | ⟨z, _⟩ | ⟨z, _⟩
    · rcases q1 with ⟨_, e, _⟩ | ⟨⟨w, _⟩, _⟩ | ⟨⟨w, _⟩, _⟩ | ⟨⟨w, _⟩, _⟩ <;> omega
    · omega
    · omega

set_option maxHeartbeats 1000000 in
theorem s_tries {G : zG} {ad : Int → Nat} {M : zM} {d a b q : Int} (hd : -2147483648 ≤ d ∧ d ≤ 2147483647) (ha : -2147483648 ≤ a ∧ a ≤ 2147483647) (hb : -2147483648 ≤ b ∧ b ≤ 2147483647) (hq : -2147483648 ≤ q ∧ q ≤ 2147483647) (hR : zRel M) : zTI G (zw ad) mi_X7_tries [zr 0, zi d, zi a, zi b, zi q] M (fun x M1 => zTI G (zw ad) mi_X8_tries [zr 200, zi d, zi a, zi b, zi q] M1 (fun y M2 => x = y ∧ zRel M2)) := by
  obtain ⟨rb, rs, rg, rt, rh, ri⟩ := id hR
  have k3 := rb.1
  have k4 := rs.1
  have nb2 := rb.2.1
  have ns2 := rs.2.1
  refine (t_tries hd ha hb hq (zRs_n rs) (zRs_S rs)).weaken ?_
  rintro x M1 q1
  have f1 : zfrT M M1 := by
    rcases q1 with ⟨_, _, e⟩ | ⟨_, e, _⟩
    · rw [e]; exact zfrT_r M
    · exact zfrT_t e
  have hR1 := zRel_1 hR f1
  obtain ⟨nb1, sb1, gb1, tb1, hb1, ib1⟩ := id hR1
  have n2 : M1 200 2 = M 200 2 := by rw [f1.1 200 (by omega) (by omega)]
  have n3 : M1 200 3 = M 200 3 := by rw [f1.1 200 (by omega) (by omega)]
  refine (u_tries hd ha hb hq sb1.2.1 (zRs_M sb1)).weaken ?_
  rintro y M2 q2
  refine ⟨?_, zRel_f hR f1 q2.1⟩
  replace q2 := q2.2
  rcases q2 with ⟨ok, e2⟩ | ⟨ok, C, U, hC, hU, hU0, h2⟩
  · rcases q1 with ⟨_, e, _⟩ | ⟨w, _⟩
    · omega
    · exact absurd w ok
  · rcases q1 with ⟨w, _⟩ | ⟨_, _, T, hT, h1⟩
    · exact absurd ok w
    · refine r_tries (c := zbit ((zctn M d (M 1 4).toNat : Nat) : Int)) ok.2.1 (fun t ht => ?_) hU hU0 hT h1 h2
      have e1 := zR_sz sb1 (d := d) (M1 200 3).toNat (by omega) t ht
      rw [zctn_c f1 _ (by omega)] at e1
      rw [hC t (by omega), ← e1, k4, n3]

set_option maxHeartbeats 1000000 in
theorem s_changed {G : zG} {ad : Int → Nat} {M : zM} {d q l i n k : Int} (hd : -2147483648 ≤ d ∧ d ≤ 2147483647) (hq : -2147483648 ≤ q ∧ q ≤ 2147483647) (hl : -2147483648 ≤ l ∧ l ≤ 2147483647) (hi : -2147483648 ≤ i ∧ i ≤ 2147483647) (hn : -2147483648 ≤ n ∧ n ≤ 2147483647) (hk : -2147483648 ≤ k ∧ k ≤ 2147483647) (hR : zRel M) : zTI G (zw ad) mi_X7_changed [zr 0, zi d, zi q, zi l, zi i, zi n, zi k] M (fun x M1 => zTI G (zw ad) mi_X8_changed [zr 200, zi d, zi q, zi l, zi i, zi n, zi k] M1 (fun y M2 => x = y ∧ zRel M2)) := by
  obtain ⟨rb, rs, rg, rt, rh, ri⟩ := id hR
  have k3 := rb.1
  have k4 := rs.1
  have nb2 := rb.2.1
  have ns2 := rs.2.1
  refine (t_changed hd hq hl hi hn hk (zRb_n rb) (zRs_n rs) (zRb_B rb) (zRs_S rs) (zRg_0 rg) (zRg_1 rg) (zRh_th rh) (zRh_la rh) (zRh_ln rh) (zRh_I rh) (fun _ => r_shoes rb rs rg)).weaken ?_
  rintro x M1 q1
  have f1 : zfrT M M1 := by
    rcases q1 with ⟨_, _, e⟩ | ⟨_, _, e⟩ | ⟨_, _, e⟩ | ⟨_, _, e⟩
    · rw [e]; exact zfrT_r M
    · exact zfrT_C e
    · exact zfrT_C e
    · exact zfrT_C e
  have hR1 := zRel_1 hR f1
  obtain ⟨nb1, sb1, gb1, tb1, hb1, ib1⟩ := id hR1
  have n2 : M1 200 2 = M 200 2 := by rw [f1.1 200 (by omega) (by omega)]
  have n3 : M1 200 3 = M 200 3 := by rw [f1.1 200 (by omega) (by omega)]
  refine (u_changed hd hq hl hi hn hk nb1.2.1 sb1.2.1 (zRb_M nb1) (zRs_M sb1) gb1.2.1 gb1.2.2 (zRh_la2 hb1) (zRh_ln2 hb1) (zRh_I2 hb1)).weaken ?_
  rintro y M2 q2
  refine ⟨?_, zRel_f hR f1 q2.1⟩
  replace q2 := q2.2
  by_cases ok : (0 ≤ d ∧ d ≤ 1) ∧ (0 ≤ q ∧ q ≤ 3) ∧ (0 ≤ l ∧ l ≤ 2) ∧ (1 ≤ n ∧ n ≤ 6) ∧ n ≤ M 1 3 ∧ (-1 ≤ k ∧ k < n)
  · obtain ⟨okd, okq, okl, okn, oknb, okk⟩ := id ok
    have l1 := zR_lak hb1 (j := q) (l := l) (i := i) (n := n) (by omega) okl (by omega)
    have l2 := zR_lak rh (j := q) (l := l) (i := i) (n := n) (by omega) okl (by omega)
    have m223 : M1 223 = M 223 := f1.1 223 (by omega) (by omega)
    have m224 : M1 224 = M 224 := f1.1 224 (by omega) (by omega)
    rcases q2 with ⟨z, _⟩ | ⟨_, M3, wy, q2⟩
    · omega
    · have r := r_way nb1 sb1 gb1 wy
      rw [zall_c f1 rb rs] at r
      have wb := zWay_b wy
      rw [m223, m224] at q2
      by_cases hL : M3 214 0 < 1000000
      · obtain ⟨r1, r2, r3⟩ := r.2 hL
        rcases q1 with ⟨w, _⟩ | ⟨⟨_, w⟩, _⟩ | ⟨⟨_, _, w⟩, e, _⟩ | ⟨⟨_, _, w⟩, hx, _⟩
        · exact absurd ok w
        · exact absurd w r1
        · rcases q2 with ⟨z, _⟩ | ⟨_, z, e3⟩ | ⟨_, z, _⟩ <;> omega
        · rcases q2 with ⟨z, _⟩ | ⟨_, z, e3⟩ | ⟨_, z, hy⟩
          · omega
          · omega
          · have hlk : 0 ≤ i ∧ i + n ≤ 100 := by
              have h3 := (rh q (by omega)).2.2.1
              unfold zref at w
              split at w
              · omega
              · split at w
                · omega
                · split at w <;> omega
            exact r_changed nb1 sb1 gb1 hb1 wy hL (by omega) (by omega) okk hlk (zcng_c f1 rb rs (by omega) ⟨okn.1, okn.2, oknb⟩ (r_shoes rb rs rg) r1 hx) hy
      · have r1 := r.1 (by omega)
        rcases q1 with ⟨w, _⟩ | ⟨_, e, _⟩ | ⟨⟨_, w, _⟩, e, _⟩ | ⟨⟨_, w, _⟩, hx, _⟩
        · exact absurd ok w
        · rcases q2 with ⟨_, e3⟩ | ⟨z, _⟩ | ⟨z, _⟩ <;> omega
        · exact absurd r1 w
        · exact absurd r1 w
  · rcases q2 with ⟨_, e2⟩ | ⟨z, _⟩
    · rcases q1 with ⟨_, e, _⟩ | ⟨⟨w, _⟩, _⟩ | ⟨⟨w, _⟩, _⟩ | ⟨⟨w, _⟩, _⟩
      · omega
      · exact absurd w ok
      · exact absurd w ok
      · exact absurd w ok
    · omega

set_option maxHeartbeats 1000000 in
theorem s_firm {G : zG} {ad : Int → Nat} {M : zM} {q l i n b : Int} (hq : -2147483648 ≤ q ∧ q ≤ 2147483647) (hl : -2147483648 ≤ l ∧ l ≤ 2147483647) (hi : -2147483648 ≤ i ∧ i ≤ 2147483647) (hn : -2147483648 ≤ n ∧ n ≤ 2147483647) (hb : -2147483648 ≤ b ∧ b ≤ 2147483647) (hR : zRel M) : zTI G (zw ad) mi_X7_firm [zr 0, zi q, zi l, zi i, zi n, zi b] M (fun x M1 => zTI G (zw ad) mi_X8_firm [zr 200, zi q, zi l, zi i, zi n, zi b] M1 (fun y M2 => x = y ∧ zRel M2)) := by
  obtain ⟨rb, rs, rg, rt, rh, ri⟩ := id hR
  have k3 := rb.1
  have k4 := rs.1
  have nb2 := rb.2.1
  have ns2 := rs.2.1
  refine (t_firm hq hl hi hn hb (zRh_th rh) (zRh_la rh) (zRh_ln rh) (zRh_I rh)).weaken ?_
  rintro x M1 q1
  have f1 : zfrT M M1 := by
    rcases q1 with ⟨_, _, e⟩ | ⟨_, _, e⟩ | ⟨_, _, e⟩
    · rw [e]; exact zfrT_r M
    · rw [e]; exact zfrT_r M
    · exact zfrT_R e
  have hR1 := zRel_1 hR f1
  obtain ⟨nb1, sb1, gb1, tb1, hb1, ib1⟩ := id hR1
  have n2 : M1 200 2 = M 200 2 := by rw [f1.1 200 (by omega) (by omega)]
  have n3 : M1 200 3 = M 200 3 := by rw [f1.1 200 (by omega) (by omega)]
  refine (u_firm hq hl hi hn hb (zRh_la2 hb1) (zRh_ln2 hb1) (zRh_I2 hb1)).weaken ?_
  rintro y M2 q2
  refine ⟨?_, zRel_f hR f1 q2.1⟩
  replace q2 := q2.2
  by_cases ok : (0 ≤ q ∧ q ≤ 3) ∧ (0 ≤ l ∧ l ≤ 2) ∧ (2 ≤ n ∧ n ≤ 7) ∧ (0 ≤ b ∧ b < n)
  · obtain ⟨okq, okl, okn, okb⟩ := id ok
    have hnn := znn okn
    have l2 := zR_lak rh (j := q) (l := l) (i := i) (n := 2 * n * n) (by omega) okl (by omega)
    have m223 : M1 223 = M 223 := f1.1 223 (by omega) (by omega)
    have m224 : M1 224 = M 224 := f1.1 224 (by omega) (by omega)
    have m225 : M1 225 = M 225 := f1.1 225 (by omega) (by omega)
    rw [m223, m224] at q2
    rcases q2 with ⟨z, _⟩ | ⟨_, q2⟩
    · omega
    · rcases q1 with ⟨w, _⟩ | ⟨⟨_, w⟩, e, _⟩ | ⟨⟨_, w⟩, hx, _⟩
      · exact absurd ok w
      · rcases q2 with ⟨z, e3⟩ | ⟨z, _⟩ <;> omega
      · rcases q2 with ⟨z, e3⟩ | ⟨z, hy⟩
        · omega
        · have hlk : 0 ≤ i ∧ i + 2 * (n * n) ≤ 100 := by
              have h3 := (rh q (by omega)).2.2.1
              rw [hnn.2.1] at w
              unfold zref at w
              split at w
              · omega
              · split at w
                · omega
                · split at w <;> omega
          exact r_firm okn okb (fun t ht => by
            have := (rh q (by omega)).2.2.2.2.2 (i + t) (by omega)
            rw [m225, this.1, show 100 * q + (i + t) = 100 * q + i + t by omega]) hx hy
  · rcases q2 with ⟨_, e2⟩ | ⟨z, _⟩
    · rcases q1 with ⟨_, e, _⟩ | ⟨⟨w, _⟩, _⟩ | ⟨⟨w, _⟩, _⟩
      · omega
      · exact absurd w ok
      · exact absurd w ok
    · omega

set_option maxHeartbeats 1000000 in
theorem s_judged {G : zG} {ad : Int → Nat} {M : zM} {q l i n p : Int} (hq : -2147483648 ≤ q ∧ q ≤ 2147483647) (hl : -2147483648 ≤ l ∧ l ≤ 2147483647) (hi : -2147483648 ≤ i ∧ i ≤ 2147483647) (hn : -2147483648 ≤ n ∧ n ≤ 2147483647) (hp : -2147483648 ≤ p ∧ p ≤ 2147483647) (hR : zRel M) : zTI G (zw ad) mi_X7_judged [zr 0, zi q, zi l, zi i, zi n, zi p] M (fun x M1 => zTI G (zw ad) mi_X8_judged [zr 200, zi q, zi l, zi i, zi n, zi p] M1 (fun y M2 => x = y ∧ zRel M2)) := by
  obtain ⟨rb, rs, rg, rt, rh, ri⟩ := id hR
  have k3 := rb.1
  have k4 := rs.1
  have nb2 := rb.2.1
  have ns2 := rs.2.1
  refine (t_judged hq hl hi hn hp (zRh_th rh) (zRh_la rh) (zRh_ln rh) (zRh_I rh)).weaken ?_
  rintro x M1 q1
  have f1 : zfrT M M1 := by
    rcases q1 with ⟨_, _, e⟩ | ⟨_, _, e⟩ | ⟨_, _, e⟩ | ⟨_, _, e⟩
    · rw [e]; exact zfrT_r M
    · rw [e]; exact zfrT_r M
    · rw [e]; exact zfrT_r M
    · exact zfrT_R e
  have hR1 := zRel_1 hR f1
  obtain ⟨nb1, sb1, gb1, tb1, hb1, ib1⟩ := id hR1
  have n2 : M1 200 2 = M 200 2 := by rw [f1.1 200 (by omega) (by omega)]
  have n3 : M1 200 3 = M 200 3 := by rw [f1.1 200 (by omega) (by omega)]
  refine (u_judged hq hl hi hn hp (zRh_la2 hb1) (zRh_ln2 hb1) (zRh_I2 hb1)).weaken ?_
  rintro y M2 q2
  refine ⟨?_, zRel_f hR f1 q2.1⟩
  replace q2 := q2.2
  by_cases ok : (0 ≤ q ∧ q ≤ 3) ∧ (0 ≤ l ∧ l ≤ 2) ∧ (2 ≤ n ∧ n ≤ 7) ∧ (0 ≤ p ∧ p ≤ 3)
  · obtain ⟨okq, okl, okn, okp⟩ := id ok
    have hnn := znn okn
    have l2 := zR_lak rh (j := q) (l := l) (i := i) (n := 2 * n * n) (by omega) okl (by omega)
    have l3 := zR_lak rh (j := p) (l := l) (i := 0) (n := n) (by omega) okl (by omega)
    have m223 : M1 223 = M 223 := f1.1 223 (by omega) (by omega)
    have m224 : M1 224 = M 224 := f1.1 224 (by omega) (by omega)
    have m225 : M1 225 = M 225 := f1.1 225 (by omega) (by omega)
    rw [m223, m224] at q2
    rcases q2 with ⟨z, _⟩ | ⟨_, q2⟩
    · omega
    · rcases q1 with ⟨w, _⟩ | ⟨⟨_, w⟩, e, _⟩ | ⟨⟨_, w, w2⟩, e, _⟩ | ⟨⟨_, w, w2⟩, hx, _⟩
      · exact absurd ok w
      · rcases q2 with ⟨z, e3⟩ | ⟨z, _⟩ | ⟨z, _⟩ <;> omega
      · rcases q2 with ⟨z, e3⟩ | ⟨z, z2, e3⟩ | ⟨z, z2, _⟩ <;> omega
      · rcases q2 with ⟨z, e3⟩ | ⟨z, z2, e3⟩ | ⟨z, z2, hy⟩
        · omega
        · omega
        · have hlk : 0 ≤ i ∧ i + 2 * (n * n) ≤ 100 := by
              have h3 := (rh q (by omega)).2.2.1
              rw [hnn.2.1] at w
              unfold zref at w
              split at w
              · omega
              · split at w
                · omega
                · split at w <;> omega
          have hlp : n ≤ 100 := by omega
          exact r_judged okn (fun t ht => by
            have := (rh q (by omega)).2.2.2.2.2 (i + t) (by omega)
            rw [m225, this.1, show 100 * q + (i + t) = 100 * q + i + t by omega]) (fun j hj => by
            have := (rh p (by omega)).2.2.2.2.2 j (by omega)
            rw [m225]
            exact this.1) hx hy
  · rcases q2 with ⟨_, e2⟩ | ⟨z, _⟩
    · rcases q1 with ⟨_, e, _⟩ | ⟨⟨w, _⟩, _⟩ | ⟨⟨w, _⟩, _⟩ | ⟨⟨w, _⟩, _⟩
      · omega
      · exact absurd w ok
      · exact absurd w ok
      · exact absurd w ok
    · omega

