/-! the class: shod, most, chain -/
/-- what a search for all leaves alone -/
def zfrW (M M' : zM) : Prop := ∀ r, r < 74 ∨ 93 < r → M' r = M r
theorem zfrW_r (M : zM) : zfrW M M := fun _ _ => rfl
theorem zfrW_t {M M1 M2 : zM} (h : zfrW M M1) (h2 : zfrW M1 M2) : zfrW M M2 := fun r hr => (h2 r hr).trans (h r hr)
theorem zfrW_p {M : zM} {pr : Int → Int → Int} : zfrW M (zpls M pr) := fun r hr => zpls_o (by omega)
theorem zfrW_f {M : zM} {pr : Int → Int → Int} {v best n : Int} : zfrW M (zsho (zset (zpls M pr) 74 3 v) best n) := fun r hr => by
  rw [zsho_o (by omega), zset_o (by omega), zpls_o (by omega)]
def zshe (best b : Int) : Int := best / zp2 (4 * (6 - b)) % 16
theorem zshe_b (best b : Int) : 0 ≤ zshe best b ∧ zshe best b ≤ 15 := by
  unfold zshe
  omega
/-- whether one of the first n has the shoe s -/
def zwrn (own : Int → Int) (n s : Int) : Prop := ∃ b, (0 ≤ b ∧ b < n) ∧ own b = s
/-- the least price of all, of the side d -/
def zall (M : zM) (d : Int) : Int := zbst (zkey (zak M d)) M
theorem t_findForAllW {G : zG} {ad : Int → Nat} {M : zM} {d : Int} (hd : 0 ≤ d ∧ d ≤ 1) (hnb : 0 ≤ M 1 3 ∧ M 1 3 ≤ 7) (hns : 0 ≤ M 1 4 ∧ M 1 4 ≤ 16) (hB : ∀ b, 0 ≤ b ∧ b < M 1 3 → zBR (M (5 + b))) (hS : ∀ s, 0 ≤ s ∧ s < M 1 4 → zSR (M (12 + s))) (h0 : 0 ≤ M 4 0 ∧ M 4 0 ≤ 6) (h1 : 0 ≤ M 4 1 ∧ M 4 1 ≤ 6) : zTI G (zw ad) mi_X6_findForAll [zr 74, zr 1, zi d] M (fun x M' => (∀ r, r < 74 ∨ 93 < r → M' r = M r) ∧ ((x = 0 ∧ zall M d = -1) ∨ (x = 1 ∧ zall M d ≠ -1 ∧ M' 74 3 = zall M d / 268435456 ∧ (∀ b, 0 ≤ b ∧ b < M 1 3 → M' 77 b = zshe (zall M d) b) ∧ ∀ s b, 0 ≤ s ∧ s < M 1 4 → 0 ≤ b ∧ b < M 1 3 → M' (78 + s) b = zkey (zak M d) s b))) := by
  refine (t_findForAll hd hnb hns hB hS h0 h1).weaken ?_
  rintro x u (⟨rfl, g, rfl⟩ | ⟨rfl, g, rfl⟩)
  · exact ⟨zfrW_p, Or.inl ⟨rfl, g⟩⟩
  · exact ⟨zfrW_f, Or.inr ⟨rfl, g, by rw [zsho_o (by omega), zset_eq ⟨rfl, rfl⟩]; rfl, fun b hb => zsho_i hb, fun s b hs hb => by rw [zsho_o (by omega), zset_o (by omega), zpls_p hns.2 hs hb]⟩⟩
set_option maxHeartbeats 4000000 in
set_option maxRecDepth 100000 in
theorem t_shod {G : zG} {ad : Int → Nat} {M : zM} {d b : Int} (hd : -2147483648 ≤ d ∧ d ≤ 2147483647) (hb : -2147483648 ≤ b ∧ b ≤ 2147483647) (hnb : 0 ≤ M 1 3 ∧ M 1 3 ≤ 7) (hns : 0 ≤ M 1 4 ∧ M 1 4 ≤ 16) (hB : ∀ b, 0 ≤ b ∧ b < M 1 3 → zBR (M (5 + b))) (hS : ∀ s, 0 ≤ s ∧ s < M 1 4 → zSR (M (12 + s))) (h0 : 0 ≤ M 4 0 ∧ M 4 0 ≤ 6) (h1 : 0 ≤ M 4 1 ∧ M 4 1 ≤ 6)  : zTI G (zw ad) mi_X7_shod [zr 0, zi d, zi b] M (fun x M' => (¬ ((0 ≤ d ∧ d ≤ 1) ∧ (-1 ≤ b ∧ b < M 1 3)) ∧ x = -1 ∧ M' = M) ∨ ((((0 ≤ d ∧ d ≤ 1) ∧ (-1 ≤ b ∧ b < M 1 3)) ∧ zall M d = -1) ∧ x = -4 ∧ zfrW M M') ∨ ((((0 ≤ d ∧ d ≤ 1) ∧ (-1 ≤ b ∧ b < M 1 3)) ∧ zall M d ≠ -1 ∧ b = -1) ∧ x = zall M d / 268435456 ∧ zfrW M M') ∨ ((((0 ≤ d ∧ d ≤ 1) ∧ (-1 ≤ b ∧ b < M 1 3)) ∧ zall M d ≠ -1 ∧ 0 ≤ b) ∧ x = zshe (zall M d) b ∧ zfrW M M')) := by
  refine zTI.of (own := RX7) (ls := [some (zr 0), some (zi d), some (zi b)]) (by decide +kernel) rfl rfl (Nat.le_of_ble_eq_true rfl) (fun γ ok rt => ?_)
  refine v_iload_1 ok dX7_shod_0 (n := 1) rfl ?_
  refine v_callSI ok (mi := mi_X7_isSide) mc_X7_isSide cs_X7_101 (by decide) ⟨Nat.zero_le _, Nat.zero_le _⟩ dX7_shod_1 (n := 4) rfl rfl rfl (Nat.le_of_ble_eq_true rfl) (t_isSide hd) (fun x5 M5 h5 => ?_)
  obtain ⟨e5_, h5⟩ := h5
  subst M5
  refine v_if_eq ok dX7_shod_4 (tgt := 20) (by decide) (n := 7) rfl (by omega) (fun c4_1 => ?_) (fun c4_1 => ?_)
  · have c4_1 := c4_1
    refine v_iconst ok dX7_shod_20 (n := 21) rfl ?_
    refine v_iret rt dX7_shod_21 ?_
    exact Or.inl ⟨by omega, rfl, rfl⟩
  · have c4_1 := c4_1
    refine v_iload_2 ok dX7_shod_7 (n := 8) rfl ?_
    refine v_iconst ok dX7_shod_8 (n := 9) rfl ?_
    refine v_icmp_eq ok dX7_shod_9 (tgt := 22) (by decide) (n := 12) rfl (by omega) (by omega) (fun c9_2 => ?_) (fun c9_2 => ?_)
    · have c9_2 := c9_2
      have hbr : -1 ≤ b ∧ b < M 1 3 := by omega
      refine v_aload_0 ok dX7_shod_22 (n := 23) rfl ?_
      refine v_getR ok fd_X7_33 ly_0 rfl rfl rfl rf_0_4 dX7_shod_23 (n := 26) rfl ?_
      refine v_aload_0 ok dX7_shod_26 (n := 27) rfl ?_
      refine v_getR ok fd_X7_10 ly_0 rfl rfl rfl rf_0_0 dX7_shod_27 (n := 30) rfl ?_
      refine v_iload_1 ok dX7_shod_30 (n := 31) rfl ?_
      refine v_callVI ok (mi := mi_X6_findForAll) mc_X6_findForAll cv_X7_146 ly_74 rfl rfl rfl (by decide) ⟨Nat.zero_le _, Nat.zero_le _⟩ dX7_shod_31 (n := 34) rfl rfl rfl (Nat.le_of_ble_eq_true rfl) (t_findForAllW (by omega) hnb hns hB hS h0 h1) (fun x8 M8 g8 => ?_)
      obtain ⟨f8, g8⟩ := g8
      refine v_if_ne ok dX7_shod_34 (tgt := 40) (by decide) (n := 37) rfl (by omega) (fun c34_3 => ?_) (fun c34_3 => ?_)
      · have c34_3 := c34_3
        rcases g8 with ⟨e8, _⟩ | ⟨_, g8, g3, g4, _⟩
        · exact absurd e8 c34_3
        refine v_iload_2 ok dX7_shod_40 (n := 41) rfl ?_
        refine v_iconst ok dX7_shod_41 (n := 42) rfl ?_
        refine v_icmp_ne ok dX7_shod_42 (tgt := 55) (by decide) (n := 45) rfl (by omega) (by omega) (fun c42_4 => ?_) (fun c42_4 => ?_)
        · have c42_4 := c42_4
          refine v_aload_0 ok dX7_shod_55 (n := 56) rfl ?_
          refine v_getR ok fd_X7_33 ly_0 rfl rfl rfl rf_0_4 dX7_shod_56 (n := 59) rfl ?_
          refine v_getR ok fd_X7_153 ly_74 rfl rfl rfl rf_74_2 dX7_shod_59 (n := 62) rfl ?_
          refine v_iload_2 ok dX7_shod_62 (n := 63) rfl ?_
          refine v_iald ok ly_77 rfl (by omega) (by decide) dX7_shod_63 (n := 64) rfl ?_
          rw [g4 b (by omega)]
          refine v_iret rt dX7_shod_64 ?_
          first
          | exact Or.inr (Or.inr (Or.inl ⟨⟨⟨by omega, hbr⟩, g8, by omega⟩, rfl, f8⟩))
          | exact Or.inr (Or.inr (Or.inr ⟨⟨⟨by omega, hbr⟩, g8, by omega⟩, rfl, f8⟩))
        · have c42_4 := c42_4
          refine v_aload_0 ok dX7_shod_45 (n := 46) rfl ?_
          refine v_getR ok fd_X7_33 ly_0 rfl rfl rfl rf_0_4 dX7_shod_46 (n := 49) rfl ?_
          refine v_getI ok fd_X7_150 ly_74 rfl rfl (jI := 3) rfl dX7_shod_49 (n := 52) rfl ?_
          rw [g3]
          refine v_goto ok dX7_shod_52 (n := 64) (by decide) ?_
          refine v_iret rt dX7_shod_64 ?_
          first
          | exact Or.inr (Or.inr (Or.inl ⟨⟨⟨by omega, hbr⟩, g8, by omega⟩, rfl, f8⟩))
          | exact Or.inr (Or.inr (Or.inr ⟨⟨⟨by omega, hbr⟩, g8, by omega⟩, rfl, f8⟩))
      · have c34_3 := c34_3
        rcases g8 with ⟨_, g8⟩ | ⟨e8, _⟩
        rotate_left
        · exfalso; omega
        refine v_bipush ok (by decide) dX7_shod_37 (n := 39) rfl ?_
        refine v_iret rt dX7_shod_39 ?_
        exact Or.inr (Or.inl ⟨⟨⟨by omega, hbr⟩, g8⟩, rfl, f8⟩)
    · have c9_2 := c9_2
      refine v_aload_0 ok dX7_shod_12 (n := 13) rfl ?_
      refine v_iload_2 ok dX7_shod_13 (n := 14) rfl ?_
      refine v_callVI ok (mi := mi_X7_isBride) mc_X7_isBride cv_X7_77 ly_0 rfl rfl rfl (by decide) ⟨Nat.zero_le _, Nat.zero_le _⟩ dX7_shod_14 (n := 17) rfl rfl rfl (Nat.le_of_ble_eq_true rfl) (t_isBride hb (by omega)) (fun x6 M6 h6 => ?_)
      obtain ⟨e6_, h6⟩ := h6
      subst M6
      refine v_if_ne ok dX7_shod_17 (tgt := 22) (by decide) (n := 20) rfl (by omega) (fun c17_5 => ?_) (fun c17_5 => ?_)
      · have c17_5 := c17_5
        have hbr : -1 ≤ b ∧ b < M 1 3 := by omega
        refine v_aload_0 ok dX7_shod_22 (n := 23) rfl ?_
        refine v_getR ok fd_X7_33 ly_0 rfl rfl rfl rf_0_4 dX7_shod_23 (n := 26) rfl ?_
        refine v_aload_0 ok dX7_shod_26 (n := 27) rfl ?_
        refine v_getR ok fd_X7_10 ly_0 rfl rfl rfl rf_0_0 dX7_shod_27 (n := 30) rfl ?_
        refine v_iload_1 ok dX7_shod_30 (n := 31) rfl ?_
        refine v_callVI ok (mi := mi_X6_findForAll) mc_X6_findForAll cv_X7_146 ly_74 rfl rfl rfl (by decide) ⟨Nat.zero_le _, Nat.zero_le _⟩ dX7_shod_31 (n := 34) rfl rfl rfl (Nat.le_of_ble_eq_true rfl) (t_findForAllW (by omega) hnb hns hB hS h0 h1) (fun x8 M8 g8 => ?_)
        obtain ⟨f8, g8⟩ := g8
        refine v_if_ne ok dX7_shod_34 (tgt := 40) (by decide) (n := 37) rfl (by omega) (fun c34_6 => ?_) (fun c34_6 => ?_)
        · have c34_6 := c34_6
          rcases g8 with ⟨e8, _⟩ | ⟨_, g8, g3, g4, _⟩
          · exact absurd e8 c34_6
          refine v_iload_2 ok dX7_shod_40 (n := 41) rfl ?_
          refine v_iconst ok dX7_shod_41 (n := 42) rfl ?_
          refine v_icmp_ne ok dX7_shod_42 (tgt := 55) (by decide) (n := 45) rfl (by omega) (by omega) (fun c42_7 => ?_) (fun c42_7 => ?_)
          · have c42_7 := c42_7
            refine v_aload_0 ok dX7_shod_55 (n := 56) rfl ?_
            refine v_getR ok fd_X7_33 ly_0 rfl rfl rfl rf_0_4 dX7_shod_56 (n := 59) rfl ?_
            refine v_getR ok fd_X7_153 ly_74 rfl rfl rfl rf_74_2 dX7_shod_59 (n := 62) rfl ?_
            refine v_iload_2 ok dX7_shod_62 (n := 63) rfl ?_
            refine v_iald ok ly_77 rfl (by omega) (by decide) dX7_shod_63 (n := 64) rfl ?_
            rw [g4 b (by omega)]
            refine v_iret rt dX7_shod_64 ?_
            first
            | exact Or.inr (Or.inr (Or.inl ⟨⟨⟨by omega, hbr⟩, g8, by omega⟩, rfl, f8⟩))
            | exact Or.inr (Or.inr (Or.inr ⟨⟨⟨by omega, hbr⟩, g8, by omega⟩, rfl, f8⟩))
          · have c42_7 := c42_7
            refine v_aload_0 ok dX7_shod_45 (n := 46) rfl ?_
            refine v_getR ok fd_X7_33 ly_0 rfl rfl rfl rf_0_4 dX7_shod_46 (n := 49) rfl ?_
            refine v_getI ok fd_X7_150 ly_74 rfl rfl (jI := 3) rfl dX7_shod_49 (n := 52) rfl ?_
            rw [g3]
            refine v_goto ok dX7_shod_52 (n := 64) (by decide) ?_
            refine v_iret rt dX7_shod_64 ?_
            first
            | exact Or.inr (Or.inr (Or.inl ⟨⟨⟨by omega, hbr⟩, g8, by omega⟩, rfl, f8⟩))
            | exact Or.inr (Or.inr (Or.inr ⟨⟨⟨by omega, hbr⟩, g8, by omega⟩, rfl, f8⟩))
        · have c34_6 := c34_6
          rcases g8 with ⟨_, g8⟩ | ⟨e8, _⟩
          rotate_left
          · exfalso; omega
          refine v_bipush ok (by decide) dX7_shod_37 (n := 39) rfl ?_
          refine v_iret rt dX7_shod_39 ?_
          exact Or.inr (Or.inl ⟨⟨⟨by omega, hbr⟩, g8⟩, rfl, f8⟩)
      · have c17_5 := c17_5
        refine v_iconst ok dX7_shod_20 (n := 21) rfl ?_
        refine v_iret rt dX7_shod_21 ?_
        exact Or.inl ⟨by omega, rfl, rfl⟩

set_option maxHeartbeats 4000000 in
set_option maxRecDepth 100000 in
theorem t_most {G : zG} {ad : Int → Nat} {M : zM} {d : Int} (hd : -2147483648 ≤ d ∧ d ≤ 2147483647) (hnb : 0 ≤ M 1 3 ∧ M 1 3 ≤ 7) (hns : 0 ≤ M 1 4 ∧ M 1 4 ≤ 16) (hB : ∀ b, 0 ≤ b ∧ b < M 1 3 → zBR (M (5 + b))) (hS : ∀ s, 0 ≤ s ∧ s < M 1 4 → zSR (M (12 + s))) (h0 : 0 ≤ M 4 0 ∧ M 4 0 ≤ 6) (h1 : 0 ≤ M 4 1 ∧ M 4 1 ≤ 6)  : zTI G (zw ad) mi_X7_most [zr 0, zi d] M (fun x M' => (¬ (0 ≤ d ∧ d ≤ 1) ∧ x = -1 ∧ M' = M) ∨ ((0 ≤ d ∧ d ≤ 1) ∧ x = zmst (zds (zkey (zak M d)) (M 1 3) (M 1 4).toNat) (zp2 (M 1 3)).toNat ∧ zfrW M M')) := by
  refine zTI.of (own := RX7) (ls := [some (zr 0), some (zi d)]) (by decide +kernel) rfl rfl (Nat.le_of_ble_eq_true rfl) (fun γ ok rt => ?_)
  refine v_iload_1 ok dX7_most_0 (n := 1) rfl ?_
  refine v_callSI ok (mi := mi_X7_isSide) mc_X7_isSide cs_X7_101 (by decide) ⟨Nat.zero_le _, Nat.zero_le _⟩ dX7_most_1 (n := 4) rfl rfl rfl (Nat.le_of_ble_eq_true rfl) (t_isSide hd) (fun x5 M5 h5 => ?_)
  obtain ⟨e5_, h5⟩ := h5
  subst M5
  refine v_if_eq ok dX7_most_4 (tgt := 22) (by decide) (n := 7) rfl (by omega) (fun c4_1 => ?_) (fun c4_1 => ?_)
  · have c4_1 := c4_1
    refine v_iconst ok dX7_most_22 (n := 23) rfl ?_
    refine v_iret rt dX7_most_23 ?_
    first
    | exact Or.inl ⟨by omega, rfl, rfl⟩
    | exact Or.inr ⟨by omega, rfl, zfrW_p⟩
  · have c4_1 := c4_1
    refine v_aload_0 ok dX7_most_7 (n := 8) rfl ?_
    refine v_getR ok fd_X7_33 ly_0 rfl rfl rfl rf_0_4 dX7_most_8 (n := 11) rfl ?_
    refine v_aload_0 ok dX7_most_11 (n := 12) rfl ?_
    refine v_getR ok fd_X7_10 ly_0 rfl rfl rfl rf_0_0 dX7_most_12 (n := 15) rfl ?_
    refine v_iload_1 ok dX7_most_15 (n := 16) rfl ?_
    refine v_callVI ok (mi := mi_X6_findMost) mc_X6_findMost cv_X7_156 ly_74 rfl rfl rfl (by decide) ⟨Nat.zero_le _, Nat.zero_le _⟩ dX7_most_16 (n := 19) rfl rfl rfl (Nat.le_of_ble_eq_true rfl) (t_findMost (by omega) hnb hns hB hS h0 h1) (fun x8 M8 g8 => ?_)
    obtain ⟨rfl, rfl⟩ := g8
    refine v_goto ok dX7_most_19 (n := 23) (by decide) ?_
    refine v_iret rt dX7_most_23 ?_
    first
    | exact Or.inl ⟨by omega, rfl, rfl⟩
    | exact Or.inr ⟨by omega, rfl, zfrW_p⟩

/-- the least price of all with the shoe lost -/
def zcha (M : zM) (s : Int) : Int := zbst (zchg (zkey (zak M (M (12 + s) 0))) (zshe (zall M (M (12 + s) 0))) s) M
set_option maxHeartbeats 4000000 in
set_option maxRecDepth 100000 in
theorem t_chain {G : zG} {ad : Int → Nat} {M : zM} {s : Int} (hs : -2147483648 ≤ s ∧ s ≤ 2147483647) (hnb : 0 ≤ M 1 3 ∧ M 1 3 ≤ 7) (hns : 0 ≤ M 1 4 ∧ M 1 4 ≤ 16) (hB : ∀ b, 0 ≤ b ∧ b < M 1 3 → zBR (M (5 + b))) (hS : ∀ s, 0 ≤ s ∧ s < M 1 4 → zSR (M (12 + s))) (h0 : 0 ≤ M 4 0 ∧ M 4 0 ≤ 6) (h1 : 0 ≤ M 4 1 ∧ M 4 1 ≤ 6)  : zTI G (zw ad) mi_X7_chain [zr 0, zi s] M (fun x M' => (¬ (0 ≤ s ∧ s < M 1 4) ∧ x = -1 ∧ M' = M) ∨ (((0 ≤ s ∧ s < M 1 4) ∧ (M (12 + s) 3 ≠ 0 ∨ zall M (M (12 + s) 0) = -1)) ∧ x = -2 ∧ zfrW M M') ∨ (((0 ≤ s ∧ s < M 1 4) ∧ M (12 + s) 3 = 0 ∧ zall M (M (12 + s) 0) ≠ -1 ∧ ¬ zwrn (zshe (zall M (M (12 + s) 0))) (M 1 3) s) ∧ x = -2 ∧ zfrW M M') ∨ (((0 ≤ s ∧ s < M 1 4) ∧ M (12 + s) 3 = 0 ∧ zall M (M (12 + s) 0) ≠ -1 ∧ zwrn (zshe (zall M (M (12 + s) 0))) (M 1 3) s) ∧ ((zcha M s = -1 ∧ x = -4) ∨ (zcha M s ≠ -1 ∧ x = zcha M s)) ∧ zfrW M M')) := by
  refine zTI.of (own := RX7) (ls := [some (zr 0), some (zi s)]) (by decide +kernel) rfl rfl (Nat.le_of_ble_eq_true rfl) (fun γ ok rt => ?_)
  refine v_aload_0 ok dX7_chain_0 (n := 1) rfl ?_
  refine v_iload_1 ok dX7_chain_1 (n := 2) rfl ?_
  refine v_callVI ok (mi := mi_X7_isShoe) mc_X7_isShoe cv_X7_94 ly_0 rfl rfl rfl (by decide) ⟨Nat.zero_le _, Nat.zero_le _⟩ dX7_chain_2 (n := 5) rfl rfl rfl (Nat.le_of_ble_eq_true rfl) (t_isShoe hs (by omega)) (fun x5 M5 h5 => ?_)
  obtain ⟨e5_, h5⟩ := h5
  subst M5
  refine v_if_ne ok dX7_chain_5 (tgt := 10) (by decide) (n := 8) rfl (by omega) (fun c5_1 => ?_) (fun c5_1 => ?_)
  · have c5_1 := c5_1
    refine v_aload_0 ok dX7_chain_10 (n := 11) rfl ?_
    refine v_getR ok fd_X7_10 ly_0 rfl rfl rfl rf_0_0 dX7_chain_11 (n := 14) rfl ?_
    refine v_getR ok fd_X7_91 ly_1 rfl rfl rfl rf_1_1 dX7_chain_14 (n := 17) rfl ?_
    refine v_iload_1 ok dX7_chain_17 (n := 18) rfl ?_
    refine v_aald ok ly_3 (by decide) rfl (by omega) (by decide) rfl dX7_chain_18 (n := 19) rfl ?_
    refine v_iconst ok dX7_chain_19 (n := 20) rfl ?_
    refine v_iald ok (lf_sro (by omega)) rfl (by omega) (by decide) dX7_chain_20 (n := 21) rfl ?_
    obtain ⟨q0, q1, q2, q3⟩ := hS s (by omega)
    refine v_if_ne ok dX7_chain_21 (tgt := 49) (by decide) (n := 24) rfl (by omega) (fun c21_2 => ?_) (fun c21_2 => ?_)
    · have c21_2 := c21_2
      refine v_bipush ok (by decide) dX7_chain_49 (n := 51) rfl ?_
      refine v_iret rt dX7_chain_51 ?_
      first
      | exact Or.inr (Or.inl ⟨⟨by omega, Or.inl (by omega)⟩, rfl, zfrW_r M⟩)
      | exact Or.inr (Or.inl ⟨⟨by omega, Or.inr g8⟩, rfl, f8⟩)
    · have c21_2 := c21_2
      refine v_aload_0 ok dX7_chain_24 (n := 25) rfl ?_
      refine v_getR ok fd_X7_33 ly_0 rfl rfl rfl rf_0_4 dX7_chain_25 (n := 28) rfl ?_
      refine v_aload_0 ok dX7_chain_28 (n := 29) rfl ?_
      refine v_getR ok fd_X7_10 ly_0 rfl rfl rfl rf_0_0 dX7_chain_29 (n := 32) rfl ?_
      refine v_aload_0 ok dX7_chain_32 (n := 33) rfl ?_
      refine v_getR ok fd_X7_10 ly_0 rfl rfl rfl rf_0_0 dX7_chain_33 (n := 36) rfl ?_
      refine v_getR ok fd_X7_91 ly_1 rfl rfl rfl rf_1_1 dX7_chain_36 (n := 39) rfl ?_
      refine v_iload_1 ok dX7_chain_39 (n := 40) rfl ?_
      refine v_aald ok ly_3 (by decide) rfl (by omega) (by decide) rfl dX7_chain_40 (n := 41) rfl ?_
      refine v_iconst ok dX7_chain_41 (n := 42) rfl ?_
      refine v_iald ok (lf_sro (by omega)) rfl (by omega) (by decide) dX7_chain_42 (n := 43) rfl ?_
      refine v_callVI ok (mi := mi_X6_findForAll) mc_X6_findForAll cv_X7_146 ly_74 rfl rfl rfl (by decide) ⟨Nat.zero_le _, Nat.zero_le _⟩ dX7_chain_43 (n := 46) rfl rfl rfl (Nat.le_of_ble_eq_true rfl) (t_findForAllW q0 hnb hns hB hS h0 h1) (fun x8 M8 g8 => ?_)
      obtain ⟨f8, g8⟩ := g8
      refine v_if_ne ok dX7_chain_46 (tgt := 52) (by decide) (n := 49) rfl (by omega) (fun c46_3 => ?_) (fun c46_3 => ?_)
      · have c46_3 := c46_3
        rcases g8 with ⟨e8, _⟩ | ⟨_, g8, g3, g4, g5⟩
        · exact absurd e8 c46_3
        refine v_aload_0 ok dX7_chain_52 (n := 53) rfl ?_
        refine v_getR ok fd_X7_33 ly_0 rfl rfl rfl rf_0_4 dX7_chain_53 (n := 56) rfl ?_
        refine v_aload_0 ok dX7_chain_56 (n := 57) rfl ?_
        refine v_getR ok fd_X7_10 ly_0 rfl rfl rfl rf_0_0 dX7_chain_57 (n := 60) rfl ?_
        refine v_iload_1 ok dX7_chain_60 (n := 61) rfl ?_
        refine v_callVI ok (mi := mi_X6_isWorn) mc_X6_isWorn cv_X7_160 ly_74 rfl rfl rfl (by decide) ⟨Nat.zero_le _, Nat.zero_le _⟩ dX7_chain_61 (n := 64) rfl rfl rfl (Nat.le_of_ble_eq_true rfl) (by
            have e := t_isWorn (G := G) (ad := ad) (M := M8) (s := s) (by omega) (by rw [f8 1 (by omega)]; exact hnb) (by rw [f8 1 (by omega)]; intro b hb; rw [g4 b hb]; exact zshe_b _ b)
            rw [f8 1 (by omega)] at e
            exact e) (fun x9 M9 g9 => ?_)
        obtain ⟨g9, w9⟩ := g9
        subst M9
        replace w9 : (x9 = 1 ∧ zwrn (zshe (zall M (M (12 + s) 0))) (M 1 3) s) ∨ (x9 = 0 ∧ ¬ zwrn (zshe (zall M (M (12 + s) 0))) (M 1 3) s) := by
          rcases w9 with ⟨rfl, b, hb, w9⟩ | ⟨rfl, w9⟩
          · exact Or.inl ⟨rfl, b, hb, by rw [g4 b hb] at w9; exact w9⟩
          · refine Or.inr ⟨rfl, fun hw => ?_⟩
            obtain ⟨b, hb, hw⟩ := hw
            have w9 := w9 b hb
            rw [g4 b hb] at w9
            exact w9 hw
        refine v_if_eq ok dX7_chain_64 (tgt := 82) (by decide) (n := 67) rfl (by omega) (fun c64_4 => ?_) (fun c64_4 => ?_)
        · have c64_4 := c64_4
          refine v_bipush ok (by decide) dX7_chain_82 (n := 84) rfl ?_
          refine v_iret rt dX7_chain_84 ?_
          have kk : M (12 + s) 3 = 0 := by omega
          rcases w9 with ⟨e9, w9⟩ | ⟨e9, w9⟩
          · first
            | (exfalso; omega)
            | exact Or.inr (Or.inr (Or.inr ⟨⟨by omega, kk, by assumption, w9⟩, w7, zfrW_t f8 zfrW_p⟩))
          · first
            | (exfalso; omega)
            | exact Or.inr (Or.inr (Or.inl ⟨⟨by omega, kk, by assumption, w9⟩, rfl, f8⟩))
        · have c64_4 := c64_4
          refine v_aload_0 ok dX7_chain_67 (n := 68) rfl ?_
          refine v_getR ok fd_X7_33 ly_0 rfl rfl rfl rf_0_4 dX7_chain_68 (n := 71) rfl ?_
          refine v_aload_0 ok dX7_chain_71 (n := 72) rfl ?_
          refine v_getR ok fd_X7_10 ly_0 rfl rfl rfl rf_0_0 dX7_chain_72 (n := 75) rfl ?_
          refine v_iload_1 ok dX7_chain_75 (n := 76) rfl ?_
          refine v_callVI ok (mi := mi_X6_findChain) mc_X6_findChain cv_X7_163 ly_74 rfl rfl rfl (by decide) ⟨Nat.zero_le _, Nat.zero_le _⟩ dX7_chain_76 (n := 79) rfl rfl rfl (Nat.le_of_ble_eq_true rfl) (by
              exact t_findChain (G := G) (ad := ad) (M := M8) (f := zkey (zak M (M (12 + s) 0))) (own := zshe (zall M (M (12 + s) 0))) (lost := s) (by omega) (by rw [f8 1 (by omega)]; exact hnb) (by rw [f8 1 (by omega)]; exact hns) (by rw [f8 1 (by omega)]; exact g5) (by rw [f8 1 (by omega)]; intro q b hq hb; rw [g5 q b hq hb]; exact zkey_B hnb hns h1 q b hq hb) (by rw [f8 1 (by omega)]; exact g4) (by rw [f8 1 (by omega)]; intro b hb; rw [g4 b hb]; exact zshe_b _ b)) (fun x7 M7 g7 => ?_)
          obtain ⟨g7, w7⟩ := g7
          have bd7 : zbst (zchg (zkey (zak M (M (12 + s) 0))) (zshe (zall M (M (12 + s) 0))) s) M8 = zcha M s := by unfold zcha zbst; rw [f8 1 (by omega)]
          rw [bd7] at w7
          subst g7
          refine v_goto ok dX7_chain_79 (n := 84) (by decide) ?_
          refine v_iret rt dX7_chain_84 ?_
          have kk : M (12 + s) 3 = 0 := by omega
          rcases w9 with ⟨e9, w9⟩ | ⟨e9, w9⟩
          · first
            | (exfalso; omega)
            | exact Or.inr (Or.inr (Or.inr ⟨⟨by omega, kk, by assumption, w9⟩, w7, zfrW_t f8 zfrW_p⟩))
          · first
            | (exfalso; omega)
            | exact Or.inr (Or.inr (Or.inl ⟨⟨by omega, kk, by assumption, w9⟩, rfl, f8⟩))
      · have c46_3 := c46_3
        rcases g8 with ⟨_, g8⟩ | ⟨e8, _⟩
        rotate_left
        · exfalso; omega
        refine v_bipush ok (by decide) dX7_chain_49 (n := 51) rfl ?_
        refine v_iret rt dX7_chain_51 ?_
        first
        | exact Or.inr (Or.inl ⟨⟨by omega, Or.inl (by omega)⟩, rfl, zfrW_r M⟩)
        | exact Or.inr (Or.inl ⟨⟨by omega, Or.inr g8⟩, rfl, f8⟩)
  · have c5_1 := c5_1
    refine v_iconst ok dX7_chain_8 (n := 9) rfl ?_
    refine v_iret rt dX7_chain_9 ?_
    exact Or.inl ⟨by omega, rfl, rfl⟩

