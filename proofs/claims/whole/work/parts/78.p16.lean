/-! constructors: their facts, their contracts -/
/-- the addresses of what is there are kept -/
def zag (al : Int → Bool) (ad ad2 : Int → Nat) : Prop := (∀ r, al r = true → ad2 r = ad r) ∧ ∀ r, 300 ≤ r → ad2 r = ad r
def ziv (ad0 : Int → Nat) (al0 : Int → Bool) (ad : Int → Nat) (al : Int → Bool) : Prop := (∀ r, al0 r = true → al r = true ∧ ad r = ad0 r) ∧ ∀ r, 300 ≤ r → ad r = ad0 r
theorem ziv_0 {ad : Int → Nat} {al : Int → Bool} : ziv ad al ad al := ⟨fun _ h => ⟨h, rfl⟩, fun _ _ => rfl⟩
theorem ziv_n {ad0 ad ad2 : Int → Nat} {al0 al al2 : Int → Bool} (h : ziv ad0 al0 ad al) (g : zag al ad ad2) (m : ∀ r, al r = true → al2 r = true) : ziv ad0 al0 ad2 al2 := ⟨fun r hr => ⟨m r (h.1 r hr).1, (g.1 r (h.1 r hr).1).trans (h.1 r hr).2⟩, fun r hr => (g.2 r hr).trans (h.2 r hr)⟩
theorem zag_a {al : Int → Bool} {ad : Int → Nat} {R : Int} (hf : al R = false) (h3 : R < 300) (q : Nat) : zag al ad (zadf ad R 1 q) := ⟨zadf_s hf q, fun r hr => zadf_o (by omega)⟩
theorem zadr_j {al : Int → Bool} {a n b m c : Int} (h1 : a + n = b) (h2 : n + m = c) (h3 : 0 ≤ n ∧ 0 ≤ m) : zadr (zadr al a n) b m = zadr al a c := by
  funext r
  unfold zadr
  rw [← Bool.or_assoc]
  congr 1
  rw [← Bool.decide_or]
  exact decide_eq_decide.mpr (by omega)
theorem zal_x {f g : Int → Bool} (h : ∀ r, f r = true ↔ g r = true) : f = g := by
  funext r
  exact Bool.eq_iff_iff.mpr (h r)
theorem zz_s {M : zM} {r k v a n : Int} (h : zz M a n) (hr : ¬ (a ≤ r ∧ r < a + n)) : zz (zset M r k v) a n := fun q j hq => by
  have z : ¬ (q = r ∧ j = k) := fun z => hr (z.1 ▸ hq)
  show (if q = r ∧ j = k then v else M q j) = 0
  rw [if_neg z]
  exact h q j hq
theorem zz_b {M : zM} {a n b m : Int} (h : zz M a n) (hr : a ≤ b ∧ b + m ≤ a + n) : zz M b m := fun q j hq => h q j (by omega)
theorem zset0 {M : zM} {r k : Int} (h : zz M r 1) : zset M r k 0 = M := by
  funext q j
  unfold zset
  split
  · next z => rw [z.1, z.2]; exact (h r k (by omega)).symm
  · rfl
theorem ztg_a {r b : Int} {t m : Nat} {k : Nat} (h : zlay r = (t, m, b)) (ht : t ≠ 6) : ztg r k = b + k := by
  unfold ztg
  rw [h]
  exact if_neg ht
theorem ztg_o {r b : Int} {c : Nat} {k : Nat} (h : zlay r = (6, c, b)) : ztg r k = zrf r k := by
  unfold ztg
  rw [h]
  exact if_pos rfl
theorem zsr {al : Int → Bool} {r : Int} {st : List zV} (h : al r = true) (h2 : st.all (zvl al) = true) : (zr r :: st).all (zvl al) = true := by
  rw [List.all_cons, h2, Bool.and_true]
  exact h
theorem zsi {al : Int → Bool} {x : Int} {st : List zV} (h2 : st.all (zvl al) = true) : (zi x :: st).all (zvl al) = true := by
  rw [List.all_cons, h2, Bool.and_true]
  rfl
theorem zlr {al : Int → Bool} {r : Int} {st : zL} (h : al r = true) (h2 : st.all (zol al) = true) : (some (zr r) :: st).all (zol al) = true := by
  rw [List.all_cons, h2, Bool.and_true]
  exact h
theorem zli {al : Int → Bool} {x : Int} {st : zL} (h2 : st.all (zol al) = true) : (some (zi x) :: st).all (zol al) = true := by
  rw [List.all_cons, h2, Bool.and_true]
  rfl
theorem zlnn {al : Int → Bool} {st : zL} (h2 : st.all (zol al) = true) : (none :: st).all (zol al) = true := by
  rw [List.all_cons, h2, Bool.and_true]
  rfl
theorem mc_X0_init : zMc mi_X0_init 0 := ⟨(zt 122 (by decide +kernel) (by decide +kernel)), by decide +kernel, by decide +kernel, by decide +kernel⟩
theorem ff_X0_9 : zFf RX0 9 0 0 (tyX0 0) := ⟨fd_X0_9, _, rfl, by decide +kernel, by decide +kernel, by decide +kernel, by decide +kernel⟩
theorem ff_X0_15 : zFf RX0 15 0 1 (tyX0 1) := ⟨fd_X0_15, _, rfl, by decide +kernel, by decide +kernel, by decide +kernel, by decide +kernel⟩
theorem ff_X0_18 : zFf RX0 18 0 2 (tyX0 2) := ⟨fd_X0_18, _, rfl, by decide +kernel, by decide +kernel, by decide +kernel, by decide +kernel⟩
theorem mc_X1_init : zMc mi_X1_init 0 := ⟨(zt 26 (by decide +kernel) (by decide +kernel)), by decide +kernel, by decide +kernel, by decide +kernel⟩
theorem ff_X1_11 : zFf RX1 11 1 0 (tyX1 0) := ⟨fd_X1_11, _, rfl, by decide +kernel, by decide +kernel, by decide +kernel, by decide +kernel⟩
theorem ff_X1_16 : zFf RX1 16 1 1 (tyX1 1) := ⟨fd_X1_16, _, rfl, by decide +kernel, by decide +kernel, by decide +kernel, by decide +kernel⟩
theorem ff_X1_19 : zFf RX1 19 1 2 (tyX1 2) := ⟨fd_X1_19, _, rfl, by decide +kernel, by decide +kernel, by decide +kernel, by decide +kernel⟩
theorem mc_X2_init : zMc mi_X2_init 0 := ⟨(zt 139 (by decide +kernel) (by decide +kernel)), by decide +kernel, by decide +kernel, by decide +kernel⟩
theorem ff_X2_17 : zFf RX2 17 2 1 (tyX2 1) := ⟨fd_X2_17, _, rfl, by decide +kernel, by decide +kernel, by decide +kernel, by decide +kernel⟩
theorem ff_X2_20 : zFf RX2 20 2 2 (tyX2 2) := ⟨fd_X2_20, _, rfl, by decide +kernel, by decide +kernel, by decide +kernel, by decide +kernel⟩
theorem ff_X2_23 : zFf RX2 23 2 3 (tyX2 3) := ⟨fd_X2_23, _, rfl, by decide +kernel, by decide +kernel, by decide +kernel, by decide +kernel⟩
theorem ff_X2_27 : zFf RX2 27 2 4 (tyX2 4) := ⟨fd_X2_27, _, rfl, by decide +kernel, by decide +kernel, by decide +kernel, by decide +kernel⟩
theorem ff_X2_30 : zFf RX2 30 2 5 (tyX2 5) := ⟨fd_X2_30, _, rfl, by decide +kernel, by decide +kernel, by decide +kernel, by decide +kernel⟩
theorem mc_X3_init : zMc mi_X3_init 0 := ⟨(zt 167 (by decide +kernel) (by decide +kernel)), by decide +kernel, by decide +kernel, by decide +kernel⟩
theorem ff_X3_9 : zFf RX3 9 3 0 (tyX3 0) := ⟨fd_X3_9, _, rfl, by decide +kernel, by decide +kernel, by decide +kernel, by decide +kernel⟩
theorem mc_X4_init : zMc mi_X4_init 0 := ⟨(zt 62 (by decide +kernel) (by decide +kernel)), by decide +kernel, by decide +kernel, by decide +kernel⟩
theorem ff_X4_9 : zFf RX4 9 4 0 (tyX4 0) := ⟨fd_X4_9, _, rfl, by decide +kernel, by decide +kernel, by decide +kernel, by decide +kernel⟩
theorem ff_X4_17 : zFf RX4 17 4 1 (tyX4 1) := ⟨fd_X4_17, _, rfl, by decide +kernel, by decide +kernel, by decide +kernel, by decide +kernel⟩
theorem mc_X5_init : zMc mi_X5_init 0 := ⟨(zt 108 (by decide +kernel) (by decide +kernel)), by decide +kernel, by decide +kernel, by decide +kernel⟩
theorem ff_X5_13 : zFf RX5 13 5 0 (tyX5 0) := ⟨fd_X5_13, _, rfl, by decide +kernel, by decide +kernel, by decide +kernel, by decide +kernel⟩
theorem mc_X6_init : zMc mi_X6_init 0 := ⟨(zt 84 (by decide +kernel) (by decide +kernel)), by decide +kernel, by decide +kernel, by decide +kernel⟩
theorem ff_X6_13 : zFf RX6 13 6 0 (tyX6 0) := ⟨fd_X6_13, _, rfl, by decide +kernel, by decide +kernel, by decide +kernel, by decide +kernel⟩
theorem ff_X6_16 : zFf RX6 16 6 1 (tyX6 1) := ⟨fd_X6_16, _, rfl, by decide +kernel, by decide +kernel, by decide +kernel, by decide +kernel⟩
theorem ff_X6_20 : zFf RX6 20 6 2 (tyX6 2) := ⟨fd_X6_20, _, rfl, by decide +kernel, by decide +kernel, by decide +kernel, by decide +kernel⟩
theorem mc_X7_init : zMc mi_X7_init 0 := ⟨(zt 18 (by decide +kernel) (by decide +kernel)), by decide +kernel, by decide +kernel, by decide +kernel⟩
theorem ff_X7_10 : zFf RX7 10 7 0 (tyX7 0) := ⟨fd_X7_10, _, rfl, by decide +kernel, by decide +kernel, by decide +kernel, by decide +kernel⟩
theorem ff_X7_16 : zFf RX7 16 7 1 (tyX7 1) := ⟨fd_X7_16, _, rfl, by decide +kernel, by decide +kernel, by decide +kernel, by decide +kernel⟩
theorem ff_X7_26 : zFf RX7 26 7 3 (tyX7 3) := ⟨fd_X7_26, _, rfl, by decide +kernel, by decide +kernel, by decide +kernel, by decide +kernel⟩
theorem ff_X7_33 : zFf RX7 33 7 4 (tyX7 4) := ⟨fd_X7_33, _, rfl, by decide +kernel, by decide +kernel, by decide +kernel, by decide +kernel⟩
theorem ff_X7_40 : zFf RX7 40 7 5 (tyX7 5) := ⟨fd_X7_40, _, rfl, by decide +kernel, by decide +kernel, by decide +kernel, by decide +kernel⟩
theorem ff_X7_47 : zFf RX7 47 7 6 (tyX7 6) := ⟨fd_X7_47, _, rfl, by decide +kernel, by decide +kernel, by decide +kernel, by decide +kernel⟩
theorem ff_X7_54 : zFf RX7 54 7 7 (tyX7 7) := ⟨fd_X7_54, _, rfl, by decide +kernel, by decide +kernel, by decide +kernel, by decide +kernel⟩
theorem ff_X7_60 : zFf RX7 60 7 8 (tyX7 8) := ⟨fd_X7_60, _, rfl, by decide +kernel, by decide +kernel, by decide +kernel, by decide +kernel⟩
theorem mc_X8_init : zMc mi_X8_init 0 := ⟨(zt 611 (by decide +kernel) (by decide +kernel)), by decide +kernel, by decide +kernel, by decide +kernel⟩
theorem ff_X8_7 : zFf RX8 7 8 0 (tyX8 0) := ⟨fd_X8_7, _, rfl, by decide +kernel, by decide +kernel, by decide +kernel, by decide +kernel⟩
theorem ff_X8_13 : zFf RX8 13 8 1 (tyX8 1) := ⟨fd_X8_13, _, rfl, by decide +kernel, by decide +kernel, by decide +kernel, by decide +kernel⟩
theorem ff_X8_16 : zFf RX8 16 8 4 (tyX8 4) := ⟨fd_X8_16, _, rfl, by decide +kernel, by decide +kernel, by decide +kernel, by decide +kernel⟩
theorem ff_X8_19 : zFf RX8 19 8 5 (tyX8 5) := ⟨fd_X8_19, _, rfl, by decide +kernel, by decide +kernel, by decide +kernel, by decide +kernel⟩
theorem ff_X8_22 : zFf RX8 22 8 9 (tyX8 9) := ⟨fd_X8_22, _, rfl, by decide +kernel, by decide +kernel, by decide +kernel, by decide +kernel⟩
theorem ff_X8_25 : zFf RX8 25 8 10 (tyX8 10) := ⟨fd_X8_25, _, rfl, by decide +kernel, by decide +kernel, by decide +kernel, by decide +kernel⟩
theorem ff_X8_28 : zFf RX8 28 8 12 (tyX8 12) := ⟨fd_X8_28, _, rfl, by decide +kernel, by decide +kernel, by decide +kernel, by decide +kernel⟩
theorem ff_X8_32 : zFf RX8 32 8 13 (tyX8 13) := ⟨fd_X8_32, _, rfl, by decide +kernel, by decide +kernel, by decide +kernel, by decide +kernel⟩
theorem ff_X8_35 : zFf RX8 35 8 14 (tyX8 14) := ⟨fd_X8_35, _, rfl, by decide +kernel, by decide +kernel, by decide +kernel, by decide +kernel⟩
theorem ff_X8_38 : zFf RX8 38 8 15 (tyX8 15) := ⟨fd_X8_38, _, rfl, by decide +kernel, by decide +kernel, by decide +kernel, by decide +kernel⟩
theorem ff_X8_42 : zFf RX8 42 8 16 (tyX8 16) := ⟨fd_X8_42, _, rfl, by decide +kernel, by decide +kernel, by decide +kernel, by decide +kernel⟩
theorem ff_X8_45 : zFf RX8 45 8 17 (tyX8 17) := ⟨fd_X8_45, _, rfl, by decide +kernel, by decide +kernel, by decide +kernel, by decide +kernel⟩
theorem ff_X8_48 : zFf RX8 48 8 19 (tyX8 19) := ⟨fd_X8_48, _, rfl, by decide +kernel, by decide +kernel, by decide +kernel, by decide +kernel⟩
theorem ff_X8_51 : zFf RX8 51 8 22 (tyX8 22) := ⟨fd_X8_51, _, rfl, by decide +kernel, by decide +kernel, by decide +kernel, by decide +kernel⟩
theorem ff_X8_54 : zFf RX8 54 8 23 (tyX8 23) := ⟨fd_X8_54, _, rfl, by decide +kernel, by decide +kernel, by decide +kernel, by decide +kernel⟩
theorem ff_X8_57 : zFf RX8 57 8 24 (tyX8 24) := ⟨fd_X8_57, _, rfl, by decide +kernel, by decide +kernel, by decide +kernel, by decide +kernel⟩
theorem ff_X8_60 : zFf RX8 60 8 25 (tyX8 25) := ⟨fd_X8_60, _, rfl, by decide +kernel, by decide +kernel, by decide +kernel, by decide +kernel⟩
theorem ff_X8_63 : zFf RX8 63 8 26 (tyX8 26) := ⟨fd_X8_63, _, rfl, by decide +kernel, by decide +kernel, by decide +kernel, by decide +kernel⟩
theorem ff_X8_66 : zFf RX8 66 8 27 (tyX8 27) := ⟨fd_X8_66, _, rfl, by decide +kernel, by decide +kernel, by decide +kernel, by decide +kernel⟩
theorem ff_X8_69 : zFf RX8 69 8 28 (tyX8 28) := ⟨fd_X8_69, _, rfl, by decide +kernel, by decide +kernel, by decide +kernel, by decide +kernel⟩
theorem ff_X8_72 : zFf RX8 72 8 29 (tyX8 29) := ⟨fd_X8_72, _, rfl, by decide +kernel, by decide +kernel, by decide +kernel, by decide +kernel⟩
theorem ff_X8_75 : zFf RX8 75 8 30 (tyX8 30) := ⟨fd_X8_75, _, rfl, by decide +kernel, by decide +kernel, by decide +kernel, by decide +kernel⟩
theorem ff_X8_78 : zFf RX8 78 8 31 (tyX8 31) := ⟨fd_X8_78, _, rfl, by decide +kernel, by decide +kernel, by decide +kernel, by decide +kernel⟩
theorem ci_X7_9 : zCi RX7 9 yX1_init := ⟨Or.inr (ztn 24 (by decide +kernel) (by decide +kernel)), (zt 25 (by decide +kernel) (by decide +kernel)), (zt 2 (by decide +kernel) (by decide +kernel)), rfl⟩
theorem ci_X7_25 : zCi RX7 25 yX4_init := ⟨Or.inr (ztn 60 (by decide +kernel) (by decide +kernel)), (zt 61 (by decide +kernel) (by decide +kernel)), (zt 3 (by decide +kernel) (by decide +kernel)), rfl⟩
theorem ci_X7_32 : zCi RX7 32 yX6_init := ⟨Or.inr (ztn 82 (by decide +kernel) (by decide +kernel)), (zt 83 (by decide +kernel) (by decide +kernel)), (zt 4 (by decide +kernel) (by decide +kernel)), rfl⟩
theorem ci_X7_39 : zCi RX7 39 yX5_init := ⟨Or.inr (ztn 106 (by decide +kernel) (by decide +kernel)), (zt 107 (by decide +kernel) (by decide +kernel)), (zt 5 (by decide +kernel) (by decide +kernel)), rfl⟩
theorem ci_X7_46 : zCi RX7 46 yX0_init := ⟨Or.inr (ztn 120 (by decide +kernel) (by decide +kernel)), (zt 121 (by decide +kernel) (by decide +kernel)), (zt 6 (by decide +kernel) (by decide +kernel)), rfl⟩
theorem ci_X7_53 : zCi RX7 53 yX2_init := ⟨Or.inr (ztn 137 (by decide +kernel) (by decide +kernel)), (zt 138 (by decide +kernel) (by decide +kernel)), (zt 7 (by decide +kernel) (by decide +kernel)), rfl⟩
theorem ci_X7_64 : zCi RX7 64 yX3_init := ⟨Or.inr (ztn 165 (by decide +kernel) (by decide +kernel)), (zt 166 (by decide +kernel) (by decide +kernel)), (zt 8 (by decide +kernel) (by decide +kernel)), rfl⟩
theorem ci_L_9 : zCi RL 9 yX7_init := ⟨Or.inl (zt 16 (by decide +kernel) (by decide +kernel)), (zt 17 (by decide +kernel) (by decide +kernel)), (zt 1 (by decide +kernel) (by decide +kernel)), rfl⟩
theorem ci_L_12 : zCi RL 12 yX8_init := ⟨Or.inl (zt 609 (by decide +kernel) (by decide +kernel)), (zt 610 (by decide +kernel) (by decide +kernel)), (zt 9 (by decide +kernel) (by decide +kernel)), rfl⟩
theorem oi_i : Cond.instanceMethod objectInit ∈ zTb := (zt 20 (by decide +kernel) (by decide +kernel))
theorem oi_c : Cond.code objectInit ⟨#[0xb1]⟩ 1 none ∈ zTb := (zt 21 (by decide +kernel) (by decide +kernel))
theorem hdf_0 : ∀ j, j < 3 → defaultValue (tyX0 j) = zfd (zft 0 j) := by decide +kernel
theorem hdf_1 : ∀ j, j < 5 → defaultValue (tyX1 j) = zfd (zft 1 j) := by decide +kernel
theorem hdf_2 : ∀ j, j < 6 → defaultValue (tyX2 j) = zfd (zft 2 j) := by decide +kernel
theorem hdf_3 : ∀ j, j < 4 → defaultValue (tyX3 j) = zfd (zft 3 j) := by decide +kernel
theorem hdf_4 : ∀ j, j < 4 → defaultValue (tyX4 j) = zfd (zft 4 j) := by decide +kernel
theorem hdf_5 : ∀ j, j < 2 → defaultValue (tyX5 j) = zfd (zft 5 j) := by decide +kernel
theorem hdf_6 : ∀ j, j < 4 → defaultValue (tyX6 j) = zfd (zft 6 j) := by decide +kernel
theorem hdf_7 : ∀ j, j < 9 → defaultValue (tyX7 j) = zfd (zft 7 j) := by decide +kernel
theorem hdf_8 : ∀ j, j < 32 → defaultValue (tyX8 j) = zfd (zft 8 j) := by decide +kernel
theorem zrsa_m {rs : Int → Nat → Bool} {r : Int} {a m : Nat} {r' : Int} {k : Nat} (h : rs r' k = true) : zrsa rs r a m r' k = true := by
  unfold zrsa
  rw [h, Bool.or_true]
theorem zag_r {al : Int → Bool} {ad : Int → Nat} {b : Int} {N : Nat} (hf : ∀ r, b ≤ r ∧ r < b + N → al r = false) (h3 : b + N ≤ 300) (q : Nat) : zag al ad (zadf ad b N q) := ⟨fun r h => zadf_o (fun z => by rw [hf r z] at h; cases h), fun r hr => zadf_o (by omega)⟩
theorem zrow_5 : ∀ r : Int, 5 ≤ r ∧ r < 5 + (7 : Nat) → zlay r = (0, 4, 0) := fun r hr => by
  obtain ⟨k, hk, rfl⟩ : ∃ k : Nat, k < 7 ∧ r = 5 + (k : Int) := ⟨(r - 5).toNat, by omega, by omega⟩
  clear hr
  revert k
  decide +kernel
theorem zrow_12 : ∀ r : Int, 12 ≤ r ∧ r < 12 + (16 : Nat) → zlay r = (0, 4, 0) := fun r hr => by
  obtain ⟨k, hk, rfl⟩ : ∃ k : Nat, k < 16 ∧ r = 12 + (k : Int) := ⟨(r - 12).toNat, by omega, by omega⟩
  clear hr
  revert k
  decide +kernel
theorem zrow_32 : ∀ r : Int, 32 ≤ r ∧ r < 32 + (7 : Nat) → zlay r = (0, 4, 0) := fun r hr => by
  obtain ⟨k, hk, rfl⟩ : ∃ k : Nat, k < 7 ∧ r = 32 + (k : Int) := ⟨(r - 32).toNat, by omega, by omega⟩
  clear hr
  revert k
  decide +kernel
theorem zrow_39 : ∀ r : Int, 39 ≤ r ∧ r < 39 + (16 : Nat) → zlay r = (0, 4, 0) := fun r hr => by
  obtain ⟨k, hk, rfl⟩ : ∃ k : Nat, k < 16 ∧ r = 39 + (k : Int) := ⟨(r - 39).toNat, by omega, by omega⟩
  clear hr
  revert k
  decide +kernel
theorem zrow_58 : ∀ r : Int, 58 ≤ r ∧ r < 58 + (16 : Nat) → zlay r = (0, 4, 0) := fun r hr => by
  obtain ⟨k, hk, rfl⟩ : ∃ k : Nat, k < 16 ∧ r = 58 + (k : Int) := ⟨(r - 58).toNat, by omega, by omega⟩
  clear hr
  revert k
  decide +kernel
theorem zrow_78 : ∀ r : Int, 78 ≤ r ∧ r < 78 + (16 : Nat) → zlay r = (2, 7, 0) := fun r hr => by
  obtain ⟨k, hk, rfl⟩ : ∃ k : Nat, k < 16 ∧ r = 78 + (k : Int) := ⟨(r - 78).toNat, by omega, by omega⟩
  clear hr
  revert k
  decide +kernel
theorem zrow_96 : ∀ r : Int, 96 ≤ r ∧ r < 96 + (42 : Nat) → zlay r = (0, 42, 0) := fun r hr => by
  obtain ⟨k, hk, rfl⟩ : ∃ k : Nat, k < 42 ∧ r = 96 + (k : Int) := ⟨(r - 96).toNat, by omega, by omega⟩
  clear hr
  revert k
  decide +kernel
theorem zrow_148 : ∀ r : Int, 148 ≤ r ∧ r < 148 + (14 : Nat) → zlay r = (0, 7, 0) := fun r hr => by
  obtain ⟨k, hk, rfl⟩ : ∃ k : Nat, k < 14 ∧ r = 148 + (k : Int) := ⟨(r - 148).toNat, by omega, by omega⟩
  clear hr
  revert k
  decide +kernel
theorem zrow_162 : ∀ r : Int, 162 ≤ r ∧ r < 162 + (14 : Nat) → zlay r = (0, 7, 0) := fun r hr => by
  obtain ⟨k, hk, rfl⟩ : ∃ k : Nat, k < 14 ∧ r = 162 + (k : Int) := ⟨(r - 162).toNat, by omega, by omega⟩
  clear hr
  revert k
  decide +kernel
set_option maxHeartbeats 4000000 in
set_option maxRecDepth 100000 in
theorem k_X1_1 {G : zG} {ad : Int → Nat} {al : Int → Bool} {rs : Int → Nat → Bool} {M : zM} (wf : zwf al rs) (ha : al 1 = true) (hf : ∀ r, 2 ≤ r ∧ r ≤ 27 → al r = false) (hz : zz M 1 27) : zTN G ad al rs mi_X1_init [zr 1] M (zadr al 2 26) (zrsa (zrsa (zrsa (zrsa (zrsa rs 2 0 7) 1 0 1) 3 0 16) 1 1 1) 1 2 1) (zset (zset M 4 0 2) 4 1 3) 26 117 := by
  refine zTN.of (own := RX1) (ls := [some (zr 1)]) (by decide +kernel) rfl rfl rfl (Nat.le_of_ble_eq_true rfl) (fun γ ok hin hc hs hgn ov rt => ?_)
  refine v_aload_0 ok dX1_init_0 (n := 1) rfl ?_
  refine v_objI ok (zt 27 (by decide +kernel) (by decide +kernel)) oi_i oi_c ⟨by decide, by decide⟩ dX1_init_1 (n := 4) rfl ?_
  refine v_aload_0 ok dX1_init_4 (n := 5) rfl ?_
  refine v_bipush ok rfl dX1_init_5 (n := 7) rfl ?_
  refine v_iconst ok dX1_init_7 (n := 8) rfl ?_
  refine v_multi (k := (0, 0)) ok (R := 2) (ty := .int) wf (by decide) ly_2 (zrow_5) rfl rfl (zt 28 (by decide +kernel) (by decide +kernel)) ov.1 (zt 57 (by decide +kernel) (by decide +kernel)) (hf 2 (by omega)) (fun r hr => (hf r (by omega))) (by decide) (by decide) (zz_b hz (by omega)) (zz_b hz (by omega)) ⟨rfl, rfl⟩ (by decide) ⟨by rw [hc]; exact Nat.le_of_ble_eq_true rfl, by rw [hs]; exact Nat.le_of_ble_eq_true rfl⟩ (zsr ha rfl) (zlr ha rfl) dX1_init_8 (n := 12) rfl (fun q1 => ?_)
  have iv1 := ziv_n (ziv_n (ziv_0 (ad := ad) (al := al)) (zag_a (ad := ad) (hf 2 (by omega)) (by decide) q1) (fun r hr => zadr_m (a := 2) (n := 1) hr)) (zag_r (b := 5) (N := 7) (fun r hr => (zadr_f (by omega)).trans (hf r (by omega))) (by decide) (q1 + 1)) (fun r hr => zadr_m (a := 5) (n := 7) hr)
  rw [show ((7 : Nat) : Int) = 7 from rfl]
  have wf1 := zwf_s (r := 2) (a := 0) (m := 7) (zwf_a (a := 5) (n := 7) (zwf_a (a := 2) (n := 1) wf)) (zadr_m (zadr_i (by omega))) (fun k hk => by rw [ztg_a ly_2 (by decide)]; exact zadr_i (by omega))
  generalize zadf (zadf ad 2 1 q1) 5 _ (q1 + 1) = ad1 at iv1 ⊢
  refine v_putR ok hin (t := 2) wf1 ff_X1_11 ly_1 (zadr_m (zadr_m ha)) rfl rf_1_0 dX1_init_12 (n := 15) rfl ?_
  have wf2 := zwf_s (r := 1) (a := 0) (m := 1) wf1 (zadr_m (zadr_m ha)) (fun k hk => by rw [show k = 0 by omega, ztg_o ly_1, rf_1_0]; exact (zadr_m (zadr_i (by omega))))
  refine v_aload_0 ok dX1_init_15 (n := 16) rfl ?_
  refine v_bipush ok rfl dX1_init_16 (n := 18) rfl ?_
  refine v_iconst ok dX1_init_18 (n := 19) rfl ?_
  refine v_multi (k := (8, 35)) ok (R := 3) (ty := .int) wf2 (by decide) ly_3 (zrow_12) rfl rfl (zt 28 (by decide +kernel) (by decide +kernel)) ov.1 (zt 57 (by decide +kernel) (by decide +kernel)) ((zadr_f (a := 5) (n := 7) (r := 3) (by omega)).trans ((zadr_f (a := 2) (n := 1) (r := 3) (by omega)).trans (hf 3 (by omega)))) (fun r hr => ((zadr_f (a := 5) (n := 7) (r := r) (by omega)).trans ((zadr_f (a := 2) (n := 1) (r := r) (by omega)).trans (hf r (by omega))))) (by decide) (by decide) (zz_b hz (by omega)) (zz_b hz (by omega)) ⟨rfl, rfl⟩ (by decide) ⟨by rw [hc]; exact Nat.le_of_ble_eq_true rfl, by rw [hs]; exact Nat.le_of_ble_eq_true rfl⟩ (zsr (zadr_m (zadr_m ha)) rfl) (zlr (zadr_m (zadr_m ha)) rfl) dX1_init_19 (n := 23) rfl (fun q3 => ?_)
  have iv3 := ziv_n (ziv_n iv1 (zag_a (ad := ad1) ((zadr_f (a := 5) (n := 7) (r := 3) (by omega)).trans ((zadr_f (a := 2) (n := 1) (r := 3) (by omega)).trans (hf 3 (by omega)))) (by decide) q3) (fun r hr => zadr_m (a := 3) (n := 1) hr)) (zag_r (b := 12) (N := 16) (fun r hr => (zadr_f (by omega)).trans ((zadr_f (a := 5) (n := 7) (r := r) (by omega)).trans ((zadr_f (a := 2) (n := 1) (r := r) (by omega)).trans (hf r (by omega))))) (by decide) (q3 + 1)) (fun r hr => zadr_m (a := 12) (n := 16) hr)
  rw [show ((16 : Nat) : Int) = 16 from rfl]
  have wf3 := zwf_s (r := 3) (a := 0) (m := 16) (zwf_a (a := 12) (n := 16) (zwf_a (a := 3) (n := 1) wf2)) (zadr_m (zadr_i (by omega))) (fun k hk => by rw [ztg_a ly_3 (by decide)]; exact zadr_i (by omega))
  generalize zadf (zadf ad1 3 1 q3) 12 _ (q3 + 1) = ad3 at iv3 ⊢
  refine v_putR ok hin (t := 3) wf3 ff_X1_16 ly_1 (zadr_m (zadr_m (zadr_m (zadr_m ha)))) rfl rf_1_1 dX1_init_23 (n := 26) rfl ?_
  have wf4 := zwf_s (r := 1) (a := 1) (m := 1) wf3 (zadr_m (zadr_m (zadr_m (zadr_m ha)))) (fun k hk => by rw [show k = 1 by omega, ztg_o ly_1, rf_1_1]; exact (zadr_m (zadr_i (by omega))))
  refine v_aload_0 ok dX1_init_26 (n := 27) rfl ?_
  refine v_iconst ok dX1_init_27 (n := 28) rfl ?_
  refine v_newA (k := (25, 115)) ok (R := 4) wf4 ly_4 (by decide) rfl (zt 57 (by decide +kernel) (by decide +kernel)) ((zadr_f (a := 12) (n := 16) (r := 4) (by omega)).trans ((zadr_f (a := 3) (n := 1) (r := 4) (by omega)).trans ((zadr_f (a := 5) (n := 7) (r := 4) (by omega)).trans ((zadr_f (a := 2) (n := 1) (r := 4) (by omega)).trans (hf 4 (by omega)))))) (by decide) (zz_b hz (by omega)) rfl (by decide) ⟨by rw [hc]; exact Nat.le_of_ble_eq_true rfl, by rw [hs]; exact Nat.le_of_ble_eq_true rfl⟩ (zsr (zadr_m (zadr_m (zadr_m (zadr_m ha)))) rfl) (zlr (zadr_m (zadr_m (zadr_m (zadr_m ha)))) rfl) dX1_init_28 (n := 30) rfl (fun q5 => ?_)
  have iv5 := ziv_n iv3 (zag_a (ad := ad3) ((zadr_f (a := 12) (n := 16) (r := 4) (by omega)).trans ((zadr_f (a := 3) (n := 1) (r := 4) (by omega)).trans ((zadr_f (a := 5) (n := 7) (r := 4) (by omega)).trans ((zadr_f (a := 2) (n := 1) (r := 4) (by omega)).trans (hf 4 (by omega)))))) (by decide) q5) (fun r hr => zadr_m (a := 4) (n := 1) hr)
  have wf5 := zwf_a (a := 4) (n := 1) wf4
  generalize zadf ad3 4 1 q5 = ad5 at iv5 ⊢
  refine v_dup ok rfl dX1_init_30 (n := 31) rfl ?_
  refine v_iconst ok dX1_init_31 (n := 32) rfl ?_
  refine v_iconst ok dX1_init_32 (n := 33) rfl ?_
  refine v_iast ok ly_4 (show (zadr (zadr (zadr (zadr (zadr al 2 1) 5 7) 3 1) 12 16) 4 1) 4 = true from (zadr_i (by omega))) (by decide) (by decide) dX1_init_33 (n := 34) rfl ?_
  refine v_dup ok rfl dX1_init_34 (n := 35) rfl ?_
  refine v_iconst ok dX1_init_35 (n := 36) rfl ?_
  refine v_iconst ok dX1_init_36 (n := 37) rfl ?_
  refine v_iast ok ly_4 (show (zadr (zadr (zadr (zadr (zadr al 2 1) 5 7) 3 1) 12 16) 4 1) 4 = true from (zadr_i (by omega))) (by decide) (by decide) dX1_init_37 (n := 38) rfl ?_
  refine v_putR ok hin (t := 4) wf5 ff_X1_19 ly_1 (zadr_m (zadr_m (zadr_m (zadr_m (zadr_m ha))))) rfl rf_1_2 dX1_init_38 (n := 41) rfl ?_
  have wf6 := zwf_s (r := 1) (a := 2) (m := 1) wf5 (zadr_m (zadr_m (zadr_m (zadr_m (zadr_m ha))))) (fun k hk => by rw [show k = 2 by omega, ztg_o ly_1, rf_1_2]; exact (zadr_i (by omega)))
  refine v_aload_0 ok dX1_init_41 (n := 42) rfl ?_
  refine v_iconst ok dX1_init_42 (n := 43) rfl ?_
  refine v_putI ok fw_X1_23 ly_1 (show (zadr (zadr (zadr (zadr (zadr al 2 1) 5 7) 3 1) 12 16) 4 1) 1 = true from (zadr_m (zadr_m (zadr_m (zadr_m (zadr_m ha)))))) rfl (jI := 3) rfl dX1_init_43 (n := 46) rfl ?_
  rw [zset0 (show zz (zset (zset M 4 0 2) 4 1 3) 1 1 from (zz_s (zz_s (zz_b hz (by omega)) (by omega)) (by omega)))]
  refine v_aload_0 ok dX1_init_46 (n := 47) rfl ?_
  refine v_iconst ok dX1_init_47 (n := 48) rfl ?_
  refine v_putI ok fw_X1_27 ly_1 (show (zadr (zadr (zadr (zadr (zadr al 2 1) 5 7) 3 1) 12 16) 4 1) 1 = true from (zadr_m (zadr_m (zadr_m (zadr_m (zadr_m ha)))))) rfl (jI := 4) rfl dX1_init_48 (n := 51) rfl ?_
  rw [zset0 (show zz (zset (zset M 4 0 2) 4 1 3) 1 1 from (zz_s (zz_s (zz_b hz (by omega)) (by omega)) (by omega)))]
  clear wf
  have e9 : (zadr (zadr (zadr (zadr (zadr al 2 1) 5 7) 3 1) 12 16) 4 1) = (zadr al 2 26) := zal_x (fun r => by
    simp only [zadr, Bool.or_eq_true, decide_eq_true_eq]
    cases h : al r <;> simp only [Bool.false_eq_true, or_false, or_true]
    omega)
  rw [e9] at iv5 ⊢
  exact v_nret rt dX1_init_51 (fun r hr => (iv5.1 r hr).2) iv5.2
theorem wk_X1_1 {al : Int → Bool} {rs : Int → Nat → Bool} (wf : zwf al rs) (ha : al 1 = true) : zwf (zadr al 2 26) (zrsa (zrsa (zrsa (zrsa (zrsa rs 2 0 7) 1 0 1) 3 0 16) 1 1 1) 1 2 1) := by
  have w0 := (zwf_a (a := 2) (n := 26) wf)
  have w1 := zwf_s (r := 2) (a := 0) (m := 7) w0 (zadr_i (by omega)) (fun k hk => by rw [ztg_a ly_2 (by decide)]; exact zadr_i (by omega))
  have w2 := zwf_s (r := 1) (a := 0) (m := 1) w1 (zadr_m ha) (fun k hk => by rw [show k = 0 by omega, ztg_o ly_1, rf_1_0]; exact (zadr_i (by omega)))
  have w3 := zwf_s (r := 3) (a := 0) (m := 16) w2 (zadr_i (by omega)) (fun k hk => by rw [ztg_a ly_3 (by decide)]; exact zadr_i (by omega))
  have w4 := zwf_s (r := 1) (a := 1) (m := 1) w3 (zadr_m ha) (fun k hk => by rw [show k = 1 by omega, ztg_o ly_1, rf_1_1]; exact (zadr_i (by omega)))
  have w5 := zwf_s (r := 1) (a := 2) (m := 1) w4 (zadr_m ha) (fun k hk => by rw [show k = 2 by omega, ztg_o ly_1, rf_1_2]; exact (zadr_i (by omega)))
  exact w5
set_option maxHeartbeats 4000000 in
set_option maxRecDepth 100000 in
theorem k_X1_28 {G : zG} {ad : Int → Nat} {al : Int → Bool} {rs : Int → Nat → Bool} {M : zM} (wf : zwf al rs) (ha : al 28 = true) (hf : ∀ r, 29 ≤ r ∧ r ≤ 54 → al r = false) (hz : zz M 28 27) : zTN G ad al rs mi_X1_init [zr 28] M (zadr al 29 26) (zrsa (zrsa (zrsa (zrsa (zrsa rs 29 0 7) 28 0 1) 30 0 16) 28 1 1) 28 2 1) (zset (zset M 31 0 2) 31 1 3) 26 117 := by
  refine zTN.of (own := RX1) (ls := [some (zr 28)]) (by decide +kernel) rfl rfl rfl (Nat.le_of_ble_eq_true rfl) (fun γ ok hin hc hs hgn ov rt => ?_)
  refine v_aload_0 ok dX1_init_0 (n := 1) rfl ?_
  refine v_objI ok (zt 27 (by decide +kernel) (by decide +kernel)) oi_i oi_c ⟨by decide, by decide⟩ dX1_init_1 (n := 4) rfl ?_
  refine v_aload_0 ok dX1_init_4 (n := 5) rfl ?_
  refine v_bipush ok rfl dX1_init_5 (n := 7) rfl ?_
  refine v_iconst ok dX1_init_7 (n := 8) rfl ?_
  refine v_multi (k := (0, 0)) ok (R := 29) (ty := .int) wf (by decide) ly_29 (zrow_32) rfl rfl (zt 28 (by decide +kernel) (by decide +kernel)) ov.1 (zt 57 (by decide +kernel) (by decide +kernel)) (hf 29 (by omega)) (fun r hr => (hf r (by omega))) (by decide) (by decide) (zz_b hz (by omega)) (zz_b hz (by omega)) ⟨rfl, rfl⟩ (by decide) ⟨by rw [hc]; exact Nat.le_of_ble_eq_true rfl, by rw [hs]; exact Nat.le_of_ble_eq_true rfl⟩ (zsr ha rfl) (zlr ha rfl) dX1_init_8 (n := 12) rfl (fun q1 => ?_)
  have iv1 := ziv_n (ziv_n (ziv_0 (ad := ad) (al := al)) (zag_a (ad := ad) (hf 29 (by omega)) (by decide) q1) (fun r hr => zadr_m (a := 29) (n := 1) hr)) (zag_r (b := 32) (N := 7) (fun r hr => (zadr_f (by omega)).trans (hf r (by omega))) (by decide) (q1 + 1)) (fun r hr => zadr_m (a := 32) (n := 7) hr)
  rw [show ((7 : Nat) : Int) = 7 from rfl]
  have wf1 := zwf_s (r := 29) (a := 0) (m := 7) (zwf_a (a := 32) (n := 7) (zwf_a (a := 29) (n := 1) wf)) (zadr_m (zadr_i (by omega))) (fun k hk => by rw [ztg_a ly_29 (by decide)]; exact zadr_i (by omega))
  generalize zadf (zadf ad 29 1 q1) 32 _ (q1 + 1) = ad1 at iv1 ⊢
  refine v_putR ok hin (t := 29) wf1 ff_X1_11 ly_28 (zadr_m (zadr_m ha)) rfl rf_28_0 dX1_init_12 (n := 15) rfl ?_
  have wf2 := zwf_s (r := 28) (a := 0) (m := 1) wf1 (zadr_m (zadr_m ha)) (fun k hk => by rw [show k = 0 by omega, ztg_o ly_28, rf_28_0]; exact (zadr_m (zadr_i (by omega))))
  refine v_aload_0 ok dX1_init_15 (n := 16) rfl ?_
  refine v_bipush ok rfl dX1_init_16 (n := 18) rfl ?_
  refine v_iconst ok dX1_init_18 (n := 19) rfl ?_
  refine v_multi (k := (8, 35)) ok (R := 30) (ty := .int) wf2 (by decide) ly_30 (zrow_39) rfl rfl (zt 28 (by decide +kernel) (by decide +kernel)) ov.1 (zt 57 (by decide +kernel) (by decide +kernel)) ((zadr_f (a := 32) (n := 7) (r := 30) (by omega)).trans ((zadr_f (a := 29) (n := 1) (r := 30) (by omega)).trans (hf 30 (by omega)))) (fun r hr => ((zadr_f (a := 32) (n := 7) (r := r) (by omega)).trans ((zadr_f (a := 29) (n := 1) (r := r) (by omega)).trans (hf r (by omega))))) (by decide) (by decide) (zz_b hz (by omega)) (zz_b hz (by omega)) ⟨rfl, rfl⟩ (by decide) ⟨by rw [hc]; exact Nat.le_of_ble_eq_true rfl, by rw [hs]; exact Nat.le_of_ble_eq_true rfl⟩ (zsr (zadr_m (zadr_m ha)) rfl) (zlr (zadr_m (zadr_m ha)) rfl) dX1_init_19 (n := 23) rfl (fun q3 => ?_)
  have iv3 := ziv_n (ziv_n iv1 (zag_a (ad := ad1) ((zadr_f (a := 32) (n := 7) (r := 30) (by omega)).trans ((zadr_f (a := 29) (n := 1) (r := 30) (by omega)).trans (hf 30 (by omega)))) (by decide) q3) (fun r hr => zadr_m (a := 30) (n := 1) hr)) (zag_r (b := 39) (N := 16) (fun r hr => (zadr_f (by omega)).trans ((zadr_f (a := 32) (n := 7) (r := r) (by omega)).trans ((zadr_f (a := 29) (n := 1) (r := r) (by omega)).trans (hf r (by omega))))) (by decide) (q3 + 1)) (fun r hr => zadr_m (a := 39) (n := 16) hr)
  rw [show ((16 : Nat) : Int) = 16 from rfl]
  have wf3 := zwf_s (r := 30) (a := 0) (m := 16) (zwf_a (a := 39) (n := 16) (zwf_a (a := 30) (n := 1) wf2)) (zadr_m (zadr_i (by omega))) (fun k hk => by rw [ztg_a ly_30 (by decide)]; exact zadr_i (by omega))
  generalize zadf (zadf ad1 30 1 q3) 39 _ (q3 + 1) = ad3 at iv3 ⊢
  refine v_putR ok hin (t := 30) wf3 ff_X1_16 ly_28 (zadr_m (zadr_m (zadr_m (zadr_m ha)))) rfl rf_28_1 dX1_init_23 (n := 26) rfl ?_
  have wf4 := zwf_s (r := 28) (a := 1) (m := 1) wf3 (zadr_m (zadr_m (zadr_m (zadr_m ha)))) (fun k hk => by rw [show k = 1 by omega, ztg_o ly_28, rf_28_1]; exact (zadr_m (zadr_i (by omega))))
  refine v_aload_0 ok dX1_init_26 (n := 27) rfl ?_
  refine v_iconst ok dX1_init_27 (n := 28) rfl ?_
  refine v_newA (k := (25, 115)) ok (R := 31) wf4 ly_31 (by decide) rfl (zt 57 (by decide +kernel) (by decide +kernel)) ((zadr_f (a := 39) (n := 16) (r := 31) (by omega)).trans ((zadr_f (a := 30) (n := 1) (r := 31) (by omega)).trans ((zadr_f (a := 32) (n := 7) (r := 31) (by omega)).trans ((zadr_f (a := 29) (n := 1) (r := 31) (by omega)).trans (hf 31 (by omega)))))) (by decide) (zz_b hz (by omega)) rfl (by decide) ⟨by rw [hc]; exact Nat.le_of_ble_eq_true rfl, by rw [hs]; exact Nat.le_of_ble_eq_true rfl⟩ (zsr (zadr_m (zadr_m (zadr_m (zadr_m ha)))) rfl) (zlr (zadr_m (zadr_m (zadr_m (zadr_m ha)))) rfl) dX1_init_28 (n := 30) rfl (fun q5 => ?_)
  have iv5 := ziv_n iv3 (zag_a (ad := ad3) ((zadr_f (a := 39) (n := 16) (r := 31) (by omega)).trans ((zadr_f (a := 30) (n := 1) (r := 31) (by omega)).trans ((zadr_f (a := 32) (n := 7) (r := 31) (by omega)).trans ((zadr_f (a := 29) (n := 1) (r := 31) (by omega)).trans (hf 31 (by omega)))))) (by decide) q5) (fun r hr => zadr_m (a := 31) (n := 1) hr)
  have wf5 := zwf_a (a := 31) (n := 1) wf4
  generalize zadf ad3 31 1 q5 = ad5 at iv5 ⊢
  refine v_dup ok rfl dX1_init_30 (n := 31) rfl ?_
  refine v_iconst ok dX1_init_31 (n := 32) rfl ?_
  refine v_iconst ok dX1_init_32 (n := 33) rfl ?_
  refine v_iast ok ly_31 (show (zadr (zadr (zadr (zadr (zadr al 29 1) 32 7) 30 1) 39 16) 31 1) 31 = true from (zadr_i (by omega))) (by decide) (by decide) dX1_init_33 (n := 34) rfl ?_
  refine v_dup ok rfl dX1_init_34 (n := 35) rfl ?_
  refine v_iconst ok dX1_init_35 (n := 36) rfl ?_
  refine v_iconst ok dX1_init_36 (n := 37) rfl ?_
  refine v_iast ok ly_31 (show (zadr (zadr (zadr (zadr (zadr al 29 1) 32 7) 30 1) 39 16) 31 1) 31 = true from (zadr_i (by omega))) (by decide) (by decide) dX1_init_37 (n := 38) rfl ?_
  refine v_putR ok hin (t := 31) wf5 ff_X1_19 ly_28 (zadr_m (zadr_m (zadr_m (zadr_m (zadr_m ha))))) rfl rf_28_2 dX1_init_38 (n := 41) rfl ?_
  have wf6 := zwf_s (r := 28) (a := 2) (m := 1) wf5 (zadr_m (zadr_m (zadr_m (zadr_m (zadr_m ha))))) (fun k hk => by rw [show k = 2 by omega, ztg_o ly_28, rf_28_2]; exact (zadr_i (by omega)))
  refine v_aload_0 ok dX1_init_41 (n := 42) rfl ?_
  refine v_iconst ok dX1_init_42 (n := 43) rfl ?_
  refine v_putI ok fw_X1_23 ly_28 (show (zadr (zadr (zadr (zadr (zadr al 29 1) 32 7) 30 1) 39 16) 31 1) 28 = true from (zadr_m (zadr_m (zadr_m (zadr_m (zadr_m ha)))))) rfl (jI := 3) rfl dX1_init_43 (n := 46) rfl ?_
  rw [zset0 (show zz (zset (zset M 31 0 2) 31 1 3) 28 1 from (zz_s (zz_s (zz_b hz (by omega)) (by omega)) (by omega)))]
  refine v_aload_0 ok dX1_init_46 (n := 47) rfl ?_
  refine v_iconst ok dX1_init_47 (n := 48) rfl ?_
  refine v_putI ok fw_X1_27 ly_28 (show (zadr (zadr (zadr (zadr (zadr al 29 1) 32 7) 30 1) 39 16) 31 1) 28 = true from (zadr_m (zadr_m (zadr_m (zadr_m (zadr_m ha)))))) rfl (jI := 4) rfl dX1_init_48 (n := 51) rfl ?_
  rw [zset0 (show zz (zset (zset M 31 0 2) 31 1 3) 28 1 from (zz_s (zz_s (zz_b hz (by omega)) (by omega)) (by omega)))]
  clear wf
  have e9 : (zadr (zadr (zadr (zadr (zadr al 29 1) 32 7) 30 1) 39 16) 31 1) = (zadr al 29 26) := zal_x (fun r => by
    simp only [zadr, Bool.or_eq_true, decide_eq_true_eq]
    cases h : al r <;> simp only [Bool.false_eq_true, or_false, or_true]
    omega)
  rw [e9] at iv5 ⊢
  exact v_nret rt dX1_init_51 (fun r hr => (iv5.1 r hr).2) iv5.2
theorem wk_X1_28 {al : Int → Bool} {rs : Int → Nat → Bool} (wf : zwf al rs) (ha : al 28 = true) : zwf (zadr al 29 26) (zrsa (zrsa (zrsa (zrsa (zrsa rs 29 0 7) 28 0 1) 30 0 16) 28 1 1) 28 2 1) := by
  have w0 := (zwf_a (a := 29) (n := 26) wf)
  have w1 := zwf_s (r := 29) (a := 0) (m := 7) w0 (zadr_i (by omega)) (fun k hk => by rw [ztg_a ly_29 (by decide)]; exact zadr_i (by omega))
  have w2 := zwf_s (r := 28) (a := 0) (m := 1) w1 (zadr_m ha) (fun k hk => by rw [show k = 0 by omega, ztg_o ly_28, rf_28_0]; exact (zadr_i (by omega)))
  have w3 := zwf_s (r := 30) (a := 0) (m := 16) w2 (zadr_i (by omega)) (fun k hk => by rw [ztg_a ly_30 (by decide)]; exact zadr_i (by omega))
  have w4 := zwf_s (r := 28) (a := 1) (m := 1) w3 (zadr_m ha) (fun k hk => by rw [show k = 1 by omega, ztg_o ly_28, rf_28_1]; exact (zadr_i (by omega)))
  have w5 := zwf_s (r := 28) (a := 2) (m := 1) w4 (zadr_m ha) (fun k hk => by rw [show k = 2 by omega, ztg_o ly_28, rf_28_2]; exact (zadr_i (by omega)))
  exact w5
set_option maxHeartbeats 4000000 in
set_option maxRecDepth 100000 in
theorem k_X4_55 {G : zG} {ad : Int → Nat} {al : Int → Bool} {rs : Int → Nat → Bool} {M : zM} (wf : zwf al rs) (ha : al 55 = true) (hf : ∀ r, 56 ≤ r ∧ r ≤ 73 → al r = false) (hz : zz M 55 19) : zTN G ad al rs mi_X4_init [zr 55] M (zadr al 56 18) (zrsa (zrsa (zrsa rs 55 0 1) 57 0 16) 55 1 1) M 18 200 := by
  refine zTN.of (own := RX4) (ls := [some (zr 55)]) (by decide +kernel) rfl rfl rfl (Nat.le_of_ble_eq_true rfl) (fun γ ok hin hc hs hgn ov rt => ?_)
  refine v_aload_0 ok dX4_init_0 (n := 1) rfl ?_
  refine v_objI ok (zt 63 (by decide +kernel) (by decide +kernel)) oi_i oi_c ⟨by decide, by decide⟩ dX4_init_1 (n := 4) rfl ?_
  refine v_aload_0 ok dX4_init_4 (n := 5) rfl ?_
  refine v_bipush ok rfl dX4_init_5 (n := 7) rfl ?_
  refine v_newA (k := (0, 0)) ok (R := 56) wf ly_56 (by decide) rfl (zt 57 (by decide +kernel) (by decide +kernel)) (hf 56 (by omega)) (by decide) (zz_b hz (by omega)) rfl (by decide) ⟨by rw [hc]; exact Nat.le_of_ble_eq_true rfl, by rw [hs]; exact Nat.le_of_ble_eq_true rfl⟩ (zsr ha rfl) (zlr ha rfl) dX4_init_7 (n := 9) rfl (fun q1 => ?_)
  have iv1 := ziv_n (ziv_0 (ad := ad) (al := al)) (zag_a (ad := ad) (hf 56 (by omega)) (by decide) q1) (fun r hr => zadr_m (a := 56) (n := 1) hr)
  have wf1 := zwf_a (a := 56) (n := 1) wf
  generalize zadf ad 56 1 q1 = ad1 at iv1 ⊢
  refine v_putR ok hin (t := 56) wf1 ff_X4_9 ly_55 (zadr_m ha) rfl rf_55_0 dX4_init_9 (n := 12) rfl ?_
  have wf2 := zwf_s (r := 55) (a := 0) (m := 1) wf1 (zadr_m ha) (fun k hk => by rw [show k = 0 by omega, ztg_o ly_55, rf_55_0]; exact (zadr_i (by omega)))
  refine v_aload_0 ok dX4_init_12 (n := 13) rfl ?_
  refine v_bipush ok rfl dX4_init_13 (n := 15) rfl ?_
  refine v_iconst ok dX4_init_15 (n := 16) rfl ?_
  refine v_multi (k := (1, 120)) ok (R := 57) (ty := .int) wf2 (by decide) ly_57 (zrow_58) rfl rfl (zt 64 (by decide +kernel) (by decide +kernel)) ov.1 (zt 57 (by decide +kernel) (by decide +kernel)) ((zadr_f (a := 56) (n := 1) (r := 57) (by omega)).trans (hf 57 (by omega))) (fun r hr => ((zadr_f (a := 56) (n := 1) (r := r) (by omega)).trans (hf r (by omega)))) (by decide) (by decide) (zz_b hz (by omega)) (zz_b hz (by omega)) ⟨rfl, rfl⟩ (by decide) ⟨by rw [hc]; exact Nat.le_of_ble_eq_true rfl, by rw [hs]; exact Nat.le_of_ble_eq_true rfl⟩ (zsr (zadr_m ha) rfl) (zlr (zadr_m ha) rfl) dX4_init_16 (n := 20) rfl (fun q3 => ?_)
  have iv3 := ziv_n (ziv_n iv1 (zag_a (ad := ad1) ((zadr_f (a := 56) (n := 1) (r := 57) (by omega)).trans (hf 57 (by omega))) (by decide) q3) (fun r hr => zadr_m (a := 57) (n := 1) hr)) (zag_r (b := 58) (N := 16) (fun r hr => (zadr_f (by omega)).trans ((zadr_f (a := 56) (n := 1) (r := r) (by omega)).trans (hf r (by omega)))) (by decide) (q3 + 1)) (fun r hr => zadr_m (a := 58) (n := 16) hr)
  rw [show ((16 : Nat) : Int) = 16 from rfl]
  have wf3 := zwf_s (r := 57) (a := 0) (m := 16) (zwf_a (a := 58) (n := 16) (zwf_a (a := 57) (n := 1) wf2)) (zadr_m (zadr_i (by omega))) (fun k hk => by rw [ztg_a ly_57 (by decide)]; exact zadr_i (by omega))
  generalize zadf (zadf ad1 57 1 q3) 58 _ (q3 + 1) = ad3 at iv3 ⊢
  rw [zadr_j (a := 57) (n := 1) (b := 58) (m := 16) (c := 17) (by decide) (by decide) (by decide)] at wf3 iv3 ⊢
  rw [zadr_j (a := 56) (n := 1) (b := 57) (m := 17) (c := 18) (by decide) (by decide) (by decide)] at wf3 iv3 ⊢
  refine v_putR ok hin (t := 57) wf3 ff_X4_17 ly_55 (zadr_m ha) rfl rf_55_1 dX4_init_20 (n := 23) rfl ?_
  have wf4 := zwf_s (r := 55) (a := 1) (m := 1) wf3 (zadr_m ha) (fun k hk => by rw [show k = 1 by omega, ztg_o ly_55, rf_55_1]; exact (zadr_i (by omega)))
  refine v_aload_0 ok dX4_init_23 (n := 24) rfl ?_
  refine v_iconst ok dX4_init_24 (n := 25) rfl ?_
  refine v_putI ok fw_X4_20 ly_55 (show (zadr al 56 18) 55 = true from (zadr_m ha)) rfl (jI := 2) rfl dX4_init_25 (n := 28) rfl ?_
  rw [zset0 (show zz M 55 1 from (zz_b hz (by omega)))]
  refine v_aload_0 ok dX4_init_28 (n := 29) rfl ?_
  refine v_iconst ok dX4_init_29 (n := 30) rfl ?_
  refine v_putI ok fw_X4_24 ly_55 (show (zadr al 56 18) 55 = true from (zadr_m ha)) rfl (jI := 3) rfl dX4_init_30 (n := 33) rfl ?_
  rw [zset0 (show zz M 55 1 from (zz_b hz (by omega)))]
  clear wf
  exact v_nret rt dX4_init_33 (fun r hr => (iv3.1 r hr).2) iv3.2
theorem wk_X4_55 {al : Int → Bool} {rs : Int → Nat → Bool} (wf : zwf al rs) (ha : al 55 = true) : zwf (zadr al 56 18) (zrsa (zrsa (zrsa rs 55 0 1) 57 0 16) 55 1 1) := by
  have w0 := (zwf_a (a := 56) (n := 18) wf)
  have w1 := zwf_s (r := 55) (a := 0) (m := 1) w0 (zadr_m ha) (fun k hk => by rw [show k = 0 by omega, ztg_o ly_55, rf_55_0]; exact (zadr_i (by omega)))
  have w2 := zwf_s (r := 57) (a := 0) (m := 16) w1 (zadr_i (by omega)) (fun k hk => by rw [ztg_a ly_57 (by decide)]; exact zadr_i (by omega))
  have w3 := zwf_s (r := 55) (a := 1) (m := 1) w2 (zadr_m ha) (fun k hk => by rw [show k = 1 by omega, ztg_o ly_55, rf_55_1]; exact (zadr_i (by omega)))
  exact w3
set_option maxHeartbeats 4000000 in
set_option maxRecDepth 100000 in
theorem k_X6_74 {G : zG} {ad : Int → Nat} {al : Int → Bool} {rs : Int → Nat → Bool} {M : zM} (wf : zwf al rs) (ha : al 74 = true) (hf : ∀ r, 75 ≤ r ∧ r ≤ 93 → al r = false) (hz : zz M 74 20) : zTN G ad al rs mi_X6_init [zr 74] M (zadr al 75 19) (zrsa (zrsa (zrsa (zrsa rs 75 0 16) 74 0 1) 74 1 1) 74 2 1) M 19 263 := by
  refine zTN.of (own := RX6) (ls := [some (zr 74)]) (by decide +kernel) rfl rfl rfl (Nat.le_of_ble_eq_true rfl) (fun γ ok hin hc hs hgn ov rt => ?_)
  refine v_aload_0 ok dX6_init_0 (n := 1) rfl ?_
  refine v_objI ok (zt 85 (by decide +kernel) (by decide +kernel)) oi_i oi_c ⟨by decide, by decide⟩ dX6_init_1 (n := 4) rfl ?_
  refine v_aload_0 ok dX6_init_4 (n := 5) rfl ?_
  refine v_bipush ok rfl dX6_init_5 (n := 7) rfl ?_
  refine v_bipush ok rfl dX6_init_7 (n := 9) rfl ?_
  refine v_multi (k := (0, 0)) ok (R := 75) (ty := .long) wf (by decide) ly_75 (zrow_78) rfl rfl (zt 86 (by decide +kernel) (by decide +kernel)) ov.2.1 (zt 103 (by decide +kernel) (by decide +kernel)) (hf 75 (by omega)) (fun r hr => (hf r (by omega))) (by decide) (by decide) (zz_b hz (by omega)) (zz_b hz (by omega)) ⟨rfl, rfl⟩ (by decide) ⟨by rw [hc]; exact Nat.le_of_ble_eq_true rfl, by rw [hs]; exact Nat.le_of_ble_eq_true rfl⟩ (zsr ha rfl) (zlr ha rfl) dX6_init_9 (n := 13) rfl (fun q1 => ?_)
  have iv1 := ziv_n (ziv_n (ziv_0 (ad := ad) (al := al)) (zag_a (ad := ad) (hf 75 (by omega)) (by decide) q1) (fun r hr => zadr_m (a := 75) (n := 1) hr)) (zag_r (b := 78) (N := 16) (fun r hr => (zadr_f (by omega)).trans (hf r (by omega))) (by decide) (q1 + 1)) (fun r hr => zadr_m (a := 78) (n := 16) hr)
  rw [show ((16 : Nat) : Int) = 16 from rfl]
  have wf1 := zwf_s (r := 75) (a := 0) (m := 16) (zwf_a (a := 78) (n := 16) (zwf_a (a := 75) (n := 1) wf)) (zadr_m (zadr_i (by omega))) (fun k hk => by rw [ztg_a ly_75 (by decide)]; exact zadr_i (by omega))
  generalize zadf (zadf ad 75 1 q1) 78 _ (q1 + 1) = ad1 at iv1 ⊢
  refine v_putR ok hin (t := 75) wf1 ff_X6_13 ly_74 (zadr_m (zadr_m ha)) rfl rf_74_0 dX6_init_13 (n := 16) rfl ?_
  have wf2 := zwf_s (r := 74) (a := 0) (m := 1) wf1 (zadr_m (zadr_m ha)) (fun k hk => by rw [show k = 0 by omega, ztg_o ly_74, rf_74_0]; exact (zadr_m (zadr_i (by omega))))
  refine v_aload_0 ok dX6_init_16 (n := 17) rfl ?_
  refine v_sipush ok rfl dX6_init_17 (n := 20) rfl ?_
  refine v_newA (k := (17, 128)) ok (R := 76) wf2 ly_76 (by decide) rfl (zt 103 (by decide +kernel) (by decide +kernel)) ((zadr_f (a := 78) (n := 16) (r := 76) (by omega)).trans ((zadr_f (a := 75) (n := 1) (r := 76) (by omega)).trans (hf 76 (by omega)))) (by decide) (zz_b hz (by omega)) rfl (by decide) ⟨by rw [hc]; exact Nat.le_of_ble_eq_true rfl, by rw [hs]; exact Nat.le_of_ble_eq_true rfl⟩ (zsr (zadr_m (zadr_m ha)) rfl) (zlr (zadr_m (zadr_m ha)) rfl) dX6_init_20 (n := 22) rfl (fun q3 => ?_)
  have iv3 := ziv_n iv1 (zag_a (ad := ad1) ((zadr_f (a := 78) (n := 16) (r := 76) (by omega)).trans ((zadr_f (a := 75) (n := 1) (r := 76) (by omega)).trans (hf 76 (by omega)))) (by decide) q3) (fun r hr => zadr_m (a := 76) (n := 1) hr)
  have wf3 := zwf_a (a := 76) (n := 1) wf2
  generalize zadf ad1 76 1 q3 = ad3 at iv3 ⊢
  refine v_putR ok hin (t := 76) wf3 ff_X6_16 ly_74 (zadr_m (zadr_m (zadr_m ha))) rfl rf_74_1 dX6_init_22 (n := 25) rfl ?_
  have wf4 := zwf_s (r := 74) (a := 1) (m := 1) wf3 (zadr_m (zadr_m (zadr_m ha))) (fun k hk => by rw [show k = 1 by omega, ztg_o ly_74, rf_74_1]; exact (zadr_i (by omega)))
  refine v_aload_0 ok dX6_init_25 (n := 26) rfl ?_
  refine v_bipush ok rfl dX6_init_26 (n := 28) rfl ?_
  refine v_newA (k := (18, 256)) ok (R := 77) wf4 ly_77 (by decide) rfl (zt 57 (by decide +kernel) (by decide +kernel)) ((zadr_f (a := 76) (n := 1) (r := 77) (by omega)).trans ((zadr_f (a := 78) (n := 16) (r := 77) (by omega)).trans ((zadr_f (a := 75) (n := 1) (r := 77) (by omega)).trans (hf 77 (by omega))))) (by decide) (zz_b hz (by omega)) rfl (by decide) ⟨by rw [hc]; exact Nat.le_of_ble_eq_true rfl, by rw [hs]; exact Nat.le_of_ble_eq_true rfl⟩ (zsr (zadr_m (zadr_m (zadr_m ha))) rfl) (zlr (zadr_m (zadr_m (zadr_m ha))) rfl) dX6_init_28 (n := 30) rfl (fun q5 => ?_)
  have iv5 := ziv_n iv3 (zag_a (ad := ad3) ((zadr_f (a := 76) (n := 1) (r := 77) (by omega)).trans ((zadr_f (a := 78) (n := 16) (r := 77) (by omega)).trans ((zadr_f (a := 75) (n := 1) (r := 77) (by omega)).trans (hf 77 (by omega))))) (by decide) q5) (fun r hr => zadr_m (a := 77) (n := 1) hr)
  have wf5 := zwf_a (a := 77) (n := 1) wf4
  generalize zadf ad3 77 1 q5 = ad5 at iv5 ⊢
  rw [zadr_j (a := 76) (n := 1) (b := 77) (m := 1) (c := 2) (by decide) (by decide) (by decide)] at wf5 iv5 ⊢
  refine v_putR ok hin (t := 77) wf5 ff_X6_20 ly_74 (zadr_m (zadr_m (zadr_m ha))) rfl rf_74_2 dX6_init_30 (n := 33) rfl ?_
  have wf6 := zwf_s (r := 74) (a := 2) (m := 1) wf5 (zadr_m (zadr_m (zadr_m ha))) (fun k hk => by rw [show k = 2 by omega, ztg_o ly_74, rf_74_2]; exact (zadr_i (by omega)))
  refine v_aload_0 ok dX6_init_33 (n := 34) rfl ?_
  refine v_iconst ok dX6_init_34 (n := 35) rfl ?_
  refine v_putI ok fw_X6_24 ly_74 (show (zadr (zadr (zadr al 75 1) 78 16) 76 2) 74 = true from (zadr_m (zadr_m (zadr_m ha)))) rfl (jI := 3) rfl dX6_init_35 (n := 38) rfl ?_
  rw [zset0 (show zz M 74 1 from (zz_b hz (by omega)))]
  clear wf
  have e9 : (zadr (zadr (zadr al 75 1) 78 16) 76 2) = (zadr al 75 19) := zal_x (fun r => by
    simp only [zadr, Bool.or_eq_true, decide_eq_true_eq]
    cases h : al r <;> simp only [Bool.false_eq_true, or_false, or_true]
    omega)
  rw [e9] at iv5 ⊢
  exact v_nret rt dX6_init_38 (fun r hr => (iv5.1 r hr).2) iv5.2
theorem wk_X6_74 {al : Int → Bool} {rs : Int → Nat → Bool} (wf : zwf al rs) (ha : al 74 = true) : zwf (zadr al 75 19) (zrsa (zrsa (zrsa (zrsa rs 75 0 16) 74 0 1) 74 1 1) 74 2 1) := by
  have w0 := (zwf_a (a := 75) (n := 19) wf)
  have w1 := zwf_s (r := 75) (a := 0) (m := 16) w0 (zadr_i (by omega)) (fun k hk => by rw [ztg_a ly_75 (by decide)]; exact zadr_i (by omega))
  have w2 := zwf_s (r := 74) (a := 0) (m := 1) w1 (zadr_m ha) (fun k hk => by rw [show k = 0 by omega, ztg_o ly_74, rf_74_0]; exact (zadr_i (by omega)))
  have w3 := zwf_s (r := 74) (a := 1) (m := 1) w2 (zadr_m ha) (fun k hk => by rw [show k = 1 by omega, ztg_o ly_74, rf_74_1]; exact (zadr_i (by omega)))
  have w4 := zwf_s (r := 74) (a := 2) (m := 1) w3 (zadr_m ha) (fun k hk => by rw [show k = 2 by omega, ztg_o ly_74, rf_74_2]; exact (zadr_i (by omega)))
  exact w4
set_option maxHeartbeats 4000000 in
set_option maxRecDepth 100000 in
theorem k_X5_94 {G : zG} {ad : Int → Nat} {al : Int → Bool} {rs : Int → Nat → Bool} {M : zM} (wf : zwf al rs) (ha : al 94 = true) (hf : ∀ r, 95 ≤ r ∧ r ≤ 137 → al r = false) (hz : zz M 94 44) : zTN G ad al rs mi_X5_init [zr 94] M (zadr al 95 43) (zrsa (zrsa rs 95 0 42) 94 0 1) M 43 1806 := by
  refine zTN.of (own := RX5) (ls := [some (zr 94)]) (by decide +kernel) rfl rfl rfl (Nat.le_of_ble_eq_true rfl) (fun γ ok hin hc hs hgn ov rt => ?_)
  refine v_aload_0 ok dX5_init_0 (n := 1) rfl ?_
  refine v_objI ok (zt 109 (by decide +kernel) (by decide +kernel)) oi_i oi_c ⟨by decide, by decide⟩ dX5_init_1 (n := 4) rfl ?_
  refine v_aload_0 ok dX5_init_4 (n := 5) rfl ?_
  refine v_bipush ok rfl dX5_init_5 (n := 7) rfl ?_
  refine v_bipush ok rfl dX5_init_7 (n := 9) rfl ?_
  refine v_multi (k := (0, 0)) ok (R := 95) (ty := .int) wf (by decide) ly_95 (zrow_96) rfl rfl (zt 110 (by decide +kernel) (by decide +kernel)) ov.1 (zt 57 (by decide +kernel) (by decide +kernel)) (hf 95 (by omega)) (fun r hr => (hf r (by omega))) (by decide) (by decide) (zz_b hz (by omega)) (zz_b hz (by omega)) ⟨rfl, rfl⟩ (by decide) ⟨by rw [hc]; exact Nat.le_of_ble_eq_true rfl, by rw [hs]; exact Nat.le_of_ble_eq_true rfl⟩ (zsr ha rfl) (zlr ha rfl) dX5_init_9 (n := 13) rfl (fun q1 => ?_)
  have iv1 := ziv_n (ziv_n (ziv_0 (ad := ad) (al := al)) (zag_a (ad := ad) (hf 95 (by omega)) (by decide) q1) (fun r hr => zadr_m (a := 95) (n := 1) hr)) (zag_r (b := 96) (N := 42) (fun r hr => (zadr_f (by omega)).trans (hf r (by omega))) (by decide) (q1 + 1)) (fun r hr => zadr_m (a := 96) (n := 42) hr)
  rw [show ((42 : Nat) : Int) = 42 from rfl]
  have wf1 := zwf_s (r := 95) (a := 0) (m := 42) (zwf_a (a := 96) (n := 42) (zwf_a (a := 95) (n := 1) wf)) (zadr_m (zadr_i (by omega))) (fun k hk => by rw [ztg_a ly_95 (by decide)]; exact zadr_i (by omega))
  generalize zadf (zadf ad 95 1 q1) 96 _ (q1 + 1) = ad1 at iv1 ⊢
  rw [zadr_j (a := 95) (n := 1) (b := 96) (m := 42) (c := 43) (by decide) (by decide) (by decide)] at wf1 iv1 ⊢
  refine v_putR ok hin (t := 95) wf1 ff_X5_13 ly_94 (zadr_m ha) rfl rf_94_0 dX5_init_13 (n := 16) rfl ?_
  have wf2 := zwf_s (r := 94) (a := 0) (m := 1) wf1 (zadr_m ha) (fun k hk => by rw [show k = 0 by omega, ztg_o ly_94, rf_94_0]; exact (zadr_i (by omega)))
  refine v_aload_0 ok dX5_init_16 (n := 17) rfl ?_
  refine v_lconst0 ok dX5_init_17 (n := 18) rfl ?_
  refine v_putJ ok fw_X5_16 ly_94 (show (zadr al 95 43) 94 = true from (zadr_m ha)) rfl (jI := 1) rfl dX5_init_18 (n := 21) rfl ?_
  rw [zset0 (show zz M 94 1 from (zz_b hz (by omega)))]
  clear wf
  exact v_nret rt dX5_init_21 (fun r hr => (iv1.1 r hr).2) iv1.2
theorem wk_X5_94 {al : Int → Bool} {rs : Int → Nat → Bool} (wf : zwf al rs) (ha : al 94 = true) : zwf (zadr al 95 43) (zrsa (zrsa rs 95 0 42) 94 0 1) := by
  have w0 := (zwf_a (a := 95) (n := 43) wf)
  have w1 := zwf_s (r := 95) (a := 0) (m := 42) w0 (zadr_i (by omega)) (fun k hk => by rw [ztg_a ly_95 (by decide)]; exact zadr_i (by omega))
  have w2 := zwf_s (r := 94) (a := 0) (m := 1) w1 (zadr_m ha) (fun k hk => by rw [show k = 0 by omega, ztg_o ly_94, rf_94_0]; exact (zadr_i (by omega)))
  exact w2
set_option maxHeartbeats 4000000 in
set_option maxRecDepth 100000 in
theorem k_X0_138 {G : zG} {ad : Int → Nat} {al : Int → Bool} {rs : Int → Nat → Bool} {M : zM} (wf : zwf al rs) (ha : al 138 = true) (hf : ∀ r, 139 ≤ r ∧ r ≤ 141 → al r = false) (hz : zz M 138 4) : zTN G ad al rs mi_X0_init [zr 138] M (zadr al 139 3) (zrsa (zrsa (zrsa rs 138 0 1) 138 1 1) 138 2 1) M 3 76 := by
  refine zTN.of (own := RX0) (ls := [some (zr 138)]) (by decide +kernel) rfl rfl rfl (Nat.le_of_ble_eq_true rfl) (fun γ ok hin hc hs hgn ov rt => ?_)
  refine v_aload_0 ok dX0_init_0 (n := 1) rfl ?_
  refine v_objI ok (zt 123 (by decide +kernel) (by decide +kernel)) oi_i oi_c ⟨by decide, by decide⟩ dX0_init_1 (n := 4) rfl ?_
  refine v_aload_0 ok dX0_init_4 (n := 5) rfl ?_
  refine v_bipush ok rfl dX0_init_5 (n := 7) rfl ?_
  refine v_newA (k := (0, 0)) ok (R := 139) wf ly_139 (by decide) rfl (zt 57 (by decide +kernel) (by decide +kernel)) (hf 139 (by omega)) (by decide) (zz_b hz (by omega)) rfl (by decide) ⟨by rw [hc]; exact Nat.le_of_ble_eq_true rfl, by rw [hs]; exact Nat.le_of_ble_eq_true rfl⟩ (zsr ha rfl) (zlr ha rfl) dX0_init_7 (n := 9) rfl (fun q1 => ?_)
  have iv1 := ziv_n (ziv_0 (ad := ad) (al := al)) (zag_a (ad := ad) (hf 139 (by omega)) (by decide) q1) (fun r hr => zadr_m (a := 139) (n := 1) hr)
  have wf1 := zwf_a (a := 139) (n := 1) wf
  generalize zadf ad 139 1 q1 = ad1 at iv1 ⊢
  refine v_putR ok hin (t := 139) wf1 ff_X0_9 ly_138 (zadr_m ha) rfl rf_138_0 dX0_init_9 (n := 12) rfl ?_
  have wf2 := zwf_s (r := 138) (a := 0) (m := 1) wf1 (zadr_m ha) (fun k hk => by rw [show k = 0 by omega, ztg_o ly_138, rf_138_0]; exact (zadr_i (by omega)))
  refine v_aload_0 ok dX0_init_12 (n := 13) rfl ?_
  refine v_bipush ok rfl dX0_init_13 (n := 15) rfl ?_
  refine v_newA (k := (1, 6)) ok (R := 140) wf2 ly_140 (by decide) rfl (zt 57 (by decide +kernel) (by decide +kernel)) ((zadr_f (a := 139) (n := 1) (r := 140) (by omega)).trans (hf 140 (by omega))) (by decide) (zz_b hz (by omega)) rfl (by decide) ⟨by rw [hc]; exact Nat.le_of_ble_eq_true rfl, by rw [hs]; exact Nat.le_of_ble_eq_true rfl⟩ (zsr (zadr_m ha) rfl) (zlr (zadr_m ha) rfl) dX0_init_15 (n := 17) rfl (fun q3 => ?_)
  have iv3 := ziv_n iv1 (zag_a (ad := ad1) ((zadr_f (a := 139) (n := 1) (r := 140) (by omega)).trans (hf 140 (by omega))) (by decide) q3) (fun r hr => zadr_m (a := 140) (n := 1) hr)
  have wf3 := zwf_a (a := 140) (n := 1) wf2
  generalize zadf ad1 140 1 q3 = ad3 at iv3 ⊢
  rw [zadr_j (a := 139) (n := 1) (b := 140) (m := 1) (c := 2) (by decide) (by decide) (by decide)] at wf3 iv3 ⊢
  refine v_putR ok hin (t := 140) wf3 ff_X0_15 ly_138 (zadr_m ha) rfl rf_138_1 dX0_init_17 (n := 20) rfl ?_
  have wf4 := zwf_s (r := 138) (a := 1) (m := 1) wf3 (zadr_m ha) (fun k hk => by rw [show k = 1 by omega, ztg_o ly_138, rf_138_1]; exact (zadr_i (by omega)))
  refine v_aload_0 ok dX0_init_20 (n := 21) rfl ?_
  refine v_bipush ok rfl dX0_init_21 (n := 23) rfl ?_
  refine v_newA (k := (2, 70)) ok (R := 141) wf4 ly_141 (by decide) rfl (zt 57 (by decide +kernel) (by decide +kernel)) ((zadr_f (a := 139) (n := 2) (r := 141) (by omega)).trans (hf 141 (by omega))) (by decide) (zz_b hz (by omega)) rfl (by decide) ⟨by rw [hc]; exact Nat.le_of_ble_eq_true rfl, by rw [hs]; exact Nat.le_of_ble_eq_true rfl⟩ (zsr (zadr_m ha) rfl) (zlr (zadr_m ha) rfl) dX0_init_23 (n := 25) rfl (fun q5 => ?_)
  have iv5 := ziv_n iv3 (zag_a (ad := ad3) ((zadr_f (a := 139) (n := 2) (r := 141) (by omega)).trans (hf 141 (by omega))) (by decide) q5) (fun r hr => zadr_m (a := 141) (n := 1) hr)
  have wf5 := zwf_a (a := 141) (n := 1) wf4
  generalize zadf ad3 141 1 q5 = ad5 at iv5 ⊢
  rw [zadr_j (a := 139) (n := 2) (b := 141) (m := 1) (c := 3) (by decide) (by decide) (by decide)] at wf5 iv5 ⊢
  refine v_putR ok hin (t := 141) wf5 ff_X0_18 ly_138 (zadr_m ha) rfl rf_138_2 dX0_init_25 (n := 28) rfl ?_
  have wf6 := zwf_s (r := 138) (a := 2) (m := 1) wf5 (zadr_m ha) (fun k hk => by rw [show k = 2 by omega, ztg_o ly_138, rf_138_2]; exact (zadr_i (by omega)))
  clear wf
  exact v_nret rt dX0_init_28 (fun r hr => (iv5.1 r hr).2) iv5.2
theorem wk_X0_138 {al : Int → Bool} {rs : Int → Nat → Bool} (wf : zwf al rs) (ha : al 138 = true) : zwf (zadr al 139 3) (zrsa (zrsa (zrsa rs 138 0 1) 138 1 1) 138 2 1) := by
  have w0 := (zwf_a (a := 139) (n := 3) wf)
  have w1 := zwf_s (r := 138) (a := 0) (m := 1) w0 (zadr_m ha) (fun k hk => by rw [show k = 0 by omega, ztg_o ly_138, rf_138_0]; exact (zadr_i (by omega)))
  have w2 := zwf_s (r := 138) (a := 1) (m := 1) w1 (zadr_m ha) (fun k hk => by rw [show k = 1 by omega, ztg_o ly_138, rf_138_1]; exact (zadr_i (by omega)))
  have w3 := zwf_s (r := 138) (a := 2) (m := 1) w2 (zadr_m ha) (fun k hk => by rw [show k = 2 by omega, ztg_o ly_138, rf_138_2]; exact (zadr_i (by omega)))
  exact w3
set_option maxHeartbeats 4000000 in
set_option maxRecDepth 100000 in
theorem k_X2_142 {G : zG} {ad : Int → Nat} {al : Int → Bool} {rs : Int → Nat → Bool} {M : zM} (wf : zwf al rs) (ha : al 142 = true) (hf : ∀ r, 143 ≤ r ∧ r ≤ 175 → al r = false) (hz : zz M 142 34) : zTN G ad al rs mi_X2_init [zr 142] M (zadr al 143 33) (zrsa (zrsa (zrsa (zrsa (zrsa (zrsa (zrsa rs 143 0 14) 142 1 1) 144 0 14) 142 2 1) 142 3 1) 142 4 1) 142 5 1) M 33 245 := by
  refine zTN.of (own := RX2) (ls := [some (zr 142)]) (by decide +kernel) rfl rfl rfl (Nat.le_of_ble_eq_true rfl) (fun γ ok hin hc hs hgn ov rt => ?_)
  refine v_aload_0 ok dX2_init_0 (n := 1) rfl ?_
  refine v_objI ok (zt 140 (by decide +kernel) (by decide +kernel)) oi_i oi_c ⟨by decide, by decide⟩ dX2_init_1 (n := 4) rfl ?_
  refine v_aload_0 ok dX2_init_4 (n := 5) rfl ?_
  refine v_iconst ok dX2_init_5 (n := 6) rfl ?_
  refine v_putI ok fw_X2_9 ly_142 (show al 142 = true from ha) rfl (jI := 0) rfl dX2_init_6 (n := 9) rfl ?_
  rw [zset0 (show zz M 142 1 from (zz_b hz (by omega)))]
  refine v_aload_0 ok dX2_init_9 (n := 10) rfl ?_
  refine v_bipush ok rfl dX2_init_10 (n := 12) rfl ?_
  refine v_bipush ok rfl dX2_init_12 (n := 14) rfl ?_
  refine v_multi (k := (0, 0)) ok (R := 143) (ty := .int) wf (by decide) ly_143 (zrow_148) rfl rfl (zt 141 (by decide +kernel) (by decide +kernel)) ov.1 (zt 57 (by decide +kernel) (by decide +kernel)) (hf 143 (by omega)) (fun r hr => (hf r (by omega))) (by decide) (by decide) (zz_b hz (by omega)) (zz_b hz (by omega)) ⟨rfl, rfl⟩ (by decide) ⟨by rw [hc]; exact Nat.le_of_ble_eq_true rfl, by rw [hs]; exact Nat.le_of_ble_eq_true rfl⟩ (zsr ha rfl) (zlr ha rfl) dX2_init_14 (n := 18) rfl (fun q1 => ?_)
  have iv1 := ziv_n (ziv_n (ziv_0 (ad := ad) (al := al)) (zag_a (ad := ad) (hf 143 (by omega)) (by decide) q1) (fun r hr => zadr_m (a := 143) (n := 1) hr)) (zag_r (b := 148) (N := 14) (fun r hr => (zadr_f (by omega)).trans (hf r (by omega))) (by decide) (q1 + 1)) (fun r hr => zadr_m (a := 148) (n := 14) hr)
  rw [show ((14 : Nat) : Int) = 14 from rfl]
  have wf1 := zwf_s (r := 143) (a := 0) (m := 14) (zwf_a (a := 148) (n := 14) (zwf_a (a := 143) (n := 1) wf)) (zadr_m (zadr_i (by omega))) (fun k hk => by rw [ztg_a ly_143 (by decide)]; exact zadr_i (by omega))
  generalize zadf (zadf ad 143 1 q1) 148 _ (q1 + 1) = ad1 at iv1 ⊢
  refine v_putR ok hin (t := 143) wf1 ff_X2_17 ly_142 (zadr_m (zadr_m ha)) rfl rf_142_1 dX2_init_18 (n := 21) rfl ?_
  have wf2 := zwf_s (r := 142) (a := 1) (m := 1) wf1 (zadr_m (zadr_m ha)) (fun k hk => by rw [show k = 1 by omega, ztg_o ly_142, rf_142_1]; exact (zadr_m (zadr_i (by omega))))
  refine v_aload_0 ok dX2_init_21 (n := 22) rfl ?_
  refine v_bipush ok rfl dX2_init_22 (n := 24) rfl ?_
  refine v_bipush ok rfl dX2_init_24 (n := 26) rfl ?_
  refine v_multi (k := (15, 112)) ok (R := 144) (ty := .int) wf2 (by decide) ly_144 (zrow_162) rfl rfl (zt 141 (by decide +kernel) (by decide +kernel)) ov.1 (zt 57 (by decide +kernel) (by decide +kernel)) ((zadr_f (a := 148) (n := 14) (r := 144) (by omega)).trans ((zadr_f (a := 143) (n := 1) (r := 144) (by omega)).trans (hf 144 (by omega)))) (fun r hr => ((zadr_f (a := 148) (n := 14) (r := r) (by omega)).trans ((zadr_f (a := 143) (n := 1) (r := r) (by omega)).trans (hf r (by omega))))) (by decide) (by decide) (zz_b hz (by omega)) (zz_b hz (by omega)) ⟨rfl, rfl⟩ (by decide) ⟨by rw [hc]; exact Nat.le_of_ble_eq_true rfl, by rw [hs]; exact Nat.le_of_ble_eq_true rfl⟩ (zsr (zadr_m (zadr_m ha)) rfl) (zlr (zadr_m (zadr_m ha)) rfl) dX2_init_26 (n := 30) rfl (fun q3 => ?_)
  have iv3 := ziv_n (ziv_n iv1 (zag_a (ad := ad1) ((zadr_f (a := 148) (n := 14) (r := 144) (by omega)).trans ((zadr_f (a := 143) (n := 1) (r := 144) (by omega)).trans (hf 144 (by omega)))) (by decide) q3) (fun r hr => zadr_m (a := 144) (n := 1) hr)) (zag_r (b := 162) (N := 14) (fun r hr => (zadr_f (by omega)).trans ((zadr_f (a := 148) (n := 14) (r := r) (by omega)).trans ((zadr_f (a := 143) (n := 1) (r := r) (by omega)).trans (hf r (by omega))))) (by decide) (q3 + 1)) (fun r hr => zadr_m (a := 162) (n := 14) hr)
  rw [show ((14 : Nat) : Int) = 14 from rfl]
  have wf3 := zwf_s (r := 144) (a := 0) (m := 14) (zwf_a (a := 162) (n := 14) (zwf_a (a := 144) (n := 1) wf2)) (zadr_m (zadr_i (by omega))) (fun k hk => by rw [ztg_a ly_144 (by decide)]; exact zadr_i (by omega))
  generalize zadf (zadf ad1 144 1 q3) 162 _ (q3 + 1) = ad3 at iv3 ⊢
  refine v_putR ok hin (t := 144) wf3 ff_X2_20 ly_142 (zadr_m (zadr_m (zadr_m (zadr_m ha)))) rfl rf_142_2 dX2_init_30 (n := 33) rfl ?_
  have wf4 := zwf_s (r := 142) (a := 2) (m := 1) wf3 (zadr_m (zadr_m (zadr_m (zadr_m ha)))) (fun k hk => by rw [show k = 2 by omega, ztg_o ly_142, rf_142_2]; exact (zadr_m (zadr_i (by omega))))
  refine v_aload_0 ok dX2_init_33 (n := 34) rfl ?_
  refine v_bipush ok rfl dX2_init_34 (n := 36) rfl ?_
  refine v_newA (k := (30, 224)) ok (R := 145) wf4 ly_145 (by decide) rfl (zt 57 (by decide +kernel) (by decide +kernel)) ((zadr_f (a := 162) (n := 14) (r := 145) (by omega)).trans ((zadr_f (a := 144) (n := 1) (r := 145) (by omega)).trans ((zadr_f (a := 148) (n := 14) (r := 145) (by omega)).trans ((zadr_f (a := 143) (n := 1) (r := 145) (by omega)).trans (hf 145 (by omega)))))) (by decide) (zz_b hz (by omega)) rfl (by decide) ⟨by rw [hc]; exact Nat.le_of_ble_eq_true rfl, by rw [hs]; exact Nat.le_of_ble_eq_true rfl⟩ (zsr (zadr_m (zadr_m (zadr_m (zadr_m ha)))) rfl) (zlr (zadr_m (zadr_m (zadr_m (zadr_m ha)))) rfl) dX2_init_36 (n := 38) rfl (fun q5 => ?_)
  have iv5 := ziv_n iv3 (zag_a (ad := ad3) ((zadr_f (a := 162) (n := 14) (r := 145) (by omega)).trans ((zadr_f (a := 144) (n := 1) (r := 145) (by omega)).trans ((zadr_f (a := 148) (n := 14) (r := 145) (by omega)).trans ((zadr_f (a := 143) (n := 1) (r := 145) (by omega)).trans (hf 145 (by omega)))))) (by decide) q5) (fun r hr => zadr_m (a := 145) (n := 1) hr)
  have wf5 := zwf_a (a := 145) (n := 1) wf4
  generalize zadf ad3 145 1 q5 = ad5 at iv5 ⊢
  refine v_putR ok hin (t := 145) wf5 ff_X2_23 ly_142 (zadr_m (zadr_m (zadr_m (zadr_m (zadr_m ha))))) rfl rf_142_3 dX2_init_38 (n := 41) rfl ?_
  have wf6 := zwf_s (r := 142) (a := 3) (m := 1) wf5 (zadr_m (zadr_m (zadr_m (zadr_m (zadr_m ha))))) (fun k hk => by rw [show k = 3 by omega, ztg_o ly_142, rf_142_3]; exact (zadr_i (by omega)))
  refine v_aload_0 ok dX2_init_41 (n := 42) rfl ?_
  refine v_bipush ok rfl dX2_init_42 (n := 44) rfl ?_
  refine v_newA (k := (31, 231)) ok (R := 146) wf6 ly_146 (by decide) rfl (zt 57 (by decide +kernel) (by decide +kernel)) ((zadr_f (a := 145) (n := 1) (r := 146) (by omega)).trans ((zadr_f (a := 162) (n := 14) (r := 146) (by omega)).trans ((zadr_f (a := 144) (n := 1) (r := 146) (by omega)).trans ((zadr_f (a := 148) (n := 14) (r := 146) (by omega)).trans ((zadr_f (a := 143) (n := 1) (r := 146) (by omega)).trans (hf 146 (by omega))))))) (by decide) (zz_b hz (by omega)) rfl (by decide) ⟨by rw [hc]; exact Nat.le_of_ble_eq_true rfl, by rw [hs]; exact Nat.le_of_ble_eq_true rfl⟩ (zsr (zadr_m (zadr_m (zadr_m (zadr_m (zadr_m ha))))) rfl) (zlr (zadr_m (zadr_m (zadr_m (zadr_m (zadr_m ha))))) rfl) dX2_init_44 (n := 46) rfl (fun q7 => ?_)
  have iv7 := ziv_n iv5 (zag_a (ad := ad5) ((zadr_f (a := 145) (n := 1) (r := 146) (by omega)).trans ((zadr_f (a := 162) (n := 14) (r := 146) (by omega)).trans ((zadr_f (a := 144) (n := 1) (r := 146) (by omega)).trans ((zadr_f (a := 148) (n := 14) (r := 146) (by omega)).trans ((zadr_f (a := 143) (n := 1) (r := 146) (by omega)).trans (hf 146 (by omega))))))) (by decide) q7) (fun r hr => zadr_m (a := 146) (n := 1) hr)
  have wf7 := zwf_a (a := 146) (n := 1) wf6
  generalize zadf ad5 146 1 q7 = ad7 at iv7 ⊢
  rw [zadr_j (a := 145) (n := 1) (b := 146) (m := 1) (c := 2) (by decide) (by decide) (by decide)] at wf7 iv7 ⊢
  refine v_putR ok hin (t := 146) wf7 ff_X2_27 ly_142 (zadr_m (zadr_m (zadr_m (zadr_m (zadr_m ha))))) rfl rf_142_4 dX2_init_46 (n := 49) rfl ?_
  have wf8 := zwf_s (r := 142) (a := 4) (m := 1) wf7 (zadr_m (zadr_m (zadr_m (zadr_m (zadr_m ha))))) (fun k hk => by rw [show k = 4 by omega, ztg_o ly_142, rf_142_4]; exact (zadr_i (by omega)))
  refine v_aload_0 ok dX2_init_49 (n := 50) rfl ?_
  refine v_bipush ok rfl dX2_init_50 (n := 52) rfl ?_
  refine v_newA (k := (32, 238)) ok (R := 147) wf8 ly_147 (by decide) rfl (zt 57 (by decide +kernel) (by decide +kernel)) ((zadr_f (a := 145) (n := 2) (r := 147) (by omega)).trans ((zadr_f (a := 162) (n := 14) (r := 147) (by omega)).trans ((zadr_f (a := 144) (n := 1) (r := 147) (by omega)).trans ((zadr_f (a := 148) (n := 14) (r := 147) (by omega)).trans ((zadr_f (a := 143) (n := 1) (r := 147) (by omega)).trans (hf 147 (by omega))))))) (by decide) (zz_b hz (by omega)) rfl (by decide) ⟨by rw [hc]; exact Nat.le_of_ble_eq_true rfl, by rw [hs]; exact Nat.le_of_ble_eq_true rfl⟩ (zsr (zadr_m (zadr_m (zadr_m (zadr_m (zadr_m ha))))) rfl) (zlr (zadr_m (zadr_m (zadr_m (zadr_m (zadr_m ha))))) rfl) dX2_init_52 (n := 54) rfl (fun q9 => ?_)
  have iv9 := ziv_n iv7 (zag_a (ad := ad7) ((zadr_f (a := 145) (n := 2) (r := 147) (by omega)).trans ((zadr_f (a := 162) (n := 14) (r := 147) (by omega)).trans ((zadr_f (a := 144) (n := 1) (r := 147) (by omega)).trans ((zadr_f (a := 148) (n := 14) (r := 147) (by omega)).trans ((zadr_f (a := 143) (n := 1) (r := 147) (by omega)).trans (hf 147 (by omega))))))) (by decide) q9) (fun r hr => zadr_m (a := 147) (n := 1) hr)
  have wf9 := zwf_a (a := 147) (n := 1) wf8
  generalize zadf ad7 147 1 q9 = ad9 at iv9 ⊢
  rw [zadr_j (a := 145) (n := 2) (b := 147) (m := 1) (c := 3) (by decide) (by decide) (by decide)] at wf9 iv9 ⊢
  refine v_putR ok hin (t := 147) wf9 ff_X2_30 ly_142 (zadr_m (zadr_m (zadr_m (zadr_m (zadr_m ha))))) rfl rf_142_5 dX2_init_54 (n := 57) rfl ?_
  have wf10 := zwf_s (r := 142) (a := 5) (m := 1) wf9 (zadr_m (zadr_m (zadr_m (zadr_m (zadr_m ha))))) (fun k hk => by rw [show k = 5 by omega, ztg_o ly_142, rf_142_5]; exact (zadr_i (by omega)))
  clear wf
  have e9 : (zadr (zadr (zadr (zadr (zadr al 143 1) 148 14) 144 1) 162 14) 145 3) = (zadr al 143 33) := zal_x (fun r => by
    simp only [zadr, Bool.or_eq_true, decide_eq_true_eq]
    cases h : al r <;> simp only [Bool.false_eq_true, or_false, or_true]
    omega)
  rw [e9] at iv9 ⊢
  exact v_nret rt dX2_init_57 (fun r hr => (iv9.1 r hr).2) iv9.2
theorem wk_X2_142 {al : Int → Bool} {rs : Int → Nat → Bool} (wf : zwf al rs) (ha : al 142 = true) : zwf (zadr al 143 33) (zrsa (zrsa (zrsa (zrsa (zrsa (zrsa (zrsa rs 143 0 14) 142 1 1) 144 0 14) 142 2 1) 142 3 1) 142 4 1) 142 5 1) := by
  have w0 := (zwf_a (a := 143) (n := 33) wf)
  have w1 := zwf_s (r := 143) (a := 0) (m := 14) w0 (zadr_i (by omega)) (fun k hk => by rw [ztg_a ly_143 (by decide)]; exact zadr_i (by omega))
  have w2 := zwf_s (r := 142) (a := 1) (m := 1) w1 (zadr_m ha) (fun k hk => by rw [show k = 1 by omega, ztg_o ly_142, rf_142_1]; exact (zadr_i (by omega)))
  have w3 := zwf_s (r := 144) (a := 0) (m := 14) w2 (zadr_i (by omega)) (fun k hk => by rw [ztg_a ly_144 (by decide)]; exact zadr_i (by omega))
  have w4 := zwf_s (r := 142) (a := 2) (m := 1) w3 (zadr_m ha) (fun k hk => by rw [show k = 2 by omega, ztg_o ly_142, rf_142_2]; exact (zadr_i (by omega)))
  have w5 := zwf_s (r := 142) (a := 3) (m := 1) w4 (zadr_m ha) (fun k hk => by rw [show k = 3 by omega, ztg_o ly_142, rf_142_3]; exact (zadr_i (by omega)))
  have w6 := zwf_s (r := 142) (a := 4) (m := 1) w5 (zadr_m ha) (fun k hk => by rw [show k = 4 by omega, ztg_o ly_142, rf_142_4]; exact (zadr_i (by omega)))
  have w7 := zwf_s (r := 142) (a := 5) (m := 1) w6 (zadr_m ha) (fun k hk => by rw [show k = 5 by omega, ztg_o ly_142, rf_142_5]; exact (zadr_i (by omega)))
  exact w7
set_option maxHeartbeats 4000000 in
set_option maxRecDepth 100000 in
theorem k_X3_177 {G : zG} {ad : Int → Nat} {al : Int → Bool} {rs : Int → Nat → Bool} {M : zM} (wf : zwf al rs) (ha : al 177 = true) (hf : ∀ r, 181 ≤ r ∧ r ≤ 181 → al r = false) (hz : zz M 177 5) : zTN G ad al rs mi_X3_init [zr 177] M (zadr al 181 1) (zrsa rs 177 0 1) M 1 100 := by
  refine zTN.of (own := RX3) (ls := [some (zr 177)]) (by decide +kernel) rfl rfl rfl (Nat.le_of_ble_eq_true rfl) (fun γ ok hin hc hs hgn ov rt => ?_)
  refine v_aload_0 ok dX3_init_0 (n := 1) rfl ?_
  refine v_objI ok (zt 168 (by decide +kernel) (by decide +kernel)) oi_i oi_c ⟨by decide, by decide⟩ dX3_init_1 (n := 4) rfl ?_
  refine v_aload_0 ok dX3_init_4 (n := 5) rfl ?_
  refine v_bipush ok rfl dX3_init_5 (n := 7) rfl ?_
  refine v_newA (k := (0, 0)) ok (R := 181) wf ly_181 (by decide) rfl (zt 57 (by decide +kernel) (by decide +kernel)) (hf 181 (by omega)) (by decide) (zz_b hz (by omega)) rfl (by decide) ⟨by rw [hc]; exact Nat.le_of_ble_eq_true rfl, by rw [hs]; exact Nat.le_of_ble_eq_true rfl⟩ (zsr ha rfl) (zlr ha rfl) dX3_init_7 (n := 9) rfl (fun q1 => ?_)
  have iv1 := ziv_n (ziv_0 (ad := ad) (al := al)) (zag_a (ad := ad) (hf 181 (by omega)) (by decide) q1) (fun r hr => zadr_m (a := 181) (n := 1) hr)
  have wf1 := zwf_a (a := 181) (n := 1) wf
  generalize zadf ad 181 1 q1 = ad1 at iv1 ⊢
  refine v_putR ok hin (t := 181) wf1 ff_X3_9 ly_177 (zadr_m ha) rfl rf_177_0 dX3_init_9 (n := 12) rfl ?_
  have wf2 := zwf_s (r := 177) (a := 0) (m := 1) wf1 (zadr_m ha) (fun k hk => by rw [show k = 0 by omega, ztg_o ly_177, rf_177_0]; exact (zadr_i (by omega)))
  refine v_aload_0 ok dX3_init_12 (n := 13) rfl ?_
  refine v_iconst ok dX3_init_13 (n := 14) rfl ?_
  refine v_putZ ok fw_X3_15 (Or.inl rfl) ly_177 (show (zadr al 181 1) 177 = true from (zadr_m ha)) rfl (jI := 1) rfl dX3_init_14 (n := 17) rfl ?_
  rw [zset0 (show zz M 177 1 from (zz_b hz (by omega)))]
  refine v_aload_0 ok dX3_init_17 (n := 18) rfl ?_
  refine v_iconst ok dX3_init_18 (n := 19) rfl ?_
  refine v_putI ok fw_X3_19 ly_177 (show (zadr al 181 1) 177 = true from (zadr_m ha)) rfl (jI := 2) rfl dX3_init_19 (n := 22) rfl ?_
  rw [zset0 (show zz M 177 1 from (zz_b hz (by omega)))]
  refine v_aload_0 ok dX3_init_22 (n := 23) rfl ?_
  refine v_iconst ok dX3_init_23 (n := 24) rfl ?_
  refine v_putI ok fw_X3_23 ly_177 (show (zadr al 181 1) 177 = true from (zadr_m ha)) rfl (jI := 3) rfl dX3_init_24 (n := 27) rfl ?_
  rw [zset0 (show zz M 177 1 from (zz_b hz (by omega)))]
  clear wf
  exact v_nret rt dX3_init_27 (fun r hr => (iv1.1 r hr).2) iv1.2
theorem wk_X3_177 {al : Int → Bool} {rs : Int → Nat → Bool} (wf : zwf al rs) (ha : al 177 = true) : zwf (zadr al 181 1) (zrsa rs 177 0 1) := by
  have w0 := (zwf_a (a := 181) (n := 1) wf)
  have w1 := zwf_s (r := 177) (a := 0) (m := 1) w0 (zadr_m ha) (fun k hk => by rw [show k = 0 by omega, ztg_o ly_177, rf_177_0]; exact (zadr_i (by omega)))
  exact w1
set_option maxHeartbeats 4000000 in
set_option maxRecDepth 100000 in
theorem k_X3_178 {G : zG} {ad : Int → Nat} {al : Int → Bool} {rs : Int → Nat → Bool} {M : zM} (wf : zwf al rs) (ha : al 178 = true) (hf : ∀ r, 182 ≤ r ∧ r ≤ 182 → al r = false) (hz : zz M 178 5) : zTN G ad al rs mi_X3_init [zr 178] M (zadr al 182 1) (zrsa rs 178 0 1) M 1 100 := by
  refine zTN.of (own := RX3) (ls := [some (zr 178)]) (by decide +kernel) rfl rfl rfl (Nat.le_of_ble_eq_true rfl) (fun γ ok hin hc hs hgn ov rt => ?_)
  refine v_aload_0 ok dX3_init_0 (n := 1) rfl ?_
  refine v_objI ok (zt 168 (by decide +kernel) (by decide +kernel)) oi_i oi_c ⟨by decide, by decide⟩ dX3_init_1 (n := 4) rfl ?_
  refine v_aload_0 ok dX3_init_4 (n := 5) rfl ?_
  refine v_bipush ok rfl dX3_init_5 (n := 7) rfl ?_
  refine v_newA (k := (0, 0)) ok (R := 182) wf ly_182 (by decide) rfl (zt 57 (by decide +kernel) (by decide +kernel)) (hf 182 (by omega)) (by decide) (zz_b hz (by omega)) rfl (by decide) ⟨by rw [hc]; exact Nat.le_of_ble_eq_true rfl, by rw [hs]; exact Nat.le_of_ble_eq_true rfl⟩ (zsr ha rfl) (zlr ha rfl) dX3_init_7 (n := 9) rfl (fun q1 => ?_)
  have iv1 := ziv_n (ziv_0 (ad := ad) (al := al)) (zag_a (ad := ad) (hf 182 (by omega)) (by decide) q1) (fun r hr => zadr_m (a := 182) (n := 1) hr)
  have wf1 := zwf_a (a := 182) (n := 1) wf
  generalize zadf ad 182 1 q1 = ad1 at iv1 ⊢
  refine v_putR ok hin (t := 182) wf1 ff_X3_9 ly_178 (zadr_m ha) rfl rf_178_0 dX3_init_9 (n := 12) rfl ?_
  have wf2 := zwf_s (r := 178) (a := 0) (m := 1) wf1 (zadr_m ha) (fun k hk => by rw [show k = 0 by omega, ztg_o ly_178, rf_178_0]; exact (zadr_i (by omega)))
  refine v_aload_0 ok dX3_init_12 (n := 13) rfl ?_
  refine v_iconst ok dX3_init_13 (n := 14) rfl ?_
  refine v_putZ ok fw_X3_15 (Or.inl rfl) ly_178 (show (zadr al 182 1) 178 = true from (zadr_m ha)) rfl (jI := 1) rfl dX3_init_14 (n := 17) rfl ?_
  rw [zset0 (show zz M 178 1 from (zz_b hz (by omega)))]
  refine v_aload_0 ok dX3_init_17 (n := 18) rfl ?_
  refine v_iconst ok dX3_init_18 (n := 19) rfl ?_
  refine v_putI ok fw_X3_19 ly_178 (show (zadr al 182 1) 178 = true from (zadr_m ha)) rfl (jI := 2) rfl dX3_init_19 (n := 22) rfl ?_
  rw [zset0 (show zz M 178 1 from (zz_b hz (by omega)))]
  refine v_aload_0 ok dX3_init_22 (n := 23) rfl ?_
  refine v_iconst ok dX3_init_23 (n := 24) rfl ?_
  refine v_putI ok fw_X3_23 ly_178 (show (zadr al 182 1) 178 = true from (zadr_m ha)) rfl (jI := 3) rfl dX3_init_24 (n := 27) rfl ?_
  rw [zset0 (show zz M 178 1 from (zz_b hz (by omega)))]
  clear wf
  exact v_nret rt dX3_init_27 (fun r hr => (iv1.1 r hr).2) iv1.2
theorem wk_X3_178 {al : Int → Bool} {rs : Int → Nat → Bool} (wf : zwf al rs) (ha : al 178 = true) : zwf (zadr al 182 1) (zrsa rs 178 0 1) := by
  have w0 := (zwf_a (a := 182) (n := 1) wf)
  have w1 := zwf_s (r := 178) (a := 0) (m := 1) w0 (zadr_m ha) (fun k hk => by rw [show k = 0 by omega, ztg_o ly_178, rf_178_0]; exact (zadr_i (by omega)))
  exact w1
set_option maxHeartbeats 4000000 in
set_option maxRecDepth 100000 in
theorem k_X3_179 {G : zG} {ad : Int → Nat} {al : Int → Bool} {rs : Int → Nat → Bool} {M : zM} (wf : zwf al rs) (ha : al 179 = true) (hf : ∀ r, 183 ≤ r ∧ r ≤ 183 → al r = false) (hz : zz M 179 5) : zTN G ad al rs mi_X3_init [zr 179] M (zadr al 183 1) (zrsa rs 179 0 1) M 1 100 := by
  refine zTN.of (own := RX3) (ls := [some (zr 179)]) (by decide +kernel) rfl rfl rfl (Nat.le_of_ble_eq_true rfl) (fun γ ok hin hc hs hgn ov rt => ?_)
  refine v_aload_0 ok dX3_init_0 (n := 1) rfl ?_
  refine v_objI ok (zt 168 (by decide +kernel) (by decide +kernel)) oi_i oi_c ⟨by decide, by decide⟩ dX3_init_1 (n := 4) rfl ?_
  refine v_aload_0 ok dX3_init_4 (n := 5) rfl ?_
  refine v_bipush ok rfl dX3_init_5 (n := 7) rfl ?_
  refine v_newA (k := (0, 0)) ok (R := 183) wf ly_183 (by decide) rfl (zt 57 (by decide +kernel) (by decide +kernel)) (hf 183 (by omega)) (by decide) (zz_b hz (by omega)) rfl (by decide) ⟨by rw [hc]; exact Nat.le_of_ble_eq_true rfl, by rw [hs]; exact Nat.le_of_ble_eq_true rfl⟩ (zsr ha rfl) (zlr ha rfl) dX3_init_7 (n := 9) rfl (fun q1 => ?_)
  have iv1 := ziv_n (ziv_0 (ad := ad) (al := al)) (zag_a (ad := ad) (hf 183 (by omega)) (by decide) q1) (fun r hr => zadr_m (a := 183) (n := 1) hr)
  have wf1 := zwf_a (a := 183) (n := 1) wf
  generalize zadf ad 183 1 q1 = ad1 at iv1 ⊢
  refine v_putR ok hin (t := 183) wf1 ff_X3_9 ly_179 (zadr_m ha) rfl rf_179_0 dX3_init_9 (n := 12) rfl ?_
  have wf2 := zwf_s (r := 179) (a := 0) (m := 1) wf1 (zadr_m ha) (fun k hk => by rw [show k = 0 by omega, ztg_o ly_179, rf_179_0]; exact (zadr_i (by omega)))
  refine v_aload_0 ok dX3_init_12 (n := 13) rfl ?_
  refine v_iconst ok dX3_init_13 (n := 14) rfl ?_
  refine v_putZ ok fw_X3_15 (Or.inl rfl) ly_179 (show (zadr al 183 1) 179 = true from (zadr_m ha)) rfl (jI := 1) rfl dX3_init_14 (n := 17) rfl ?_
  rw [zset0 (show zz M 179 1 from (zz_b hz (by omega)))]
  refine v_aload_0 ok dX3_init_17 (n := 18) rfl ?_
  refine v_iconst ok dX3_init_18 (n := 19) rfl ?_
  refine v_putI ok fw_X3_19 ly_179 (show (zadr al 183 1) 179 = true from (zadr_m ha)) rfl (jI := 2) rfl dX3_init_19 (n := 22) rfl ?_
  rw [zset0 (show zz M 179 1 from (zz_b hz (by omega)))]
  refine v_aload_0 ok dX3_init_22 (n := 23) rfl ?_
  refine v_iconst ok dX3_init_23 (n := 24) rfl ?_
  refine v_putI ok fw_X3_23 ly_179 (show (zadr al 183 1) 179 = true from (zadr_m ha)) rfl (jI := 3) rfl dX3_init_24 (n := 27) rfl ?_
  rw [zset0 (show zz M 179 1 from (zz_b hz (by omega)))]
  clear wf
  exact v_nret rt dX3_init_27 (fun r hr => (iv1.1 r hr).2) iv1.2
theorem wk_X3_179 {al : Int → Bool} {rs : Int → Nat → Bool} (wf : zwf al rs) (ha : al 179 = true) : zwf (zadr al 183 1) (zrsa rs 179 0 1) := by
  have w0 := (zwf_a (a := 183) (n := 1) wf)
  have w1 := zwf_s (r := 179) (a := 0) (m := 1) w0 (zadr_m ha) (fun k hk => by rw [show k = 0 by omega, ztg_o ly_179, rf_179_0]; exact (zadr_i (by omega)))
  exact w1
set_option maxHeartbeats 4000000 in
set_option maxRecDepth 100000 in
theorem k_X3_180 {G : zG} {ad : Int → Nat} {al : Int → Bool} {rs : Int → Nat → Bool} {M : zM} (wf : zwf al rs) (ha : al 180 = true) (hf : ∀ r, 184 ≤ r ∧ r ≤ 184 → al r = false) (hz : zz M 180 5) : zTN G ad al rs mi_X3_init [zr 180] M (zadr al 184 1) (zrsa rs 180 0 1) M 1 100 := by
  refine zTN.of (own := RX3) (ls := [some (zr 180)]) (by decide +kernel) rfl rfl rfl (Nat.le_of_ble_eq_true rfl) (fun γ ok hin hc hs hgn ov rt => ?_)
  refine v_aload_0 ok dX3_init_0 (n := 1) rfl ?_
  refine v_objI ok (zt 168 (by decide +kernel) (by decide +kernel)) oi_i oi_c ⟨by decide, by decide⟩ dX3_init_1 (n := 4) rfl ?_
  refine v_aload_0 ok dX3_init_4 (n := 5) rfl ?_
  refine v_bipush ok rfl dX3_init_5 (n := 7) rfl ?_
  refine v_newA (k := (0, 0)) ok (R := 184) wf ly_184 (by decide) rfl (zt 57 (by decide +kernel) (by decide +kernel)) (hf 184 (by omega)) (by decide) (zz_b hz (by omega)) rfl (by decide) ⟨by rw [hc]; exact Nat.le_of_ble_eq_true rfl, by rw [hs]; exact Nat.le_of_ble_eq_true rfl⟩ (zsr ha rfl) (zlr ha rfl) dX3_init_7 (n := 9) rfl (fun q1 => ?_)
  have iv1 := ziv_n (ziv_0 (ad := ad) (al := al)) (zag_a (ad := ad) (hf 184 (by omega)) (by decide) q1) (fun r hr => zadr_m (a := 184) (n := 1) hr)
  have wf1 := zwf_a (a := 184) (n := 1) wf
  generalize zadf ad 184 1 q1 = ad1 at iv1 ⊢
  refine v_putR ok hin (t := 184) wf1 ff_X3_9 ly_180 (zadr_m ha) rfl rf_180_0 dX3_init_9 (n := 12) rfl ?_
  have wf2 := zwf_s (r := 180) (a := 0) (m := 1) wf1 (zadr_m ha) (fun k hk => by rw [show k = 0 by omega, ztg_o ly_180, rf_180_0]; exact (zadr_i (by omega)))
  refine v_aload_0 ok dX3_init_12 (n := 13) rfl ?_
  refine v_iconst ok dX3_init_13 (n := 14) rfl ?_
  refine v_putZ ok fw_X3_15 (Or.inl rfl) ly_180 (show (zadr al 184 1) 180 = true from (zadr_m ha)) rfl (jI := 1) rfl dX3_init_14 (n := 17) rfl ?_
  rw [zset0 (show zz M 180 1 from (zz_b hz (by omega)))]
  refine v_aload_0 ok dX3_init_17 (n := 18) rfl ?_
  refine v_iconst ok dX3_init_18 (n := 19) rfl ?_
  refine v_putI ok fw_X3_19 ly_180 (show (zadr al 184 1) 180 = true from (zadr_m ha)) rfl (jI := 2) rfl dX3_init_19 (n := 22) rfl ?_
  rw [zset0 (show zz M 180 1 from (zz_b hz (by omega)))]
  refine v_aload_0 ok dX3_init_22 (n := 23) rfl ?_
  refine v_iconst ok dX3_init_23 (n := 24) rfl ?_
  refine v_putI ok fw_X3_23 ly_180 (show (zadr al 184 1) 180 = true from (zadr_m ha)) rfl (jI := 3) rfl dX3_init_24 (n := 27) rfl ?_
  rw [zset0 (show zz M 180 1 from (zz_b hz (by omega)))]
  clear wf
  exact v_nret rt dX3_init_27 (fun r hr => (iv1.1 r hr).2) iv1.2
theorem wk_X3_180 {al : Int → Bool} {rs : Int → Nat → Bool} (wf : zwf al rs) (ha : al 180 = true) : zwf (zadr al 184 1) (zrsa rs 180 0 1) := by
  have w0 := (zwf_a (a := 184) (n := 1) wf)
  have w1 := zwf_s (r := 180) (a := 0) (m := 1) w0 (zadr_m ha) (fun k hk => by rw [show k = 0 by omega, ztg_o ly_180, rf_180_0]; exact (zadr_i (by omega)))
  exact w1
