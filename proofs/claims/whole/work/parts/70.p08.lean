/-! the relation of the class and the model; calls that keep what is told -/
/-- texts are told alike -/
def zRt (M : zM) : Prop := M 55 2 = M 200 6 ∧ (0 ≤ M 200 6 ∧ M 200 6 ≤ 120) ∧ M 56 = M 206 ∧ (∀ i, 0 ≤ i ∧ i < M 200 6 → 32 ≤ M 206 i ∧ M 206 i ≤ 126) ∧ (∀ i, 0 ≤ i ∧ i < 120 → 0 ≤ M 206 i ∧ M 206 i ≤ 255)
/-- the image is told alike -/
def zRi (M : zM) : Prop := (M 0 2 = 0 ∨ M 0 2 = 1) ∧ M 200 18 = M 0 2 ∧ ((0 ≤ M 28 3 ∧ M 28 3 ≤ 7) ∧ (0 ≤ M 28 4 ∧ M 28 4 ≤ 16)) ∧ (M 0 2 = 1 → (M 28 3 = M 200 20 ∧ M 28 4 = M 200 21) ∧ (∀ b, 0 ≤ b ∧ b < M 28 3 → zBR (M (32 + b)) ∧ ∀ j, 0 ≤ j ∧ j < 4 → M (32 + b) j = M 220 (4 * b + j)) ∧ (∀ s, 0 ≤ s ∧ s < M 28 4 → zSR (M (39 + s)) ∧ ∀ j, 0 ≤ j ∧ j < 4 → M (39 + s) j = M 220 (28 + 4 * s + j)) ∧ (M 31 0 = M 220 92 ∧ M 31 1 = M 220 93) ∧ (0 ≤ M 31 0 ∧ M 31 0 ≤ 6) ∧ (0 ≤ M 31 1 ∧ M 31 1 ≤ 6))
def zRel (M : zM) : Prop := zRb M ∧ zRs M ∧ zRg M ∧ zRt M ∧ zRh M ∧ zRi M
theorem zRb_c {M N : zM} (h1 : N 1 3 = M 1 3) (h2 : N 200 2 = M 200 2) (h3 : ∀ r, 5 ≤ r ∧ r ≤ 11 → N r = M r) (h4 : N 201 = M 201) (h : zRb M) : zRb N := by
  have hb2 := h.2.1
  unfold zRb
  rw [h1, h2]
  refine ⟨h.1, h.2.1, fun b hb => ?_⟩
  have := h.2.2 b hb
  unfold zMB
  rw [h3 (5 + b) (by omega), h4]
  exact this
theorem zRs_c {M N : zM} (h1 : N 1 4 = M 1 4) (h2 : N 200 3 = M 200 3) (h3 : ∀ r, 12 ≤ r ∧ r ≤ 27 → N r = M r) (h4 : N 202 = M 202) (h : zRs M) : zRs N := by
  have hb2 := h.2.1
  unfold zRs
  rw [h1, h2]
  refine ⟨h.1, h.2.1, fun b hb => ?_⟩
  have := h.2.2 b hb
  unfold zMS
  rw [h3 (12 + b) (by omega), h4]
  exact this
theorem zRg_c {M N : zM} (h1 : N 4 = M 4) (h2 : N 205 = M 205) (h : zRg M) : zRg N := by
  unfold zRg
  rw [h1, h2]
  exact h
theorem zRt_c {M N : zM} (h1 : N 55 2 = M 55 2) (h2 : N 200 6 = M 200 6) (h3 : N 56 = M 56) (h4 : N 206 = M 206) (h : zRt M) : zRt N := by
  unfold zRt
  rw [h1, h2, h3, h4]
  exact h
theorem zRh_c {M N : zM} (h1 : ∀ r, 177 ≤ r ∧ r ≤ 184 → N r = M r) (h2 : N 223 = M 223) (h3 : N 224 = M 224) (h4 : N 225 = M 225) (h : zRh M) : zRh N := by
  intro j hj
  have := h j hj
  rw [h1 (177 + j) (by omega), h1 (181 + j) (by omega), h2, h3, h4]
  exact this
theorem zRi_c {M N : zM} (h1 : N 0 2 = M 0 2) (h2 : N 200 18 = M 200 18) (h3 : N 200 20 = M 200 20) (h4 : N 200 21 = M 200 21) (h5 : ∀ r, 28 ≤ r ∧ r ≤ 54 → N r = M r) (h6 : N 220 = M 220) (h : zRi M) : zRi N := by
  have hb := h.2.2.1
  unfold zRi
  rw [h1, h2, h3, h4, h5 28 (by omega), h5 31 (by omega), h6]
  refine ⟨h.1, h.2.1, h.2.2.1, fun q => ?_⟩
  obtain ⟨a1, a2, a3, a4⟩ := h.2.2.2 q
  refine ⟨a1, fun b hb2 => ?_, fun s hs => ?_, a4⟩
  · rw [h5 _ (by omega)]
    exact a2 b hb2
  · rw [h5 _ (by omega)]
    exact a3 s hs
/-- the class's scratch apart, N is M -/
def zfrT (M N : zM) : Prop := (∀ r, (r < 57 ∨ 175 < r) → r ≠ 55 → N r = M r) ∧ ∀ j, j ≠ 3 → N 55 j = M 55 j
theorem zfrT_r (M : zM) : zfrT M M := ⟨fun _ _ _ => rfl, fun _ _ => rfl⟩
theorem zRel_f {M N K : zM} (h : zRel M) (h1 : zfrT M N) (h2 : zfrM N K) : zRel K := by
  have k : ∀ r, (r < 57 ∨ (175 < r ∧ r < 200) ∨ (201 ≤ r ∧ r ≤ 206) ∨ r = 220 ∨ (223 ≤ r ∧ r ≤ 225)) → r ≠ 55 → K r = M r := fun r hr hr2 => by
    rw [h2.1 r (by omega), h1.1 r (by omega) hr2]
  have k2 : ∀ j, j ≠ 7 → j ≠ 8 → j ≠ 11 → K 200 j = M 200 j := fun j a b c => by
    rw [h2.2 j a b c, h1.1 200 (by omega) (by omega)]
  have k1 : ∀ j, K 1 j = M 1 j := fun j => by rw [k 1 (by omega) (by omega)]
  have k0 : ∀ j, K 0 j = M 0 j := fun j => by rw [k 0 (by omega) (by omega)]
  have k5 : K 55 2 = M 55 2 := by rw [h2.1 55 (by omega), h1.2 2 (by omega)]
  exact ⟨zRb_c (k1 3) (k2 2 (by omega) (by omega) (by omega)) (fun r hr => k r (by omega) (by omega)) (k 201 (by omega) (by omega)) h.1,
    zRs_c (k1 4) (k2 3 (by omega) (by omega) (by omega)) (fun r hr => k r (by omega) (by omega)) (k 202 (by omega) (by omega)) h.2.1,
    zRg_c (k 4 (by omega) (by omega)) (k 205 (by omega) (by omega)) h.2.2.1,
    zRt_c k5 (k2 6 (by omega) (by omega) (by omega)) (k 56 (by omega) (by omega)) (k 206 (by omega) (by omega)) h.2.2.2.1,
    zRh_c (fun r hr => k r (by omega) (by omega)) (k 223 (by omega) (by omega)) (k 224 (by omega) (by omega)) (k 225 (by omega) (by omega)) h.2.2.2.2.1,
    zRi_c (k0 2) (k2 18 (by omega) (by omega) (by omega)) (k2 20 (by omega) (by omega) (by omega)) (k2 21 (by omega) (by omega) (by omega)) (fun r hr => k r (by omega) (by omega)) (k 220 (by omega) (by omega)) h.2.2.2.2.2⟩
theorem zRel_1 {M N : zM} (h : zRel M) (h1 : zfrT M N) : zRel N := zRel_f h h1 (zfrM_r N)
theorem zfrT_W {M N : zM} (h : zfrW M N) : zfrT M N := ⟨fun r hr hr2 => h r (by omega), fun j _ => by rw [h 55 (by omega)]⟩
theorem zfrT_C {M N : zM} (h : zfrC M N) : zfrT M N := ⟨fun r hr hr2 => h r (by omega), fun j _ => by rw [h 55 (by omega)]⟩
theorem zfrT_R {M N : zM} (h : zfrR M N) : zfrT M N := ⟨fun r hr hr2 => h r (by omega), fun j _ => by rw [h 55 (by omega)]⟩
theorem zfrT_t {M N : zM} (h : ∀ r, r < 94 ∨ 137 < r → N r = M r) : zfrT M N := ⟨fun r hr hr2 => h r (by omega), fun j _ => by rw [h 55 (by omega)]⟩
-- what the calls want of the relation
theorem zRb_n {M : zM} (h : zRb M) : 0 ≤ M 1 3 ∧ M 1 3 ≤ 7 := by rw [h.1]; exact h.2.1
theorem zRs_n {M : zM} (h : zRs M) : 0 ≤ M 1 4 ∧ M 1 4 ≤ 16 := by rw [h.1]; exact h.2.1
theorem zRg_0 {M : zM} (h : zRg M) : 0 ≤ M 4 0 ∧ M 4 0 ≤ 6 := by rw [h.1.1]; exact h.2.1
theorem zRg_1 {M : zM} (h : zRg M) : 0 ≤ M 4 1 ∧ M 4 1 ≤ 6 := by rw [h.1.2]; exact h.2.2
theorem zRb_M {M : zM} (h : zRb M) : ∀ b, 0 ≤ b ∧ b < M 200 2 → zMB M b := fun b hb => (h.2.2 b hb).1
theorem zRs_M {M : zM} (h : zRs M) : ∀ s, 0 ≤ s ∧ s < M 200 3 → zMS M s := fun s hs => (h.2.2 s hs).1
theorem zRb_q {M : zM} (h : zRb M) {b q : Int} (hb : 0 ≤ b ∧ b < M 200 2) (hq : 0 ≤ q ∧ q ≤ 3) : M (5 + b) q = M 201 (4 * b + q) := by
  obtain ⟨_, e0, e1, e2, e3⟩ := h.2.2 b hb
  obtain rfl | rfl | rfl | rfl : q = 0 ∨ q = 1 ∨ q = 2 ∨ q = 3 := by omega
  · rw [e0, Int.add_zero]
  · exact e1
  · exact e2
  · exact e3
theorem zRs_q {M : zM} (h : zRs M) {s q : Int} (hs : 0 ≤ s ∧ s < M 200 3) (hq : 0 ≤ q ∧ q ≤ 3) : M (12 + s) q = M 202 (4 * s + q) := by
  obtain ⟨_, e0, e1, e2, e3⟩ := h.2.2 s hs
  obtain rfl | rfl | rfl | rfl : q = 0 ∨ q = 1 ∨ q = 2 ∨ q = 3 := by omega
  · rw [e0, Int.add_zero]
  · exact e1
  · exact e2
  · exact e3
theorem zcnt_c {p q : Int → Prop} [DecidablePred p] [DecidablePred q] (n : Nat) (h : ∀ k : Nat, k < n → (p k ↔ q k)) : zcnt p n = zcnt q n := by
  induction n with
  | zero => rfl
  | succ n ih =>
    have h1 := h n (by omega)
    unfold zcnt
    rw [ih (fun k hk => h k (by omega))]
    by_cases e : p n
    · rw [if_pos e, if_pos (h1.1 e)]
    · rw [if_neg e, if_neg (fun z => e (h1.2 z))]
theorem zwho_c {f g : Int → Int} (n : Nat) (h : ∀ k : Nat, k < n → f k = g k) : zwho f n = zwho g n := by
  induction n with
  | zero => rfl
  | succ n ih =>
    unfold zwho
    rw [ih (fun k hk => h k (by omega)), h n (by omega)]
theorem r_ask {M : zM} (hb : zRb M) (hs : zRs M) (hg : zRg M) {s b h : Int} (hsn : 0 ≤ s ∧ s < M 200 3) (hbn : 0 ≤ b ∧ b < M 200 2) : zask (zfo (M (5 + b)) (M (12 + s) 0) h) (M (12 + s) 1) (M (12 + s) 2) (M 4 0) (M 4 1) = zask (zfo (zQB M b) (M 202 (4 * s)) h) (M 202 (4 * s + 1)) (M 202 (4 * s + 2)) (M 205 0) (M 205 1) := by
  obtain ⟨⟨a1, _⟩, s0, s1, s2, s3⟩ := hs.2.2 s hsn
  rw [s0, s1, s2, hg.1.1, hg.1.2, zRb_f hb hbn a1]
theorem r_lim {M : zM} (hb : zRb M) (hs : zRs M) (hg : zRg M) {s b h : Int} (hsn : 0 ≤ s ∧ s < M 200 3) (hbn : 0 ≤ b ∧ b < M 200 2) : zlim (zfo (M (5 + b)) (M (12 + s) 0) h) (M (12 + s) 1) (M (12 + s) 2) (M 4 0) = zlim (zfo (zQB M b) (M 202 (4 * s)) h) (M 202 (4 * s + 1)) (M 202 (4 * s + 2)) (M 205 0) := by
  obtain ⟨⟨a1, _⟩, s0, s1, s2, s3⟩ := hs.2.2 s hsn
  rw [s0, s1, s2, hg.1.1, zRb_f hb hbn a1]
-- the class's answers over a memory that keeps what is told
theorem zak_c {M N : zM} (h : zfrT M N) {d s b : Int} (hs : 0 ≤ s ∧ s < 16) (hb : 0 ≤ b ∧ b < 7) : zak N d s b = zak M d s b := by
  unfold zak
  rw [h.1 (12 + s) (by omega) (by omega), h.1 (5 + b) (by omega) (by omega), h.1 4 (by omega) (by omega)]
theorem zall_c {M N : zM} (h : zfrT M N) (hb : zRb M) (hs : zRs M) {d : Int} : zall N d = zall M d := by
  have hn := zRb_n hb
  have hw := zRs_n hs
  unfold zall zbst
  rw [h.1 1 (by omega) (by omega)]
  rw [zds_p (p2 := zkey (zak M d)) _ (fun k b hk hb2 => by
    unfold zkey
    rw [zak_c h (by omega) (by omega)])]
theorem zcha_c {M N : zM} (h : zfrT M N) (hb : zRb M) (hs : zRs M) {s : Int} (hsn : 0 ≤ s ∧ s < 16) : zcha N s = zcha M s := by
  have hn := zRb_n hb
  have hw := zRs_n hs
  unfold zcha zbst
  rw [h.1 1 (by omega) (by omega), h.1 (12 + s) (by omega) (by omega), zall_c h hb hs]
  rw [zds_p (p2 := zchg (zkey (zak M (M (12 + s) 0))) (zshe (zall M (M (12 + s) 0))) s) _ (fun k b hk hb2 => by
    unfold zchg zkey
    rw [zak_c h (by omega) (by omega)])]
theorem zmst_c {M N : zM} (h : zfrT M N) (hb : zRb M) (hs : zRs M) {d : Int} : zmst (zds (zkey (zak N d)) (N 1 3) (N 1 4).toNat) (zp2 (N 1 3)).toNat = zmst (zds (zkey (zak M d)) (M 1 3) (M 1 4).toNat) (zp2 (M 1 3)).toNat := by
  have hn := zRb_n hb
  have hw := zRs_n hs
  rw [h.1 1 (by omega) (by omega)]
  rw [zds_p (p2 := zkey (zak M d)) _ (fun k b hk hb2 => by
    unfold zkey
    rw [zak_c h (by omega) (by omega)])]
theorem zctn_c {M N : zM} (h : zfrT M N) {d : Int} (n : Nat) (hn : n ≤ 16) : zctn N d n = zctn M d n := by
  induction n with
  | zero => rfl
  | succ n ih =>
    unfold zctn
    rw [ih (by omega), h.1 (12 + n) (by omega) (by omega)]
theorem zcng_c {M N : zM} (h : zfrT M N) (hb : zRb M) (hs : zRs M) {d q i n k x : Int} (hq : 0 ≤ q ∧ q < 4) (hn : 1 ≤ n ∧ n ≤ 6 ∧ n ≤ M 1 3) (hz : zshoes M d) (hall : zall M d ≠ -1) (H : zcng M (zshe (zall M d)) q i n k x) : zcng N (zshe (zall N d)) q i n k x := by
  have hnb := zRb_n hb
  have hw := zRs_n hs
  obtain ⟨m, R, hm, hrow, hx⟩ := H
  rw [zall_c h hb hs]
  refine ⟨m, R, fun b hbn => ?_, hrow, hx⟩
  rw [hm b hbn, h.1 (181 + q) (by omega) (by omega)]
  refine (zmay_c _ _ _ _ (fun o ho => ?_)).symm
  have ho2 := hz hall o (by omega)
  have ho3 := zshe_b (zall M d) o
  unfold zgl
  rw [h.1 (5 + b) (by omega) (by omega), h.1 (12 + zshe (zall M d) o) (by omega) (by omega), h.1 4 (by omega) (by omega)]
