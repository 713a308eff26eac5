/-! pure: ways of the class and of the model -/
theorem zsm2_f {B : Int → Int → Int} {pr : Int → Int → Int} {W f : Int → Int} {n w K : Int} (hn : 0 ≤ n ∧ n ≤ 7) (hf : zFr B n w 0 0 f) (hp : ∀ k b, 0 ≤ b ∧ b < n → 0 ≤ k ∧ k < w → 0 ≤ B b k → pr k b = B b k * K + W k * zp2 (4 * (6 - b))) (m : Nat) (hm : m ≤ n) : zsm2 pr f (zp2 n - 1) m = zss B f m 0 * K + zrr W f m 0 := by
  induction m with
  | zero =>
    show (0 : Int) = 0 * K + 0
    omega
  | succ m ih =>
    have h1 := hf m (by omega)
    show zsm2 pr f (zp2 n - 1) m + (if zbit (zp2 n - 1) m = 1 then pr (f m) m else 0) = _
    rw [ih (by omega), if_pos (zfullb hn (by omega)), zss_e, zrr_e, hp _ _ (by omega) h1.1 h1.2.2.1, Int.zero_add, Int.add_mul]
    omega
theorem zkey_m {B : Int → Int → Int} {pr : Int → Int → Int} {W L : Int → Int} {n w : Int} (hn : 0 ≤ n ∧ n ≤ 7) (hw : 0 ≤ w ∧ w ≤ 16) (H : zLst B n w L (-1)) (hB : ∀ b k, B b k ≤ 6) (hW : ∀ k, 0 ≤ k ∧ k < w → 0 ≤ W k ∧ W k ≤ 15) (hWm : ∀ j k, 0 ≤ j ∧ j < k ∧ k < w → W j < W k) (hp : ∀ k b, 0 ≤ b ∧ b < n → 0 ≤ k ∧ k < w → pr k b = if B b k < 0 then -1 else B b k * 268435456 + W k * zp2 (4 * (6 - b))) : (1000000 ≤ L 0 → zds pr n w.toNat (zp2 n - 1) = -1) ∧ (L 0 < 1000000 → ∀ kk : Int → Int, (∀ c : Nat, (c : Int) < n → zgd B L w (zhh kk c) c (kk c)) → zds pr n w.toNat (zp2 n - 1) = L 0 * 268435456 + zrr W kk n.toNat 0) := by
  have hp0 : ∀ k b, 0 ≤ b ∧ b < n → 0 ≤ k ∧ k < w → 0 ≤ B b k → pr k b = B b k * 268435456 + W k * zp2 (4 * (6 - b)) := fun k b hb hk h => by rw [hp k b hb hk, if_neg (by omega)]
  have hpn : ∀ k b, 0 ≤ b ∧ b < n → 0 ≤ k ∧ k < w → (pr k b ≠ -1 ↔ 0 ≤ B b k) := by
    intro k b hb hk
    have h1 := zp2_pos (4 * (6 - b))
    have h2 := Int.mul_nonneg (hW k hk).1 (show 0 ≤ zp2 (4 * (6 - b)) by omega)
    rw [hp k b hb hk]
    by_cases e : B b k < 0
    · rw [if_pos e]
      omega
    · rw [if_neg e]
      omega
  have hp1 : ∀ k b : Nat, k < w.toNat → (b : Int) < n → -1 ≤ pr k b := by
    intro k b hk hb
    have h1 := zp2_pos (4 * (6 - (b : Int)))
    have h2 := Int.mul_nonneg (hW k (by omega)).1 (show 0 ≤ zp2 (4 * (6 - (b : Int))) by omega)
    rw [hp k b (by omega) (by omega)]
    by_cases e : B b k < 0
    · rw [if_pos e]
      omega
    · rw [if_neg e]
      omega
  have hs := zp2_pos n
  have hwn : ((w.toNat : Nat) : Int) = w := by omega
  have z0 : zone 0 = 0 := by decide
  have hex : zds pr n w.toNat (zp2 n - 1) ≠ -1 → ∃ f, zFr B n w 0 0 f ∧ zds pr n w.toNat (zp2 n - 1) = zss B f n.toNat 0 * 268435456 + zrr W f n.toNat 0 := by
    intro h
    obtain ⟨f, f1, f2⟩ := zds_e hn w.toNat (zp2 n - 1) (by omega) h
    rw [hwn] at f1
    have f3 := (zWy_f hn hpn).1 f1
    exact ⟨f, f3, by rw [f2, zsm2_f hn f3 hp0 n.toNat (by omega)]⟩
  refine ⟨fun hL => ?_, fun hL kk hkk => ?_⟩
  · by_cases e : zds pr n w.toNat (zp2 n - 1) = -1
    · exact e
    · exfalso
      obtain ⟨f, f1, f2⟩ := hex e
      have h1 := zss_l H hw n.toNat 0 0 f z0 (by omega) ⟨Int.le_refl 0, zp2_pos w⟩ f1
      have h2 := zss_b (f := f) (nb := n) (w := w) (h := 0) hB n.toNat 0
      omega
  · have k1 := zkk_f hw hkk
    have k2 : zss B kk n.toNat 0 = L 0 := zkk_s H hw hkk n.toNat 0 (by omega)
    have k3 := zds_l hn w.toNat hp1 (zp2 n - 1) kk (by omega) (by rw [hwn]; exact (zWy_f hn hpn).2 k1)
    rw [zsm2_f hn k1 hp0 n.toNat (by omega), k2] at k3
    obtain ⟨f, f1, f2⟩ := hex k3.1
    have k4 := zkk_l H hw hn.2 hW hWm hkk n.toNat 0 f (by omega) f1
    have r1 := zrr_b (W := W) (f := kk) n.toNat 0 (by omega) (fun c hc => hW _ (k1 c (by omega)).1)
    have r2 := zrr_b (W := W) (f := f) n.toNat 0 (by omega) (fun c hc => hW _ (f1 c (by omega)).1)
    have e28 : zp2 (4 * (7 - 0)) = 268435456 := rfl
    rw [e28] at r1 r2
    have k4 : L 0 < zss B f n.toNat 0 ∨ (zss B f n.toNat 0 = L 0 ∧ zrr W kk n.toNat 0 ≤ zrr W f n.toNat 0) := k4
    rcases k4 with k4 | k4
    · omega
    · have := k3.2
      rw [f2, k4.1] at this ⊢
      omega
theorem zchn_m {B : Int → Int → Int} {pr : Int → Int → Int} {L : Int → Int} {n w : Int} (hn : 0 ≤ n ∧ n ≤ 7) (hw : 0 ≤ w ∧ w ≤ 16) (H : zLst B n w L (-1)) (hB : ∀ b k, B b k ≤ 6) (hp : ∀ k b, 0 ≤ b ∧ b < n → 0 ≤ k ∧ k < w → pr k b = if B b k < 0 then -1 else B b k) : (1000000 ≤ L 0 → zds pr n w.toNat (zp2 n - 1) = -1) ∧ (L 0 < 1000000 → zds pr n w.toNat (zp2 n - 1) = L 0) := by
  have hp0 : ∀ k b, 0 ≤ b ∧ b < n → 0 ≤ k ∧ k < w → 0 ≤ B b k → pr k b = B b k * 1 + (fun _ => (0 : Int)) k * zp2 (4 * (6 - b)) := fun k b hb hk h => by
    rw [hp k b hb hk, if_neg (by omega)]
    show B b k = B b k * 1 + 0 * zp2 (4 * (6 - b))
    rw [Int.zero_mul]
    omega
  have hpn : ∀ k b, 0 ≤ b ∧ b < n → 0 ≤ k ∧ k < w → (pr k b ≠ -1 ↔ 0 ≤ B b k) := by
    intro k b hb hk
    rw [hp k b hb hk]
    by_cases e : B b k < 0
    · rw [if_pos e]
      omega
    · rw [if_neg e]
      omega
  have hp1 : ∀ k b : Nat, k < w.toNat → (b : Int) < n → -1 ≤ pr k b := by
    intro k b hk hb
    rw [hp k b (by omega) (by omega)]
    split <;> omega
  have hs := zp2_pos n
  have hwn : ((w.toNat : Nat) : Int) = w := by omega
  have z0 : zone 0 = 0 := by decide
  have hrz : ∀ (f : Int → Int) (m : Nat) (b : Int), zrr (fun _ => (0 : Int)) f m b = 0 := by
    intro f m
    induction m with
    | zero => exact fun b => rfl
    | succ m ih =>
      intro b
      show (0 : Int) * zp2 (4 * (6 - b)) + zrr (fun _ => (0 : Int)) f m (b + 1) = 0
      rw [ih, Int.zero_mul]
      rfl
  have hex : zds pr n w.toNat (zp2 n - 1) ≠ -1 → ∃ f, zFr B n w 0 0 f ∧ zds pr n w.toNat (zp2 n - 1) = zss B f n.toNat 0 := by
    intro h
    obtain ⟨f, f1, f2⟩ := zds_e hn w.toNat (zp2 n - 1) (by omega) h
    rw [hwn] at f1
    have f3 := (zWy_f hn hpn).1 f1
    exact ⟨f, f3, by rw [f2, zsm2_f hn f3 hp0 n.toNat (by omega), hrz]; omega⟩
  have hlo : ∀ f, zFr B n w 0 0 f → L 0 ≤ zss B f n.toNat 0 ∧ zss B f n.toNat 0 ≤ 42 := by
    intro f f1
    have h1 := zss_l H hw n.toNat 0 0 f z0 (by omega) ⟨Int.le_refl 0, zp2_pos w⟩ f1
    have h2 := zss_b (f := f) (nb := n) (w := w) (h := 0) hB n.toNat 0
    omega
  refine ⟨fun hL => ?_, fun hL => ?_⟩
  · by_cases e : zds pr n w.toNat (zp2 n - 1) = -1
    · exact e
    · exfalso
      obtain ⟨f, f1, f2⟩ := hex e
      have := hlo f f1
      omega
  · obtain ⟨g, g1, g2⟩ := zss_x H hw n.toNat 0 0 z0 (by omega) ⟨Int.le_refl 0, zp2_pos w⟩ hL
    have k3 := zds_l hn w.toNat hp1 (zp2 n - 1) g (by omega) (by rw [hwn]; exact (zWy_f hn hpn).2 g1)
    rw [zsm2_f hn g1 hp0 n.toNat (by omega), hrz, g2] at k3
    obtain ⟨f, f1, f2⟩ := hex k3.1
    have := hlo f f1
    omega
/-- the places out of a price -/
theorem zrr_d {W f : Int → Int} (m : Nat) : ∀ (b X j : Int), 0 ≤ b → b + m ≤ 7 → (∀ c : Int, b ≤ c ∧ c < b + m → 0 ≤ W (f c) ∧ W (f c) ≤ 15) → b ≤ j ∧ j < b + m → (X * zp2 (4 * (7 - b)) + zrr W f m b) / zp2 (4 * (6 - j)) % 16 = W (f j) := by
  induction m with
  | zero => intro b X j hb0 hb h hj; omega
  | succ m ih =>
    intro b X j hb0 hb h hj
    have h2 := h b (by omega)
    have hP := zp2_pos (4 * (6 - b))
    have e1 : X * zp2 (4 * (7 - b)) + zrr W f (m + 1) b = (X * 16 + W (f b)) * zp2 (4 * (7 - (b + 1))) + zrr W f m (b + 1) := by
      show X * zp2 (4 * (7 - b)) + (W (f b) * zp2 (4 * (6 - b)) + zrr W f m (b + 1)) = _
      rw [zp2_4 (by omega), show 7 - (b + 1) = 6 - b by omega, Int.add_mul, Int.mul_assoc]
      omega
    rw [e1]
    by_cases e : j = b
    · have r1 := zrr_b (W := W) (f := f) m (b + 1) (by omega) (fun c hc => h c (by omega))
      rw [show 7 - (b + 1) = 6 - b by omega] at r1 ⊢
      rw [e, Int.add_comm, Int.add_mul_ediv_right _ _ (by omega), Int.ediv_eq_zero_of_lt r1.1 r1.2]
      omega
    · exact ih (b + 1) _ j (by omega) (by omega) (fun c hc => h c (by omega)) (by omega)
/-- brides, shoes, settings are told alike -/
def zRb (M : zM) : Prop := M 1 3 = M 200 2 ∧ (0 ≤ M 200 2 ∧ M 200 2 ≤ 7) ∧ ∀ b, 0 ≤ b ∧ b < M 200 2 → zMB M b ∧ M (5 + b) 0 = M 201 (4 * b) ∧ M (5 + b) 1 = M 201 (4 * b + 1) ∧ M (5 + b) 2 = M 201 (4 * b + 2) ∧ M (5 + b) 3 = M 201 (4 * b + 3)
def zRs (M : zM) : Prop := M 1 4 = M 200 3 ∧ (0 ≤ M 200 3 ∧ M 200 3 ≤ 16) ∧ ∀ s, 0 ≤ s ∧ s < M 200 3 → zMS M s ∧ M (12 + s) 0 = M 202 (4 * s) ∧ M (12 + s) 1 = M 202 (4 * s + 1) ∧ M (12 + s) 2 = M 202 (4 * s + 2) ∧ M (12 + s) 3 = M 202 (4 * s + 3)
def zRg (M : zM) : Prop := (M 4 0 = M 205 0 ∧ M 4 1 = M 205 1) ∧ (0 ≤ M 205 0 ∧ M 205 0 ≤ 6) ∧ (0 ≤ M 205 1 ∧ M 205 1 ≤ 6)
theorem zRb_B {M : zM} (h : zRb M) : ∀ b, 0 ≤ b ∧ b < M 1 3 → zBR (M (5 + b)) := by
  intro b hb
  rw [h.1] at hb
  obtain ⟨a, e0, e1, e2, e3⟩ := h.2.2 b hb
  unfold zBR
  rw [e0, e1, e2, e3]
  exact a
theorem zRs_S {M : zM} (h : zRs M) : ∀ s, 0 ≤ s ∧ s < M 1 4 → zSR (M (12 + s)) := by
  intro b hb
  rw [h.1] at hb
  obtain ⟨a, e0, e1, e2, e3⟩ := h.2.2 b hb
  unfold zSR
  rw [e0, e1, e2, e3]
  exact a
theorem zRb_f {M : zM} (h : zRb M) {b d x : Int} (hb : 0 ≤ b ∧ b < M 200 2) (hd : 0 ≤ d ∧ d ≤ 1) : zfo (M (5 + b)) d x = zfo (zQB M b) d x := by
  obtain ⟨_, e0, e1, e2, _⟩ := h.2.2 b hb
  unfold zfo
  have hz : zQB M b 2 = M 201 (4 * b + 2) := rfl
  rw [e2, hz]
  obtain rfl | rfl : d = 0 ∨ d = 1 := by omega
  · have hz0 : zQB M b 0 = M 201 (4 * b + 0) := rfl
    rw [e0, hz0, Int.add_zero]
  · have hz1 : zQB M b 1 = M 201 (4 * b + 1) := rfl
    rw [e1, hz1]
/-- what is asked of the shoes of a side, here and there -/
theorem zR_a {M : zM} (hb : zRb M) (hs : zRs M) (hg : zRg M) {d : Int} {W : Int → Int} {b k : Int} (hbn : 0 ≤ b ∧ b < M 200 2) (hk : 0 ≤ W k ∧ W k < M 200 3) (hd : zMP M d (W k)) : zak M d (W k) b = zask2 M W b k := by
  obtain ⟨a, s0, s1, s2, s3⟩ := hs.2.2 (W k) hk
  obtain ⟨a1, a2, a3, a4⟩ := a
  obtain ⟨q, b0, b1, b2, b3⟩ := hb.2.2 b hbn
  unfold zak zask2
  rw [if_pos ⟨by rw [s0]; exact hd.1, by rw [s3]; exact hd.2⟩, zRb_f hb hbn (by rw [s0]; exact a1), s0, s1, s2, b3, hg.1.1, hg.1.2]
theorem zR_n {M : zM} (hs : zRs M) {d s b : Int} (hk : 0 ≤ s ∧ s < M 200 3) (hd : ¬ zMP M d s) : zak M d s b = -4 := by
  obtain ⟨a, s0, s1, s2, s3⟩ := hs.2.2 s hk
  unfold zak
  rw [if_neg]
  rintro ⟨h1, h2⟩
  rw [s0] at h1
  rw [s3] at h2
  exact hd ⟨h1, h2⟩
theorem zwhc_mono {M : zM} {d : Int} {W : Int → Int} {s : Int} (h : zwhc M d W s) : ∀ j k, 0 ≤ j ∧ j < k ∧ k < zcnt (zMP M d) s.toNat → W j < W k := by
  intro j k hjk
  have h1 := h j (by omega)
  have h2 := h k (by omega)
  by_cases e : W j < W k
  · exact e
  · exfalso
    have h3 : zcnt (zMP M d) (W k).toNat ≤ zcnt (zMP M d) (W j).toNat := zcnt_m (by omega)
    rw [h1.2.2, h2.2.2] at h3
    omega
theorem zask2_b {M : zM} {W : Int → Int} (hg : zRg M) (b k : Int) : zask2 M W b k = -4 ∨ (0 ≤ zask2 M W b k ∧ zask2 M W b k ≤ 6) := by
  unfold zask2
  exact zask_b hg.2.2
/-- the class's prices over the model's places -/
theorem zR_ds {M : zM} (hs : zRs M) (hb : zRb M) {d : Int} {W : Int → Int} (hw : zwhc M d W (M 200 3)) (pr : Int → Int → Int) (hp : ∀ s b, 0 ≤ s ∧ s < M 200 3 → 0 ≤ b ∧ b < M 200 2 → ¬ zMP M d s → pr s b = -1) : zds pr (M 1 3) (M 1 4).toNat = zds (fun k b => pr (W k) b) (M 200 2) (zcnt (zMP M d) (M 200 3).toNat).toNat := by
  rw [hs.1, hb.1]
  refine zds_w (p := zMP M d) _ (fun k hk => ?_) (fun k b hk hb2 h => hp k b (by omega) (by omega) h)
  have e : (((M 200 3).toNat : Nat) : Int) = M 200 3 := by have := hs.2.1; omega
  rw [e] at hk ⊢
  exact hw k hk
theorem r_way {M Mw : zM} {d : Int} (hb : zRb M) (hs : zRs M) (hg : zRg M) (h : zWay M Mw d) : (1000000 ≤ Mw 214 0 → zall M d = -1) ∧ (Mw 214 0 < 1000000 → zall M d ≠ -1 ∧ zall M d / 268435456 = Mw 214 0 ∧ ∀ b, 0 ≤ b ∧ b < M 200 2 → zshe (zall M d) b = Mw 215 b) := by
  obtain ⟨_, _, hwc, hwh, has, hl, hgr⟩ := h
  have hb2 := hb.2.1
  have hs2 := hs.2.1
  have cb := zcnt_b (zMP M d) (M 200 3).toNat
  have hmono := zwhc_mono hwh
  have hds := zR_ds hs hb hwh (zkey (zak M d)) (fun s b hs1 _ hn => by unfold zkey; rw [zR_n hs hs1 hn, if_pos rfl])
  have eall : zall M d = zds (fun k b => zkey (zak M d) (Mw 211 k) b) (M 200 2) (Mw 200 11).toNat (zp2 (M 200 2) - 1) := by
    unfold zall zbst
    rw [hds, hb.1, hwc]
  have hB6 : ∀ b k, zask2 M (Mw 211) b k ≤ 6 := fun b k => by have := zask2_b (W := Mw 211) hg b k; omega
  have hl2 := zLst_B (by omega) has hl
  have hWr : ∀ k, 0 ≤ k ∧ k < Mw 200 11 → 0 ≤ Mw 211 k ∧ Mw 211 k ≤ 15 := fun k hk => by have := (hwh k (by omega)).1; omega
  have km := zkey_m (pr := fun k b => zkey (zak M d) (Mw 211 k) b) (W := Mw 211) hb2 (by omega) hl2 hB6 hWr (fun j k hjk => hmono j k (by omega)) (fun k b hbn hk => by
    have h1 := hwh k (by omega)
    have h2 := zR_a hb hs hg hbn h1.1 h1.2.1
    have h3 := zask2_b (W := Mw 211) hg b k
    show zkey (zak M d) (Mw 211 k) b = _
    unfold zkey
    rw [h2]
    by_cases e : zask2 M (Mw 211) b k = -4
    · rw [if_pos e, if_pos (by omega)]
    · rw [if_neg e, if_neg (by omega)])
  rw [eall]
  refine ⟨km.1, fun hL => ?_⟩
  obtain ⟨hh, _, kk, hk1, hk2⟩ := hgr hL
  have hgd : ∀ c : Nat, (c : Int) < M 200 2 → zgd (zask2 M (Mw 211)) (Mw 214) (Mw 200 11) (zhh kk c) c (kk c) := by
    intro c hc
    obtain ⟨⟨g1, g2, g3⟩, _⟩ := hk2 c hc
    have hcd : ∀ j, 0 ≤ j ∧ j < Mw 200 11 → (zcd (zask2 M (Mw 211)) (Mw 214) (zhh kk c) c j ↔ zcd (zmA Mw) (Mw 214) (zhh kk c) c j) := by
      intro j hj
      unfold zcd
      rw [← has c j (by omega) hj]
    exact ⟨g1, (hcd _ g1).2 g2, fun j hj q => g3 j hj ((hcd j (by omega)).1 q)⟩
  have e := km.2 hL kk hgd
  have kf := zkk_f (nb := M 200 2) (show 0 ≤ Mw 200 11 ∧ Mw 200 11 ≤ 16 by omega) hgd
  have hL0 := (hl 0 (by have := zp2_pos (Mw 200 11); omega)).2
  have hr : ∀ c : Int, 0 ≤ c ∧ c < 0 + ((M 200 2).toNat : Nat) → 0 ≤ Mw 211 (kk c) ∧ Mw 211 (kk c) ≤ 15 := fun c hc => hWr _ (kf c (by omega)).1
  have r1 := zrr_b (W := Mw 211) (f := kk) (M 200 2).toNat 0 (by omega) hr
  have e28 : zp2 (4 * (7 - 0)) = 268435456 := rfl
  rw [e28] at r1
  rw [e]
  refine ⟨by omega, by omega, fun b hbn => ?_⟩
  have hd := zrr_d (W := Mw 211) (f := kk) (M 200 2).toNat 0 (Mw 214 0) b (by omega) (by omega) hr (by omega)
  rw [e28] at hd
  unfold zshe
  rw [hd]
  have := (hk2 b.toNat (by omega)).2
  rw [show ((b.toNat : Nat) : Int) = b by omega] at this
  exact this.symm
