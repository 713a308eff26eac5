/-! pure: the least sum after a set of places, and the first way of it -/
/-- places for the brides from b on, none of the set h -/
def zFr (B : Int → Int → Int) (nb w h b : Int) (f : Int → Int) : Prop := ∀ c, b ≤ c ∧ c < nb → (0 ≤ f c ∧ f c < w) ∧ zbit h (f c) = 0 ∧ 0 ≤ B c (f c) ∧ ∀ d, b ≤ d ∧ d < nb → d ≠ c → f d ≠ f c
def zss (B : Int → Int → Int) (f : Int → Int) : Nat → Int → Int
  | 0, _ => 0
  | m + 1, b => B b (f b) + zss B f m (b + 1)
def zrr (W f : Int → Int) : Nat → Int → Int
  | 0, _ => 0
  | m + 1, b => W (f b) * zp2 (4 * (6 - b)) + zrr W f m (b + 1)
theorem zFr_s {B : Int → Int → Int} {nb w h b : Int} {f : Int → Int} (hh : 0 ≤ h) (hb : b < nb) (H : zFr B nb w h b f) : zFr B nb w (h + zp2 (f b)) (b + 1) f := by
  intro c hc
  have h0 := H b (by omega)
  have h1 := H c (by omega)
  refine ⟨h1.1, ?_, h1.2.2.1, fun d hd => h1.2.2.2 d (by omega)⟩
  rw [zbit_o hh h0.1.1 h1.1.1 (h1.2.2.2 b (by omega) (by omega)) h0.2.1]
  exact h1.2.1
theorem zLst_v {B : Int → Int → Int} {nb w h : Int} {L : Int → Int} (H : zLst B nb w L (-1)) (hh : 0 ≤ h ∧ h < zp2 w) : (zone h = nb → L h = 0) ∧ (zone h < nb → L h = zlfk (B (zone h)) L h w.toNat) := by
  have e := (H h (by omega)).1
  unfold zlfv at e
  refine ⟨fun q => ?_, fun q => ?_⟩
  · rw [if_pos q] at e
    exact e
  · rw [if_neg (by omega), if_neg (by omega)] at e
    exact e
theorem zss_l {B : Int → Int → Int} {nb w : Int} {L : Int → Int} (H : zLst B nb w L (-1)) (hw : 0 ≤ w ∧ w ≤ 16) (m : Nat) : ∀ h b f, zone h = b → b + m = nb → 0 ≤ h ∧ h < zp2 w → zFr B nb w h b f → L h ≤ zss B f m b := by
  induction m with
  | zero =>
    intro h b f hz hm hh hf
    rw [(zLst_v H hh).1 (by omega)]
    exact Int.le_refl 0
  | succ m ih =>
    intro h b f hz hm hh hf
    have h0 := hf b (by omega)
    have h1 := zone_g hh.1 (show 0 ≤ f b ∧ f b < 16 by omega) h0.2.1
    have h2 := zin_g (n := w) (by omega) hh (by omega) h0.2.1
    have h3 := zp2_pos (f b)
    have h4 := ih (h + zp2 (f b)) (b + 1) f (by omega) (by omega) (by omega) (zFr_s hh.1 (by omega) hf)
    have h5 := (zlfk_l (a := B b) (L := L) (h := h) w.toNat).2 (f b).toNat (by omega)
    rw [show (((f b).toNat : Nat) : Int) = f b by omega] at h5
    have h6 := h5 h0.2.1 h0.2.2.1
    rw [(zLst_v H hh).2 (by omega), hz]
    show zlfk (B b) L h w.toNat ≤ B b (f b) + zss B f m (b + 1)
    omega
theorem zss_c {B : Int → Int → Int} {f g : Int → Int} (m : Nat) : ∀ b : Int, (∀ c : Int, b ≤ c ∧ c < b + m → f c = g c) → zss B f m b = zss B g m b := by
  induction m with
  | zero => exact fun b _ => rfl
  | succ m ih =>
    intro b h
    unfold zss
    rw [h b (by omega), ih (b + 1) (fun c hc => h c (by omega))]
/-- some way has the least sum -/
theorem zss_x {B : Int → Int → Int} {nb w : Int} {L : Int → Int} (H : zLst B nb w L (-1)) (hw : 0 ≤ w ∧ w ≤ 16) (m : Nat) : ∀ h b, zone h = b → b + m = nb → 0 ≤ h ∧ h < zp2 w → L h < 1000000 → ∃ f, zFr B nb w h b f ∧ zss B f m b = L h := by
  induction m with
  | zero =>
    intro h b hz hm hh hL
    refine ⟨fun _ => 0, fun c hc => by omega, ?_⟩
    rw [(zLst_v H hh).1 (by omega)]
    rfl
  | succ m ih =>
    intro h b hz hm hh hL
    obtain ⟨k, hk, hk1, hk2, hk3⟩ := zcd_x H hw (by omega) (by omega) hL
    rw [hz] at hk2 hk3
    have h1 := zone_g hh.1 (show 0 ≤ k ∧ k < 16 by omega) hk1
    have h2 := zin_g (n := w) (by omega) hh (by omega) hk1
    have h3 := zp2_pos k
    obtain ⟨f, f1, f2⟩ := ih (h + zp2 k) (b + 1) (by omega) (by omega) (by omega) (by omega)
    have hfk : ∀ c, b + 1 ≤ c ∧ c < nb → f c ≠ k ∧ zbit h (f c) = 0 := by
      intro c hc
      have h4 := f1 c hc
      have h5 := zbit_s (x := h) (b := k) hh.1 hk1
      have h6 : f c ≠ k := fun q => by
        have := h4.2.1
        rw [q, h5] at this
        omega
      refine ⟨h6, ?_⟩
      rw [← zbit_o hh.1 hk.1 h4.1.1 (by omega) hk1]
      exact h4.2.1
    refine ⟨fun c => if c = b then k else f c, fun c hc => ?_, ?_⟩
    · show (0 ≤ (if c = b then k else f c) ∧ (if c = b then k else f c) < w) ∧ zbit h (if c = b then k else f c) = 0 ∧ 0 ≤ B c (if c = b then k else f c) ∧ ∀ d, b ≤ d ∧ d < nb → d ≠ c → (if d = b then k else f d) ≠ (if c = b then k else f c)
      by_cases e : c = b
      · rw [if_pos e, e]
        refine ⟨hk, hk1, hk2, fun d hd hdc => ?_⟩
        rw [if_neg hdc]
        exact (hfk d (by omega)).1
      · rw [if_neg e]
        have h4 := f1 c (by omega)
        refine ⟨h4.1, (hfk c (by omega)).2, h4.2.2.1, fun d hd hdc => ?_⟩
        by_cases e2 : d = b
        · rw [if_pos e2]
          exact fun q => (hfk c (by omega)).1 q.symm
        · rw [if_neg e2]
          exact h4.2.2.2 d (by omega) hdc
    · show B b (if b = b then k else f b) + zss B (fun c => if c = b then k else f c) m (b + 1) = L h
      rw [if_pos rfl, zss_c (g := f) m (b + 1) (fun c hc => if_neg (by omega)), f2]
      exact hk3
/-- the greedy places -/
theorem zhh_b {B : Int → Int → Int} {nb w : Int} {L kk : Int → Int} (hw : 0 ≤ w ∧ w ≤ 16) (h : ∀ c : Nat, (c : Int) < nb → zgd B L w (zhh kk c) c (kk c)) (b : Nat) (hb : (b : Int) ≤ nb) : zone (zhh kk b) = b ∧ (0 ≤ zhh kk b ∧ zhh kk b < zp2 w) ∧ ∀ t, 0 ≤ t → zbit (zhh kk b) t = 1 → ∃ c : Nat, c < b ∧ kk c = t := by
  induction b with
  | zero =>
    refine ⟨(by rw [show zhh kk 0 = 0 from rfl]; decide), ⟨Int.le_refl 0, zp2_pos w⟩, fun t _ q => ?_⟩
    rw [show zhh kk 0 = 0 from rfl, zbit_0] at q
    omega
  | succ b ih =>
    obtain ⟨i1, i2, i3⟩ := ih (by omega)
    have h1 := h b (by omega)
    have h2 := zone_g i2.1 (show 0 ≤ kk b ∧ kk b < 16 by have := h1.1; omega) h1.2.1.1
    have h3 := zin_g (n := w) (by omega) i2 h1.1 h1.2.1.1
    have h4 := zp2_pos (kk b)
    show zone (zhh kk b + zp2 (kk b)) = _ ∧ (0 ≤ zhh kk b + zp2 (kk b) ∧ zhh kk b + zp2 (kk b) < zp2 w) ∧ ∀ t, 0 ≤ t → zbit (zhh kk b + zp2 (kk b)) t = 1 → _
    refine ⟨by omega, by omega, fun t ht q => ?_⟩
    by_cases e : kk b = t
    · exact ⟨b, by omega, e⟩
    · rw [zbit_o i2.1 h1.1.1 ht e h1.2.1.1] at q
      obtain ⟨c, c1, c2⟩ := i3 t ht q
      exact ⟨c, by omega, c2⟩
theorem zhh_i {B : Int → Int → Int} {nb w : Int} {L kk : Int → Int} (hw : 0 ≤ w ∧ w ≤ 16) (h : ∀ c : Nat, (c : Int) < nb → zgd B L w (zhh kk c) c (kk c)) (b : Nat) (hb : (b : Int) ≤ nb) : ∀ c : Nat, c < b → zbit (zhh kk b) (kk c) = 1 := by
  induction b with
  | zero => exact fun c hc => by omega
  | succ b ih =>
    intro c hc
    have i2 := (zhh_b hw h b (by omega)).2.1
    have h1 := h b (by omega)
    show zbit (zhh kk b + zp2 (kk b)) (kk c) = 1
    by_cases e : c = b
    · rw [e]
      exact zbit_s i2.1 h1.2.1.1
    · have h2 := ih (by omega) c (by omega)
      have h3 := h c (by omega)
      rw [zbit_o i2.1 h1.1.1 h3.1.1 (fun q => ?_) h1.2.1.1]
      · exact h2
      · rw [← q, h1.2.1.1] at h2
        omega
theorem zkk_f {B : Int → Int → Int} {nb w : Int} {L kk : Int → Int} (hw : 0 ≤ w ∧ w ≤ 16) (h : ∀ c : Nat, (c : Int) < nb → zgd B L w (zhh kk c) c (kk c)) : zFr B nb w 0 0 kk := by
  have hne : ∀ c d : Nat, c < d → (d : Int) < nb → kk c ≠ kk d := by
    intro c d hcd hd q
    have h1 := zhh_i hw h d (by omega) c hcd
    rw [q, (h d hd).2.1.1] at h1
    omega
  intro c hc
  have h1 := h c.toNat (by omega)
  rw [show ((c.toNat : Nat) : Int) = c by omega] at h1
  refine ⟨h1.1, zbit_0 _, h1.2.1.2.1, fun d hd hdc => ?_⟩
  by_cases e : d < c
  · have := hne d.toNat c.toNat (by omega) (by omega)
    rw [show ((d.toNat : Nat) : Int) = d by omega, show ((c.toNat : Nat) : Int) = c by omega] at this
    exact this
  · have := hne c.toNat d.toNat (by omega) (by omega)
    rw [show ((d.toNat : Nat) : Int) = d by omega, show ((c.toNat : Nat) : Int) = c by omega] at this
    exact fun q => this q.symm
theorem zkk_s {B : Int → Int → Int} {nb w : Int} {L kk : Int → Int} (H : zLst B nb w L (-1)) (hw : 0 ≤ w ∧ w ≤ 16) (h : ∀ c : Nat, (c : Int) < nb → zgd B L w (zhh kk c) c (kk c)) (m : Nat) : ∀ b : Nat, (b : Int) + m = nb → zss B kk m b = L (zhh kk b) := by
  induction m with
  | zero =>
    intro b hb
    have h1 := zhh_b hw h b (by omega)
    rw [(zLst_v H h1.2.1).1 (by omega)]
    rfl
  | succ m ih =>
    intro b hb
    have h1 := ih (b + 1) (by omega)
    have h2 := (h b (by omega)).2.1.2.2
    show B b (kk b) + zss B kk m (b + 1) = _
    rw [show ((b : Int) + 1) = ((b + 1 : Nat) : Int) by omega, h1]
    exact h2
theorem zp2_4 {b : Int} (hb : b ≤ 6) : zp2 (4 * (7 - b)) = 16 * zp2 (4 * (6 - b)) := by
  rw [show 4 * (7 - b) = 4 * (6 - b) + 1 + 1 + 1 + 1 by omega, zp2_s (by omega), zp2_s (by omega), zp2_s (by omega), zp2_s (by omega)]
  omega
theorem zrr_b {W f : Int → Int} (m : Nat) : ∀ b : Int, b + m ≤ 7 → (∀ c : Int, b ≤ c ∧ c < b + m → 0 ≤ W (f c) ∧ W (f c) ≤ 15) → 0 ≤ zrr W f m b ∧ zrr W f m b < zp2 (4 * (7 - b)) := by
  induction m with
  | zero => exact fun b _ _ => ⟨Int.le_refl 0, zp2_pos _⟩
  | succ m ih =>
    intro b hb h
    have h1 := ih (b + 1) (by omega) (fun c hc => h c (by omega))
    have h2 := h b (by omega)
    have h3 := zp2_pos (4 * (6 - b))
    have h4 := zmul_s (s := W (f b)) (x := zp2 (4 * (6 - b))) (m := 15) (n := zp2 (4 * (6 - b))) h2 (by omega)
    rw [show 7 - (b + 1) = 6 - b by omega] at h1
    rw [zp2_4 (by omega)]
    show 0 ≤ W (f b) * zp2 (4 * (6 - b)) + zrr W f m (b + 1) ∧ W (f b) * zp2 (4 * (6 - b)) + zrr W f m (b + 1) < _
    omega
/-- of the ways of the least sum the greedy one is the first -/
theorem zkk_l {B : Int → Int → Int} {nb w : Int} {L kk W : Int → Int} (H : zLst B nb w L (-1)) (hw : 0 ≤ w ∧ w ≤ 16) (hnb : nb ≤ 7) (hW : ∀ k, 0 ≤ k ∧ k < w → 0 ≤ W k ∧ W k ≤ 15) (hWm : ∀ j k, 0 ≤ j ∧ j < k ∧ k < w → W j < W k) (h : ∀ c : Nat, (c : Int) < nb → zgd B L w (zhh kk c) c (kk c)) (m : Nat) : ∀ (b : Nat) f, (b : Int) + m = nb → zFr B nb w (zhh kk b) b f → L (zhh kk b) < zss B f m b ∨ (zss B f m b = L (zhh kk b) ∧ zrr W kk m b ≤ zrr W f m b) := by
  induction m with
  | zero =>
    intro b f hb hf
    have h1 := zhh_b hw h b (by omega)
    refine Or.inr ⟨?_, Int.le_refl 0⟩
    rw [(zLst_v H h1.2.1).1 (by omega)]
    rfl
  | succ m ih =>
    intro b f hb hf
    obtain ⟨i1, i2, i3⟩ := zhh_b hw h b (by omega)
    have g := h b (by omega)
    have h0 := hf b (by omega)
    have h1 := zone_g i2.1 (show 0 ≤ f b ∧ f b < 16 by omega) h0.2.1
    have h2 := zin_g (n := w) (by omega) i2 (by omega) h0.2.1
    have h3 := zp2_pos (f b)
    have hfs := zFr_s i2.1 (by omega) hf
    have h4 := zss_l H hw m (zhh kk b + zp2 (f b)) (b + 1) f (by omega) (by omega) (by omega) hfs
    have h5 := (zlfk_l (a := B b) (L := L) (h := zhh kk b) w.toNat).2 (f b).toNat (by omega)
    rw [show (((f b).toNat : Nat) : Int) = f b by omega] at h5
    have h6 := h5 h0.2.1 h0.2.2.1
    have e0 := (zLst_v H i2).2 (by omega)
    rw [i1] at e0
    show L (zhh kk b) < B b (f b) + zss B f m (b + 1) ∨ (B b (f b) + zss B f m (b + 1) = L (zhh kk b) ∧ W (kk b) * zp2 (4 * (6 - b)) + zrr W kk m (b + 1) ≤ W (f b) * zp2 (4 * (6 - b)) + zrr W f m (b + 1))
    by_cases q : L (zhh kk b) < B b (f b) + zss B f m (b + 1)
    · exact Or.inl q
    · have q1 : B b (f b) + zss B f m (b + 1) = L (zhh kk b) := by omega
      refine Or.inr ⟨q1, ?_⟩
      have q2 : zcd B L (zhh kk b) b (f b) := ⟨h0.2.1, h0.2.2.1, by omega⟩
      have q3 : kk b ≤ f b := by
        by_cases e : f b < kk b
        · exact absurd q2 (g.2.2 (f b) (by omega))
        · omega
      have hzp := zp2_pos (4 * (6 - (b : Int)))
      have hfr : ∀ c, (b : Int) + 1 ≤ c ∧ c < (b : Int) + 1 + m → 0 ≤ W (f c) ∧ W (f c) ≤ 15 := fun c hc => hW _ (hf c (by omega)).1
      have hkr : ∀ c, (b : Int) + 1 ≤ c ∧ c < (b : Int) + 1 + m → 0 ≤ W (kk c) ∧ W (kk c) ≤ 15 := fun c hc => by
        have := (h c.toNat (by omega)).1
        rw [show ((c.toNat : Nat) : Int) = c by omega] at this
        exact hW _ this
      by_cases e : kk b = f b
      · have h7 := ih (b + 1) f (by omega) (by
          show zFr B nb w (zhh kk b + zp2 (kk b)) ((b + 1 : Nat) : Int) f
          rw [e, show ((b + 1 : Nat) : Int) = (b : Int) + 1 by omega]
          exact hfs)
        rw [show zhh kk (b + 1) = zhh kk b + zp2 (kk b) from rfl, e, show ((b + 1 : Nat) : Int) = (b : Int) + 1 by omega] at h7
        rw [e]
        rcases h7 with h7 | h7
        · omega
        · omega
      · have r1 := zrr_b (W := W) (f := kk) m (b + 1) (by omega) hkr
        have r2 := zrr_b (W := W) (f := f) m (b + 1) (by omega) hfr
        rw [show 7 - ((b : Int) + 1) = 6 - b by omega] at r1 r2
        have h8 := hWm (kk b) (f b) ⟨g.1.1, by omega, h0.1.2⟩
        have h9 : (W (kk b) + 1) * zp2 (4 * (6 - (b : Int))) ≤ W (f b) * zp2 (4 * (6 - (b : Int))) := Int.mul_le_mul_of_nonneg_right (by omega) (by omega)
        rw [Int.add_mul, Int.one_mul] at h9
        omega
/-- peeled from behind -/
theorem zss_e {B : Int → Int → Int} {f : Int → Int} (m : Nat) : ∀ b, zss B f (m + 1) b = zss B f m b + B (b + m) (f (b + m)) := by
  induction m with
  | zero =>
    intro b
    show B b (f b) + 0 = 0 + B (b + 0) (f (b + 0))
    rw [Int.add_zero, Int.add_zero, Int.zero_add]
  | succ m ih =>
    intro b
    have e1 : zss B f (m + 1 + 1) b = B b (f b) + zss B f (m + 1) (b + 1) := rfl
    have e2 : zss B f (m + 1) b = B b (f b) + zss B f m (b + 1) := rfl
    rw [e1, ih, e2, show b + ((m + 1 : Nat) : Int) = b + 1 + (m : Int) by omega]
    omega
theorem zrr_e {W f : Int → Int} (m : Nat) : ∀ b, zrr W f (m + 1) b = zrr W f m b + W (f (b + m)) * zp2 (4 * (6 - (b + m))) := by
  induction m with
  | zero =>
    intro b
    show W (f b) * zp2 (4 * (6 - b)) + 0 = 0 + W (f (b + 0)) * zp2 (4 * (6 - (b + 0)))
    rw [Int.add_zero, Int.add_zero, Int.zero_add]
  | succ m ih =>
    intro b
    have e1 : zrr W f (m + 1 + 1) b = W (f b) * zp2 (4 * (6 - b)) + zrr W f (m + 1) (b + 1) := rfl
    have e2 : zrr W f (m + 1) b = W (f b) * zp2 (4 * (6 - b)) + zrr W f m (b + 1) := rfl
    rw [e1, ih, e2, show b + ((m + 1 : Nat) : Int) = b + 1 + (m : Int) by omega]
    omega
theorem zfullb {n b : Int} (hn : 0 ≤ n ∧ n ≤ 7) (hb : 0 ≤ b ∧ b < n) : zbit (zp2 n - 1) b = 1 := (zfull (zp2 n - 1) n hn (by have := zp2_pos n; omega)).1 rfl b hb
/-- a way of all is places from the first on -/
theorem zWy_f {B : Int → Int → Int} {pr : Int → Int → Int} {n w : Int} {f : Int → Int} (hn : 0 ≤ n ∧ n ≤ 7) (hp : ∀ k b, 0 ≤ b ∧ b < n → 0 ≤ k ∧ k < w → (pr k b ≠ -1 ↔ 0 ≤ B b k)) : zWy pr n w (zp2 n - 1) f ↔ zFr B n w 0 0 f := by
  constructor
  · intro h c hc
    have h1 := h c hc (zfullb hn hc)
    exact ⟨h1.1, zbit_0 _, (hp _ _ hc h1.1).1 h1.2.1, fun d hd hdc => h1.2.2 d hd (zfullb hn hd) hdc⟩
  · intro h c hc _
    have h1 := h c hc
    exact ⟨h1.1, (hp _ _ hc h1.1).2 h1.2.2.1, fun d hd _ hdc => h1.2.2.2 d hd hdc⟩
theorem zss_b {B : Int → Int → Int} {f : Int → Int} {nb w h : Int} (hB : ∀ b k, B b k ≤ 6) (m : Nat) : ∀ b, zss B f m b ≤ 6 * m := by
  induction m with
  | zero => exact fun b => Int.le_refl 0
  | succ m ih =>
    intro b
    have h1 := ih (b + 1)
    have h2 := hB b (f b)
    show B b (f b) + zss B f m (b + 1) ≤ _
    omega
