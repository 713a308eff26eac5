/-! pure: changed, firm, judged here and there -/
/-- sheets are told alike -/
def zRh (M : zM) : Prop := ∀ j, 0 ≤ j ∧ j < 4 → (M (177 + j) 1 = 0 ∨ M (177 + j) 1 = 1) ∧ (0 ≤ M (177 + j) 2 ∧ M (177 + j) 2 ≤ 2) ∧ (0 ≤ M (177 + j) 3 ∧ M (177 + j) 3 ≤ 100) ∧ M 223 j = (if M (177 + j) 1 = 1 then M (177 + j) 2 else -1) ∧ M 224 j = M (177 + j) 3 ∧ ∀ i, 0 ≤ i ∧ i < 100 → M (181 + j) i = M 225 (100 * j + i) ∧ (-2147483648 ≤ M 225 (100 * j + i) ∧ M 225 (100 * j + i) ≤ 2147483647)
theorem zRh_th {M : zM} (h : zRh M) : ∀ j, 0 ≤ j ∧ j < 4 → M (177 + j) 1 = 0 ∨ M (177 + j) 1 = 1 := fun j hj => (h j hj).1
theorem zRh_la {M : zM} (h : zRh M) : ∀ j, 0 ≤ j ∧ j < 4 → 0 ≤ M (177 + j) 2 ∧ M (177 + j) 2 ≤ 2 := fun j hj => (h j hj).2.1
theorem zRh_ln {M : zM} (h : zRh M) : ∀ j, 0 ≤ j ∧ j < 4 → 0 ≤ M (177 + j) 3 ∧ M (177 + j) 3 ≤ 100 := fun j hj => (h j hj).2.2.1
theorem zRh_I {M : zM} (h : zRh M) : ∀ j i, 0 ≤ j ∧ j < 4 → 0 ≤ i ∧ i < 100 → -2147483648 ≤ M (181 + j) i ∧ M (181 + j) i ≤ 2147483647 := fun j i hj hi => by
  have := (h j hj).2.2.2.2.2 i hi
  rw [this.1]
  exact this.2
theorem zRh_la2 {M : zM} (h : zRh M) : ∀ j, 0 ≤ j ∧ j < 4 → -1 ≤ M 223 j ∧ M 223 j ≤ 2 := fun j hj => by
  have := h j hj
  have h2 := this.2.2.2.1
  rw [h2]
  split <;> omega
theorem zRh_ln2 {M : zM} (h : zRh M) : ∀ j, 0 ≤ j ∧ j < 4 → 0 ≤ M 224 j ∧ M 224 j ≤ 100 := fun j hj => by
  have := h j hj
  have h2 := this.2.2.2.2.1
  rw [h2]
  exact this.2.2.1
theorem zRh_I2 {M : zM} (h : zRh M) : ∀ i, 0 ≤ i ∧ i < 400 → -2147483648 ≤ M 225 i ∧ M 225 i ≤ 2147483647 := fun i hi => by
  have := ((h (i / 100) (by omega)).2.2.2.2.2 (i % 100) (by omega)).2
  rw [show 100 * (i / 100) + i % 100 = i by omega] at this
  exact this
theorem zR_lak {M : zM} (h : zRh M) {j l i n : Int} (hj : 0 ≤ j ∧ j < 4) (hl : 0 ≤ l ∧ l ≤ 2) (hn : 0 ≤ n) : zlak (M 223 j) (M 224 j) l i n = zref (M (177 + j) 1) (M (177 + j) 2) (M (177 + j) 3) l i n := by
  obtain ⟨h1, h2, h3, h4, h5, _⟩ := h j hj
  unfold zlak zref
  rw [h4, h5]
  rcases h1 with h1 | h1
  · rw [h1, if_neg (show ¬ (0 : Int) = 1 by omega), if_pos (show (-1 : Int) ≠ l by omega), if_pos (show (-1 : Int) < 0 by omega), if_pos rfl]
  · rw [h1, if_pos rfl, if_neg (show ¬ (1 : Int) = 0 by omega)]
    by_cases e : M (177 + j) 2 = l
    · have e' : ¬ M (177 + j) 2 ≠ l := fun z => z e
      rw [if_neg e', if_neg e']
      by_cases q : 0 ≤ i ∧ i ≤ M (177 + j) 3 - n
      · rw [if_pos q, if_neg (by omega)]
      · rw [if_neg q, if_pos (by omega)]
    · rw [if_pos e, if_pos e, if_neg (by omega)]
/-- the shoes of the first way are shoes -/
theorem r_shoes {M : zM} {d : Int} (hb : zRb M) (hs : zRs M) (hg : zRg M) : zshoes M d := by
  intro hall b hbn
  have hb2 := hb.2.1
  have hs2 := hs.2.1
  have h1 : 0 ≤ M 4 1 ∧ M 4 1 ≤ 6 := by rw [hg.1.2]; exact hg.2.2
  have hn : 0 ≤ M 1 3 ∧ M 1 3 ≤ 7 := by rw [hb.1]; exact hb2
  have hw : 0 ≤ M 1 4 ∧ M 1 4 ≤ 16 := by rw [hs.1]; exact hs2
  have hz := zp2_pos (M 1 3)
  unfold zall zbst at hall
  obtain ⟨f, f1, f2⟩ := zds_e hn (M 1 4).toNat (zp2 (M 1 3) - 1) (by omega) hall
  rw [show (((M 1 4).toNat : Nat) : Int) = M 1 4 by omega] at f1
  have hpn : ∀ k c, 0 ≤ c ∧ c < M 1 3 → 0 ≤ k ∧ k < M 1 4 → (zkey (zak M d) k c ≠ -1 ↔ 0 ≤ (fun c k => zak M d k c) c k) := by
    intro k c hc hk
    have h2 := zak_b (M := M) (d := d) (s := k) (b := c) h1
    have h3 := zp2_pos (4 * (6 - c))
    have h4 := Int.mul_nonneg hk.1 (show 0 ≤ zp2 (4 * (6 - c)) by omega)
    show zkey (zak M d) k c ≠ -1 ↔ 0 ≤ zak M d k c
    unfold zkey
    by_cases e : zak M d k c = -4
    · rw [if_pos e]
      omega
    · rw [if_neg e]
      omega
  have hp0 : ∀ k c, 0 ≤ c ∧ c < M 1 3 → 0 ≤ k ∧ k < M 1 4 → 0 ≤ (fun c k => zak M d k c) c k → zkey (zak M d) k c = (fun c k => zak M d k c) c k * 268435456 + (fun k => k) k * zp2 (4 * (6 - c)) := by
    intro k c hc hk h
    have h : 0 ≤ zak M d k c := h
    exact if_neg (by omega)
  have f3 := (zWy_f hn hpn).1 f1
  have e := zsm2_f hn f3 hp0 (M 1 3).toNat (by omega)
  have hr : ∀ c : Int, 0 ≤ c ∧ c < 0 + ((M 1 3).toNat : Nat) → 0 ≤ (fun k : Int => k) (f c) ∧ (fun k : Int => k) (f c) ≤ 15 := fun c hc => by
    have := (f3 c (by omega)).1
    show 0 ≤ f c ∧ f c ≤ 15
    omega
  have hd := zrr_d (W := fun k => k) (f := f) (M 1 3).toNat 0 (zss (fun c k => zak M d k c) f (M 1 3).toNat 0) b (by omega) (by omega) hr (by omega)
  have e28 : zp2 (4 * (7 - 0)) = 268435456 := rfl
  rw [e28, ← e, ← f2] at hd
  unfold zshe zall zbst
  rw [hd]
  exact (f3 b hbn).1.2
theorem r_gl {M M1 : zM} {d : Int} (hb : zRb M) (hs : zRs M) (hg : zRg M) (h : zWay M M1 d) (hL : M1 214 0 < 1000000) {b o : Int} (hbn : 0 ≤ b ∧ b < M 200 2) (hon : 0 ≤ o ∧ o < M 200 2) : zgl M (zshe (zall M d)) b o = zmgl M1 (M1 215) b o := by
  have hw := (r_way hb hs hg h).2 hL
  have hso := zWay_s h hL hon
  obtain ⟨⟨a1, a2, a3, a4⟩, s0, s1, s2, s3⟩ := hs.2.2 _ hso
  obtain ⟨q, b0, b1, b2, b3⟩ := hb.2.2 b hbn
  have k201 := h.1 201 (by omega) (by omega) (by omega) (by omega) (by omega)
  have k202 := h.1 202 (by omega) (by omega) (by omega) (by omega) (by omega)
  have k205 := h.1 205 (by omega) (by omega) (by omega) (by omega) (by omega)
  have hq : zQB M1 b = zQB M b := by unfold zQB; rw [k201]
  unfold zgl zmgl
  rw [hw.2.2 o hon, hq, k201, k202, k205, zRb_f hb hbn (by rw [s0]; exact a1), s0, s1, s2, b3, hg.1.1]
theorem r_changed {M M1 : zM} {d q i n k x y : Int} (hb : zRb M) (hs : zRs M) (hg : zRg M) (hh : zRh M) (h : zWay M M1 d) (hL : M1 214 0 < 1000000) (hq : 0 ≤ q ∧ q < 4) (hn : 1 ≤ n ∧ n ≤ 6 ∧ n ≤ M 200 2) (hk : -1 ≤ k ∧ k < n) (hi : 0 ≤ i ∧ i + n ≤ 100) (h1 : zcng M (zshe (zall M d)) q i n k x) (h2 : zcg M1 (100 * q + i) n k y) : x = y := by
  obtain ⟨m, R, hm, hrow, hx⟩ := h1
  have hb2 := hb.2.1
  have k225 := h.1 225 (by omega) (by omega) (by omega) (by omega) (by omega)
  have h64 : zp2 n ≤ 64 := zp2_le (b := 6) (by omega)
  have hmr : ∀ b, 0 ≤ b ∧ b < n → 0 ≤ m b ∧ m b < 64 := by
    intro b hbn
    have := zmay_b (zgl M (zshe (zall M d)) b) (M (181 + q) (i + b)) n.toNat
    rw [hm b hbn]
    rw [show ((n.toNat : Nat) : Int) = n by omega] at this
    omega
  have hc : ∀ b t, 0 ≤ b ∧ b < n → 0 ≤ t ∧ t < n → (zcm M1 (100 * q + i) b t = true ↔ zbit (m b) t = 1) := by
    intro b t hbn htn
    have h3 := (hh q hq).2.2.2.2.2 (i + b) (by omega)
    rw [hm b hbn, zmay_t n.toNat (by omega) t (by omega), r_gl hb hs hg h hL (by omega) (by omega), h3.1]
    unfold zcm
    rw [decide_eq_true_eq, k225, show 100 * q + (i + b) = 100 * q + i + b by omega]
  have z0 : zone 0 = 0 := by decide
  have c0 := zRow_c ⟨hn.1, hn.2.1⟩ hmr hc hrow n.toNat 0 ⟨Int.le_refl 0, zp2_pos n⟩ (by omega)
  rw [z0] at c0
  unfold zcg at h2
  rcases hx with ⟨e1, e2⟩ | ⟨e1, e2, e3⟩ | ⟨e1, e2, e3⟩
  · omega
  · omega
  · have g := zRow_g ⟨hn.1, hn.2.1⟩ hmr hc hrow n.toNat 0 (by omega) z0 e1 k.toNat (by omega)
    have g : ((zgt (zff (zokl (zcm M1 (100 * q + i)) 0) (zpm n.toNat n.toNat 0)) k.toNat : Nat) : Int) = zfi m R n (((0 : Nat) : Int) + (k.toNat : Nat)) := g
    rw [show (((0 : Nat) : Int) + (k.toNat : Nat)) = k by omega] at g
    omega
/-- ranks of a row of items here and there -/
theorem zrk_M {v u : Int → Int} {i f n : Int} (hn : 2 ≤ n ∧ n ≤ 7) (hv : ∀ t, 0 ≤ t ∧ t < 2 * (n * n) → v (i + t) = u (f + t)) : ∀ q j, 0 ≤ q ∧ q < 2 * n → 0 ≤ j ∧ j < n → v (i + q * n + j) = u (f + n * q + j) := by
  intro q j hq hj
  have h1 := znm (n := n) (b := q) (m := 2 * n) (by omega) (by omega) (by omega)
  have h2 := znn hn
  have h3 := hv (n * q + j) (by omega)
  rw [Int.mul_comm q n, show i + n * q + j = i + (n * q + j) by omega, h3, show f + (n * q + j) = f + n * q + j by omega]
theorem zdis_c {v u : Int → Int} {n k : Int} (h : ∀ j, 0 ≤ j ∧ j < k → v j = u j) (H : zdis v n k) : zdis u n k := by
  refine ⟨fun i hi => ?_, fun i j hij => ?_⟩
  · rw [← h i hi]
    exact H.1 i hi
  · rw [← h i (by omega), ← h j (by omega)]
    exact H.2 i j hij
theorem zrk_i {v u : Int → Int} {i f n : Int} (hn : 2 ≤ n ∧ n ≤ 7) (hv : ∀ t, 0 ≤ t ∧ t < 2 * (n * n) → v (i + t) = u (f + t)) : zrk v i n ↔ zrkM u f n := by
  have h := zrk_M hn hv
  constructor
  · intro H q hq
    exact zdis_hit (by omega) (zdis_c (fun j hj => h q j hq hj) (H q hq))
  · intro H q hq
    exact zdis_c (fun j hj => (h q j hq hj).symm) (zhit_dis (by omega) (H q hq))
theorem zfa_n {g : Int → Int} (m : Nat) : ∀ c : Int, 0 ≤ c → zfa g m c < 0 → ∀ b, c ≤ b ∧ b < c + m → 0 ≤ g b := by
  induction m with
  | zero => intro c _ _ b hb; omega
  | succ m ih =>
    intro c hc0 hc b hb
    have hc : (if g c < 0 then c else zfa g m (c + 1)) < 0 := hc
    by_cases q : g c < 0
    · rw [if_pos q] at hc
      omega
    · rw [if_neg q] at hc
      by_cases q2 : b = c
      · rw [q2]
        omega
      · exact ih (c + 1) (by omega) hc b (by omega)
theorem zstp_i {v : Int → Int} {f n b : Int} {L P : Int → Int → Int} {t : zGS} (hn : 2 ≤ n ∧ n ≤ 7) (hr : zrkM v f n) (hL : ∀ q j, 0 ≤ q ∧ q < 2 * n → 0 ≤ j ∧ j < n → L q j = v (f + n * q + j)) (hP : zcP v f n P) (hI : zIv (zcL v f n) (zPb P n) n t.1 t.2.1 t.2.2) (hb : 0 ≤ b ∧ b < n) (hG : t.1 b < 0) : zIv (zcL v f n) (zPb P n) n (zstp L P n b t).1 (zstp L P n b t).2.1 (zstp L P n b t).2.2 ∧ ∀ i, (zstp L P n b t).2.2 i = if i = b then t.2.2 b + 1 else t.2.2 i := by
  have hR := zHR_m (P := P) (show 0 ≤ n by omega) hr hP
  have hab := zIv_a (by omega) hR hI hb hG
  have hA0 := (hI.1 b hb).1
  obtain ⟨g, hg⟩ : ∃ g, L b (t.2.2 b) = g := ⟨_, rfl⟩
  have hLg : zcL v f n b (t.2.2 b) = g := by
    rw [← hg, hL b _ (by omega) (by omega)]
    exact if_pos ⟨by omega, by omega⟩
  have hgn : 0 ≤ g ∧ g < n := by rw [← hLg]; exact (hR.1 b hb).1.1 _ (by omega)
  have hWg := (zIv_g hR hI g hgn).2
  have hPb : zPb P n (n + g) b = P (n + g) b := zPb_i (by omega) hb
  have hPw : 0 ≤ t.2.1 g → zPb P n (n + g) (t.2.1 g) = P (n + g) (t.2.1 g) := fun h => zPb_i (by omega) (by omega)
  unfold zstp
  rw [hg]
  by_cases e : 0 ≤ t.2.1 g ∧ ¬ P (n + g) b < P (n + g) (t.2.1 g)
  · rw [if_pos e]
    exact ⟨zIv_n (by omega) hR hI hb hG hLg e.1 (by rw [hPb, hPw e.1]; exact e.2) (fun i => rfl), fun i => rfl⟩
  · rw [if_neg e]
    refine ⟨zIv_y (by omega) hR hI hb hG hLg (fun h => ?_) (fun i => rfl) (fun i => rfl) (zup_s _ _ _) (fun h => ?_) (fun c hc e1 e2 => ?_), fun i => rfl⟩
    · rw [hPb, hPw h]
      by_cases q : P (n + g) b < P (n + g) (t.2.1 g)
      · exact q
      · exact absurd ⟨h, q⟩ e
    · have hne : t.2.1 g ≠ b := by
        intro q
        rcases hI.2.1 g hgn with z | z
        · omega
        · have := z.2
          rw [q] at this
          omega
      show zup (if 0 ≤ t.2.1 g then zup t.1 (t.2.1 g) (-1) else t.1) b g (t.2.1 g) < 0
      rw [zup_o hne, if_pos h, zup_s]
      omega
    · show zup (if 0 ≤ t.2.1 g then zup t.1 (t.2.1 g) (-1) else t.1) b g c = t.1 c
      rw [zup_o e1]
      split
      · exact zup_o e2
      · rfl
theorem zgs_i {v : Int → Int} {f n : Int} {L P : Int → Int → Int} {s : zGS} (hn : 2 ≤ n ∧ n ≤ 7) (hr : zrkM v f n) (hL : ∀ q j, 0 ≤ q ∧ q < 2 * n → 0 ≤ j ∧ j < n → L q j = v (f + n * q + j)) (hP : zcP v f n P) (hs : ∀ j, 0 ≤ j ∧ j < n → s.1 j = -1 ∧ s.2.1 j = -1 ∧ s.2.2 j = 0) (k : Nat) : zIv (zcL v f n) (zPb P n) n (zgs L P n s k).1 (zgs L P n s k).2.1 (zgs L P n s k).2.2 ∧ ((∀ b, 0 ≤ b ∧ b < n → 0 ≤ (zgs L P n s k).1 b) ∨ zsA (zgs L P n s k).2.2 n.toNat = k) := by
  have hR := zHR_m (P := P) (show 0 ≤ n by omega) hr hP
  induction k with
  | zero =>
    refine ⟨zIv_0 (by omega) (fun j hj => ?_), Or.inr ?_⟩
    · have := hs j hj
      show s.1 j < 0 ∧ s.2.1 j < 0 ∧ s.2.2 j = 0
      omega
    · show zsA s.2.2 n.toNat = 0
      have : ∀ m : Nat, m ≤ n → zsA s.2.2 m = 0 := by
        intro m
        induction m with
        | zero => exact fun _ => rfl
        | succ m ih =>
          intro hm
          show zsA s.2.2 m + s.2.2 m = 0
          rw [ih (by omega), (hs m (by omega)).2.2]
          rfl
      exact this _ (by omega)
  | succ k ih =>
    obtain ⟨t, ht⟩ : ∃ t, zgs L P n s k = t := ⟨_, rfl⟩
    rw [ht] at ih
    have e0 : zgs L P n s (k + 1) = zgs1 L P n t := by rw [← ht]; rfl
    rw [e0]
    obtain ⟨hI, hA⟩ := ih
    unfold zgs1
    have hf := zfa_b t.1 n.toNat 0
    by_cases e : zfa t.1 n.toNat 0 < 0
    · rw [if_pos (Or.inl e)]
      exact ⟨hI, Or.inl (fun b hb => zfa_n n.toNat 0 (by omega) e b (by omega))⟩
    · have hb : 0 ≤ zfa t.1 n.toNat 0 ∧ zfa t.1 n.toNat 0 < n := by omega
      have hG : t.1 (zfa t.1 n.toNat 0) < 0 := by
        rcases hf with hf | hf
        · omega
        · exact hf.2.2
      have hab := zIv_a (by omega) hR hI hb hG
      rw [if_neg (by omega)]
      obtain ⟨h1, h2⟩ := zstp_i hn hr hL hP hI hb hG
      refine ⟨h1, Or.inr ?_⟩
      have h3 : zsA t.2.2 n.toNat = k := by
        rcases hA with h | h
        · have := h _ hb
          omega
        · exact h
      rw [zsA_s h2, if_pos (by omega), h3]
      omega
theorem r_firm {v u : Int → Int} {i f n b x y : Int} (hn : 2 ≤ n ∧ n ≤ 7) (hb : 0 ≤ b ∧ b < n) (hv : ∀ t, 0 ≤ t ∧ t < 2 * (n * n) → v (i + t) = u (f + t)) (h1 : zfrm v i n b x) (h2 : zfrmM u f n b y) : x = y := by
  have hrk := zrk_i hn hv
  have hvv := zrk_M hn hv
  rcases h1 with ⟨e1, h1⟩ | ⟨e1, L, P, s, hlp, hs, hx⟩
  · rcases h2 with ⟨e2, h2⟩ | ⟨e2, _⟩
    · omega
    · exact absurd (hrk.2 e2) e1
  · rcases h2 with ⟨e2, _⟩ | ⟨e2, P2, G, W, A, hP2, hI2, hall2, hy⟩
    · exact absurd (hrk.1 e1) e2
    · have hL : ∀ q j, 0 ≤ q ∧ q < 2 * n → 0 ≤ j ∧ j < n → L q j = u (f + n * q + j) := fun q j hq hj => by
        rw [(hlp q hq j hj).1, hvv q j hq hj]
      have hP : zcP u f n P := fun q j hq hj => by
        have := (hlp q hq j hj).2
        rw [hvv q j hq hj] at this
        exact this
      have hPe := zPb_u (zcP_u (by omega) e2 hP2 hP)
      rw [hPe] at hI2
      have hR := zHR_m (P := P) (show 0 ≤ n by omega) e2 hP
      obtain ⟨hI, hA⟩ := zgs_i hn e2 hL hP hs (n * n).toNat
      have hnn := znn hn
      have hall : ∀ c, 0 ≤ c ∧ c < n → 0 ≤ (zgs L P n s (n * n).toNat).1 c := by
        rcases hA with h | h
        · exact h
        · intro c hc
          by_cases q : 0 ≤ (zgs L P n s (n * n).toNat).1 c
          · exact q
          · exfalso
            have hab := zIv_a (by omega) hR hI hc (by omega)
            have := zsA_f (m := n) (b := c) n.toNat (fun j hj => (hI.1 j (by omega)).1) (by omega) hab
            rw [show ((n.toNat : Nat) : Int) = n by omega] at this
            omega
      rw [hx, hy]
      exact zIv_u (by omega) hR hI hall hI2 hall2 b hb
theorem zfl_u {l m : Int → Int → Prop} {n x y : Int} (h : ∀ b g, 0 ≤ b ∧ b < n → 0 ≤ g ∧ g < n → (l b g ↔ m b g)) (h1 : zfl l n x) (h2 : zfl m n y) : x = y := by
  rcases h1 with ⟨b, g, hb, hg, hl, hno, hx⟩ | ⟨hno, hx⟩
  · rcases h2 with ⟨c, k, hc, hk, hm, hno2, hy⟩ | ⟨hno2, _⟩
    · have e : b = c ∧ g = k := by
        by_cases q1 : b < c ∨ (b = c ∧ g < k)
        · exact absurd ((h b g hb hg).1 hl) (hno2 b g hb hg q1)
        · by_cases q2 : c < b ∨ (c = b ∧ k < g)
          · exact absurd ((h c k hc hk).2 hm) (hno c k hc hk q2)
          · omega
      omega
    · exact absurd ((h b g hb hg).1 hl) (hno2 b g hb hg (by omega))
  · rcases h2 with ⟨c, k, hc, hk, hm, hno2, hy⟩ | ⟨hno2, hy⟩
    · exact absurd ((h c k hc hk).2 hm) (hno c k hc hk (by omega))
    · omega
theorem r_judged {v g u : Int → Int} {i f e n x y : Int} (hn : 2 ≤ n ∧ n ≤ 7) (hv : ∀ t, 0 ≤ t ∧ t < 2 * (n * n) → v (i + t) = u (f + t)) (hgv : ∀ j, 0 ≤ j ∧ j < n → g j = u (e + j)) (h1 : zjdg v g i n x) (h2 : zjdgM u f e n y) : x = y := by
  have hrk := zrk_i hn hv
  have hvv := zrk_M hn hv
  have hgd : zdis g n n ↔ zhit (fun j => u (e + j)) n n := by
    constructor
    · intro H
      exact zdis_hit (by omega) (zdis_c hgv H)
    · intro H
      exact zdis_c (fun j hj => (hgv j hj).symm) (zhit_dis (by omega) H)
  rcases h1 with ⟨e1, h1⟩ | ⟨e1, P, G, W, hP, hGW, hx⟩
  · rcases h2 with ⟨e2, h2⟩ | ⟨e2, _⟩
    · omega
    · exact absurd ⟨hrk.2 e2.1, hgd.2 e2.2⟩ e1
  · rcases h2 with ⟨e2, _⟩ | ⟨e2, P2, G2, W2, hP2, hGW2, hy⟩
    · exact absurd ⟨hrk.1 e1.1, hgd.1 e1.2⟩ e2
    · have hP' : zcP u f n P := fun q j hq hj => by
        have := hP q hq j hj
        rw [hvv q j hq hj] at this
        exact this
      have hPe := zcP_u (show 0 ≤ n by omega) e2.1 hP' hP2
      have hG : ∀ b, 0 ≤ b ∧ b < n → G b = G2 b ∧ 0 ≤ G b ∧ G b < n := by
        intro b hb
        have a1 := (hGW b hb).1
        have a2 := (hGW2 b hb).1
        rw [a1, a2, hgv b hb]
        refine ⟨rfl, ?_⟩
        have := e1.2.1 b hb
        rw [hgv b hb] at this
        exact this
      have hW : ∀ t, 0 ≤ t ∧ t < n → W t = W2 t ∧ 0 ≤ W t ∧ W t < n := by
        intro t ht
        obtain ⟨j, hj, q⟩ := zdis_in (by omega) e1.2 ht
        have a1 := (hGW j hj).2
        have a2 := (hGW2 j hj).2
        rw [← hgv j hj] at a2
        rw [q] at a1 a2
        rw [a1, a2]
        exact ⟨rfl, hj⟩
      refine zfl_u (fun b t hb ht => ?_) hx hy
      unfold zlq
      have g1 := hG b hb
      have w1 := hW t ht
      rw [← g1.1, ← w1.1, hPe b t (by omega) ht, hPe b (G b) (by omega) g1.2, hPe (n + t) b (by omega) hb, hPe (n + t) (W t) (by omega) w1.2]
