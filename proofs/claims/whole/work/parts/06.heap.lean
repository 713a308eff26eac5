/-! the heap: reads, writes -/
def zset (M : zM) (r i x : Int) : zM := fun r' j => if r' = r ∧ j = i then x else M r' j
theorem zset_o {M : zM} {r i x r' : Int} (h : r' ≠ r) : zset M r i x r' = M r' := by
  funext j
  unfold zset
  rw [if_neg (fun q => h q.1)]
theorem zset_s {M : zM} {r i x : Int} : zset M r i x r i = x := if_pos ⟨rfl, rfl⟩
theorem zset_n {M : zM} {r i x j : Int} (h : j ≠ i) : zset M r i x r j = M r j := if_neg fun q => h q.2
theorem zset_ne {M : zM} {r i x r' j : Int} (h : r' ≠ r ∨ j ≠ i) : zset M r i x r' j = M r' j := if_neg fun q => by rcases h with h | h; exact h q.1; exact h q.2
theorem zset_eq {M : zM} {r i x r' j : Int} (h : r' = r ∧ j = i) : zset M r i x r' j = x := if_pos h
theorem zset_a {M : zM} {r i x r' j : Int} : zset M r i x r' j = if r' = r ∧ j = i then x else M r' j := rfl
theorem zce_congr {G : zG} {w : zW} {M M' : zM} {r : Int} (h : M r = M' r) : zce G w M r = zce G w M' r := by
  unfold zce zct zfv
  rw [h]
theorem zi_nat {i : Int} (h : 0 ≤ i) : ((i.toNat : Nat) : Int) = i := Int.toNat_of_nonneg h
section ZH
variable {G : zG} {w : zW} {M : zM} {H : Heap}
theorem zHo_arr {r b : Int} {t m : Nat} (hH : zHo G w M H) (hr : w.2.1 r = true) (hl : zlay r = (t, m, b)) (ht : t < 6) : H[w.1 r]? = some (vp_cell (zGc G t) (m, zct w M r t b)) := by
  have h := (hH.2.2.1 r ⟨hr, by rw [hl]; exact Nat.le_of_lt ht⟩).2
  have e : zce G w M r = .inl (zGc G t, m, zct w M r t b) := by
    unfold zce
    rw [hl]
    exact if_neg (by show ¬ t = 6; omega)
  rw [e] at h
  exact h
theorem zHo_obj {r b : Int} {c : Nat} {q : vw_C} (hH : zHo G w M H) (hr : w.2.1 r = true) (hl : zlay r = (6, c, b)) (hc : zcl[c]? = some q) :
    t_OB (w.1 r) ((zGD G).1 c) q.2.2 ((zGD G).2 c) H (vp_V ((List.range (znf c)).map (fun k => zfv w M r c k))) := by
  have h := (hH.2.2.1 r ⟨hr, by rw [hl]; exact Nat.le_refl _⟩).2
  have e : zce G w M r = .inr (c, (List.range (znf c)).map (fun k => zfv w M r c k)) := by
    unfold zce
    rw [hl]
    exact if_pos rfl
  rw [e] at h
  obtain ⟨q', h1, h2⟩ := h
  cases hc.symm.trans h1
  exact h2
theorem zHo_put {M' : zM} {H1 : Heap} {r : Int} (hH : zHo G w M H) (hr : zlv w r) (ho : ∀ r', r' ≠ r → M' r' = M r') (z : H1.size = H.size) (oq : ∀ q : Nat, q ≠ w.1 r → H1[q]? = H[q]?) (hc : va_at (zGD G) zcl (w.1 r, zce G w M' r) H1) : zHo G w M' H1 := by
  obtain ⟨a1, a2, a3, a4, a5⟩ := hH
  refine ⟨by rw [z]; exact a1, fun q hq => ?_, fun r' hr' => ?_, a4, a5⟩
  · have := (a3 r hr).1
    rw [oq q (by omega)]
    exact a2 q hq
  · by_cases e : r' = r
    · rw [e]
      exact ⟨(a3 r hr).1, hc⟩
    · refine ⟨(a3 r' hr').1, ?_⟩
      rw [zce_congr (ho r' e)]
      exact (a3 r' hr').2.kept (oq _ (fun z => e (a4 r' r hr' hr z)))
theorem zKn_arr {s : State} (h : zKn G s) {t : Nat} (ht : t < 6) : ArrOfT s (zGc G t) (zty t) ∧ va_RA s (zGc G t) (zty t) := by
  have e : (ztys G)[t]? = some (zGc G t, zty t) := by
    unfold ztys
    rw [List.getElem?_map, List.getElem?_range ht]
    rfl
  exact h.1.2 t _ e
theorem zfv_0 {r : Int} {c k : Nat} (h : zft c k = 0) : zfv w M r c k = .int (Int32.ofInt (M r k)) := if_pos h
theorem zfv_1 {r : Int} {c k : Nat} (h : zft c k = 1) : zfv w M r c k = .long (Int64.ofInt (M r k)) := by
  unfold zfv
  rw [if_neg (by omega), if_pos h]
theorem zfv_2 {r : Int} {c k : Nat} (h : zft c k = 2) (hs : w.2.2 r k = true) : zfv w M r c k = .ref (w.1 (zrf r k)) := by
  unfold zfv
  rw [if_neg (by omega), if_neg (by omega), if_pos hs]
theorem zvp {c k : Nat} {f : Nat → Value} (hk : k < znf c) : vp_V ((List.range (znf c)).map f) k = f k := by
  unfold vp_V
  rw [List.getD_eq_getElem?_getD, List.getElem?_map, List.getElem?_range hk]
  rfl
end ZH
/-- a pool entry of a class is the field k of class c -/
def zFd (own : String) (idx c k : Nat) : Prop := ∃ (C : String) (T : u_T) (N : Nat) (ty : Nat → FieldType), zcl[c]? = some (C, T, N) ∧ N = znf c ∧ k < N ∧ Cond.fieldLink own idx (T k).1 (T k).2.1 (T k).2.2.1 ∈ zTb ∧ (∀ w ∈ u_ws C T N, w ∈ zTb) ∧
  (∀ k, k < N → parseFieldDescriptor (T k).2.2.1 = some (ty k)) ∧ (∀ a, a < N → ∀ b, b < N → a ≠ b → (T a).2.1 ≠ (T b).2.1)
/-- .. and may be written outside of a constructor; of the type ty -/
def zFw (own : String) (idx c k : Nat) (ty : FieldType) : Prop := zFd own idx c k ∧ ∃ q : vw_C, zcl[c]? = some q ∧ (q.2.1 k).2.2.2 = false ∧ parseFieldDescriptor (q.2.1 k).2.2.1 = some ty
/-- a pool entry is the table k of the class -/
def zSd (own : String) (idx : Nat) (k : Int) : Prop := 300 ≤ k ∧ k < 306 ∧ (Cond.fieldLink own idx RX7 (zsn k) "[I" ∈ zTb ∨ Cond.fieldLinkNest own idx RX7 (zsn k) "[I" RX7 ∈ zNs)
section ZHOPS
variable {G : zG} {γ : zF} {w : zW} {k : Nat × Nat} {own : String} {cc : ByteArray} {nL fr lo pc n : Nat} {ls : zL} {st : List zV} {M : zM}
theorem zget (ok : zOK G γ own cc nL fr lo) {idx c j : Nat} {r b : Int} (hf : zFd own idx c j) (hl : zlay r = (6, c, b)) (ha : w.2.1 r = true) {v : zV} (hv : zfv w M r c j = zc w.1 v) (hd : decode cc pc = .ok (.getfield idx, 3)) (hn : pc + 3 = n) (kk : zVV G γ w k n ls (v :: st) M) : zVV G γ w k pc ls (zr r :: st) M := by
  subst hn
  intro H locs cls h1 h2 h3
  obtain ⟨C, T, N, ty, hc, hN, hk, hlk, hin, hty, hnm⟩ := hf
  obtain ⟨cell, q1, q2, q3, q4⟩ := zHo_obj h1 ha hl hc
  obtain ⟨hS, hfc, kC, hkC, hkind⟩ := ok.2.2.2.2.2.1.1.1 c _ hc
  obtain ⟨cf, kf, fi, f, hi, hsl⟩ := hS j hk
  refine W.getf ok.1 ok.2.1 ok.2.2.2.1 (ok.2.2.2.2.1 _ hlk) hi (u_facts hfc hkC (u_lays ok.2.2.2.2.1 hin hk) hi).1 q1 (by rw [q3]; exact fun h => by cases h) (v := zc w.1 v) ?_ rfl rfl hd (kk H locs cls h1 h2 h3)
  rw [hsl, q4 j hk, zvp (by omega), hv]
theorem v_getI (ok : zOK G γ own cc nL fr lo) {idx c j : Nat} {r b jI : Int} (hf : zFd own idx c j) (hl : zlay r = (6, c, b)) (ha : w.2.1 r = true) (hz : zft c j = 0) (hj : (j : Int) = jI) (hd : decode cc pc = .ok (.getfield idx, 3)) (hn : pc + 3 = n) (kk : zVV G γ w k n ls (zi (M r jI) :: st) M) : zVV G γ w k pc ls (zr r :: st) M := by
  subst hj
  exact zget ok hf hl ha (v := zi (M r j)) (zfv_0 hz) hd hn kk
theorem v_getJ (ok : zOK G γ own cc nL fr lo) {idx c j : Nat} {r b jI : Int} (hf : zFd own idx c j) (hl : zlay r = (6, c, b)) (ha : w.2.1 r = true) (hz : zft c j = 1) (hj : (j : Int) = jI) (hd : decode cc pc = .ok (.getfield idx, 3)) (hn : pc + 3 = n) (kk : zVV G γ w k n ls (zj (M r jI) :: st) M) : zVV G γ w k pc ls (zr r :: st) M := by
  subst hj
  exact zget ok hf hl ha (v := zj (M r j)) (zfv_1 hz) hd hn kk
theorem v_getR (ok : zOK G γ own cc nL fr lo) {idx c j : Nat} {r b r' : Int} (hf : zFd own idx c j) (hl : zlay r = (6, c, b)) (ha : w.2.1 r = true) (hz : zft c j = 2) (hs : w.2.2 r j = true) (hr : zrf r j = r') (hd : decode cc pc = .ok (.getfield idx, 3)) (hn : pc + 3 = n) (kk : zVV G γ w k n ls (zr r' :: st) M) : zVV G γ w k pc ls (zr r :: st) M := by
  subst hr
  exact zget ok hf hl ha (v := zr (zrf r j)) (zfv_2 hz hs) hd hn kk
theorem zput (ok : zOK G γ own cc nL fr lo) {idx c j : Nat} {r b : Int} {ty : FieldType} (hf : zFw own idx c j ty) (hl : zlay r = (6, c, b)) (ha : w.2.1 r = true) {v : zV} {x : Int} (hv : zfv w (zset M r j x) r c j = zc w.1 v) (hnr : narrow ty (zc w.1 v) = zc w.1 v) (hft : fits ty (zc w.1 v) = true) (hd : decode cc pc = .ok (.putfield idx, 3)) (hn : pc + 3 = n) (kk : zVV G γ w k n ls st (zset M r j x)) : zVV G γ w k pc ls (v :: zr r :: st) M := by
  subst hn
  intro H locs cls h1 h2 h3
  obtain ⟨⟨C, T, N, ty0, hc, hN, hk, hlk, hin, hty, hnm⟩, q0, hq0, hfin, hpd⟩ := hf
  cases hc.symm.trans hq0
  obtain ⟨cell, q1, q2, q3, q4⟩ := zHo_obj h1 ha hl hc
  have hK := ok.2.2.2.2.2.1.1
  obtain ⟨hS, hfc, kC, hkC, hkind⟩ := hK.1 c _ hc
  obtain ⟨cf, kf, fi, f, hi, hsl⟩ := hS j hk
  have hap := va_apart (own := own) ok.2.2.2.2.1 hin ty0 hty hnm hK hc
  have hlay := ok.2.2.2.2.1 _ (hin _ (u_in_lay hk))
  unfold u_lay at hlay
  rw [if_neg (by rw [hfin]; decide)] at hlay
  have hst := (u_facts hfc hkC (u_lays ok.2.2.2.2.1 hin hk) hi).1
  have h6 := u_store hfc hkC hkind hlay hi hpd hnr hft
  refine W.putK ok.1 ok.2.1 (f := f) ⟨ok.2.2.2.1, ok.2.2.2.2.1 _ hlk, ⟨_, _, _, hi⟩, hst⟩ (by rw [q2]; exact h6) q1 q3 (by rw [hsl]; exact k2_hasslot (q4 j hk)) rfl rfl hd fun H' e1 e2 e3 => ?_
  rw [hsl] at e1
  have hlv : zlv w r := ⟨ha, by rw [hl]; exact Nat.le_refl _⟩
  refine kk H' _ cls (zHo_put (M' := zset M r j x) h1 hlv (fun r' hr' => zset_o hr') e2 e3 ?_) (h2.put e2 e3 (h1.2.2.1 r hlv).1) h3
  have e : zce G w (zset M r j x) r = .inr (c, (List.range (znf c)).map (fun i => zfv w (zset M r j x) r c i)) := by
    unfold zce
    rw [hl]
    exact if_pos rfl
  rw [e]
  refine ⟨_, hc, t_OB.to (V := updV (vp_V ((List.range (znf c)).map (fun i => zfv w M r c i))) j (zc w.1 v)) ⟨_, e1, q2, q3, t_set q4 hap hk _⟩ (fun i hi2 => ?_)⟩
  have hi3 : i < znf c := by
    have : i < N := hi2
    omega
  rw [zvp hi3]
  unfold updV
  by_cases hij : i = j
  · rw [if_pos hij, hij, hv]
  · rw [if_neg hij, zvp hi3]
    have e9 : zset M r j x r i = M r i := zset_n (by omega)
    unfold zfv
    rw [e9]
theorem v_putI (ok : zOK G γ own cc nL fr lo) {idx c j : Nat} {r b jI x : Int} (hf : zFw own idx c j .int) (hl : zlay r = (6, c, b)) (ha : w.2.1 r = true) (hz : zft c j = 0) (hj : (j : Int) = jI) (hd : decode cc pc = .ok (.putfield idx, 3)) (hn : pc + 3 = n) (kk : zVV G γ w k n ls st (zset M r jI x)) : zVV G γ w k pc ls (zi x :: zr r :: st) M := by
  subst hj
  exact zput ok hf hl ha (v := zi x) (by rw [zfv_0 hz, zset_s]; rfl) rfl rfl hd hn kk
theorem v_putZ (ok : zOK G γ own cc nL fr lo) {idx c j : Nat} {r b jI x : Int} (hf : zFw own idx c j .boolean) (hx : x = 0 ∨ x = 1) (hl : zlay r = (6, c, b)) (ha : w.2.1 r = true) (hz : zft c j = 0) (hj : (j : Int) = jI) (hd : decode cc pc = .ok (.putfield idx, 3)) (hn : pc + 3 = n) (kk : zVV G γ w k n ls st (zset M r jI x)) : zVV G γ w k pc ls (zi x :: zr r :: st) M := by
  subst hj
  exact zput ok hf hl ha (v := zi x) (by rw [zfv_0 hz, zset_s]; rfl) (by rcases hx with rfl | rfl <;> rfl) (by rcases hx with rfl | rfl <;> rfl) hd hn kk
theorem v_putJ (ok : zOK G γ own cc nL fr lo) {idx c j : Nat} {r b jI x : Int} (hf : zFw own idx c j .long) (hl : zlay r = (6, c, b)) (ha : w.2.1 r = true) (hz : zft c j = 1) (hj : (j : Int) = jI) (hd : decode cc pc = .ok (.putfield idx, 3)) (hn : pc + 3 = n) (kk : zVV G γ w k n ls st (zset M r jI x)) : zVV G γ w k pc ls (zj x :: zr r :: st) M := by
  subst hj
  exact zput ok hf hl ha (v := zj x) (by rw [zfv_1 hz, zset_s]; rfl) rfl rfl hd hn kk
/-! arrays -/
theorem v_iald (ok : zOK G γ own cc nL fr lo) {m : Nat} {r b i : Int} (hl : zlay r = (0, m, b)) (ha : w.2.1 r = true) (hi : 0 ≤ i ∧ i < (m : Int)) (hm : m ≤ 2147483647) (hd : decode cc pc = .ok (.iaload, 1)) (hn : pc + 1 = n) (kk : zVV G γ w k n ls (zi (M r i) :: st) M) : zVV G γ w k pc ls (zi i :: zr r :: st) M := by
  subst hn
  intro H locs cls h1 h2 h3
  refine W.iald (v := .int (Int32.ofInt (M r i))) ok.1 ok.2.1 (zHo_arr h1 ha hl (by omega)) ((zKn_arr ok.2.2.2.2.2.1 (t := 0) (by omega)).1 m (fun j => .int (Int32.ofInt (M r j)))) (fun q => by cases q) ?_ ?_ rfl rfl hd (kk H locs cls h1 h2 h3)
  · show ¬ (_ ∨ (arrV _ m _).slots.size ≤ _)
    rw [arrV_size]
    exact zn_in hi hm
  · show (arrV (zGc G 0) m (fun j => .int (Int32.ofInt (M r j)))).slots[_]? = _
    rw [zn_clamp (by omega), arrV_read _ _ (by omega), zi_nat hi.1]
theorem v_zald (ok : zOK G γ own cc nL fr lo) {m : Nat} {r b i : Int} (hl : zlay r = (1, m, b)) (ha : w.2.1 r = true) (hi : 0 ≤ i ∧ i < (m : Int)) (hm : m ≤ 2147483647) (hd : decode cc pc = .ok (.baload, 1)) (hn : pc + 1 = n) (kk : zVV G γ w k n ls (zi (M r i) :: st) M) : zVV G γ w k pc ls (zi i :: zr r :: st) M := by
  subst hn
  intro H locs cls h1 h2 h3
  refine W.zald (v := .int (Int32.ofInt (M r i))) ok.1 ok.2.1 (zHo_arr h1 ha hl (by omega)) ((zKn_arr ok.2.2.2.2.2.1 (t := 1) (by omega)).1 m (fun j => .int (Int32.ofInt (M r j)))) (fun q => by cases q) ?_ ?_ rfl rfl hd (kk H locs cls h1 h2 h3)
  · show ¬ (_ ∨ (arrV _ m _).slots.size ≤ _)
    rw [arrV_size]
    exact zn_in hi hm
  · show (arrV (zGc G 1) m (fun j => .int (Int32.ofInt (M r j)))).slots[_]? = _
    rw [zn_clamp (by omega), arrV_read _ _ (by omega), zi_nat hi.1]
theorem v_lald (ok : zOK G γ own cc nL fr lo) {m : Nat} {r b i : Int} (hl : zlay r = (2, m, b)) (ha : w.2.1 r = true) (hi : 0 ≤ i ∧ i < (m : Int)) (hm : m ≤ 2147483647) (hd : decode cc pc = .ok (.laload, 1)) (hn : pc + 1 = n) (kk : zVV G γ w k n ls (zj (M r i) :: st) M) : zVV G γ w k pc ls (zi i :: zr r :: st) M := by
  subst hn
  intro H locs cls h1 h2 h3
  refine W.lald (v := .long (Int64.ofInt (M r i))) ok.1 ok.2.1 (zHo_arr h1 ha hl (by omega)) ((zKn_arr ok.2.2.2.2.2.1 (t := 2) (by omega)).1 m (fun j => .long (Int64.ofInt (M r j)))) (fun q => by cases q) ?_ ?_ rfl rfl hd (kk H locs cls h1 h2 h3)
  · show ¬ (_ ∨ (arrV _ m _).slots.size ≤ _)
    rw [arrV_size]
    exact zn_in hi hm
  · show (arrV (zGc G 2) m (fun j => .long (Int64.ofInt (M r j)))).slots[_]? = _
    rw [zn_clamp (by omega), arrV_read _ _ (by omega), zi_nat hi.1]
theorem v_aald (ok : zOK G γ own cc nL fr lo) {t m : Nat} {r b i : Int} (hl : zlay r = (t, m, b)) (ht : 3 ≤ t ∧ t < 6) (ha : w.2.1 r = true) (hi : 0 ≤ i ∧ i < (m : Int)) (hm : m ≤ 2147483647) (hs : w.2.2 r i.toNat = true) (hd : decode cc pc = .ok (.aaload, 1)) (hn : pc + 1 = n) (kk : zVV G γ w k n ls (zr (b + i) :: st) M) : zVV G γ w k pc ls (zi i :: zr r :: st) M := by
  subst hn
  intro H locs cls h1 h2 h3
  have e : zct w M r t b = .inr (.inr (.inr (.inr (fun j => if w.2.2 r j = true then some (w.1 (b + j)) else none)))) := by
    unfold zct
    rw [if_neg (by omega), if_neg (by omega)]
  have hc := zHo_arr h1 ha hl ht.2
  rw [e] at hc
  refine W.aald (v := .ref (w.1 (b + i))) (ty := zty t) ok.1 ok.2.1 hc ((zKn_arr ok.2.2.2.2.2.1 ht.2).1 m (fun j => va_rf (if w.2.2 r j = true then some (w.1 (b + j)) else none))) ?_ (fun q => by cases q) ?_ ?_ rfl rfl hd (kk H locs cls h1 h2 h3)
  · obtain ⟨a, b⟩ := ht
    match t, a, b with
    | 3, _, _ => rfl
    | 4, _, _ => rfl
    | 5, _, _ => rfl
  · show ¬ (_ ∨ (arrV _ m _).slots.size ≤ _)
    rw [arrV_size]
    exact zn_in hi hm
  · show (arrV (zGc G t) m (fun j => va_rf (if w.2.2 r j = true then some (w.1 (b + j)) else none))).slots[_]? = _
    rw [zn_clamp (by omega), arrV_read _ _ (by omega), if_pos hs, zi_nat hi.1]
    rfl
theorem v_alen (ok : zOK G γ own cc nL fr lo) {m : Nat} {r b mI : Int} {t : Nat} (hl : zlay r = (t, m, b)) (ht : t < 3) (ha : w.2.1 r = true) (hm : (m : Int) = mI) (hd : decode cc pc = .ok (.arraylength, 1)) (hn : pc + 1 = n) (kk : zVV G γ w k n ls (zi mI :: st) M) : zVV G γ w k pc ls (zr r :: st) M := by
  subst hn
  subst hm
  intro H locs cls h1 h2 h3
  have hc := zHo_arr h1 ha hl (by omega)
  have e3 : (m.toInt32 : Int32) = Int32.ofInt m := rfl
  obtain hz | hz | hz : t = 0 ∨ t = 1 ∨ t = 2 := by omega
  · subst hz
    exact W.alen (n := Int32.ofInt m) ok.1 ok.2.1 hc ((zKn_arr ok.2.2.2.2.2.1 (t := 0) (by omega)).1 m (fun j => .int (Int32.ofInt (M r j)))) (by show (arrV _ m _).slots.size.toInt32 = _; rw [arrV_size]; exact e3) rfl rfl hd (kk H locs cls h1 h2 h3)
  · subst hz
    exact W.alen (n := Int32.ofInt m) ok.1 ok.2.1 hc ((zKn_arr ok.2.2.2.2.2.1 (t := 1) (by omega)).1 m (fun j => .int (Int32.ofInt (M r j)))) (by show (arrV _ m _).slots.size.toInt32 = _; rw [arrV_size]; exact e3) rfl rfl hd (kk H locs cls h1 h2 h3)
  · subst hz
    exact W.alen (n := Int32.ofInt m) ok.1 ok.2.1 hc ((zKn_arr ok.2.2.2.2.2.1 (t := 2) (by omega)).1 m (fun j => .long (Int64.ofInt (M r j)))) (by show (arrV _ m _).slots.size.toInt32 = _; rw [arrV_size]; exact e3) rfl rfl hd (kk H locs cls h1 h2 h3)
theorem zst_arr {H H1 : Heap} {m t : Nat} {r b i x : Int} {v : Value} (h1 : zHo G w M H) (hl : zlay r = (t, m, b)) (ht : t < 3) (ha : w.2.1 r = true) (hi : 0 ≤ i ∧ i < (m : Int)) (hv : v = if t ≤ 1 then .int (Int32.ofInt x) else .long (Int64.ofInt x))
    (e : H1[w.1 r]? = some ((vp_cell (zGc G t) (m, zct w M r t b)).setSlot i.toNat v)) (z : H1.size = H.size) (oq : ∀ q : Nat, q ≠ w.1 r → H1[q]? = H[q]?) : zHo G w (zset M r i x) H1 := by
  refine zHo_put h1 ⟨ha, by rw [hl]; show t ≤ 6; omega⟩ (fun r' hr' => zset_o hr') z oq ?_
  have e9 : zce G w (zset M r i x) r = .inl (zGc G t, m, zct w (zset M r i x) r t b) := by
    unfold zce
    rw [hl]
    exact if_neg (by show ¬ t = 6; omega)
  rw [e9]
  show H1[w.1 r]? = some (vp_cell _ _)
  rw [e]
  subst hv
  by_cases h : t ≤ 1
  · have e1 : ∀ M' : zM, zct w M' r t b = .inl (fun j => Int32.ofInt (M' r j)) := fun M' => by unfold zct; rw [if_pos h]
    rw [e1, e1, if_pos h, vp_cell_i, vp_cell_i, arrV_store]
    congr 2
    funext j
    unfold updV zset
    by_cases hj : j = i.toNat
    · rw [if_pos hj, if_pos ⟨rfl, by omega⟩]
    · rw [if_neg hj, if_neg (fun q => hj (by omega))]
  · have e1 : ∀ M' : zM, zct w M' r t b = .inr (.inl (fun j => Int64.ofInt (M' r j))) := fun M' => by unfold zct; rw [if_neg h, if_pos (by omega)]
    rw [e1, e1, if_neg h, vp_cell_l, vp_cell_l, arrV_store]
    congr 2
    funext j
    unfold updV zset
    by_cases hj : j = i.toNat
    · rw [if_pos hj, if_pos ⟨rfl, by omega⟩]
    · rw [if_neg hj, if_neg (fun q => hj (by omega))]
theorem v_iast (ok : zOK G γ own cc nL fr lo) {m : Nat} {r b i x : Int} (hl : zlay r = (0, m, b)) (ha : w.2.1 r = true) (hi : 0 ≤ i ∧ i < (m : Int)) (hm : m ≤ 2147483647) (hd : decode cc pc = .ok (.iastore, 1)) (hn : pc + 1 = n) (kk : zVV G γ w k n ls st (zset M r i x)) : zVV G γ w k pc ls (zi x :: zi i :: zr r :: st) M := by
  subst hn
  intro H locs cls h1 h2 h3
  refine W.iast (x := Int32.ofInt x) ok.1 ok.2.1 (zHo_arr h1 ha hl (by omega)) ((zKn_arr ok.2.2.2.2.2.1 (t := 0) (by omega)).1 m (fun j => .int (Int32.ofInt (M r j)))) (fun q => by cases q) ?_ rfl rfl hd fun H1 e z oq => ?_
  · show ¬ (_ ∨ (arrV _ m _).slots.size ≤ _)
    rw [arrV_size]
    exact zn_in hi hm
  · rw [zn_clamp (by omega)] at e
    exact kk H1 _ cls (zst_arr h1 hl (by omega) ha hi rfl e z oq) (h2.put z oq (h1.2.2.1 r ⟨ha, by rw [hl]; show 0 ≤ 6; omega⟩).1) h3
theorem v_zast (ok : zOK G γ own cc nL fr lo) {m : Nat} {r b i x : Int} (hx : x = 0 ∨ x = 1) (hl : zlay r = (1, m, b)) (ha : w.2.1 r = true) (hi : 0 ≤ i ∧ i < (m : Int)) (hm : m ≤ 2147483647) (hd : decode cc pc = .ok (.bastore, 1)) (hn : pc + 1 = n) (kk : zVV G γ w k n ls st (zset M r i x)) : zVV G γ w k pc ls (zi x :: zi i :: zr r :: st) M := by
  subst hn
  intro H locs cls h1 h2 h3
  refine W.zast (x := Int32.ofInt x) ok.1 ok.2.1 (zHo_arr h1 ha hl (by omega)) ((zKn_arr ok.2.2.2.2.2.1 (t := 1) (by omega)).1 m (fun j => .int (Int32.ofInt (M r j)))) (fun q => by cases q) ?_ rfl rfl hd fun H1 e z oq => ?_
  · show ¬ (_ ∨ (arrV _ m _).slots.size ≤ _)
    rw [arrV_size]
    exact zn_in hi hm
  · rw [zn_clamp (by omega), show narrow .boolean (.int (Int32.ofInt x)) = .int (Int32.ofInt x) by rcases hx with rfl | rfl <;> rfl] at e
    exact kk H1 _ cls (zst_arr h1 hl (by omega) ha hi rfl e z oq) (h2.put z oq (h1.2.2.1 r ⟨ha, by rw [hl]; show 1 ≤ 6; omega⟩).1) h3
theorem v_last (ok : zOK G γ own cc nL fr lo) {m : Nat} {r b i x : Int} (hl : zlay r = (2, m, b)) (ha : w.2.1 r = true) (hi : 0 ≤ i ∧ i < (m : Int)) (hm : m ≤ 2147483647) (hd : decode cc pc = .ok (.lastore, 1)) (hn : pc + 1 = n) (kk : zVV G γ w k n ls st (zset M r i x)) : zVV G γ w k pc ls (zj x :: zi i :: zr r :: st) M := by
  subst hn
  intro H locs cls h1 h2 h3
  refine W.last (x := Int64.ofInt x) ok.1 ok.2.1 (zHo_arr h1 ha hl (by omega)) ((zKn_arr ok.2.2.2.2.2.1 (t := 2) (by omega)).1 m (fun j => .long (Int64.ofInt (M r j)))) (fun q => by cases q) ?_ rfl rfl hd fun H1 e z oq => ?_
  · show ¬ (_ ∨ (arrV _ m _).slots.size ≤ _)
    rw [arrV_size]
    exact zn_in hi hm
  · rw [zn_clamp (by omega)] at e
    exact kk H1 _ cls (zst_arr h1 hl (by omega) ha hi rfl e z oq) (h2.put z oq (h1.2.2.1 r ⟨ha, by rw [hl]; show 2 ≤ 6; omega⟩).1) h3
/-! the class's tables -/
theorem v_gets (ok : zOK G γ own cc nL fr lo) {idx : Nat} {q : Int} (hf : zSd own idx q) (hd : decode cc pc = .ok (.getstatic idx, 3)) (hn : pc + 3 = n) (kk : zVV G γ w k n ls (zr q :: st) M) : zVV G γ w k pc ls st M := by
  subst hn
  intro H locs cls h1 h2 h3
  obtain ⟨hq1, hq2, hlk⟩ := hf
  obtain ⟨cf, kf, fi, f, a, cell, z1, z2, z3, z4, z5, z6, z7, z8⟩ := ok.2.2.2.2.2.1.2.1 q hq1 hq2
  have hc : H[a]? = some cell := by rw [h1.2.1 a (Nat.not_le.mp z8)]; exact z5
  have h := kk H locs cls h1 h2 h3
  have e : zc w.1 (zr q) = .ref (zGa G q) := congrArg Value.ref (h1.2.2.2.2 q hq1)
  rw [List.map_cons, e] at h
  rcases hlk with hlk | hlk
  · exact W.gets ok.1 ok.2.1 ok.2.2.2.1 (ok.2.2.2.2.1 _ hlk) z1 z2 z3 z4 hc (fun y => by rw [y] at z6; cases z6) z7 rfl hd h
  · exact va_WgetsN ok.1 ok.2.1 ok.2.2.2.1 (va_Nw.use rfl (ok.2.2.2.2.2.1.2.2.2.1 _ hlk)) z1 z2 z3 z4 hc (fun y => by rw [y] at z6; cases z6) z7 rfl hd h
theorem v_tald (ok : zOK G γ own cc nL fr lo) {q i : Int} (hq : 300 ≤ q ∧ q < 306) (hi : 0 ≤ i ∧ i < (ztl q : Int)) (hd : decode cc pc = .ok (.iaload, 1)) (hn : pc + 1 = n) (kk : zVV G γ w k n ls (zi (ztab q i) :: st) M) : zVV G γ w k pc ls (zi i :: zr q :: st) M := by
  subst hn
  intro H locs cls h1 h2 h3
  obtain ⟨cell, y1, y2, y3, y4, y5, y6, y7⟩ := ok.2.2.2.2.2.1.2.2.1 q hq.1 (by omega)
  obtain ⟨t1, t2⟩ := ok.2.2.2.2.2.1.2.2.2.2.2 q hq.1 hq.2
  have hz : ztl q ≤ 4 := by
    unfold ztl
    split
    · decide
    · split <;> decide
  have hc : H[w.1 q]? = some cell := by rw [h1.2.2.2.2 q hq.1, h1.2.1 _ (Nat.not_le.mp y7)]; exact y1
  rw [t1] at y4 y6
  refine W.iald (v := .int (Int32.ofInt (ztab q i))) ok.1 ok.2.1 hc y2 y3 ?_ ?_ rfl rfl hd (kk H locs cls h1 h2 h3)
  · have := zn_in hi (by omega)
    exact fun q => this (q.imp id (fun y => by omega))
  · rw [zn_clamp (by omega), y6 _ (by omega), t2]
    show some (Value.int (Int32.ofInt (ztab q ((i.toNat : Nat) : Int)))) = _
    rw [zi_nat hi.1]
end ZHOPS
