/-! heaps that grow: references stored, constructors called -/
/-- a pool entry of a class is its own final reference field k -/
def zFf (own : String) (idx c k : Nat) (ty : FieldType) : Prop := zFd own idx c k ∧ ∃ q : vw_C, zcl[c]? = some q ∧ (q.2.1 k).2.2.2 = true ∧ (q.2.1 k).1 = own ∧ parseFieldDescriptor (q.2.1 k).2.2.1 = some ty ∧ ty.isReference = true
theorem zrefn {ty : FieldType} (h : ty.isReference = true) (a : Nat) : narrow ty (.ref a) = .ref a ∧ fits ty (.ref a) = true := by
  cases ty <;> first | (simp [FieldType.isReference] at h; done) | exact ⟨rfl, rfl⟩
section ZREF
variable {G : zG} {γ : zF} {ad : Int → Nat} {al : Int → Bool} {rs : Int → Nat → Bool} {k : Nat × Nat} {own : String} {cc : ByteArray} {nL fr lo pc n : Nat} {ls : zL} {st : List zV} {M : zM}
/-- one cell is another, where one place more is set -/
theorem zHo_rs {H H1 : Heap} {r : Int} {a m : Nat} (hH : zHo G (ad, al, rs) M H) (wf : zwf al rs) (hr : al r = true) (h6 : (zlay r).1 ≤ 6) (oq : ∀ q : Nat, q ≠ ad r → H1[q]? = H[q]?) (z : H1.size = H.size) (hc : va_at (zGD G) zcl (ad r, zce G (ad, al, zrsa rs r a m) M r) H1) : zHo G (ad, al, zrsa rs r a m) M H1 := by
  obtain ⟨a1, a2, a3, a4, a5⟩ := hH
  refine ⟨by rw [z]; exact a1, fun q hq => ?_, fun r' hr' => ?_, a4, a5⟩
  · have := (a3 r ⟨hr, h6⟩).1
    have this : zGn G ≤ ad r := this
    rw [oq q (by omega)]
    exact a2 q hq
  · by_cases e : r' = r
    · rw [e]
      exact ⟨(a3 r ⟨hr, h6⟩).1, hc⟩
    · have h1 := a3 r' hr'
      refine ⟨h1.1, ?_⟩
      show va_at (zGD G) zcl (ad r', zce G (ad, al, zrsa rs r a m) M r') H1
      rw [zce_old (al' := al) wf (M' := M) rfl (zrsa_n e) (fun _ _ => rfl)]
      exact h1.2.kept (oq _ (fun z => e (a4 r' r hr' ⟨hr, h6⟩ z)))
theorem v_putR (ok : zOK G γ own cc nL fr lo) (hin2 : (zFt γ).name = "<init>") {idx c j : Nat} {r b t : Int} {ty : FieldType} (wf : zwf al rs) (hf : zFf own idx c j ty) (hl : zlay r = (6, c, b)) (ha : al r = true) (hz : zft c j = 2) (ht : zrf r j = t) (hd : decode cc pc = .ok (.putfield idx, 3)) (hn : pc + 3 = n)
    (kk : zVV G γ (ad, al, zrsa rs r j 1) k n ls st M) : zVV G γ (ad, al, rs) k pc ls (zr t :: zr r :: st) M := by
  subst hn
  subst ht
  intro H locs cls h1 h2 h3
  obtain ⟨⟨C, T, N, ty0, hc, hN, hk, hlk, hin, hty, hnm⟩, q0, hq0, hfin, hdecl, hpd, href⟩ := hf
  cases hc.symm.trans hq0
  obtain ⟨cell, q1, q2, q3, q4⟩ := zHo_obj h1 ha hl hc
  have hK := ok.2.2.2.2.2.1.1
  obtain ⟨hS, hfc, kC, hkC, hkind⟩ := hK.1 c _ hc
  obtain ⟨cf, kf, fi, f, hi, hsl⟩ := hS j hk
  have hap := va_apart (own := own) ok.2.2.2.2.1 hin ty0 hty hnm hK hc
  have hlay := ok.2.2.2.2.1 _ (hin _ (u_in_lay hk))
  unfold u_lay at hlay
  rw [if_pos hfin] at hlay
  have hst := (u_facts hfc hkC (u_lays ok.2.2.2.2.1 hin hk) hi).1
  have hcf : (zFm γ).cls = cf := by
    obtain ⟨_, _, c', _, _, _, -, -, hf', -, -, -, hown2, -⟩ := Cond.laysFinal_spec hlay
    have e1 : c' = cf := by have := hi.symm.trans hf'; simp at this; exact this.1.symm
    rw [hdecl] at hown2
    rw [← e1]; exact Option.some.inj (ok.2.2.2.1.symm.trans hown2)
  have hv := zrefn href (ad (zrf r j))
  have h6 := u_fits hfc hkC hkind (Or.inr hlay) hi hpd hv.1 hv.2
  refine W.putFinK ok.1 ok.2.1 ok.2.2.2.1 (ok.2.2.2.2.1 _ hlk) hi hst hcf hin2 (by rw [q2]; exact h6) q1 q3 (by rw [hsl]; exact k2_hasslot (q4 j hk)) rfl rfl hd fun H' e1 e2 e3 => ?_
  rw [hsl] at e1
  have hlv : zlv (ad, al, rs) r := ⟨ha, by rw [hl]; exact Nat.le_refl _⟩
  refine kk H' _ cls (zHo_rs h1 wf ha (by rw [hl]; exact Nat.le_refl _) e3 e2 ?_) (h2.put e2 e3 (h1.2.2.1 r hlv).1) h3
  have e : zce G (ad, al, zrsa rs r j 1) M r = .inr (c, (List.range (znf c)).map (fun i => zfv (ad, al, zrsa rs r j 1) M r c i)) := by
    unfold zce
    rw [hl]
    exact if_pos rfl
  rw [e]
  refine ⟨_, hc, t_OB.to (V := updV (vp_V ((List.range (znf c)).map (fun i => zfv (ad, al, rs) M r c i))) j (.ref (ad (zrf r j)))) ⟨_, e1, q2, q3, t_set q4 hap hk _⟩ (fun i hi2 => ?_)⟩
  have hi3 : i < znf c := by
    have : i < N := hi2
    omega
  rw [zvp hi3]
  unfold updV
  by_cases hij : i = j
  · rw [if_pos hij, hij, zfv_2 hz (zrsa_i (by omega))]
  · rw [if_neg hij, zvp hi3]
    have e9 : zrsa rs r j 1 r i = rs r i := by
      unfold zrsa
      rw [decide_eq_false (fun q => hij (by omega)), Bool.false_or]
    show zfv (ad, al, rs) M r c i = zfv (ad, al, zrsa rs r j 1) M r c i
    unfold zfv
    show (if _ then _ else if _ then _ else if rs r i = true then _ else _) = (if _ then _ else if _ then _ else if zrsa rs r j 1 r i = true then _ else _)
    rw [e9]
theorem v_aastS (ok : zOK G γ own cc nL fr lo) {m : Nat} {r b i t b2 : Int} (wf : zwf al rs) (hl : zlay r = (5, m, b)) (ha : al r = true) (hi : 0 ≤ i ∧ i < (m : Int)) (hm : m ≤ 2147483647) (ht : b + i = t) (hlt : zlay t = (6, 3, b2)) (hat : al t = true) (hd : decode cc pc = .ok (.aastore, 1)) (hn : pc + 1 = n)
    (kk : zVV G γ (ad, al, zrsa rs r i.toNat 1) k n ls st M) : zVV G γ (ad, al, rs) k pc ls (zr t :: zi i :: zr r :: st) M := by
  subst hn
  subst ht
  intro H locs cls h1 h2 h3
  have hcell := zHo_arr h1 ha hl (by omega)
  have hArr := (zKn_arr ok.2.2.2.2.2.1 (t := 5) (by omega)).1
  obtain ⟨kA, comp, c1, c2, c3, c4⟩ := (zKn_arr ok.2.2.2.2.2.1 (t := 5) (by omega)).2
  obtain ⟨q, hq⟩ : ∃ q, zcl[3]? = some q := ⟨_, rfl⟩
  have hqe : q = (RX3, TX3, 4) := (Option.some.inj hq).symm
  obtain ⟨cell, g1, g2, g3, g4⟩ := zHo_obj h1 hat hlt hq
  have hcls := (ok.2.2.2.2.2.1.1.1 3 q hq)
  have hfc : (zFs γ).vm.findClass RX3 = some ((zGD G).1 3) := by
    have := hcls.2.1
    rw [hqe] at this
    exact this
  have ecomp : comp = (zGD G).1 3 := Option.some.inj (c3.symm.trans hfc)
  obtain ⟨kC, hkC, hkind⟩ := hcls.2.2
  have hz : zct (ad, al, rs) M r 5 b = .inr (.inr (.inr (.inr (fun j : Nat => if rs r j = true then some (ad (b + j)) else none)))) := rfl
  rw [hz, vp_cell_q] at hcell
  have hcl : (Int32.ofInt i).toNatClampNeg = i.toNat := zn_clamp (by omega)
  refine W.aast ok.1 ok.2.1 hcell (fun q h => by cases h) (fun h => by cases h) c1 c2 rfl (by rw [ecomp]; exact hkC) ⟨zn_neg (by omega), by rw [hcl, arrV_size]; omega⟩ g1 (fun q h => by rw [g3] at h; cases h) (by rw [g2]; exact hkC) (by rw [g2, ecomp]; exact va_assign ⟨hfc, kC, hkC, hkind⟩) rfl rfl hd fun H' e1 e2 e3 => ?_
  have hlv : zlv (ad, al, rs) r := ⟨ha, by rw [hl]; omega⟩
  refine kk H' _ cls (zHo_rs h1 wf ha (by rw [hl]; omega) e3 e2 ?_) (h2.put e2 e3 (h1.2.2.1 r hlv).1) h3
  have e : zce G (ad, al, zrsa rs r i.toNat 1) M r = .inl (zGc G 5, m, zct (ad, al, zrsa rs r i.toNat 1) M r 5 b) := by
    unfold zce
    rw [hl]
    exact if_neg (by show ¬ 5 = 6; omega)
  rw [e]
  show H'[ad r]? = some (vp_cell (zGc G 5) (m, .inr (.inr (.inr (.inr (fun j : Nat => if zrsa rs r i.toNat 1 r j = true then some (ad (b + j)) else none))))))
  rw [vp_cell_q, e1, hcl, arrV_store]
  refine congrArg some (congrArg (arrV (zGc G 5) m) ?_)
  funext j
  unfold updV
  by_cases hj : j = i.toNat
  · rw [if_pos hj, if_pos (by rw [hj]; exact zrsa_i (by omega)), show b + (j : Int) = b + i by omega]
    rfl
  · have e9 : zrsa rs r i.toNat 1 r j = rs r j := by
      unfold zrsa
      rw [decide_eq_false (fun q => hj (by omega)), Bool.false_or]
    rw [if_neg hj, e9]
end ZREF
/-! constructors: their contracts, calls, ends -/
/-- the array classes whose arrays are made by their component -/
def zOv (s : State) : Prop := (∀ a, (Cond.arrayOver (.array .int)).before a s = true) ∧ (∀ a, (Cond.arrayOver (.array .long)).before a s = true) ∧ ∀ a, (Cond.arrayOver (.object RX3)).before a s = true
theorem zOv_1 {s U : State} {ty : FieldType} (hal : s.vm.Alike U.vm) (h : ∀ a, (Cond.arrayOver ty).before a s = true) (a : Array Value) : (Cond.arrayOver ty).before a U = true := by
  have h := h a
  unfold Cond.before at h ⊢
  simp only [Cond.holds, Cond.value, beq_iff_eq, hal.findClass] at h ⊢
  rw [Option.bind_eq_some_iff] at h ⊢
  obtain ⟨comp, hc, h⟩ := h
  rw [Option.bind_eq_some_iff] at h
  obtain ⟨c, hi, h⟩ := h
  rw [Option.map_eq_some_iff] at h
  obtain ⟨k, hk, h⟩ := h
  obtain ⟨k', hk', hek'⟩ := hal.2.2 _ _ hk
  refine ⟨comp, hc, ?_⟩
  rw [Option.bind_eq_some_iff]
  refine ⟨c, (hal.findIdx?_eqK _ (fun _ => rfl)).trans hi, ?_⟩
  rw [Option.map_eq_some_iff]
  refine ⟨k', hk', ?_⟩
  rw [hek']
  exact h
theorem zOv_a {s U : State} (hal : s.vm.Alike U.vm) (h : zOv s) : zOv U := ⟨zOv_1 hal h.1, zOv_1 hal h.2.1, zOv_1 hal h.2.2⟩
def zPreN (G : zG) (w : zW) (M : zM) (U : State) : Prop := zPre G w M U ∧ zOv U
theorem zPreN_blind {G : zG} {w : zW} {M : zM} {av : List Value} : FrameBlind (va_Pc av (zPreN G w M)) := fun _ U g mk h => ⟨h.1, ⟨h.2.1.1, zKn_same (s := U) rfl h.2.1.2⟩, zOv_a (s := U) (Vm.Alike.refl _) h.2.2⟩
def zrmN (mi : zMI) (c s : Nat) : Room := { frames := mi.2.2.2.2.1, cells := c, slots := s, locals := mi.2.2.2.2.2 }
/-- called with args over M, the constructor returns, over M2, with al2 there and rs2 set -/
def zTN (G : zG) (ad : Int → Nat) (al : Int → Bool) (rs : Int → Nat → Bool) (mi : zMI) (args : List zV) (M : zM) (al2 : Int → Bool) (rs2 : Int → Nat → Bool) (M2 : zM) (c s : Nat) : Prop :=
  Met (zGl G) mi.1 (zws mi) (zrmN mi c s) (va_Pc (args.map (zc ad)) (zPreN G (ad, al, rs) M)) (va_Qv (fun ad2 : Int → Nat => (∀ r, al r = true → ad2 r = ad r) ∧ ∀ r, 300 ≤ r → ad2 r = ad r) (fun (ad2 : Int → Nat) t => zHo G (ad2, al2, rs2) M2 t.heap) (zA G)) c s (zA G)
def zRN (G : zG) (γ : zF) (ad : Int → Nat) (al al2 : Int → Bool) (rs2 : Int → Nat → Bool) (cc : ByteArray) (M2 : zM) (c s : Nat) : Prop :=
  ∀ (pc : Nat) (H : Heap) (locs : List Loc) (cls : Array Slot) (ad2 : Int → Nat), decode cc pc = .ok (.return_, 1) → zHo G (ad2, al2, rs2) M2 H → va_S (zA G) (zFs γ).heap H locs → (∀ r, al r = true → ad2 r = ad r) → (∀ r, 300 ≤ r → ad2 r = ad r) → zWW G γ (c, s) H locs (F0 (zFm γ) pc cls [])
theorem v_nret {G : zG} {γ : zF} {ad ad2 : Int → Nat} {al al2 : Int → Bool} {rs2 : Int → Nat → Bool} {cc : ByteArray} {pc : Nat} {ls : zL} {M2 : zM} {c s : Nat} (rt : zRN G γ ad al al2 rs2 cc M2 c s) (hd : decode cc pc = .ok (.return_, 1)) (h1 : ∀ r, al r = true → ad2 r = ad r) (h2 : ∀ r, 300 ≤ r → ad2 r = ad r) : zVV G γ (ad2, al2, rs2) (c, s) pc ls [] M2 :=
  fun H locs cls a b _ => rt pc H locs cls ad2 hd a b h1 h2
section ZCTOR
variable {G : zG} {y : MethodName} {cc : ByteArray} {nL fr lo : Nat} {ad : Int → Nat} {al : Int → Bool} {rs : Int → Nat → Bool} {args : List zV} {M : zM} {ls : zL}
theorem zTN.of {al2 : Int → Bool} {rs2 : Int → Nat → Bool} {M2 : zM} {own : String} {cN sN : Nat} (hy : plainName y.cls = true) (hyn : y.name = "<init>") (hown : y.cls = own) (hls : zen args nL = ls) (hlen : ls.length ≤ nL) (body : ∀ γ : zF, zOK G γ own cc nL fr lo → (zFt γ).name = "<init>" → (zFR γ).cells = cN → (zFR γ).slots = sN → zGn G ≤ (zFs γ).heap.size → zOv (zFs γ) → zRN G γ ad al al2 rs2 cc M2 cN sN → zVV G γ (ad, al, rs) (0, 0) 0 ls [] M) : zTN G ad al rs (y, cc, nL, none, fr, lo) args M al2 rs2 M2 cN sN := by
  refine Met.ofW (cc := cc) (maxL := nL) (ret := none) hy rfl ?_
  intro p e s m a below meth c s₁ B hml hP
  obtain ⟨rfl, ⟨hH, hKn⟩, hOv⟩ := hP
  have hts := atoms_spec (ws := zws (y, cc, nL, none, fr, lo)) B.pre
  have hin : meth.name = "<init>" := ((name_of_methodNamed B.named B.method).1).trans hyn
  have hlocks := B.notSynchronized
  have hb := body (p, e, zrmN (y, cc, nL, none, fr, lo) cN sN, s, m, (args.map (zc ad)).toArray, below, meth, c, MQ below (va_Qv (fun ad2 : Int → Nat => (∀ r, al r = true → ad2 r = ad r) ∧ ∀ r, 300 ≤ r → ad2 r = ad r) (fun (ad2 : Int → Nat) t => zHo G (ad2, al2, rs2) M2 t.heap) (zA G)) (args.map (zc ad)).toArray s cN sN (zA G)) ⟨B.exec, B.bytes, hml, hown ▸ findClass_of_methodNamed B.named, fun x hx => hts x (List.mem_cons_of_mem _ hx), hKn, Nat.le_refl _, Nat.le_refl _⟩ hin rfl rfl hH.1 hOv ?_
  · have hle : (lg_sl (args.map (zc ad))).length ≤ nL := by
      rw [zen_len]
      rw [← hls] at hlen
      unfold zen at hlen
      rw [List.length_append] at hlen
      omega
    have hl := lv_entry (args.map (zc ad)) (n := nL) hle
    rw [lg_entry_eq]
    refine hb s.heap [] _ hH va_S.rf ?_
    show zlh ad _ c.maxLocals ls
    rw [hml]
    refine zlh_sub hl fun i v hv => ?_
    rw [← hls] at hv
    unfold zen at hv
    by_cases hi : i < (args.flatMap (fun v => if zlong (some v) = true then [some v, none] else [some v])).length
    · rw [List.getElem?_append_left hi] at hv
      have := zen_mem ad args 0 i v hv
      rw [Nat.zero_add] at this
      exact this
    · rw [List.getElem?_append_right (by omega)] at hv
      rw [List.getElem?_replicate] at hv
      split at hv <;> cases hv
  · intro pc H locs cls ad2 hd hH2 hS g1 g2
    exact W.vret B.exec B.bytes B.returns (fun t ht hW => ⟨⟨ad2, rfl, ⟨g1, g2⟩, by show zHo G (ad2, al2, rs2) M2 t.heap; rw [ht]; exact hH2⟩, hS.F ht⟩) hS.2.2 hd
end ZCTOR
/-- a pool entry calls a constructor -/
def zCi (own : String) (idx : Nat) (y : MethodName) : Prop := (Cond.methodLink own idx y ∈ zTb ∨ Cond.methodLinkNest own idx y RX7 ∈ zNs) ∧ Cond.instanceMethod y ∈ zTb ∧ Cond.initialized y.cls ∈ zTb ∧ y.name = "<init>"
section ZCALLN
variable {G : zG} {γ : zF} {ad : Int → Nat} {al : Int → Bool} {rs : Int → Nat → Bool} {k : Nat × Nat} {own : String} {cc : ByteArray} {nL fr lo pc n idx : Nat} {ls : zL} {st : List zV} {M : zM} {mi : zMI}
theorem v_callN (ok : zOK G γ own cc nL fr lo) (ov : zOv (zFs γ)) {R : Int} {al2 : Int → Bool} {rs2 : Int → Nat → Bool} {M2 : zM} {c s : Nat} (hm : zMc mi 0) (hret : mi.2.2.2.1 = none) (hs : zCi own idx mi.1) (hf : mi.2.2.2.2.1 + 1 ≤ fr ∧ 8 + (mi.2.2.1 + 11) + mi.2.2.2.2.2 ≤ lo) (hk : k.1 + c ≤ (zFR γ).cells ∧ k.2 + s ≤ (zFR γ).slots) (hd : decode cc pc = .ok (.invokespecial idx, 3)) (hn : pc + 3 = n) (hst8 : zcs st ≤ 8) (hst : st.all (zvl al) = true) (hls : ls.all (zol al) = true)
    (hT : zTN G ad al rs mi [zr R] M al2 rs2 M2 c s) (kk : ∀ ad2 : Int → Nat, (∀ r, al r = true → ad2 r = ad r) → (∀ r, 300 ≤ r → ad2 r = ad r) → zVV G γ (ad2, al2, rs2) (k.1 + c, k.2 + s) n ls st M2) : zVV G γ (ad, al, rs) k pc ls (zr R :: st) M := by
  subst hn
  intro H locs cls h1 h2 h3
  have S : CallFix γ.1 (zFm γ) (zFc γ) cc nL (zFs γ) (zFa γ) zTb own := ⟨ok.1, ok.2.1, ok.2.2.1, ok.2.2.2.1, ok.2.2.2.2.1⟩
  have hp : PreS (zFs γ) H (va_Pc ([zr R].map (zc ad)) (zPreN G (ad, al, rs) M)) (.ref (ad R) :: []) := ⟨zPreN_blind, fun U hU hW => ⟨rfl, ⟨by rw [hU]; exact h1, zKn_warm hW ok.2.2.2.2.2.1⟩, zOv_a hW.alike ov⟩⟩
  have hW : 2 * (F0 (zFm γ) pc cls ((zr R :: st).map (zc ad))).monitorRoom + ((st.map (zc ad)).map fun v => v.category).sum ≤ 8 := lv_room (by rw [zcs_eq]; exact hst8)
  obtain ⟨hc, hd1, hd2, hd3⟩ := hm
  have hws : ∀ w ∈ zws mi, ∀ (a' : Array Value) (U : State), (zFs γ).WarmedH U.vm → w.before a' U = true := fun x hx a' U hW => by
    rcases List.mem_cons.mp hx with rfl | hx
    · exact word_at hW (zTb_good _ hc) (ok.2.2.2.2.1 _ hc)
    · exact word_at hW (zTb_good _ hx) (ok.2.2.2.2.1 _ hx)
  have hln : ∀ sig, parseMethodDescriptor mi.1.desc = some sig → 0 = sig.parameters.length := fun sig h => by
    rw [h] at hd3
    exact (Option.some.inj hd3).symm
  have hcode : Cond.code mi.1 mi.2.1 mi.2.2.1 none ∈ zws mi := by
    rw [← hret]
    exact List.mem_cons_self
  have hcodeb : (Cond.code mi.1 mi.2.1 mi.2.2.1 none).before (zFa γ) (zFs γ) = true := by
    rw [← hret]
    exact ok.2.2.2.2.1 _ hc
  have run : va_Run γ.1 (zGl G) γ.2.1 (zFR γ) (zFs γ) (zFm γ) (zFa γ) γ.2.2.2.2.2.2.1 (zFt γ) (zFc γ) H locs k.1 k.2 c s (F0 (zFm γ) pc cls ((zr R :: st).map (zc ad))) (st.map (zc ad)) ((va_Qv (fun ad2 : Int → Nat => (∀ r, al r = true → ad2 r = ad r) ∧ ∀ r, 300 ≤ r → ad2 r = ad r) (fun (ad2 : Int → Nat) t => zHo G (ad2, al2, rs2) M2 t.heap) (zA G)) (Value.ref (ad R) :: []).toArray) (zA G) := by
    rcases hs.1 with hl | hl
    · exact va_runI (bytes := mi.2.1) (maxL := mi.2.2.1) (own := own) (index := idx) (n := 0) (As := []) S hT ⟨⟨rfl, rfl, Nat.le_trans hf.1 ok.2.2.2.2.2.2.1, Nat.le_trans hf.2 ok.2.2.2.2.2.2.2, hws, hcode, hcodeb, ok.2.2.2.2.1 _ hs.2.2.1, ⟨hd1, hd2⟩, hln, ok.2.2.2.2.1 _ hl⟩, hs.2.2.2, ok.2.2.2.2.1 _ hs.2.1⟩ hp rfl rfl (h3.1.trans ok.2.2.1) rfl hW hd hk
    · exact va_runIN (bytes := mi.2.1) (maxL := mi.2.2.1) (own := own) (host := RX7) (index := idx) (n := 0) (As := []) S hT ⟨⟨⟨rfl, rfl, Nat.le_trans hf.1 ok.2.2.2.2.2.2.1, Nat.le_trans hf.2 ok.2.2.2.2.2.2.2, hws, hcode⟩, hcodeb, ok.2.2.2.2.1 _ hs.2.2.1, ⟨hd1, hd2⟩, hln, va_Nw.use rfl (ok.2.2.2.2.2.1.2.2.2.1 _ hl)⟩, hs.2.2.2, ok.2.2.2.2.1 _ hs.2.1⟩ hp rfl rfl (h3.1.trans ok.2.2.1) rfl hW hd hk
  refine va_callv run h2 (fun q _ hq => hq) (fun q hq => hq) ?_
  rintro ad2 t H1 locs1 ht hvm ⟨g1, g2⟩ hB hz hk1 hS
  have hres := kk ad2 g1 g2 H1 locs1 cls (by rw [← ht]; exact hB) hS (zlh_e g1 hls h3)
  have e2 : st.map (zc ad2) = st.map (zc ad) := zst_e g1 hst
  have hres : zWW G γ (k.1 + c, k.2 + s) H1 locs1 (F0 (zFm γ) (pc + 3) cls (st.map (zc ad2))) := hres
  rw [e2] at hres
  exact hres
theorem v_objI (ok : zOK G γ own cc nL fr lo) {w : zW} {r : Int} (hl : Cond.methodLink own idx objectInit ∈ zTb) (hi : Cond.instanceMethod objectInit ∈ zTb) (hc : Cond.code objectInit ⟨#[0xb1]⟩ 1 none ∈ zTb) (hf : 1 ≤ fr ∧ zcs st + 12 ≤ lo) (hd : decode cc pc = .ok (.invokespecial idx, 3)) (hn : pc + 3 = n) (kk : zVV G γ w k n ls st M) : zVV G γ w k pc ls (zr r :: st) M := by
  subst hn
  intro H locs cls h1 h2 h3
  refine W.objInit ok.1 ok.2.1 ok.2.2.2.1 (ok.2.2.2.2.1 _ hl) (ok.2.2.2.2.1 _ hi) (ok.2.2.2.2.1 _ hc) rfl (h3.1.trans rfl) rfl hd (Nat.le_trans hf.1 ok.2.2.2.2.2.2.1) ?_ (kk H locs cls h1 h2 h3)
  have h8 := ok.2.2.2.2.2.2.2
  show 2 * 0 + ((st.map (zc w.1)).map fun v => v.category).sum + 12 ≤ _
  rw [zcs_eq]
  omega
end ZCALLN
