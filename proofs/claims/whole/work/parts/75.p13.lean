/-! heaps that grow: worlds, new cells -/
def zadr (al : Int → Bool) (a n : Int) : Int → Bool := fun r => decide (a ≤ r ∧ r < a + n) || al r
def zrsa (rs : Int → Nat → Bool) (r : Int) (a m : Nat) : Int → Nat → Bool := fun r' k => decide (r' = r ∧ a ≤ k ∧ k < a + m) || rs r' k
/-- the region that a reference place holds -/
def ztg (r : Int) (k : Nat) : Int := if (zlay r).1 = 6 then zrf r k else (zlay r).2.2 + k
/-- what is set is of what is there, and holds what is there -/
def zwf (al : Int → Bool) (rs : Int → Nat → Bool) : Prop := ∀ r k, rs r k = true → al r = true ∧ al (ztg r k) = true
def zadf (ad : Int → Nat) (a n : Int) (q : Nat) : Int → Nat := fun r => if a ≤ r ∧ r < a + n then q + (r - a).toNat else ad r
/-- the regions a .. hold nothing but 0 -/
def zz (M : zM) (a n : Int) : Prop := ∀ r j, a ≤ r ∧ r < a + n → M r j = 0
theorem zadr_m {al : Int → Bool} {a n r : Int} (h : al r = true) : zadr al a n r = true := by
  unfold zadr
  rw [h, Bool.or_true]
theorem zadr_i {al : Int → Bool} {a n r : Int} (h : a ≤ r ∧ r < a + n) : zadr al a n r = true := by
  unfold zadr
  rw [decide_eq_true h, Bool.true_or]
theorem zadr_f {al : Int → Bool} {a n r : Int} (h : ¬ (a ≤ r ∧ r < a + n)) : zadr al a n r = al r := by
  unfold zadr
  rw [decide_eq_false h, Bool.false_or]
theorem zadr_o {al : Int → Bool} {a n r : Int} (h : zadr al a n r = true) : (a ≤ r ∧ r < a + n) ∨ al r = true := by
  unfold zadr at h
  rw [Bool.or_eq_true, decide_eq_true_eq] at h
  exact h
theorem zrsa_o {rs : Int → Nat → Bool} {r : Int} {a m : Nat} {r' : Int} {k : Nat} (h : zrsa rs r a m r' k = true) : (r' = r ∧ a ≤ k ∧ k < a + m) ∨ rs r' k = true := by
  unfold zrsa at h
  rw [Bool.or_eq_true, decide_eq_true_eq] at h
  exact h
theorem zrsa_i {rs : Int → Nat → Bool} {r : Int} {a m k : Nat} (h : a ≤ k ∧ k < a + m) : zrsa rs r a m r k = true := by
  unfold zrsa
  rw [decide_eq_true ⟨rfl, h⟩, Bool.true_or]
theorem zrsa_n {rs : Int → Nat → Bool} {r : Int} {a m : Nat} {r' : Int} (h : r' ≠ r) : zrsa rs r a m r' = rs r' := by
  funext k
  unfold zrsa
  rw [decide_eq_false (fun q => h q.1), Bool.false_or]
theorem zwf_a {al : Int → Bool} {rs : Int → Nat → Bool} {a n : Int} (h : zwf al rs) : zwf (zadr al a n) rs := fun r k q => ⟨zadr_m (h r k q).1, zadr_m (h r k q).2⟩
theorem zwf_s {al : Int → Bool} {rs : Int → Nat → Bool} {r : Int} {a m : Nat} (h : zwf al rs) (h1 : al r = true) (h2 : ∀ k, a ≤ k ∧ k < a + m → al (ztg r k) = true) : zwf al (zrsa rs r a m) := fun r' k q => by
  rcases zrsa_o q with ⟨e, q⟩ | q
  · rw [e]
    exact ⟨h1, h2 k q⟩
  · exact h r' k q
theorem zadf_o {ad : Int → Nat} {a n : Int} {q : Nat} {r : Int} (h : ¬ (a ≤ r ∧ r < a + n)) : zadf ad a n q r = ad r := if_neg h
theorem zadf_i {ad : Int → Nat} {a n : Int} {q : Nat} {r : Int} (h : a ≤ r ∧ r < a + n) : zadf ad a n q r = q + (r - a).toNat := if_pos h
theorem zce_old {G : zG} {ad ad' : Int → Nat} {al al' : Int → Bool} {rs rs' : Int → Nat → Bool} {M M' : zM} {r : Int} (wf : zwf al rs) (hM : M' r = M r) (hr : rs' r = rs r) (had : ∀ q, al q = true → ad' q = ad q) : zce G (ad', al', rs') M' r = zce G (ad, al, rs) M r := by
  have key : ∀ k, rs r k = true → ad' (ztg r k) = ad (ztg r k) := fun k h => had _ (wf r k h).2
  unfold zce
  by_cases h6 : (zlay r).1 = 6
  · rw [if_pos h6, if_pos h6]
    refine congrArg Sum.inr (congrArg (Prod.mk _) (List.map_congr_left fun k _ => ?_))
    show (if zft (zlay r).2.1 k = 0 then Value.int (Int32.ofInt (M' r k)) else if zft (zlay r).2.1 k = 1 then Value.long (Int64.ofInt (M' r k)) else if rs' r k = true then Value.ref (ad' (zrf r k)) else Value.null) = (if zft (zlay r).2.1 k = 0 then Value.int (Int32.ofInt (M r k)) else if zft (zlay r).2.1 k = 1 then Value.long (Int64.ofInt (M r k)) else if rs r k = true then Value.ref (ad (zrf r k)) else Value.null)
    rw [hM]
    have e2 : (if rs' r k = true then Value.ref (ad' (zrf r k)) else Value.null) = (if rs r k = true then Value.ref (ad (zrf r k)) else Value.null) := by
      have hrk : rs' r k = rs r k := by rw [hr]
      by_cases e : rs r k = true
      · have := key k e
        unfold ztg at this
        rw [if_pos h6] at this
        rw [if_pos e, if_pos (hrk.trans e), this]
      · rw [if_neg e, if_neg (fun z => e (hrk.symm.trans z))]
    rw [e2]
  · rw [if_neg h6, if_neg h6]
    have e : zct (ad', al', rs') M' r (zlay r).1 (zlay r).2.2 = zct (ad, al, rs) M r (zlay r).1 (zlay r).2.2 := by
      have e2 : (fun j : Nat => if rs' r j = true then some (ad' ((zlay r).2.2 + j)) else none) = (fun j : Nat => if rs r j = true then some (ad ((zlay r).2.2 + j)) else none) := by
        funext j
        have hrk : rs' r j = rs r j := by rw [hr]
        by_cases e : rs r j = true
        · have := key j e
          unfold ztg at this
          rw [if_neg h6] at this
          rw [if_pos e, if_pos (hrk.trans e), this]
        · rw [if_neg e, if_neg (fun z => e (hrk.symm.trans z))]
      show (if (zlay r).1 ≤ 1 then _ else if (zlay r).1 = 2 then _ else Sum.inr (Sum.inr (Sum.inr (Sum.inr (fun j : Nat => if rs' r j = true then some (ad' ((zlay r).2.2 + j)) else none))))) = (if (zlay r).1 ≤ 1 then _ else if (zlay r).1 = 2 then _ else Sum.inr (Sum.inr (Sum.inr (Sum.inr (fun j : Nat => if rs r j = true then some (ad ((zlay r).2.2 + j)) else none)))))
      rw [e2, hM]
    rw [e]
theorem zHo_new {G : zG} {ad ad' : Int → Nat} {al al' : Int → Bool} {rs rs' : Int → Nat → Bool} {M M' : zM} {H H1 : Heap} {N : Int → Prop} (hH : zHo G (ad, al, rs) M H) (wf : zwf al rs) (hz : H.size ≤ H1.size) (hk : ∀ q : Nat, q < H.size → H1[q]? = H[q]?)
    (had : ∀ r, al r = true → ad' r = ad r) (hg : ∀ r, 300 ≤ r → ad' r = ad r) (hM : ∀ r, al r = true → M' r = M r ∧ rs' r = rs r) (hN : ∀ r, al' r = true → N r ∨ al r = true) (hn : ∀ r, N r → H.size ≤ ad' r ∧ va_at (zGD G) zcl (ad' r, zce G (ad', al', rs') M' r) H1) (hi : ∀ r r', N r → N r' → ad' r = ad' r' → r = r') : zHo G (ad', al', rs') M' H1 := by
  obtain ⟨a1, a2, a3, a4, a5⟩ := hH
  have lt : ∀ r, al r = true → (zlay r).1 ≤ 6 → ad r < H.size := fun r h h6 => (a3 r ⟨h, h6⟩).2.lt
  refine ⟨Nat.le_trans a1 hz, fun q hq => ?_, fun r hr => ?_, fun r r' hr hr' e => ?_, fun r hr => ?_⟩
  · rw [hk q (by omega)]
    exact a2 q hq
  · rcases hN r hr.1 with h | h
    · exact ⟨Nat.le_trans a1 (hn r h).1, (hn r h).2⟩
    · have h1 := a3 r ⟨h, hr.2⟩
      show zGn G ≤ ad' r ∧ va_at (zGD G) zcl (ad' r, zce G (ad', al', rs') M' r) H1
      rw [had r h, zce_old wf (hM r h).1 (hM r h).2 had]
      exact ⟨h1.1, h1.2.kept (hk _ h1.2.lt)⟩
  · have e : ad' r = ad' r' := e
    rcases hN r hr.1 with h | h
    · rcases hN r' hr'.1 with h' | h'
      · exact hi r r' h h' e
      · have h1 := (hn r h).1
        have h2 := lt r' h' hr'.2
        rw [had r' h'] at e
        omega
    · rcases hN r' hr'.1 with h' | h'
      · have h1 := (hn r' h').1
        have h2 := lt r h hr.2
        rw [had r h] at e
        omega
      · rw [had r h, had r' h'] at e
        exact a4 r r' ⟨h, hr.2⟩ ⟨h', hr'.2⟩ e
  · show ad' r = zGa G r
    rw [hg r hr]
    exact a5 r hr
/-- a value, a local that is there -/
def zvl (al : Int → Bool) : zV → Bool
  | .inr (.inr r) => al r
  | _ => true
def zol (al : Int → Bool) : Option zV → Bool
  | some v => zvl al v
  | none => true
theorem zc_e {ad ad' : Int → Nat} {al : Int → Bool} (had : ∀ r, al r = true → ad' r = ad r) {v : zV} (h : zvl al v = true) : zc ad' v = zc ad v := by
  rcases v with x | x | r
  · rfl
  · rfl
  · show Value.ref (ad' r) = Value.ref (ad r)
    rw [had r h]
theorem zst_e {ad ad' : Int → Nat} {al : Int → Bool} (had : ∀ r, al r = true → ad' r = ad r) {st : List zV} (h : st.all (zvl al) = true) : st.map (zc ad') = st.map (zc ad) := List.map_congr_left fun v hv => zc_e had (List.all_eq_true.mp h v hv)
theorem zlh_e {ad ad' : Int → Nat} {al : Int → Bool} (had : ∀ r, al r = true → ad' r = ad r) {cls : Array Slot} {nL : Nat} {ls : zL} (h : ls.all (zol al) = true) (hl : zlh ad cls nL ls) : zlh ad' cls nL ls := by
  refine zlh_sub hl fun i v hv => ?_
  have h1 : zol al (some v) = true := List.all_eq_true.mp h _ (List.mem_of_getElem? hv)
  rw [zc_e had h1]
  exact zll_mem.mpr ⟨v, hv, rfl⟩
section ZNEW
variable {G : zG} {γ : zF} {ad : Int → Nat} {al : Int → Bool} {rs : Int → Nat → Bool} {k : Nat × Nat} {own : String} {cc : ByteArray} {nL fr lo pc n : Nat} {ls : zL} {st : List zV} {M : zM}
/-- the default of a field -/
def zfd (t : Nat) : Value := if t = 0 then .int 0 else if t = 1 then .long 0 else .null
theorem zfv_d {w : zW} {R : Int} {c j : Nat} (hM : M R j = 0) (hr : w.2.2 R j = false) : zfv w M R c j = zfd (zft c j) := by
  unfold zfv zfd
  rw [hM, hr]
  rfl
theorem znlv {al : Int → Bool} {rs : Int → Nat → Bool} {R : Int} (wf : zwf al rs) (hf : al R = false) (j : Nat) : rs R j = false := by
  cases h : rs R j with
  | false => rfl
  | true =>
    have := (wf R j h).1
    rw [hf] at this
    cases this
theorem zadf_s {al : Int → Bool} {R : Int} (hf : al R = false) (q : Nat) : ∀ r, al r = true → zadf ad R 1 q r = ad r := fun r h => zadf_o (fun z => by
  rw [show R = r by omega, h] at hf
  cases hf)
theorem v_newO (ok : zOK G γ own cc nL fr lo) {idx c N : Nat} {R b : Int} {C : String} {T : u_T} (wf : zwf al rs) (hc : zcl[c]? = some (C, T, N)) (hl : zlay R = (6, c, b)) (hN : znf c = N) (ty : Nat → FieldType) (hty : ∀ j, j < N → parseFieldDescriptor (T j).2.2.1 = some (ty j)) (hdf : ∀ j, j < N → defaultValue (ty j) = zfd (zft c j)) (hin : ∀ w ∈ u_ws C T N, w ∈ zTb)
    (hcl : Cond.classLink own idx C ∈ zTb) (hinst : Cond.instantiable C N ∈ zTb) (hini : Cond.initialized C ∈ zTb) (hf : al R = false) (h3 : R < 300) (hz : zz M R 1) (hk : k.1 + 1 ≤ (zFR γ).cells ∧ k.2 + N ≤ (zFR γ).slots) (hst : st.all (zvl al) = true) (hls : ls.all (zol al) = true) (hd : decode cc pc = .ok (.new idx, 3)) (hn : pc + 3 = n)
    (kk : ∀ q, zVV G γ (zadf ad R 1 q, zadr al R 1, rs) (k.1 + 1, k.2 + N) n ls (zr R :: st) M) : zVV G γ (ad, al, rs) k pc ls st M := by
  subst hn
  intro H locs cls h1 h2 h3l
  have hKn := ok.2.2.2.2.2.1.1.1 c _ hc
  refine W.newcK ok.1 ok.2.1 ok.2.2.2.1 (ok.2.2.2.2.1 _ hcl) (ok.2.2.2.2.1 _ hinst) (ok.2.2.2.2.1 _ hini) rfl hd hk.1 hk.2 hKn.2.1 rfl fun H1 kC hkC e1 z1 o1 => ?_
  have had := zadf_s (ad := ad) hf H.size
  have hb := u_born ty ok.2.2.2.2.1 hin hKn hkC e1 hty
  have hR : zadf ad R 1 H.size R = H.size := by
    rw [zadf_i (by omega)]
    omega
  have hH := zHo_new (N := fun r => r = R) (H1 := H1) (M' := M) (rs' := rs) (al' := zadr al R 1) h1 wf (by omega) o1 had (fun r hr => zadf_o (by omega)) (fun r _ => ⟨rfl, rfl⟩) (fun r hr => by
    rcases zadr_o hr with z | z
    · exact Or.inl (by omega)
    · exact Or.inr z) (fun r hr => by
    subst hr
    rw [hR]
    refine ⟨Nat.le_refl _, ?_⟩
    have e : zce G (zadf ad r 1 H.size, zadr al r 1, rs) M r = .inr (c, (List.range (znf c)).map (fun i => zfv (zadf ad r 1 H.size, zadr al r 1, rs) M r c i)) := by
      unfold zce
      rw [hl]
      exact if_pos rfl
    rw [e]
    refine ⟨_, hc, t_OB.to hb (fun j hj => ?_)⟩
    have hj : j < N := hj
    show defaultValue (ty j) = _
    rw [hdf j hj, zvp (by omega), zfv_d (hz r j (by omega)) (znlv wf hf j)]) (fun r r' hr hr' _ => hr.trans hr'.symm)
  have hres := kk H.size H1 locs cls hH ⟨by have := h2.1; omega, fun q a1 a2 => (o1 q (by have := h2.1; omega)).trans (h2.2.1 q a1 a2), h2.2.2⟩ (zlh_e had hls h3l)
  rw [List.map_cons] at hres
  have e2 : st.map (zc (zadf ad R 1 H.size)) = st.map (zc ad) := zst_e had hst
  have e3 : zc (zadf ad R 1 H.size) (zr R) = .ref H.size := by
    show Value.ref _ = _
    rw [hR]
  have hres : zWW G γ (k.1 + 1, k.2 + N) H1 locs (F0 (zFm γ) (pc + 3) cls (zc (zadf ad R 1 H.size) (zr R) :: st.map (zc (zadf ad R 1 H.size)))) := hres
  rw [e2, e3] at hres
  exact hres
/-- a cell that is one array more -/
theorem znewA (ok : zOK G γ own cc nL fr lo) {t m : Nat} {R b : Int} {H H1 : Heap} (wf : zwf al rs) (hl : zlay R = (t, m, b)) (ht : t < 6) (hf : al R = false) (h3 : R < 300) (hz : zz M R 1) (h1 : zHo G (ad, al, rs) M H) (z1 : H1.size = H.size + 1) (o1 : ∀ q : Nat, q < H.size → H1[q]? = H[q]?) (e1 : H1[H.size]? = some (arrV (zGc G t) m (fun _ => if t < 2 then .int 0 else if t = 2 then .long 0 else .null))) :
    zHo G (zadf ad R 1 H.size, zadr al R 1, rs) M H1 ∧ zadf ad R 1 H.size R = H.size ∧ ∀ r, al r = true → zadf ad R 1 H.size r = ad r := by
  have had := zadf_s (ad := ad) hf H.size
  have hR : zadf ad R 1 H.size R = H.size := by
    rw [zadf_i (by omega)]
    omega
  refine ⟨zHo_new (N := fun r => r = R) (H1 := H1) (M' := M) (rs' := rs) (al' := zadr al R 1) h1 wf (by omega) o1 had (fun r hr => zadf_o (by omega)) (fun r _ => ⟨rfl, rfl⟩) (fun r hr => by
    rcases zadr_o hr with z | z
    · exact Or.inl (by omega)
    · exact Or.inr z) (fun r hr => ?_) (fun r r' hr hr' _ => hr.trans hr'.symm), hR, had⟩
  subst hr
  rw [hR]
  refine ⟨Nat.le_refl _, ?_⟩
  have e : zce G (zadf ad r 1 H.size, zadr al r 1, rs) M r = .inl (zGc G t, m, zct (zadf ad r 1 H.size, zadr al r 1, rs) M r t b) := by
    unfold zce
    rw [hl]
    exact if_neg (by show ¬ t = 6; omega)
  rw [e]
  show H1[H.size]? = some (vp_cell (zGc G t) (m, zct _ M r t b))
  rw [e1]
  have hM : ∀ j : Nat, M r j = 0 := fun j => hz r j (by omega)
  have hr := znlv wf hf
  unfold zct
  by_cases t1 : t ≤ 1
  · rw [if_pos t1, if_pos (by omega), vp_cell_i]
    simp only [hM]
    rfl
  · rw [if_neg t1, if_neg (by omega)]
    by_cases t2 : t = 2
    · rw [if_pos t2, if_pos t2, vp_cell_l]
      simp only [hM]
      rfl
    · rw [if_neg t2, if_neg t2, vp_cell_q]
      simp only [hr]
      rfl
theorem zpush {H : Heap} {x : Cell} : (H.push x).size = H.size + 1 ∧ (∀ q : Nat, q < H.size → (H.push x)[q]? = H[q]?) ∧ (H.push x)[H.size]? = some x := ⟨Array.size_push _, fun q hq => by rw [Array.getElem?_push, if_neg (Nat.ne_of_lt hq)], Array.getElem?_push_size⟩
theorem v_newA (ok : zOK G γ own cc nL fr lo) {atype : ArrayType} {t m : Nat} {R b mi : Int} (wf : zwf al rs) (hl : zlay R = (t, m, b)) (ht : t < 3) (hty : newarray.typeOf atype = zty t) (harr : Cond.arrayClass (newarray.typeOf atype) ∈ zTb) (hf : al R = false) (h3 : R < 300) (hz : zz M R 1) (hm : (m : Int) = mi) (hmb : m ≤ 100000) (hk : k.1 + 1 ≤ (zFR γ).cells ∧ k.2 + m ≤ (zFR γ).slots) (hst : st.all (zvl al) = true) (hls : ls.all (zol al) = true) (hd : decode cc pc = .ok (.newarray atype, 2)) (hn : pc + 2 = n)
    (kk : ∀ q, zVV G γ (zadf ad R 1 q, zadr al R 1, rs) (k.1 + 1, k.2 + m) n ls (zr R :: st) M) : zVV G γ (ad, al, rs) k pc ls (zi mi :: st) M := by
  subst hn
  subst hm
  intro H locs cls h1 h2 h3l
  have hcl : (Int32.ofInt (m : Int)).toNatClampNeg = m := by rw [zn_clamp (by omega)]; omega
  have hcb : ∀ ty : FieldType, componentBytes ty ≤ 8 := fun ty => by cases ty <;> simp [componentBytes]
  have hb8 : m * componentBytes (newarray.typeOf atype) ≤ 536870912 := by
    have := Nat.mul_le_mul_left m (hcb (newarray.typeOf atype))
    omega
  refine W.newa ok.1 ok.2.1 (ok.2.2.2.2.1 _ harr) rfl hd rfl (zn_neg (by omega)) (by rw [hcl]; exact hb8) hk.1 (by rw [hcl]; exact hk.2) fun cA kA comp f1 f2 f3 => ?_
  rw [hcl]
  have hRA := (zKn_arr ok.2.2.2.2.2.1 (t := t) (by omega)).2
  have hcA : cA = zGc G t := by
    rw [hty] at f1
    have h9 : (zFs γ).vm.findClass ("[" ++ (zty t).toString) = some (zGc G t) := by
      obtain rfl | rfl | rfl : t = 0 ∨ t = 1 ∨ t = 2 := by omega
      · exact hRA
      · exact hRA
      · exact hRA
    exact Option.some.inj (f1.symm.trans h9)
  subst hcA
  generalize hH1 : H.push ({ cls := zGc G t, slots := Array.replicate m (defaultValue (newarray.typeOf atype)) } : Cell) = H1
  obtain ⟨z1, o1, e1⟩ := zpush (H := H) (x := ({ cls := zGc G t, slots := Array.replicate m (defaultValue (newarray.typeOf atype)) } : Cell))
  rw [hH1] at z1 o1 e1
  have hdv : (fun _ : Nat => defaultValue (newarray.typeOf atype)) = (fun _ => if t < 2 then .int 0 else if t = 2 then .long 0 else .null) := by
    rw [hty]
    obtain rfl | rfl | rfl : t = 0 ∨ t = 1 ∨ t = 2 := by omega
    · rfl
    · rfl
    · rfl
  obtain ⟨hH, hR, had⟩ := znewA ok wf hl (by omega) hf h3 hz h1 z1 o1 (by rw [e1, ← hdv, ← arrV_new])
  have hres := kk H.size H1 locs cls hH ⟨by have := h2.1; omega, fun q a1 a2 => (o1 q (by have := h2.1; omega)).trans (h2.2.1 q a1 a2), h2.2.2⟩ (zlh_e had hls h3l)
  have e2 : st.map (zc (zadf ad R 1 H.size)) = st.map (zc ad) := zst_e had hst
  have e3 : zc (zadf ad R 1 H.size) (zr R) = .ref H.size := by
    show Value.ref _ = _
    rw [hR]
  have hres : zWW G γ (k.1 + 1, k.2 + m) H1 locs (F0 (zFm γ) (pc + 2) cls (zc (zadf ad R 1 H.size) (zr R) :: st.map (zc (zadf ad R 1 H.size)))) := hres
  rw [e2, e3] at hres
  exact hres
theorem v_newS (ok : zOK G γ own cc nL fr lo) {idx m : Nat} {R b mi : Int} (wf : zwf al rs) (hl : zlay R = (5, m, b)) (hcl : Cond.classLink own idx RX3 ∈ zTb) (hover : ∀ a, (Cond.arrayOver (.object RX3)).before a (zFs γ) = true) (hf : al R = false) (h3 : R < 300) (hz : zz M R 1) (hm : (m : Int) = mi) (hmb : m ≤ 100000) (hk : k.1 + 1 ≤ (zFR γ).cells ∧ k.2 + m ≤ (zFR γ).slots) (hst : st.all (zvl al) = true) (hls : ls.all (zol al) = true) (hd : decode cc pc = .ok (.anewarray idx, 3)) (hn : pc + 3 = n)
    (kk : ∀ q, zVV G γ (zadf ad R 1 q, zadr al R 1, rs) (k.1 + 1, k.2 + m) n ls (zr R :: st) M) : zVV G γ (ad, al, rs) k pc ls (zi mi :: st) M := by
  subst hn
  subst hm
  intro H locs cls h1 h2 h3l
  have hcm : (Int32.ofInt (m : Int)).toNatClampNeg = m := by rw [zn_clamp (by omega)]; omega
  refine W.anew ok.1 ok.2.1 ok.2.2.2.1 (ok.2.2.2.2.1 _ hcl) (hover _) rfl hd rfl (zn_neg (by omega)) (by rw [hcm]; omega) hk.1 (by rw [hcm]; exact hk.2) fun cA kA comp f1 f2 f3 f4 => ?_
  rw [hcm]
  obtain ⟨_, _, _, _, _, h9⟩ := (zKn_arr ok.2.2.2.2.2.1 (t := 5) (by omega)).2
  have hcA : cA = zGc G 5 := Option.some.inj (f1.symm.trans h9)
  subst hcA
  generalize hH1 : H.push ({ cls := zGc G 5, slots := Array.replicate m .null } : Cell) = H1
  obtain ⟨z1, o1, e1⟩ := zpush (H := H) (x := ({ cls := zGc G 5, slots := Array.replicate m .null } : Cell))
  rw [hH1] at z1 o1 e1
  obtain ⟨hH, hR, had⟩ := znewA ok wf hl (by omega) hf h3 hz h1 z1 o1 (by rw [e1, ← arrV_new]; rfl)
  have hres := kk H.size H1 locs cls hH ⟨by have := h2.1; omega, fun q a1 a2 => (o1 q (by have := h2.1; omega)).trans (h2.2.1 q a1 a2), h2.2.2⟩ (zlh_e had hls h3l)
  have e2 : st.map (zc (zadf ad R 1 H.size)) = st.map (zc ad) := zst_e had hst
  have e3 : zc (zadf ad R 1 H.size) (zr R) = .ref H.size := by
    show Value.ref _ = _
    rw [hR]
  have hres : zWW G γ (k.1 + 1, k.2 + m) H1 locs (F0 (zFm γ) (pc + 3) cls (zc (zadf ad R 1 H.size) (zr R) :: st.map (zc (zadf ad R 1 H.size)))) := hres
  rw [e2, e3] at hres
  exact hres
end ZNEW
