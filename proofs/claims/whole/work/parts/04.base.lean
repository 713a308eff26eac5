/-! values, memory, the heap that holds it, the judgement -/
abbrev zV : Type := Int ⊕ (Int ⊕ Int)
abbrev zi (x : Int) : zV := .inl x
abbrev zj (x : Int) : zV := .inr (.inl x)
abbrev zr (r : Int) : zV := .inr (.inr r)
abbrev zM : Type := Int → Int → Int
def zc (ad : Int → Nat) : zV → Value
  | .inl x => .int (Int32.ofInt x)
  | .inr (.inl x) => .long (Int64.ofInt x)
  | .inr (.inr r) => .ref (ad r)
/-- a launch's constants: launch, class numbers and slots, array classes by sort, the first cell of ours, the heap ahead of ours, the cells of the tables (regions 300 ..), their lengths, their contents -/
abbrev zG : Type := Launch × va_G × (Nat → ClassId) × Nat × Heap × (Int → Nat) × (Int → Nat) × (Int → Int → Int)
abbrev zGl (G : zG) : Launch := G.1
abbrev zGD (G : zG) : va_G := G.2.1
abbrev zGc (G : zG) : Nat → ClassId := G.2.2.1
abbrev zGn (G : zG) : Nat := G.2.2.2.1
abbrev zGh (G : zG) : Heap := G.2.2.2.2.1
abbrev zGa (G : zG) : Int → Nat := G.2.2.2.2.2.1
abbrev zGs (G : zG) : Int → Nat := G.2.2.2.2.2.2.1
abbrev zGt (G : zG) : Int → Int → Int := G.2.2.2.2.2.2.2
/-- where the regions lie, which there are, which reference places are set -/
abbrev zW : Type := (Int → Nat) × (Int → Bool) × (Int → Nat → Bool)
def zA (G : zG) : Nat → Prop := fun q => zGn G ≤ q
abbrev zcl : List vw_C := [(RX0, TX0, 3), (RX1, TX1, 5), (RX2, TX2, 6), (RX3, TX3, 4), (RX4, TX4, 4), (RX5, TX5, 2), (RX6, TX6, 4), (RX7, TX7, 9), (RX8, TX8, 32)]
def zty (t : Nat) : FieldType := match t with
  | 0 => .int
  | 1 => .boolean
  | 2 => .long
  | 3 => .array .int
  | 4 => .array .long
  | _ => .object RX3
abbrev ztys (G : zG) : List (ClassId × FieldType) := (List.range 6).map (fun t => (zGc G t, zty t))
def zfv (w : zW) (M : zM) (r : Int) (c k : Nat) : Value :=
  if zft c k = 0 then .int (Int32.ofInt (M r k)) else if zft c k = 1 then .long (Int64.ofInt (M r k)) else if w.2.2 r k = true then .ref (w.1 (zrf r k)) else .null
def zct (w : zW) (M : zM) (r : Int) (t : Nat) (b : Int) : (Nat → Int32) ⊕ (Nat → Int64) ⊕ (Nat → UInt32) ⊕ (Nat → UInt64) ⊕ (Nat → Option Nat) :=
  if t ≤ 1 then .inl (fun j => Int32.ofInt (M r j)) else if t = 2 then .inr (.inl (fun j => Int64.ofInt (M r j))) else .inr (.inr (.inr (.inr (fun j => if w.2.2 r j = true then some (w.1 (b + j)) else none))))
def zce (G : zG) (w : zW) (M : zM) (r : Int) : va_E :=
  if (zlay r).1 = 6 then .inr ((zlay r).2.1, (List.range (znf (zlay r).2.1)).map (fun k => zfv w M r (zlay r).2.1 k)) else .inl (zGc G (zlay r).1, (zlay r).2.1, zct w M r (zlay r).1 (zlay r).2.2)
def zlv (w : zW) (r : Int) : Prop := w.2.1 r = true ∧ (zlay r).1 ≤ 6
def zHo (G : zG) (w : zW) (M : zM) (H : Heap) : Prop :=
  zGn G ≤ H.size ∧ (∀ q, q < zGn G → H[q]? = (zGh G)[q]?) ∧ (∀ r, zlv w r → zGn G ≤ w.1 r ∧ va_at (zGD G) zcl (w.1 r, zce G w M r) H) ∧ (∀ r r', zlv w r → zlv w r' → w.1 r = w.1 r' → r = r') ∧ (∀ r, 300 ≤ r → w.1 r = zGa G r)
/-- the words that ride with every method -/
def zTb : List Cond := lw_tbl.filter goodWord
def zisN : Cond → Bool
  | .fieldLinkNest .. => true
  | .methodLinkNest .. => true
  | _ => false
def zNs : List Cond := tables_1.filter zisN
def zsn (k : Int) : String := if k = 300 then "BRIDE_LEAST" else if k = 301 then "BRIDE_MOST" else if k = 302 then "SHOE_LEAST" else if k = 303 then "SHOE_MOST" else if k = 304 then "GIVES" else "LET_OUT"
/-- the class's own tables: lengths, contents -/
def ztl (k : Int) : Nat := if k = 302 then 3 else if k = 303 then 3 else 4
def ztab (k : Int) (j : Int) : Int :=
  if k = 300 then ([20, 20, 0, 0] : List Int).getD j.toNat 0 else if k = 301 then ([60, 60, 4, 11] : List Int).getD j.toNat 0 else if k = 302 then ([0, 20, 0] : List Int).getD j.toNat 0 else
  if k = 303 then ([1, 70, 3] : List Int).getD j.toNat 0 else if k = 304 then ([0, 0, 1, 2] : List Int).getD j.toNat 0 else ([6, 0, 6, 1] : List Int).getD j.toNat 0
/-- what holds of the machine's tables at a state -/
def zKn (G : zG) (U : State) : Prop :=
  va_K (zGD G) zcl (ztys G) U ∧ (∀ k : Int, 300 ≤ k → k < 306 → va_Z RX7 (zsn k) "[I" (.ref (zGa G k)) (zA G) U (zGh G)) ∧
  (∀ k : Int, 300 ≤ k → k < 307 → va_T .int (zGa G k) (zGs G k) (fun j => .int (Int32.ofInt (zGt G k j))) (zA G) U (zGh G)) ∧ (∀ w ∈ zNs, va_Nw w U) ∧ zGn G ≤ (zGh G).size ∧ ∀ k : Int, 300 ≤ k → k < 306 → zGs G k = ztl k ∧ zGt G k = ztab k
theorem zKn_nest {w : Cond} (h : w ∈ zNs) {s U : State} (hW : s.WarmedH U.vm) (hZ : va_Nw w s) : va_Nw w U := by
  have h1 := (List.mem_filter.mp h).2
  cases w <;> first | (cases h1; done) | exact va_Nw.warmF hW hZ | exact va_Nw.warmM hW hZ
theorem zKn_warm {G : zG} {s U : State} (hW : s.WarmedH U.vm) (h : zKn G s) : zKn G U :=
  ⟨va_K.moved hW.alike h.1, fun k h1 h2 => va_Z.moved hW.alike (h.2.1 k h1 h2), fun k h1 h2 => va_T.moved hW.alike (h.2.2.1 k h1 h2), fun w hw => zKn_nest hw hW (h.2.2.2.1 w hw), h.2.2.2.2⟩
theorem zKn_same {G : zG} {s U : State} (e : U.vm = s.vm) (h : zKn G s) : zKn G U :=
  ⟨va_K.moved (by rw [e]; exact Vm.Alike.refl _) h.1, fun k h1 h2 => va_Z.moved (by rw [e]; exact Vm.Alike.refl _) (h.2.1 k h1 h2), fun k h1 h2 => va_T.moved (by rw [e]; exact Vm.Alike.refl _) (h.2.2.1 k h1 h2), fun w hw => by
    have h1 := (List.mem_filter.mp hw).2
    have h2 := h.2.2.2.1 w hw
    cases w <;> first | (cases h1; done) | exact va_Nw.same rfl e.symm h2, h.2.2.2.2⟩
theorem zc_i (ad : Int → Nat) (x : Int) : zc ad (zi x) = .int (Int32.ofInt x) := rfl
theorem zc_j (ad : Int → Nat) (x : Int) : zc ad (zj x) = .long (Int64.ofInt x) := rfl
theorem zc_r (ad : Int → Nat) (x : Int) : zc ad (zr x) = .ref (ad x) := rfl
/-! locals -/
abbrev zL : Type := List (Option zV)
def zll (ad : Int → Nat) (ls : zL) : List (Nat × Value) := (List.range ls.length).filterMap (fun i => match ls[i]? with
  | some (some v) => some (i, zc ad v)
  | _ => none)
theorem zll_mem {ad : Int → Nat} {ls : zL} {q : Nat × Value} : q ∈ zll ad ls ↔ ∃ v, ls[q.1]? = some (some v) ∧ q.2 = zc ad v := by
  unfold zll
  rw [List.mem_filterMap]
  constructor
  · rintro ⟨i, -, h⟩
    split at h
    · next v hv => cases h; exact ⟨v, hv, rfl⟩
    · cases h
  · rintro ⟨v, hv, e⟩
    refine ⟨q.1, List.mem_range.mpr (List.getElem?_eq_some_iff.mp hv).1, ?_⟩
    rw [hv]
    show some (q.1, zc ad v) = some q
    rw [← e]
def zlh (ad : Int → Nat) (cls : Array Slot) (nL : Nat) (ls : zL) : Prop := lv_has cls nL (zll ad ls)
theorem zlh_get {ad : Int → Nat} {cls : Array Slot} {nL : Nat} {ls : zL} (h : zlh ad cls nL ls) {i : Nat} {v : zV} (hv : ls[i]? = some (some v)) : cls[i]? = some (.val (zc ad v)) :=
  h.2.2 (i, zc ad v) (zll_mem.mpr ⟨v, hv, rfl⟩)
theorem zlh_sub {ad : Int → Nat} {cls : Array Slot} {nL : Nat} {l : List (Nat × Value)} {ls : zL} (h : lv_has cls nL l) (hs : ∀ (i : Nat) (v : zV), ls[i]? = some (some v) → (i, zc ad v) ∈ l) : zlh ad cls nL ls :=
  ⟨h.1, h.2.1, fun q hq => by
    obtain ⟨v, hv, e⟩ := zll_mem.mp hq
    have := h.2.2 (q.1, zc ad v) (hs q.1 v hv)
    rw [← e] at this
    exact this⟩
def zlong : Option zV → Bool
  | some (.inr (.inl _)) => true
  | _ => false
theorem zc_cat (ad : Int → Nat) (v : zV) : (zc ad v).category = if zlong (some v) = true then 2 else 1 := by
  rcases v with x | x | x <;> rfl
/-- storing at i a value of one word, where no long stands ahead -/
theorem zlh_set1 {ad : Int → Nat} {cls : Array Slot} {nL : Nat} {ls : zL} {i : Nat} {v : zV} (h : zlh ad cls nL ls) (hi : i < nL) (h1 : zlong (some v) = false) (h2 : ∀ j : Nat, j + 1 = i → zlong ((ls[j]?).getD none) = false) :
    ∃ cls', storeLocals cls i (zc ad v) = some cls' ∧ zlh ad cls' nL (ls.set i (some v)) := by
  obtain ⟨cls', e, h'⟩ := lv_store1 (v := zc ad v) h hi (by rw [zc_cat, h1]; rfl)
  refine ⟨cls', e, zlh_sub h' fun j u hu => ?_⟩
  by_cases hji : j = i
  · subst hji
    rw [List.getElem?_set_self'] at hu
    cases hl : ls[j]? with
    | none => rw [hl] at hu; simp at hu
    | some y =>
      rw [hl] at hu
      simp at hu
      subst hu
      exact List.mem_cons_self
  · rw [List.getElem?_set_ne (fun q => hji q.symm)] at hu
    refine List.mem_cons_of_mem _ (List.mem_filter.mpr ⟨zll_mem.mpr ⟨u, hu, rfl⟩, ?_⟩)
    by_cases hj1 : j + 1 = i
    · have := h2 j hj1
      rw [hu] at this
      have h3 : (zc ad u).category = 1 := by rw [zc_cat]; simp at this; simp [this]
      simp [hji, h3]
    · simp [hji, hj1]
/-- a long at i and i + 1 -/
theorem zlh_set2 {ad : Int → Nat} {cls : Array Slot} {nL : Nat} {ls : zL} {i : Nat} {x : Int} (h : zlh ad cls nL ls) (hi : i + 1 < nL) (h2 : ∀ j : Nat, j + 1 = i → zlong ((ls[j]?).getD none) = false) :
    ∃ cls', storeLocals cls i (zc ad (zj x)) = some cls' ∧ zlh ad cls' nL ((ls.set i (some (zj x))).set (i + 1) none) := by
  obtain ⟨cls', e, h'⟩ := lv_store2 (v := zc ad (zj x)) h hi rfl
  refine ⟨cls', e, zlh_sub h' fun j u hu => ?_⟩
  by_cases hj2 : j = i + 1
  · subst hj2
    rw [List.getElem?_set_self'] at hu
    simp at hu
  · rw [List.getElem?_set_ne (fun q => hj2 q.symm)] at hu
    by_cases hji : j = i
    · subst hji
      rw [List.getElem?_set_self'] at hu
      cases hl : ls[j]? with
      | none => rw [hl] at hu; simp at hu
      | some y =>
        rw [hl] at hu
        simp at hu
        subst hu
        exact List.mem_cons_self
    · rw [List.getElem?_set_ne (fun q => hji q.symm)] at hu
      refine List.mem_cons_of_mem _ (List.mem_filter.mpr ⟨zll_mem.mpr ⟨u, hu, rfl⟩, ?_⟩)
      by_cases hj1 : j + 1 = i
      · have := h2 j hj1
        rw [hu] at this
        have h3 : (zc ad u).category = 1 := by rw [zc_cat]; simp at this; simp [this]
        simp [hji, hj2, h3]
      · simp [hji, hj1, hj2]
/-! the judgement -/
abbrev zF : Type := Program × Env × Room × State × MethodId × Array Value × List Frame × Method × Code × (State → Prop)
abbrev zFR (γ : zF) : Room := γ.2.2.1
abbrev zFs (γ : zF) : State := γ.2.2.2.1
abbrev zFm (γ : zF) : MethodId := γ.2.2.2.2.1
abbrev zFa (γ : zF) : Array Value := γ.2.2.2.2.2.1
abbrev zFt (γ : zF) : Method := γ.2.2.2.2.2.2.2.1
abbrev zFc (γ : zF) : Code := γ.2.2.2.2.2.2.2.2.1
abbrev zWW (G : zG) (γ : zF) (k : Nat × Nat) (H : Heap) (locs : List Loc) (g : JFrame) : Prop :=
  W γ.1 (zGl G) γ.2.1 (zFR γ) (zFs γ) (zFm γ) (zFa γ) γ.2.2.2.2.2.2.1 (zFt γ) (zFc γ) H locs k.1 k.2 γ.2.2.2.2.2.2.2.2.2 g
def zVV (G : zG) (γ : zF) (w : zW) (k : Nat × Nat) (pc : Nat) (ls : zL) (st : List zV) (M : zM) : Prop :=
  ∀ (H : Heap) (locs : List Loc) (cls : Array Slot), zHo G w M H → va_S (zA G) (zFs γ).heap H locs → zlh w.1 cls (zFc γ).maxLocals ls →
    zWW G γ k H locs (F0 (zFm γ) pc cls (st.map (zc w.1)))
/-- what holds all along a method's walk -/
def zOK (G : zG) (γ : zF) (own : String) (cc : ByteArray) (nL fr lo : Nat) : Prop :=
  γ.1.tables.exec = Jvm.exec ∧ (zFc γ).code = cc ∧ (zFc γ).maxLocals = nL ∧ (zFs γ).vm.findClass own = some (zFm γ).cls ∧ (∀ w ∈ zTb, w.before (zFa γ) (zFs γ) = true) ∧ zKn G (zFs γ) ∧ fr ≤ (zFR γ).frames ∧ lo ≤ (zFR γ).locals
