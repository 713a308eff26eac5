/-! an array of arrays is made -/
/-- its rows made so far, and the places that hold them -/
def zfo2 (h0 i : Nat) : Nat → Value := fun j => if j < i then .ref (h0 + 1 + j) else .null
def zfl2 (s : State) (c comp : ClassId) (N K : Nat) (dv : Value) : Nat → State
  | 0 => s.pushCell (arrV c N (zfo2 s.heap.size 0))
  | i + 1 => ((zfl2 s c comp N K dv i).pushCell (arrV comp K (fun _ => dv))).setCell s.heap.size (arrV c N (zfo2 s.heap.size (i + 1)))
theorem zfo2_s {c : ClassId} {N h0 i : Nat} : (arrV c N (zfo2 h0 i)).setSlot i (.ref (h0 + 1 + i)) = arrV c N (zfo2 h0 (i + 1)) := by
  rw [arrV_store]
  refine congrArg (arrV c N) ?_
  funext j
  unfold updV zfo2
  by_cases e : j = i
  · rw [if_pos e, if_pos (by omega), e]
  · rw [if_neg e]
    by_cases q : j < i
    · rw [if_pos q, if_pos (by omega)]
    · rw [if_neg q, if_neg (by omega)]
theorem zfl2_f (s : State) (c comp : ClassId) (N K : Nat) (dv : Value) (i : Nat) : (zfl2 s c comp N K dv i).heap.size = s.heap.size + 1 + i ∧ (zfl2 s c comp N K dv i).heap[s.heap.size]? = some (arrV c N (zfo2 s.heap.size i)) ∧ (zfl2 s c comp N K dv i).vm = s.vm ∧ (zfl2 s c comp N K dv i).slotsUsed = s.slotsUsed + N + i * K ∧ (∀ a : Nat, a < s.heap.size → (zfl2 s c comp N K dv i).heap[a]? = s.heap[a]?) ∧ ∀ j : Nat, j < i → (zfl2 s c comp N K dv i).heap[s.heap.size + 1 + j]? = some (arrV comp K (fun _ => dv)) := by
  induction i with
  | zero =>
    refine ⟨by simp [zfl2], by simp [zfl2], rfl, by simp [zfl2, arrV_size], fun a ha => ?_, fun j hj => by omega⟩
    exact State.heap_pushCell_of_lt _ _ ha
  | succ i ih =>
    obtain ⟨f1, f2, f3, f4, f5, f6⟩ := ih
    have hlt : s.heap.size < (zfl2 s c comp N K dv i).heap.size := by omega
    have hb : ((zfl2 s c comp N K dv i).pushCell (arrV comp K (fun _ => dv))).heap[s.heap.size]? = some (arrV c N (zfo2 s.heap.size i)) := by
      rw [State.heap_pushCell_of_lt (h := hlt)]
      exact f2
    refine ⟨?_, State.heap_setCell_self hb, by simp [zfl2, f3], ?_, fun a ha => ?_, fun j hj => ?_⟩
    · simp [zfl2, State.setCell, f1]
      omega
    · simp [zfl2, f4, arrV_size, Nat.succ_mul]
      omega
    · show (((zfl2 s c comp N K dv i).pushCell (arrV comp K (fun _ => dv))).setCell s.heap.size _).heap[a]? = _
      have hA : a < (zfl2 s c comp N K dv i).heap.size := by rw [f1]; omega
      rw [State.heap_setCell_other (Nat.ne_of_gt ha), State.heap_pushCell_of_lt (h := hA)]
      exact f5 a ha
    · show (((zfl2 s c comp N K dv i).pushCell (arrV comp K (fun _ => dv))).setCell s.heap.size _).heap[s.heap.size + 1 + j]? = _
      rw [State.heap_setCell_other (show s.heap.size ≠ s.heap.size + 1 + j by omega)]
      by_cases q : j < i
      · have hA : s.heap.size + 1 + j < (zfl2 s c comp N K dv i).heap.size := by rw [f1]; omega
        rw [State.heap_pushCell_of_lt (h := hA)]
        exact f6 j q
      · rw [show s.heap.size + 1 + j = (zfl2 s c comp N K dv i).heap.size by omega]
        simp
section ZMK
variable {E : CtlPost} {e : Env} {d : Bool} {acts : List Action} {s : State}
theorem zmk_n {c comp : ClassId} {k : Class} {type : FieldType} {len : Nat} {init : Value} (hk : s.vm.classes[c]? = some k) (hkind : k.kind = .array comp type) (hlimit : ¬ len > e.platform.arrayLengthLimit) (hheap : ¬ len * componentBytes type > e.platform.maxHeapBytes) (hfit : fits type init = true) (hdef : init.isDefault = true) {Q : Addr → Pre}
    (h1 : s.heap.size < e.platform.maxCells) (h2 : s.slotsUsed + len ≤ e.platform.maxSlots) (hq : Q s.heap.size d acts (s.pushCell (arrV c len (fun _ => init)))) : wp (Jvm.newArray c len init) Q E e d acts s := by
  have hfits : ∀ i v, (Array.replicate len init)[i]? = some v → s.fitsSlot c .none i v = true := by
    intro i v hv
    simp only [Array.getElem?_replicate] at hv
    split at hv
    · cases hv
      simp [State.fitsSlot, State.slotType?, hk, hkind, hfit]
    · cases hv
  have hda : allocActs (Array.replicate len init) s.heap.size acts = acts := by
    have hall : ((Array.replicate len init).all (·.isDefault)) = true := by
      rw [Array.all_replicate]
      split <;> simp [hdef]
    unfold allocActs
    rw [if_pos hall]
  rw [← arrV_new] at hq
  simp only [Jvm.newArray, Jvm.arrayFits, wp_bind', W.ask, W.ite, hlimit, if_false, wp_pure', W.theClass, hk, hkind, hheap, W.alloc, W.stop, Option.some.injEq, exists_eq_left', Array.size_replicate, hda]
  rw [if_neg (by omega)]
  exact ⟨h1, h2, hfits, hq⟩
theorem zmk_1 {comp cc : ClassId} {kc : Class} {type : FieldType} {m : Int32} (hkc : s.vm.classes[comp]? = some kc) (hkindc : kc.kind = .array cc type) (hm : ¬ m < 0) (hl2 : ¬ m.toNatClampNeg > e.platform.arrayLengthLimit) (hh2 : ¬ m.toNatClampNeg * componentBytes type > e.platform.maxHeapBytes) (hdf : fits type (defaultValue type) = true) (hdd : (defaultValue type).isDefault = true)
    (h1 : s.heap.size < e.platform.maxCells) (h2 : s.slotsUsed + m.toNatClampNeg ≤ e.platform.maxSlots) {Q : Addr → Pre} (hq : Q s.heap.size d acts (s.pushCell (arrV comp m.toNatClampNeg (fun _ => defaultValue type)))) : wp (multianewarray.make comp [m]) Q E e d acts s := by
  rw [multianewarray.make]
  simp only [wp_bind', W.ite, hm, if_false, wp_pure', W.theClass, hkc, hkindc, Option.some.injEq, exists_eq_left']
  exact zmk_n hkc hkindc hl2 hh2 hdf hdd h1 h2 hq
theorem zreff {t : FieldType} (h : t.isReference = true) (v : Value) (hv : v = .null ∨ ∃ a, v = .ref a) : fits t v = true := by
  rcases hv with rfl | ⟨a, rfl⟩ <;> cases t <;> simp [FieldType.isReference] at h <;> rfl
theorem zmk_2 {c comp cc : ClassId} {k kc : Class} {t0 type : FieldType} {n m : Int32} (hk : s.vm.classes[c]? = some k) (hkind : k.kind = .array comp t0) (href : t0.isReference = true) (hkc : s.vm.classes[comp]? = some kc) (hkindc : kc.kind = .array cc type) (hn : ¬ n < 0) (hm : ¬ m < 0)
    (hl1 : ¬ n.toNatClampNeg > e.platform.arrayLengthLimit) (hh1 : ¬ n.toNatClampNeg * componentBytes t0 > e.platform.maxHeapBytes) (hl2 : ¬ m.toNatClampNeg > e.platform.arrayLengthLimit) (hh2 : ¬ m.toNatClampNeg * componentBytes type > e.platform.maxHeapBytes) (hdf : fits type (defaultValue type) = true) (hdd : (defaultValue type).isDefault = true)
    (hc : s.heap.size + 1 + n.toNatClampNeg ≤ e.platform.maxCells) (hs : s.slotsUsed + n.toNatClampNeg + n.toNatClampNeg * m.toNatClampNeg ≤ e.platform.maxSlots) {Q : Addr → Pre} (hq : ∀ d' acts', Q s.heap.size d' acts' (zfl2 s c comp n.toNatClampNeg m.toNatClampNeg (defaultValue type) n.toNatClampNeg)) : wp (multianewarray.make c [n, m]) Q E e d acts s := by
  have hfind : ([m].find? (· < 0)) = none := by simp [hm]
  have h00 : (fun _ : Nat => Value.null) = zfo2 s.heap.size 0 := by
    funext j
    exact (if_neg (Nat.not_lt_zero j)).symm
  rw [multianewarray.make]
  simp only [wp_bind', W.ite, hn, if_false, wp_pure', W.theClass, hk, hkind, Option.some.injEq, exists_eq_left']
  refine zmk_n hk hkind hl1 hh1 (zreff href _ (Or.inl rfl)) rfl (by omega) (by have := Nat.zero_le (n.toNatClampNeg * m.toNatClampNeg); omega) ?_
  rw [h00]
  simp only [hfind]
  rw [ite_self, wp_bind', Std.Legacy.Range.forIn_eq_forIn_range']
  have hsz : ([:n.toNatClampNeg] : Std.Legacy.Range).size = n.toNatClampNeg := by simp [Std.Legacy.Range.size]
  rw [hsz]
  show wp (forIn (List.range' 0 n.toNatClampNeg 1) PUnit.unit _) _ E e d acts _
  refine wp_forIn_inv (fun rest s' => ∃ i, i ≤ n.toNatClampNeg ∧ rest = List.range' i (n.toNatClampNeg - i) ∧ s' = zfl2 s c comp n.toNatClampNeg m.toNatClampNeg (defaultValue type) i) _ _ ⟨0, Nat.zero_le _, rfl, rfl⟩ ?_ ?_
  · rintro x rest s' d' acts' Q' ⟨i, hi, hl, rfl⟩ hnext
    have hlt : i < n.toNatClampNeg := by
      by_cases q : i < n.toNatClampNeg
      · exact q
      · rw [show n.toNatClampNeg - i = 0 by omega] at hl
        cases hl
    obtain ⟨rfl, hrest⟩ : x = i ∧ rest = List.range' (i + 1) (n.toNatClampNeg - (i + 1)) := by
      rw [show n.toNatClampNeg - i = (n.toNatClampNeg - (i + 1)) + 1 by omega, List.range'_succ] at hl
      exact ⟨(List.cons.inj hl).1, (List.cons.inj hl).2⟩
    obtain ⟨f1, f2, f3, f4, f5, f6⟩ := zfl2_f s c comp n.toNatClampNeg m.toNatClampNeg (defaultValue type) x
    have hmul : x * m.toNatClampNeg + m.toNatClampNeg ≤ n.toNatClampNeg * m.toNatClampNeg := by
      have := Nat.mul_le_mul_right m.toNatClampNeg (show x + 1 ≤ n.toNatClampNeg from hlt)
      rw [Nat.succ_mul] at this
      exact this
    simp only [wp_bind']
    refine zmk_1 (by rw [f3]; exact hkc) hkindc hm hl2 hh2 hdf hdd (by rw [f1]; omega) (by rw [f4]; omega) ?_
    have hlt0 : s.heap.size < (zfl2 s c comp n.toNatClampNeg m.toNatClampNeg (defaultValue type) x).heap.size := by rw [f1]; omega
    simp only [wp_bind', W.writeLoc, wp_pure']
    refine ⟨arrV c n.toNatClampNeg (zfo2 s.heap.size x), by rw [State.heap_pushCell_of_lt (h := hlt0)]; exact f2, by simp [arrV], by rw [arrV_size]; exact hlt, ?_, hnext _ _ _ ⟨x + 1, hlt, hrest, ?_⟩⟩
    · simp [arrV, State.fitsSlot, State.slotType?, f3, hk, hkind, zreff href _ (Or.inr ⟨_, rfl⟩)]
    · rw [f1, zfo2_s]
      rfl
  · rintro s' d' acts' ⟨i, hi, hl, rfl⟩
    have hiN : i = n.toNatClampNeg := by
      by_cases q : i < n.toNatClampNeg
      · rw [show n.toNatClampNeg - i = (n.toNatClampNeg - (i + 1)) + 1 by omega, List.range'_succ] at hl
        cases hl
      · omega
    subst hiN
    simp only [wp_pure']
    exact hq _ _
end ZMK
theorem zAO {args : Array Value} {first s : State} {o : Option Outcome} {idx : List Nat} {t : FieldType} (h : (Cond.arrayOver (.array t)).holds args first o s idx = true) : ∃ comp c k, s.vm.findClass (FieldType.array t).toString = some comp ∧ s.vm.classes[c]? = some k ∧ k.kind = .array comp (.array t) ∧ s.vm.findClass ("[" ++ (FieldType.array t).toString) = some c := by
  simp only [Cond.holds, Cond.value, beq_iff_eq] at h
  cases hc : s.vm.findClass (FieldType.array t).toString with
  | none => simp [hc] at h
  | some comp =>
    simp only [hc, Option.bind_some, Option.bind_eq_some_iff, Option.map_eq_some_iff] at h
    obtain ⟨c, hi, k, hk, hb⟩ := h
    obtain ⟨hlt, hp, -⟩ := Array.findIdx?_eq_some_iff_getElem.mp hi
    have hkk : s.vm.classes[c] = k := (Array.getElem?_eq_some_iff.mp hk).2
    rw [hkk] at hp
    cases hkind : k.kind with
    | array component ty =>
      rw [hkind] at hb hp
      simp at hb hp
      exact ⟨comp, c, k, rfl, hk, by rw [hkind, hp, hb.1], hb.2⟩
    | _ => rw [hkind] at hb; simp at hb
section ZMST
variable {p : Program} {l : Launch} {e : Env} {R : Room} {s : State} {m : MethodId} {args : Array Value} {below : List Frame} {meth : Method} {c : Code} {T : State} {locs : List Loc} {cells slots : Nat}
theorem zfl2_X (X : Stand p l e R s m args below meth c T locs cells slots) (cA comp : ClassId) (N K : Nat) (dv : Value) (i : Nat) : Stand p l e R s m args below meth c (zfl2 T cA comp N K dv i) (locs ++ (List.range i).map fun j => ⟨T.heap.size, j⟩) (cells + 1 + i) (slots + N + i * K) := by
  induction i with
  | zero =>
    have h := X.pushed (arrV cA N (zfo2 T.heap.size 0))
    rw [arrV_size] at h
    simpa [zfl2] using h
  | succ i ih =>
    obtain ⟨f1, f2, f3, f4, f5, f6⟩ := zfl2_f T cA comp N K dv i
    have hlt0 : T.heap.size < (zfl2 T cA comp N K dv i).heap.size := by rw [f1]; omega
    have hcell : ((zfl2 T cA comp N K dv i).pushCell (arrV comp K (fun _ => dv))).heap[T.heap.size]? = some (arrV cA N (zfo2 T.heap.size i)) := by rw [State.heap_pushCell_of_lt (h := hlt0)]; exact f2
    have h := (ih.pushed (arrV comp K (fun _ => dv))).stored hcell i (.ref (T.heap.size + 1 + i))
    rw [arrV_size, zfo2_s] at h
    have e2 : (locs ++ (List.range (i + 1)).map fun j => (⟨T.heap.size, j⟩ : Loc)) = (locs ++ (List.range i).map fun j => (⟨T.heap.size, j⟩ : Loc)) ++ [⟨T.heap.size, i⟩] := by simp [List.range_succ, List.append_assoc]
    have e3 : slots + N + (i + 1) * K = slots + N + i * K + K := by rw [Nat.succ_mul]; omega
    rw [e2, e3]
    exact h
end ZMST
theorem zfl2_t (s : State) (f : JFrame) (c comp : ClassId) (N K : Nat) (dv : Value) (i : Nat) : zfl2 (s.setTop f) c comp N K dv i = (zfl2 s c comp N K dv i).setTop f := by
  induction i with
  | zero => rfl
  | succ i ih => simp only [zfl2, ih, State.heap_setTop, State.pushCell_setTop, State.setCell_setTop]
section ZMW
variable {p : Program} {l : Launch} {e : Env} {R : Room} {s : State} {m : MethodId} {args : Array Value} {below : List Frame} {meth : Method} {c : Code} {H : Heap} {locs : List Loc} {cells slots : Nat} {Q : State → Prop} {cc : ByteArray}
theorem zWmulti (hexec : p.tables.exec = Jvm.exec) (hb : c.code = cc) {own : String} {index : Nat} {ty : FieldType} (hown : s.vm.findClass own = some m.cls) (hclink : (Cond.classLink own index ("[" ++ (FieldType.array ty).toString)).before args s = true) (hover : (Cond.arrayOver (.array ty)).before args s = true) (harr : (Cond.arrayClass ty).before args s = true)
    {g : JFrame} (hg : g.method = m) (hdg : decode cc g.pc = .ok (.multianewarray index 2, 4)) {n k : Int32} {rest : List Value} (hstack : g.stack = .int k :: .int n :: rest) (hn : ¬ n < 0) (hk : ¬ k < 0) (hb1 : n.toNatClampNeg ≤ 100000) (hb2 : k.toNatClampNeg ≤ 100000) (hdf : fits ty (defaultValue ty) = true) (hdd : (defaultValue ty).isDefault = true)
    (hcells : cells + (1 + n.toNatClampNeg) ≤ R.cells) (hslots : slots + (n.toNatClampNeg + n.toNatClampNeg * k.toNatClampNeg) ≤ R.slots)
    (kk : ∀ (H1 : Heap) (L : List Loc) (cA comp : ClassId), s.vm.findClass ("[" ++ (FieldType.array ty).toString) = some cA → s.vm.findClass (FieldType.array ty).toString = some comp → H1.size = H.size + 1 + n.toNatClampNeg → (∀ a : Nat, a < H.size → H1[a]? = H[a]?) → H1[H.size]? = some (arrV cA n.toNatClampNeg (fun j => if j < n.toNatClampNeg then .ref (H.size + 1 + j) else .null)) → (∀ j : Nat, j < n.toNatClampNeg → H1[H.size + 1 + j]? = some (arrV comp k.toNatClampNeg (fun _ => defaultValue ty))) → (∀ q ∈ L, q.base = H.size) →
      W p l e R s m args below meth c H1 (locs ++ L) (cells + 1 + n.toNatClampNeg) (slots + n.toNatClampNeg + n.toNatClampNeg * k.toNatClampNeg) Q { g with pc := g.pc + 4, stack := .ref H.size :: rest }) : W p l e R s m args below meth c H locs cells slots Q g := by
  intro T hT X
  subst hT
  subst hg
  subst hb
  have hpl : e.platform.magicAccessors = ({} : Platform).magicAccessors := by rw [X.admits.platform]
  obtain ⟨comp, cA, kA, hcomp, hkA, hkindA, hnameA⟩ := zAO hover
  obtain ⟨comp', kC, cx, hcomp', hkC, hkindC⟩ := Cond.arrayClass_spec harr
  have ecomp : comp' = comp := Option.some.inj (hcomp'.symm.trans hcomp)
  subst ecomp
  obtain ⟨c0, hfc0, hcl⟩ := Cond.classLink_spec hown hclink e.platform hpl
  cases hnameA.symm.trans hfc0
  obtain ⟨hg₁, hwarm₁, hready₁⟩ := State.classEntry (e := e) X.warmed hcl
  generalize T.vm.noted g.method.cls index (.cls cA) = vm₁ at hg₁ hwarm₁ hready₁
  have hal : s.vm.Alike vm₁ := hwarm₁.alike
  obtain ⟨kA₁, hkA₁, heA⟩ := hal.2.2 _ _ hkA
  obtain ⟨kC₁, hkC₁, heC⟩ := hal.2.2 _ _ hkC
  have hkindA₁ : kA₁.kind = .array comp' (.array ty) := by rw [heA]; exact hkindA
  have hkindC₁ : kC₁.kind = .array cx ty := by rw [heC]; exact hkindC
  have X₁ := X.noted hwarm₁
  obtain ⟨hr1, hr2⟩ := X.roomAbove hcells hslots
  have hcb : ∀ t : FieldType, componentBytes t ≤ 8 := fun t => by cases t <;> simp [componentBytes]
  have m1 := Nat.mul_le_mul_left n.toNatClampNeg (hcb (.array ty))
  have m2 := Nat.mul_le_mul_left k.toNatClampNeg (hcb ty)
  have hl1 : ¬ n.toNatClampNeg > e.platform.arrayLengthLimit := by rw [Launch.admits_arrayLengthLimit X.admits]; omega
  have hh1 : ¬ n.toNatClampNeg * componentBytes (.array ty) > e.platform.maxHeapBytes := by rw [Launch.admits_maxHeapBytes X.admits]; omega
  have hl2 : ¬ k.toNatClampNeg > e.platform.arrayLengthLimit := by rw [Launch.admits_arrayLengthLimit X.admits]; omega
  have hh2 : ¬ k.toNatClampNeg * componentBytes ty > e.platform.maxHeapBytes := by rw [Launch.admits_maxHeapBytes X.admits]; omega
  have XF := zfl2_X X₁ cA comp' n.toNatClampNeg k.toNatClampNeg (defaultValue ty) n.toNatClampNeg
  obtain ⟨f1, f2, f3, f4, f5, f6⟩ := zfl2_f (T.setVm vm₁) cA comp' n.toNatClampNeg k.toNatClampNeg (defaultValue ty) n.toNatClampNeg
  obtain ⟨t, ha, hbq⟩ := kk (zfl2 (T.setVm vm₁) cA comp' n.toNatClampNeg k.toNatClampNeg (defaultValue ty) n.toNatClampNeg).heap ((List.range n.toNatClampNeg).map fun j => ⟨T.heap.size, j⟩) cA comp' hnameA hcomp f1 f5 f2 f6 (fun q hq => by
    obtain ⟨j, -, rfl⟩ := List.mem_map.mp hq
    rfl) _ rfl XF
  refine ⟨t, ?_, hbq⟩
  jvm_step X.here [hexec, hdg]
  simp only [multianewarray.sem, wp_bind', W.resolveClassAt_links (State.method?_setTop g X.here.top) hg₁]
  rw [W.popN, if_neg (by decide)]
  refine ⟨g, State.topJava?_setTop' (s := T.setVm vm₁) g X.here.top, [.int n, .int k], rest, rfl, hstack, ?_⟩
  simp only [List.mapM_cons, List.mapM_nil, wp_bind', wp_pure']
  refine zmk_2 (k := kA₁) (kc := kC₁) (comp := comp') (cc := cx) (t0 := .array ty) (type := ty) hkA₁ hkindA₁ rfl hkC₁ hkindC₁ hn hk hl1 hh1 hl2 hh2 hdf hdd (by show T.heap.size + 1 + _ ≤ _; omega) (by show T.slotsUsed + _ + _ ≤ _; omega) (fun d' acts' => ?_)
  have eS : ((T.setTop g).setVm vm₁).setTop { g with stack := rest } = (T.setVm vm₁).setTop { g with stack := rest } := by
    show ((T.setVm vm₁).setTop g).setTop _ = _
    rw [State.setTop_setTop]
  rw [eS, zfl2_t]
  simp only [wp_bind', W.mark, W.pushRef, State.topJava?_setTop' _ XF.here.top, Option.some.injEq, exists_eq_left', State.setTop_setTop, State.heap_setTop]
  intro acts
  simp [jvm, XF.here.top]
  exact ha
end ZMW
section ZMV
variable {G : zG} {γ : zF} {ad : Int → Nat} {al : Int → Bool} {rs : Int → Nat → Bool} {k : Nat × Nat} {own : String} {cc : ByteArray} {nL fr lo pc n : Nat} {ls : zL} {st : List zV} {M : zM}
theorem v_multi (ok : zOK G γ own cc nL fr lo) {idx t tr N K : Nat} {ty : FieldType} {R b mi ki : Int} (wf : zwf al rs) (htr : (t = 3 ∧ tr = 0) ∨ (t = 4 ∧ tr = 2)) (hl : zlay R = (t, N, b)) (hrow : ∀ r, b ≤ r ∧ r < b + N → zlay r = (tr, K, 0)) (hty : zty t = .array ty) (hty2 : zty tr = ty) (hcl : Cond.classLink own idx ("[" ++ (FieldType.array ty).toString) ∈ zTb) (hover : ∀ a, (Cond.arrayOver (.array ty)).before a (zFs γ) = true) (harr : Cond.arrayClass ty ∈ zTb)
    (hf : al R = false) (hfr : ∀ r, b ≤ r ∧ r < b + N → al r = false) (hdis : ¬ (b ≤ R ∧ R < b + N)) (h3 : R < 300 ∧ b + N ≤ 300) (hz : zz M R 1) (hzr : zz M b N) (hm : (N : Int) = mi ∧ (K : Int) = ki) (hmb : N ≤ 100000 ∧ K ≤ 100000) (hk : k.1 + (1 + N) ≤ (zFR γ).cells ∧ k.2 + (N + N * K) ≤ (zFR γ).slots) (hst : st.all (zvl al) = true) (hls : ls.all (zol al) = true) (hd : decode cc pc = .ok (.multianewarray idx 2, 4)) (hn : pc + 4 = n)
    (kk : ∀ q, zVV G γ (zadf (zadf ad R 1 q) b N (q + 1), zadr (zadr al R 1) b N, zrsa rs R 0 N) (k.1 + 1 + N, k.2 + N + N * K) n ls (zr R :: st) M) : zVV G γ (ad, al, rs) k pc ls (zi ki :: zi mi :: st) M := by
  subst hn
  obtain ⟨hm1, hm2⟩ := hm
  subst hm1
  subst hm2
  intro H locs cls h1 h2 h3l
  have hcn : (Int32.ofInt (N : Int)).toNatClampNeg = N := by rw [zn_clamp (by omega)]; omega
  have hck : (Int32.ofInt (K : Int)).toNatClampNeg = K := by rw [zn_clamp (by omega)]; omega
  have hdf : fits ty (defaultValue ty) = true ∧ (defaultValue ty).isDefault = true := by
    rw [← hty2]
    rcases htr with ⟨_, rfl⟩ | ⟨_, rfl⟩ <;> exact ⟨rfl, rfl⟩
  refine zWmulti (ty := ty) ok.1 ok.2.1 ok.2.2.2.1 (ok.2.2.2.2.1 _ hcl) (hover _) (ok.2.2.2.2.1 _ harr) rfl hd rfl (zn_neg (by omega)) (zn_neg (by omega)) (by rw [hcn]; exact hmb.1) (by rw [hck]; exact hmb.2) hdf.1 hdf.2 (by rw [hcn]; exact hk.1) (by rw [hcn, hck]; exact hk.2) fun H1 L cA comp f1 f2 z1 o1 e1 e2 hL => ?_
  rw [hcn] at z1 e1 e2
  rw [hck] at e2
  rw [hcn, hck]
  have hRA := (zKn_arr ok.2.2.2.2.2.1 (t := t) (by omega)).2
  have hRr := (zKn_arr ok.2.2.2.2.2.1 (t := tr) (by omega)).2
  have hcA : cA = zGc G t := by
    have h9 : (zFs γ).vm.findClass ("[" ++ (FieldType.array ty).toString) = some (zGc G t) := by
      rw [hty] at hRA
      exact hRA
    exact Option.some.inj (f1.symm.trans h9)
  have hcC : comp = zGc G tr := by
    have h9 : (zFs γ).vm.findClass (FieldType.array ty).toString = some (zGc G tr) := by
      rcases htr with ⟨_, e⟩ | ⟨_, e⟩
      · subst e
        rw [← hty2]
        exact hRr
      · subst e
        rw [← hty2]
        exact hRr
    exact Option.some.inj (f2.symm.trans h9)
  subst hcA
  subst hcC
  have had : ∀ r, al r = true → zadf (zadf ad R 1 H.size) b N (H.size + 1) r = ad r := fun r h => by
    rw [zadf_o (fun z => by rw [hfr r z] at h; cases h), zadf_s hf H.size r h]
  have hR : zadf (zadf ad R 1 H.size) b N (H.size + 1) R = H.size := by
    rw [zadf_o hdis, zadf_i (by omega)]
    omega
  have hro : ∀ r, b ≤ r ∧ r < b + N → zadf (zadf ad R 1 H.size) b N (H.size + 1) r = H.size + 1 + (r - b).toNat := fun r h => zadf_i h
  have hH : zHo G (zadf (zadf ad R 1 H.size) b N (H.size + 1), zadr (zadr al R 1) b N, zrsa rs R 0 N) M H1 := by
    refine zHo_new (N := fun r => r = R ∨ (b ≤ r ∧ r < b + N)) h1 wf (by omega) o1 had (fun r hr => by rw [zadf_o (by omega), zadf_o (by omega)]) (fun r hr => ⟨rfl, zrsa_n (fun z => by rw [z, hf] at hr; cases hr)⟩) (fun r hr => ?_) (fun r hr => ?_) (fun r r' hr hr' e => ?_)
    · rcases zadr_o hr with z | z
      · exact Or.inl (Or.inr z)
      · rcases zadr_o z with z | z
        · exact Or.inl (Or.inl (by omega))
        · exact Or.inr z
    · rcases hr with hr | hr
      · subst hr
        rw [hR]
        refine ⟨Nat.le_refl _, ?_⟩
        have e : zce G (zadf (zadf ad r 1 H.size) b N (H.size + 1), zadr (zadr al r 1) b N, zrsa rs r 0 N) M r = .inl (zGc G t, N, zct (zadf (zadf ad r 1 H.size) b N (H.size + 1), zadr (zadr al r 1) b N, zrsa rs r 0 N) M r t b) := by
          unfold zce
          rw [hl]
          exact if_neg (by show ¬ t = 6; omega)
        rw [e]
        show H1[H.size]? = some (vp_cell (zGc G t) (N, zct _ M r t b))
        rw [e1]
        have e3 : zct (zadf (zadf ad r 1 H.size) b N (H.size + 1), zadr (zadr al r 1) b N, zrsa rs r 0 N) M r t b = .inr (.inr (.inr (.inr (fun j : Nat => if zrsa rs r 0 N r j = true then some (zadf (zadf ad r 1 H.size) b N (H.size + 1) (b + j)) else none)))) := by
          unfold zct
          rw [if_neg (by omega), if_neg (by omega)]
        rw [e3, vp_cell_q]
        refine congrArg some (congrArg (arrV (zGc G t) N) ?_)
        funext j
        by_cases q : j < N
        · rw [if_pos q, if_pos (zrsa_i (by omega)), hro (b + j) (by omega), show (b + (j : Int) - b).toNat = j by omega]
          rfl
        · have e9 : zrsa rs r 0 N r j = rs r j := by
            unfold zrsa
            rw [decide_eq_false (fun z => q (by omega)), Bool.false_or]
          rw [if_neg q, e9, znlv wf hf j]
          rfl
      · rw [hro r hr]
        refine ⟨by omega, ?_⟩
        have e : zce G (zadf (zadf ad R 1 H.size) b N (H.size + 1), zadr (zadr al R 1) b N, zrsa rs R 0 N) M r = .inl (zGc G tr, K, zct (zadf (zadf ad R 1 H.size) b N (H.size + 1), zadr (zadr al R 1) b N, zrsa rs R 0 N) M r tr 0) := by
          unfold zce
          rw [hrow r hr]
          exact if_neg (by show ¬ tr = 6; omega)
        rw [e]
        show H1[H.size + 1 + (r - b).toNat]? = some (vp_cell (zGc G tr) (K, zct _ M r tr 0))
        rw [e2 _ (by omega)]
        have hM : ∀ j : Nat, M r j = 0 := fun j => hzr r j hr
        rcases htr with ⟨_, rfl⟩ | ⟨_, rfl⟩
        · unfold zct
          rw [if_pos (by omega), vp_cell_i]
          simp only [hM]
          rw [← hty2]
          rfl
        · unfold zct
          rw [if_neg (by omega), if_pos rfl, vp_cell_l]
          simp only [hM]
          rw [← hty2]
          rfl
    · have e : zadf (zadf ad R 1 H.size) b N (H.size + 1) r = zadf (zadf ad R 1 H.size) b N (H.size + 1) r' := e
      rcases hr with hr | hr
      · rcases hr' with hr' | hr'
        · exact hr.trans hr'.symm
        · rw [hr, hR, hro r' hr'] at e
          omega
      · rcases hr' with hr' | hr'
        · rw [hr', hR, hro r hr] at e
          omega
        · rw [hro r hr, hro r' hr'] at e
          omega
  have hgn : zGn G ≤ H.size := h1.1
  have hS : va_S (zA G) (zFs γ).heap H1 (locs ++ L) := ⟨by have := h2.1; omega, fun q a1 a2 => (o1 q (by have := h2.1; omega)).trans (h2.2.1 q a1 a2), fun q hq => by
    rcases List.mem_append.mp hq with z | z
    · exact h2.2.2 q z
    · show zGn G ≤ q.base
      rw [hL q z]
      exact hgn⟩
  have hres := kk H.size H1 (locs ++ L) cls hH hS (zlh_e had hls h3l)
  have e2' : st.map (zc (zadf (zadf ad R 1 H.size) b N (H.size + 1))) = st.map (zc ad) := zst_e had hst
  have e3' : zc (zadf (zadf ad R 1 H.size) b N (H.size + 1)) (zr R) = .ref H.size := by
    show Value.ref _ = _
    rw [hR]
  have hres : zWW G γ (k.1 + 1 + N, k.2 + N + N * K) H1 (locs ++ L) (F0 (zFm γ) (pc + 4) cls (zc (zadf (zadf ad R 1 H.size) b N (H.size + 1)) (zr R) :: st.map (zc (zadf (zadf ad R 1 H.size) b N (H.size + 1))))) := hres
  rw [e2', e3'] at hres
  exact hres
end ZMV
