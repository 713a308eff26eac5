/-! one lemma an opcode -/
theorem zlh_st1 {ad : Int → Nat} {cls' : Array Slot} {nL : Nat} {ls : zL} {i : Nat} {v : zV} (h' : lv_has cls' nL ((i, zc ad v) :: (zll ad ls).filter (fun q => !(q.1 == i) && !(q.1 + 1 == i && q.2.category == 2)))) (h2 : ∀ j : Nat, j + 1 = i → zlong ((ls[j]?).getD none) = false) : zlh ad cls' nL (ls.set i (some v)) := by
  refine zlh_sub h' fun j u hu => ?_
  by_cases hji : j = i
  · subst hji
    rw [List.getElem?_set_self'] at hu
    cases hl : ls[j]? with
    | none => rw [hl] at hu; simp at hu
    | some y =>
      rw [hl] at hu
      simp at hu
      subst hu
      exact List.mem_cons_self
  · rw [List.getElem?_set_ne (fun q => hji q.symm)] at hu
    refine List.mem_cons_of_mem _ (List.mem_filter.mpr ⟨zll_mem.mpr ⟨u, hu, rfl⟩, ?_⟩)
    by_cases hj1 : j + 1 = i
    · have := h2 j hj1
      rw [hu] at this
      have h3 : (zc ad u).category = 1 := by rw [zc_cat]; simp at this; simp [this]
      simp [hji, h3]
    · simp [hji, hj1]
theorem zlh_st2 {ad : Int → Nat} {cls' : Array Slot} {nL : Nat} {ls : zL} {i : Nat} {v : zV} (h' : lv_has cls' nL ((i, zc ad v) :: (zll ad ls).filter (fun q => !(q.1 == i) && (!(q.1 == i + 1) && !(q.1 + 1 == i && q.2.category == 2))))) (h2 : ∀ j : Nat, j + 1 = i → zlong ((ls[j]?).getD none) = false) : zlh ad cls' nL ((ls.set i (some v)).set (i + 1) none) := by
  refine zlh_sub h' fun j u hu => ?_
  by_cases hj2 : j = i + 1
  · subst hj2
    rw [List.getElem?_set_self'] at hu
    simp at hu
  · rw [List.getElem?_set_ne (fun q => hj2 q.symm)] at hu
    by_cases hji : j = i
    · subst hji
      rw [List.getElem?_set_self'] at hu
      cases hl : ls[j]? with
      | none => rw [hl] at hu; simp at hu
      | some y =>
        rw [hl] at hu
        simp at hu
        subst hu
        exact List.mem_cons_self
    · rw [List.getElem?_set_ne (fun q => hji q.symm)] at hu
      refine List.mem_cons_of_mem _ (List.mem_filter.mpr ⟨zll_mem.mpr ⟨u, hu, rfl⟩, ?_⟩)
      by_cases hj1 : j + 1 = i
      · have := h2 j hj1
        rw [hu] at this
        have h3 : (zc ad u).category = 1 := by rw [zc_cat]; simp at this; simp [this]
        simp [hji, hj2, h3]
      · simp [hji, hj1, hj2]
def zand (x y : Int) : Int := (Int32.ofInt x &&& Int32.ofInt y).toInt
def zor (x y : Int) : Int := (Int32.ofInt x ||| Int32.ofInt y).toInt
def zxor (x y : Int) : Int := (Int32.ofInt x ^^^ Int32.ofInt y).toInt
def zshl (x y : Int) : Int := (Int32.ofInt x <<< (Int32.ofInt y &&& 31)).toInt
def zshr (x y : Int) : Int := (Int32.ofInt x >>> (Int32.ofInt y &&& 31)).toInt
def zushr (x y : Int) : Int := (((Int32.ofInt x).toUInt32 >>> ((Int32.ofInt y).toUInt32 &&& Int32.toUInt32 31)).toInt32).toInt
def zandJ (x y : Int) : Int := (Int64.ofInt x &&& Int64.ofInt y).toInt
def zorJ (x y : Int) : Int := (Int64.ofInt x ||| Int64.ofInt y).toInt
def zshlJ (x y : Int) : Int := (Int64.ofInt x <<< ((Int32.ofInt y).toInt64 &&& 63)).toInt
def zshrJ (x y : Int) : Int := (Int64.ofInt x >>> ((Int32.ofInt y).toInt64 &&& 63)).toInt
def zushrJ (x y : Int) : Int := (((Int64.ofInt x).toUInt64 >>> ((Int32.ofInt y).toInt64.toUInt64 &&& Int64.toUInt64 63)).toInt64).toInt
def zi2b (x : Int) : Int := ((Int32.ofInt x).toInt8.toInt32).toInt
def zi2s (x : Int) : Int := ((Int32.ofInt x).toInt16.toInt32).toInt
def zcmp (x y : Int) : Int := if y < x then 1 else if x = y then 0 else -1
section ZOPS
variable {G : zG} {γ : zF} {w : zW} {k : Nat × Nat} {own : String} {cc : ByteArray} {nL fr lo pc n : Nat} {ls : zL} {st : List zV} {M : zM}
theorem v_iconst (ok : zOK G γ own cc nL fr lo) {c : Int} (hd : decode cc pc = .ok (.iconst c, 1)) (hn : pc + 1 = n) (kk : zVV G γ w k n ls (zi c :: st) M) : zVV G γ w k pc ls st M := by
  subst hn
  intro H locs cls h1 h2 h3
  exact lv_iconst ok.1 ok.2.1 hd rfl (kk H locs cls h1 h2 h3)
theorem v_bipush (ok : zOK G γ own cc nL fr lo) {c : Int} (hc : (Int8.ofInt c).toInt32 = Int32.ofInt c) (hd : decode cc pc = .ok (.bipush c, 2)) (hn : pc + 2 = n) (kk : zVV G γ w k n ls (zi c :: st) M) : zVV G γ w k pc ls st M := by
  subst hn
  intro H locs cls h1 h2 h3
  exact lv_bipush ok.1 ok.2.1 hd hc (kk H locs cls h1 h2 h3)
theorem v_sipush (ok : zOK G γ own cc nL fr lo) {c : Int} (hc : (Int16.ofInt c).toInt32 = Int32.ofInt c) (hd : decode cc pc = .ok (.sipush c, 3)) (hn : pc + 3 = n) (kk : zVV G γ w k n ls (zi c :: st) M) : zVV G γ w k pc ls st M := by
  subst hn
  intro H locs cls h1 h2 h3
  exact lv_sipush ok.1 ok.2.1 hd hc (kk H locs cls h1 h2 h3)
theorem v_lconst0 (ok : zOK G γ own cc nL fr lo) (hd : decode cc pc = .ok (.lconst 0, 1)) (hn : pc + 1 = n) (kk : zVV G γ w k n ls (zj 0 :: st) M) : zVV G γ w k pc ls st M := by
  subst hn
  intro H locs cls h1 h2 h3
  exact lv_lconst (v := Int64.ofInt 0) ok.1 ok.2.1 hd (by decide) (kk H locs cls h1 h2 h3)
theorem v_lconst1 (ok : zOK G γ own cc nL fr lo) (hd : decode cc pc = .ok (.lconst 1, 1)) (hn : pc + 1 = n) (kk : zVV G γ w k n ls (zj 1 :: st) M) : zVV G γ w k pc ls st M := by
  subst hn
  intro H locs cls h1 h2 h3
  exact lv_lconst (v := Int64.ofInt 1) ok.1 ok.2.1 hd (by decide) (kk H locs cls h1 h2 h3)
theorem v_ldc (ok : zOK G γ own cc nL fr lo) {i : Nat} {c : Int} {v : Int32} (hw : Cond.constant own i v ∈ zTb) (hv : Int32.ofInt c = v) (hd : decode cc pc = .ok (.ldc i, 2)) (hn : pc + 2 = n) (kk : zVV G γ w k n ls (zi c :: st) M) : zVV G γ w k pc ls st M := by
  subst hn
  intro H locs cls h1 h2 h3
  subst hv
  exact lv_ldc ok.1 ok.2.1 ok.2.2.2.1 (ok.2.2.2.2.1 _ hw) hd (kk H locs cls h1 h2 h3)
theorem v_ldcw (ok : zOK G γ own cc nL fr lo) {i : Nat} {c : Int} {v : Int32} (hw : Cond.constant own i v ∈ zTb) (hv : Int32.ofInt c = v) (hd : decode cc pc = .ok (.ldc_w i, 3)) (hn : pc + 3 = n) (kk : zVV G γ w k n ls (zi c :: st) M) : zVV G γ w k pc ls st M := by
  subst hn
  intro H locs cls h1 h2 h3
  subst hv
  exact lv_ldcw ok.1 ok.2.1 ok.2.2.2.1 (ok.2.2.2.2.1 _ hw) hd (kk H locs cls h1 h2 h3)
theorem v_ldc2 (ok : zOK G γ own cc nL fr lo) {i : Nat} {c : Int} {v : Int64} (hw : Cond.constantLong own i v ∈ zTb) (hv : Int64.ofInt c = v) (hd : decode cc pc = .ok (.ldc2_w i, 3)) (hn : pc + 3 = n) (kk : zVV G γ w k n ls (zj c :: st) M) : zVV G γ w k pc ls st M := by
  subst hn
  intro H locs cls h1 h2 h3
  subst hv
  exact lv_ldc2 ok.1 ok.2.1 ok.2.2.2.1 (ok.2.2.2.2.1 _ hw) hd (kk H locs cls h1 h2 h3)
theorem v_iadd (ok : zOK G γ own cc nL fr lo) {x y : Int} (hd : decode cc pc = .ok (.iadd, 1)) (hn : pc + 1 = n) (kk : zVV G γ w k n ls (zi (x + y) :: st) M) : zVV G γ w k pc ls (zi y :: zi x :: st) M := by
  subst hn
  intro H locs cls h1 h2 h3
  have h := kk H locs cls h1 h2 h3
  have e : zc w.1 (zi (x + y)) = .int (Int32.ofInt x + Int32.ofInt y) := congrArg Value.int (zn_add x y)
  rw [List.map_cons, e] at h
  exact lv_iadd ok.1 ok.2.1 hd h
theorem v_isub (ok : zOK G γ own cc nL fr lo) {x y : Int} (hd : decode cc pc = .ok (.isub, 1)) (hn : pc + 1 = n) (kk : zVV G γ w k n ls (zi (x - y) :: st) M) : zVV G γ w k pc ls (zi y :: zi x :: st) M := by
  subst hn
  intro H locs cls h1 h2 h3
  have h := kk H locs cls h1 h2 h3
  have e : zc w.1 (zi (x - y)) = .int (Int32.ofInt x - Int32.ofInt y) := congrArg Value.int (zn_sub x y)
  rw [List.map_cons, e] at h
  exact lv_isub ok.1 ok.2.1 hd h
theorem v_imul (ok : zOK G γ own cc nL fr lo) {x y : Int} (hd : decode cc pc = .ok (.imul, 1)) (hn : pc + 1 = n) (kk : zVV G γ w k n ls (zi (x * y) :: st) M) : zVV G γ w k pc ls (zi y :: zi x :: st) M := by
  subst hn
  intro H locs cls h1 h2 h3
  have h := kk H locs cls h1 h2 h3
  have e : zc w.1 (zi (x * y)) = .int (Int32.ofInt x * Int32.ofInt y) := congrArg Value.int (zn_mul x y)
  rw [List.map_cons, e] at h
  exact lv_imul ok.1 ok.2.1 hd h
theorem v_iand (ok : zOK G γ own cc nL fr lo) {x y : Int} (hd : decode cc pc = .ok (.iand, 1)) (hn : pc + 1 = n) (kk : zVV G γ w k n ls (zi (zand x y) :: st) M) : zVV G γ w k pc ls (zi y :: zi x :: st) M := by
  subst hn
  intro H locs cls h1 h2 h3
  have h := kk H locs cls h1 h2 h3
  have e : zc w.1 (zi (zand x y)) = .int (Int32.ofInt x &&& Int32.ofInt y) := congrArg Value.int (zn_self _)
  rw [List.map_cons, e] at h
  exact lv_iand ok.1 ok.2.1 hd h
theorem v_ior (ok : zOK G γ own cc nL fr lo) {x y : Int} (hd : decode cc pc = .ok (.ior, 1)) (hn : pc + 1 = n) (kk : zVV G γ w k n ls (zi (zor x y) :: st) M) : zVV G γ w k pc ls (zi y :: zi x :: st) M := by
  subst hn
  intro H locs cls h1 h2 h3
  have h := kk H locs cls h1 h2 h3
  have e : zc w.1 (zi (zor x y)) = .int (Int32.ofInt x ||| Int32.ofInt y) := congrArg Value.int (zn_self _)
  rw [List.map_cons, e] at h
  exact lv_ior ok.1 ok.2.1 hd h
theorem v_ixor (ok : zOK G γ own cc nL fr lo) {x y : Int} (hd : decode cc pc = .ok (.ixor, 1)) (hn : pc + 1 = n) (kk : zVV G γ w k n ls (zi (zxor x y) :: st) M) : zVV G γ w k pc ls (zi y :: zi x :: st) M := by
  subst hn
  intro H locs cls h1 h2 h3
  have h := kk H locs cls h1 h2 h3
  have e : zc w.1 (zi (zxor x y)) = .int (Int32.ofInt x ^^^ Int32.ofInt y) := congrArg Value.int (zn_self _)
  rw [List.map_cons, e] at h
  exact lv_ixor ok.1 ok.2.1 hd h
theorem v_ishl (ok : zOK G γ own cc nL fr lo) {x y : Int} (hd : decode cc pc = .ok (.ishl, 1)) (hn : pc + 1 = n) (kk : zVV G γ w k n ls (zi (zshl x y) :: st) M) : zVV G γ w k pc ls (zi y :: zi x :: st) M := by
  subst hn
  intro H locs cls h1 h2 h3
  have h := kk H locs cls h1 h2 h3
  have e : zc w.1 (zi (zshl x y)) = .int (Int32.ofInt x <<< (Int32.ofInt y &&& 31)) := congrArg Value.int (zn_self _)
  rw [List.map_cons, e] at h
  exact lv_ishl ok.1 ok.2.1 hd h
theorem v_ishr (ok : zOK G γ own cc nL fr lo) {x y : Int} (hd : decode cc pc = .ok (.ishr, 1)) (hn : pc + 1 = n) (kk : zVV G γ w k n ls (zi (zshr x y) :: st) M) : zVV G γ w k pc ls (zi y :: zi x :: st) M := by
  subst hn
  intro H locs cls h1 h2 h3
  have h := kk H locs cls h1 h2 h3
  have e : zc w.1 (zi (zshr x y)) = .int (Int32.ofInt x >>> (Int32.ofInt y &&& 31)) := congrArg Value.int (zn_self _)
  rw [List.map_cons, e] at h
  exact lv_ishr ok.1 ok.2.1 hd h
theorem v_iushr (ok : zOK G γ own cc nL fr lo) {x y : Int} (hd : decode cc pc = .ok (.iushr, 1)) (hn : pc + 1 = n) (kk : zVV G γ w k n ls (zi (zushr x y) :: st) M) : zVV G γ w k pc ls (zi y :: zi x :: st) M := by
  subst hn
  intro H locs cls h1 h2 h3
  have h := kk H locs cls h1 h2 h3
  exact lv_iushr ok.1 ok.2.1 hd (v := Int32.ofInt (zushr x y)) (zn_self _).symm h
theorem v_idiv (ok : zOK G γ own cc nL fr lo) {x d : Int} (hx : 0 ≤ x ∧ x ≤ 2147483647) (hdd : 0 < d ∧ d ≤ 2147483647) (hd : decode cc pc = .ok (.idiv, 1)) (hn : pc + 1 = n) (kk : zVV G γ w k n ls (zi (x / d) :: st) M) : zVV G γ w k pc ls (zi d :: zi x :: st) M := by
  subst hn
  intro H locs cls h1 h2 h3
  have h := kk H locs cls h1 h2 h3
  have e : zc w.1 (zi (x / d)) = .int (Int32.ofInt x / Int32.ofInt d) := congrArg Value.int (zn_div hx hdd).symm
  rw [List.map_cons, e] at h
  exact lv_idiv ok.1 ok.2.1 hd (zn_nz hdd) h
theorem v_ladd (ok : zOK G γ own cc nL fr lo) {x y : Int} (hd : decode cc pc = .ok (.ladd, 1)) (hn : pc + 1 = n) (kk : zVV G γ w k n ls (zj (x + y) :: st) M) : zVV G γ w k pc ls (zj y :: zj x :: st) M := by
  subst hn
  intro H locs cls h1 h2 h3
  have h := kk H locs cls h1 h2 h3
  have e : zc w.1 (zj (x + y)) = .long (Int64.ofInt x + Int64.ofInt y) := congrArg Value.long (zn_addJ x y)
  rw [List.map_cons, e] at h
  exact lv_ladd ok.1 ok.2.1 hd h
theorem v_lsub (ok : zOK G γ own cc nL fr lo) {x y : Int} (hd : decode cc pc = .ok (.lsub, 1)) (hn : pc + 1 = n) (kk : zVV G γ w k n ls (zj (x - y) :: st) M) : zVV G γ w k pc ls (zj y :: zj x :: st) M := by
  subst hn
  intro H locs cls h1 h2 h3
  have h := kk H locs cls h1 h2 h3
  have e : zc w.1 (zj (x - y)) = .long (Int64.ofInt x - Int64.ofInt y) := congrArg Value.long (zn_subJ x y)
  rw [List.map_cons, e] at h
  exact lv_lsub ok.1 ok.2.1 hd h
theorem v_land (ok : zOK G γ own cc nL fr lo) {x y : Int} (hd : decode cc pc = .ok (.land, 1)) (hn : pc + 1 = n) (kk : zVV G γ w k n ls (zj (zandJ x y) :: st) M) : zVV G γ w k pc ls (zj y :: zj x :: st) M := by
  subst hn
  intro H locs cls h1 h2 h3
  have h := kk H locs cls h1 h2 h3
  have e : zc w.1 (zj (zandJ x y)) = .long (Int64.ofInt x &&& Int64.ofInt y) := congrArg Value.long (zn_selfJ _)
  rw [List.map_cons, e] at h
  exact lv_land ok.1 ok.2.1 hd h
theorem v_lor (ok : zOK G γ own cc nL fr lo) {x y : Int} (hd : decode cc pc = .ok (.lor, 1)) (hn : pc + 1 = n) (kk : zVV G γ w k n ls (zj (zorJ x y) :: st) M) : zVV G γ w k pc ls (zj y :: zj x :: st) M := by
  subst hn
  intro H locs cls h1 h2 h3
  have h := kk H locs cls h1 h2 h3
  have e : zc w.1 (zj (zorJ x y)) = .long (Int64.ofInt x ||| Int64.ofInt y) := congrArg Value.long (zn_selfJ _)
  rw [List.map_cons, e] at h
  exact lv_lor ok.1 ok.2.1 hd h
theorem v_lshl (ok : zOK G γ own cc nL fr lo) {x y : Int} (hd : decode cc pc = .ok (.lshl, 1)) (hn : pc + 1 = n) (kk : zVV G γ w k n ls (zj (zshlJ x y) :: st) M) : zVV G γ w k pc ls (zi y :: zj x :: st) M := by
  subst hn
  intro H locs cls h1 h2 h3
  have h := kk H locs cls h1 h2 h3
  exact lv_lshl ok.1 ok.2.1 hd (v := Int64.ofInt (zshlJ x y)) (zn_selfJ _).symm h
theorem v_lshr (ok : zOK G γ own cc nL fr lo) {x y : Int} (hd : decode cc pc = .ok (.lshr, 1)) (hn : pc + 1 = n) (kk : zVV G γ w k n ls (zj (zshrJ x y) :: st) M) : zVV G γ w k pc ls (zi y :: zj x :: st) M := by
  subst hn
  intro H locs cls h1 h2 h3
  have h := kk H locs cls h1 h2 h3
  exact lv_lshr ok.1 ok.2.1 hd (v := Int64.ofInt (zshrJ x y)) (zn_selfJ _).symm h
theorem v_lushr (ok : zOK G γ own cc nL fr lo) {x y : Int} (hd : decode cc pc = .ok (.lushr, 1)) (hn : pc + 1 = n) (kk : zVV G γ w k n ls (zj (zushrJ x y) :: st) M) : zVV G γ w k pc ls (zi y :: zj x :: st) M := by
  subst hn
  intro H locs cls h1 h2 h3
  have h := kk H locs cls h1 h2 h3
  exact lv_lushr ok.1 ok.2.1 hd (v := Int64.ofInt (zushrJ x y)) (zn_selfJ _).symm h
theorem v_i2l (ok : zOK G γ own cc nL fr lo) {x : Int} (hx : -2147483648 ≤ x ∧ x ≤ 2147483647) (hd : decode cc pc = .ok (.i2l, 1)) (hn : pc + 1 = n) (kk : zVV G γ w k n ls (zj x :: st) M) : zVV G γ w k pc ls (zi x :: st) M := by
  subst hn
  intro H locs cls h1 h2 h3
  exact lv_i2l ok.1 ok.2.1 hd (zn_i2l hx) (kk H locs cls h1 h2 h3)
theorem v_l2i (ok : zOK G γ own cc nL fr lo) {x : Int} (hd : decode cc pc = .ok (.l2i, 1)) (hn : pc + 1 = n) (kk : zVV G γ w k n ls (zi x :: st) M) : zVV G γ w k pc ls (zj x :: st) M := by
  subst hn
  intro H locs cls h1 h2 h3
  exact lv_l2i ok.1 ok.2.1 hd (zn_l2i x) (kk H locs cls h1 h2 h3)
theorem v_i2b (ok : zOK G γ own cc nL fr lo) {x : Int} (hd : decode cc pc = .ok (.i2b, 1)) (hn : pc + 1 = n) (kk : zVV G γ w k n ls (zi (zi2b x) :: st) M) : zVV G γ w k pc ls (zi x :: st) M := by
  subst hn
  intro H locs cls h1 h2 h3
  exact lv_i2b ok.1 ok.2.1 hd (v := Int32.ofInt (zi2b x)) (zn_self _).symm (kk H locs cls h1 h2 h3)
theorem v_i2s (ok : zOK G γ own cc nL fr lo) {x : Int} (hd : decode cc pc = .ok (.i2s, 1)) (hn : pc + 1 = n) (kk : zVV G γ w k n ls (zi (zi2s x) :: st) M) : zVV G γ w k pc ls (zi x :: st) M := by
  subst hn
  intro H locs cls h1 h2 h3
  exact lv_i2s ok.1 ok.2.1 hd (v := Int32.ofInt (zi2s x)) (zn_self _).symm (kk H locs cls h1 h2 h3)
theorem v_lcmp (ok : zOK G γ own cc nL fr lo) {x y : Int} (hx : -9223372036854775808 ≤ x ∧ x ≤ 9223372036854775807) (hy : -9223372036854775808 ≤ y ∧ y ≤ 9223372036854775807) (hd : decode cc pc = .ok (.lcmp, 1)) (hn : pc + 1 = n) (kk : zVV G γ w k n ls (zi (zcmp x y) :: st) M) : zVV G γ w k pc ls (zj y :: zj x :: st) M := by
  subst hn
  intro H locs cls h1 h2 h3
  have h := kk H locs cls h1 h2 h3
  have e : zc w.1 (zi (zcmp x y)) = .int (lg_cmp (Int64.ofInt x) (Int64.ofInt y)) := by
    refine congrArg Value.int ?_
    unfold zcmp lg_cmp
    by_cases c1 : y < x
    · rw [if_pos c1, if_pos (show Int64.ofInt x > Int64.ofInt y from (zn_ltJ hy hx).mpr c1)]
      rfl
    · rw [if_neg c1, if_neg (show ¬ Int64.ofInt x > Int64.ofInt y from fun z => c1 ((zn_ltJ hy hx).mp z))]
      by_cases c2 : x = y
      · rw [if_pos c2, if_pos ((zn_eqJ hx hy).mpr c2)]
        rfl
      · rw [if_neg c2, if_neg (fun z => c2 ((zn_eqJ hx hy).mp z))]
        rfl
  rw [List.map_cons, e] at h
  exact W.lcmp ok.1 ok.2.1 hd h
theorem v_dup (ok : zOK G γ own cc nL fr lo) {a : zV} (ha : zlong (some a) = false) (hd : decode cc pc = .ok (.dup, 1)) (hn : pc + 1 = n) (kk : zVV G γ w k n ls (a :: a :: st) M) : zVV G γ w k pc ls (a :: st) M := by
  subst hn
  intro H locs cls h1 h2 h3
  exact lv_dup ok.1 ok.2.1 hd (by rw [zc_cat, ha]; rfl) (kk H locs cls h1 h2 h3)
theorem v_pop (ok : zOK G γ own cc nL fr lo) {a : zV} (ha : zlong (some a) = false) (hd : decode cc pc = .ok (.pop, 1)) (hn : pc + 1 = n) (kk : zVV G γ w k n ls st M) : zVV G γ w k pc ls (a :: st) M := by
  subst hn
  intro H locs cls h1 h2 h3
  exact lv_pop ok.1 ok.2.1 hd (by rw [zc_cat, ha]; rfl) (kk H locs cls h1 h2 h3)
theorem v_dup_x1 (ok : zOK G γ own cc nL fr lo) {a b : zV} (ha : zlong (some a) = false) (hb : zlong (some b) = false) (hd : decode cc pc = .ok (.dup_x1, 1)) (hn : pc + 1 = n) (kk : zVV G γ w k n ls (a :: b :: a :: st) M) : zVV G γ w k pc ls (a :: b :: st) M := by
  subst hn
  intro H locs cls h1 h2 h3
  exact lv_dup_x1 ok.1 ok.2.1 hd (by rw [zc_cat, ha]; rfl) (by rw [zc_cat, hb]; rfl) (kk H locs cls h1 h2 h3)
theorem v_dup2 (ok : zOK G γ own cc nL fr lo) {a b : zV} (ha : zlong (some a) = false) (hb : zlong (some b) = false) (hd : decode cc pc = .ok (.dup2, 1)) (hn : pc + 1 = n) (kk : zVV G γ w k n ls (a :: b :: a :: b :: st) M) : zVV G γ w k pc ls (a :: b :: st) M := by
  subst hn
  intro H locs cls h1 h2 h3
  exact lv_dup2_11 ok.1 ok.2.1 hd (by rw [zc_cat, ha]; rfl) (by rw [zc_cat, hb]; rfl) (kk H locs cls h1 h2 h3)
theorem v_if_eq (ok : zOK G γ own cc nL fr lo) {x : Int} {off : Int} {tgt : Nat} (hd : decode cc pc = .ok (.ifCond .eq off, 3)) (ht : (pc : Int) + off = (tgt : Int)) (hn : pc + 3 = n) (hx : -2147483648 ≤ x ∧ x ≤ 2147483647) (kt : x = 0 → zVV G γ w k tgt ls st M) (kf : x ≠ 0 → zVV G γ w k n ls st M) : zVV G γ w k pc ls (zi x :: st) M := by
  subst hn
  intro H locs cls h1 h2 h3
  have e : Int32.ofInt x = 0 ↔ x = 0 := by rw [zn_z]; exact zn_eq hx (by omega)
  refine lv_if_eq ok.1 ok.2.1 hd ht (fun q => kt (by first | exact e.mp q | exact fun z => q (e.mpr z) | omega) H locs cls h1 h2 h3) (fun q => kf (by first | exact e.mp q | exact fun z => q (e.mpr z) | (have q2 : ¬ _ := fun z => q (e.mpr z); omega) | (have q2 := Classical.byContradiction (fun z => q (fun y => z (e.mp y))); exact q2)) H locs cls h1 h2 h3)
theorem v_if_ne (ok : zOK G γ own cc nL fr lo) {x : Int} {off : Int} {tgt : Nat} (hd : decode cc pc = .ok (.ifCond .ne off, 3)) (ht : (pc : Int) + off = (tgt : Int)) (hn : pc + 3 = n) (hx : -2147483648 ≤ x ∧ x ≤ 2147483647) (kt : x ≠ 0 → zVV G γ w k tgt ls st M) (kf : x = 0 → zVV G γ w k n ls st M) : zVV G γ w k pc ls (zi x :: st) M := by
  subst hn
  intro H locs cls h1 h2 h3
  have e : Int32.ofInt x = 0 ↔ x = 0 := by rw [zn_z]; exact zn_eq hx (by omega)
  refine lv_if_ne ok.1 ok.2.1 hd ht (fun q => kt (by first | exact e.mp q | exact fun z => q (e.mpr z) | omega) H locs cls h1 h2 h3) (fun q => kf (by first | exact e.mp q | exact fun z => q (e.mpr z) | (have q2 : ¬ _ := fun z => q (e.mpr z); omega) | (have q2 := Classical.byContradiction (fun z => q (fun y => z (e.mp y))); exact q2)) H locs cls h1 h2 h3)
theorem v_if_lt (ok : zOK G γ own cc nL fr lo) {x : Int} {off : Int} {tgt : Nat} (hd : decode cc pc = .ok (.ifCond .lt off, 3)) (ht : (pc : Int) + off = (tgt : Int)) (hn : pc + 3 = n) (hx : -2147483648 ≤ x ∧ x ≤ 2147483647) (kt : x < 0 → zVV G γ w k tgt ls st M) (kf : 0 ≤ x → zVV G γ w k n ls st M) : zVV G γ w k pc ls (zi x :: st) M := by
  subst hn
  intro H locs cls h1 h2 h3
  have e : Int32.ofInt x < 0 ↔ x < 0 := by rw [zn_z]; exact zn_lt hx (by omega)
  refine lv_if_lt ok.1 ok.2.1 hd ht (fun q => kt (by first | exact e.mp q | exact fun z => q (e.mpr z) | omega) H locs cls h1 h2 h3) (fun q => kf (by first | exact e.mp q | exact fun z => q (e.mpr z) | (have q2 : ¬ _ := fun z => q (e.mpr z); omega) | (have q2 := Classical.byContradiction (fun z => q (fun y => z (e.mp y))); exact q2)) H locs cls h1 h2 h3)
theorem v_if_ge (ok : zOK G γ own cc nL fr lo) {x : Int} {off : Int} {tgt : Nat} (hd : decode cc pc = .ok (.ifCond .ge off, 3)) (ht : (pc : Int) + off = (tgt : Int)) (hn : pc + 3 = n) (hx : -2147483648 ≤ x ∧ x ≤ 2147483647) (kt : 0 ≤ x → zVV G γ w k tgt ls st M) (kf : x < 0 → zVV G γ w k n ls st M) : zVV G γ w k pc ls (zi x :: st) M := by
  subst hn
  intro H locs cls h1 h2 h3
  have e : 0 ≤ Int32.ofInt x ↔ 0 ≤ x := by rw [zn_z]; exact zn_le (by omega) hx
  refine lv_if_ge ok.1 ok.2.1 hd ht (fun q => kt (by first | exact e.mp q | exact fun z => q (e.mpr z) | omega) H locs cls h1 h2 h3) (fun q => kf (by first | exact e.mp q | exact fun z => q (e.mpr z) | (have q2 : ¬ _ := fun z => q (e.mpr z); omega) | (have q2 := Classical.byContradiction (fun z => q (fun y => z (e.mp y))); exact q2)) H locs cls h1 h2 h3)
theorem v_if_gt (ok : zOK G γ own cc nL fr lo) {x : Int} {off : Int} {tgt : Nat} (hd : decode cc pc = .ok (.ifCond .gt off, 3)) (ht : (pc : Int) + off = (tgt : Int)) (hn : pc + 3 = n) (hx : -2147483648 ≤ x ∧ x ≤ 2147483647) (kt : 0 < x → zVV G γ w k tgt ls st M) (kf : x ≤ 0 → zVV G γ w k n ls st M) : zVV G γ w k pc ls (zi x :: st) M := by
  subst hn
  intro H locs cls h1 h2 h3
  have e : 0 < Int32.ofInt x ↔ 0 < x := by rw [zn_z]; exact zn_lt (by omega) hx
  refine lv_if_gt ok.1 ok.2.1 hd ht (fun q => kt (by first | exact e.mp q | exact fun z => q (e.mpr z) | omega) H locs cls h1 h2 h3) (fun q => kf (by first | exact e.mp q | exact fun z => q (e.mpr z) | (have q2 : ¬ _ := fun z => q (e.mpr z); omega) | (have q2 := Classical.byContradiction (fun z => q (fun y => z (e.mp y))); exact q2)) H locs cls h1 h2 h3)
theorem v_if_le (ok : zOK G γ own cc nL fr lo) {x : Int} {off : Int} {tgt : Nat} (hd : decode cc pc = .ok (.ifCond .le off, 3)) (ht : (pc : Int) + off = (tgt : Int)) (hn : pc + 3 = n) (hx : -2147483648 ≤ x ∧ x ≤ 2147483647) (kt : x ≤ 0 → zVV G γ w k tgt ls st M) (kf : 0 < x → zVV G γ w k n ls st M) : zVV G γ w k pc ls (zi x :: st) M := by
  subst hn
  intro H locs cls h1 h2 h3
  have e : Int32.ofInt x ≤ 0 ↔ x ≤ 0 := by rw [zn_z]; exact zn_le hx (by omega)
  refine lv_if_le ok.1 ok.2.1 hd ht (fun q => kt (by first | exact e.mp q | exact fun z => q (e.mpr z) | omega) H locs cls h1 h2 h3) (fun q => kf (by first | exact e.mp q | exact fun z => q (e.mpr z) | (have q2 : ¬ _ := fun z => q (e.mpr z); omega) | (have q2 := Classical.byContradiction (fun z => q (fun y => z (e.mp y))); exact q2)) H locs cls h1 h2 h3)
theorem v_icmp_eq (ok : zOK G γ own cc nL fr lo) {x y : Int} {off : Int} {tgt : Nat} (hd : decode cc pc = .ok (.if_icmp .eq off, 3)) (ht : (pc : Int) + off = (tgt : Int)) (hn : pc + 3 = n) (hx : -2147483648 ≤ x ∧ x ≤ 2147483647) (hy : -2147483648 ≤ y ∧ y ≤ 2147483647) (kt : x = y → zVV G γ w k tgt ls st M) (kf : x ≠ y → zVV G γ w k n ls st M) : zVV G γ w k pc ls (zi y :: zi x :: st) M := by
  subst hn
  intro H locs cls h1 h2 h3
  have e := zn_eq hx hy
  refine lv_icmp_eq ok.1 ok.2.1 hd ht (fun q => kt (by first | exact e.mp q | exact fun z => q (e.mpr z) | omega) H locs cls h1 h2 h3) (fun q => kf (by first | exact e.mp q | exact fun z => q (e.mpr z) | (have q2 : ¬ _ := fun z => q (e.mpr z); omega) | (have q2 := Classical.byContradiction (fun z => q (fun y => z (e.mp y))); exact q2)) H locs cls h1 h2 h3)
theorem v_icmp_ne (ok : zOK G γ own cc nL fr lo) {x y : Int} {off : Int} {tgt : Nat} (hd : decode cc pc = .ok (.if_icmp .ne off, 3)) (ht : (pc : Int) + off = (tgt : Int)) (hn : pc + 3 = n) (hx : -2147483648 ≤ x ∧ x ≤ 2147483647) (hy : -2147483648 ≤ y ∧ y ≤ 2147483647) (kt : x ≠ y → zVV G γ w k tgt ls st M) (kf : x = y → zVV G γ w k n ls st M) : zVV G γ w k pc ls (zi y :: zi x :: st) M := by
  subst hn
  intro H locs cls h1 h2 h3
  have e := zn_eq hx hy
  refine lv_icmp_ne ok.1 ok.2.1 hd ht (fun q => kt (by first | exact e.mp q | exact fun z => q (e.mpr z) | omega) H locs cls h1 h2 h3) (fun q => kf (by first | exact e.mp q | exact fun z => q (e.mpr z) | (have q2 : ¬ _ := fun z => q (e.mpr z); omega) | (have q2 := Classical.byContradiction (fun z => q (fun y => z (e.mp y))); exact q2)) H locs cls h1 h2 h3)
theorem v_icmp_lt (ok : zOK G γ own cc nL fr lo) {x y : Int} {off : Int} {tgt : Nat} (hd : decode cc pc = .ok (.if_icmp .lt off, 3)) (ht : (pc : Int) + off = (tgt : Int)) (hn : pc + 3 = n) (hx : -2147483648 ≤ x ∧ x ≤ 2147483647) (hy : -2147483648 ≤ y ∧ y ≤ 2147483647) (kt : x < y → zVV G γ w k tgt ls st M) (kf : y ≤ x → zVV G γ w k n ls st M) : zVV G γ w k pc ls (zi y :: zi x :: st) M := by
  subst hn
  intro H locs cls h1 h2 h3
  have e := zn_lt hx hy
  refine lv_icmp_lt ok.1 ok.2.1 hd ht (fun q => kt (by first | exact e.mp q | exact fun z => q (e.mpr z) | omega) H locs cls h1 h2 h3) (fun q => kf (by first | exact e.mp q | exact fun z => q (e.mpr z) | (have q2 : ¬ _ := fun z => q (e.mpr z); omega) | (have q2 := Classical.byContradiction (fun z => q (fun y => z (e.mp y))); exact q2)) H locs cls h1 h2 h3)
theorem v_icmp_ge (ok : zOK G γ own cc nL fr lo) {x y : Int} {off : Int} {tgt : Nat} (hd : decode cc pc = .ok (.if_icmp .ge off, 3)) (ht : (pc : Int) + off = (tgt : Int)) (hn : pc + 3 = n) (hx : -2147483648 ≤ x ∧ x ≤ 2147483647) (hy : -2147483648 ≤ y ∧ y ≤ 2147483647) (kt : y ≤ x → zVV G γ w k tgt ls st M) (kf : x < y → zVV G γ w k n ls st M) : zVV G γ w k pc ls (zi y :: zi x :: st) M := by
  subst hn
  intro H locs cls h1 h2 h3
  have e := zn_le hy hx
  refine lv_icmp_ge ok.1 ok.2.1 hd ht (fun q => kt (by first | exact e.mp q | exact fun z => q (e.mpr z) | omega) H locs cls h1 h2 h3) (fun q => kf (by first | exact e.mp q | exact fun z => q (e.mpr z) | (have q2 : ¬ _ := fun z => q (e.mpr z); omega) | (have q2 := Classical.byContradiction (fun z => q (fun y => z (e.mp y))); exact q2)) H locs cls h1 h2 h3)
theorem v_icmp_gt (ok : zOK G γ own cc nL fr lo) {x y : Int} {off : Int} {tgt : Nat} (hd : decode cc pc = .ok (.if_icmp .gt off, 3)) (ht : (pc : Int) + off = (tgt : Int)) (hn : pc + 3 = n) (hx : -2147483648 ≤ x ∧ x ≤ 2147483647) (hy : -2147483648 ≤ y ∧ y ≤ 2147483647) (kt : y < x → zVV G γ w k tgt ls st M) (kf : x ≤ y → zVV G γ w k n ls st M) : zVV G γ w k pc ls (zi y :: zi x :: st) M := by
  subst hn
  intro H locs cls h1 h2 h3
  have e := zn_lt hy hx
  refine lv_icmp_gt ok.1 ok.2.1 hd ht (fun q => kt (by first | exact e.mp q | exact fun z => q (e.mpr z) | omega) H locs cls h1 h2 h3) (fun q => kf (by first | exact e.mp q | exact fun z => q (e.mpr z) | (have q2 : ¬ _ := fun z => q (e.mpr z); omega) | (have q2 := Classical.byContradiction (fun z => q (fun y => z (e.mp y))); exact q2)) H locs cls h1 h2 h3)
theorem v_icmp_le (ok : zOK G γ own cc nL fr lo) {x y : Int} {off : Int} {tgt : Nat} (hd : decode cc pc = .ok (.if_icmp .le off, 3)) (ht : (pc : Int) + off = (tgt : Int)) (hn : pc + 3 = n) (hx : -2147483648 ≤ x ∧ x ≤ 2147483647) (hy : -2147483648 ≤ y ∧ y ≤ 2147483647) (kt : x ≤ y → zVV G γ w k tgt ls st M) (kf : y < x → zVV G γ w k n ls st M) : zVV G γ w k pc ls (zi y :: zi x :: st) M := by
  subst hn
  intro H locs cls h1 h2 h3
  have e := zn_le hx hy
  refine lv_icmp_le ok.1 ok.2.1 hd ht (fun q => kt (by first | exact e.mp q | exact fun z => q (e.mpr z) | omega) H locs cls h1 h2 h3) (fun q => kf (by first | exact e.mp q | exact fun z => q (e.mpr z) | (have q2 : ¬ _ := fun z => q (e.mpr z); omega) | (have q2 := Classical.byContradiction (fun z => q (fun y => z (e.mp y))); exact q2)) H locs cls h1 h2 h3)
theorem v_goto (ok : zOK G γ own cc nL fr lo) {off : Int} (hd : decode cc pc = .ok (.goto off, 3)) (ht : (pc : Int) + off = (n : Int)) (kk : zVV G γ w k n ls st M) : zVV G γ w k pc ls st M := by
  intro H locs cls h1 h2 h3
  exact lv_goto ok.1 ok.2.1 hd ht (kk H locs cls h1 h2 h3)
theorem v_swOut (ok : zOK G γ own cc nL fr lo) {x dflt lo2 hi : Int} {offs : Array Int} {len : Nat} (hd : decode cc pc = .ok (.tableswitch dflt lo2 hi offs, len)) (hx : -2147483648 ≤ x ∧ x ≤ 2147483647) (h : x < lo2 ∨ hi < x) (ht : (pc : Int) + dflt = (n : Int)) (kk : zVV G γ w k n ls st M) : zVV G γ w k pc ls (zi x :: st) M := by
  intro H locs cls h1 h2 h3
  exact lv_tableOut ok.1 ok.2.1 hd (by rw [zn_toI hx]; exact h) ht (kk H locs cls h1 h2 h3)
theorem v_swIn (ok : zOK G γ own cc nL fr lo) {x dflt lo2 hi : Int} {offs : Array Int} {len : Nat} {off : Int} (hd : decode cc pc = .ok (.tableswitch dflt lo2 hi offs, len)) (hx : -2147483648 ≤ x ∧ x ≤ 2147483647) (ha : ¬ x < lo2) (hb : ¬ hi < x) (ho : offs[(x - lo2).toNat]? = some off) (ht : (pc : Int) + off = (n : Int)) (kk : zVV G γ w k n ls st M) : zVV G γ w k pc ls (zi x :: st) M := by
  intro H locs cls h1 h2 h3
  exact lv_tableIn ok.1 ok.2.1 hd (by rw [zn_toI hx]; exact ha) (by rw [zn_toI hx]; exact hb) (by rw [zn_toI hx]; exact ho) ht (kk H locs cls h1 h2 h3)
theorem v_iload_g (ok : zOK G γ own cc nL fr lo) {i : Nat} {x : Int} (hl : ls[i]? = some (some (zi x))) (hd : decode cc pc = .ok (.iload i, 2)) (hn : pc + 2 = n) (kk : zVV G γ w k n ls (zi x :: st) M) : zVV G γ w k pc ls st M := by
  subst hn
  intro H locs cls h1 h2 h3
  exact lv_iload ok.1 ok.2.1 hd (zlh_get h3 hl) (kk H locs cls h1 h2 h3)
theorem v_iload_n (ok : zOK G γ own cc nL fr lo) {q : Fin 4} {i : Nat} {x : Int} (hl : ls[i]? = some (some (zi x))) (hq : (q : Nat) = i) (hd : decode cc pc = .ok (.iload_n q, 1)) (hn : pc + 1 = n) (kk : zVV G γ w k n ls (zi x :: st) M) : zVV G γ w k pc ls st M := by
  subst hn
  intro H locs cls h1 h2 h3
  exact lv_iload_n ok.1 ok.2.1 hd hq (zlh_get h3 hl) (kk H locs cls h1 h2 h3)
theorem v_istore_g (ok : zOK G γ own cc nL fr lo) {i : Nat} {x : Int} (hi : i < nL) (hp : ∀ j : Nat, j + 1 = i → zlong ((ls[j]?).getD none) = false) (hd : decode cc pc = .ok (.istore i, 2)) (hn : pc + 2 = n) (kk : zVV G γ w k n (ls.set i (some (zi x))) st M) : zVV G γ w k pc ls (zi x :: st) M := by
  subst hn
  intro H locs cls h1 h2 h3
  have hi2 := hi
  rw [← ok.2.2.1] at hi2
  exact lv_istore ok.1 ok.2.1 hd h3 hi2 rfl (fun ls2 hl2 => kk H locs ls2 h1 h2 (zlh_st1 hl2 hp))
theorem v_istore_n (ok : zOK G γ own cc nL fr lo) {q : Fin 4} {i : Nat} {x : Int} (hi : i < nL) (hp : ∀ j : Nat, j + 1 = i → zlong ((ls[j]?).getD none) = false) (hq : (q : Nat) = i) (hd : decode cc pc = .ok (.istore_n q, 1)) (hn : pc + 1 = n) (kk : zVV G γ w k n (ls.set i (some (zi x))) st M) : zVV G γ w k pc ls (zi x :: st) M := by
  subst hn
  intro H locs cls h1 h2 h3
  have hi2 := hi
  rw [← ok.2.2.1] at hi2
  exact lv_istore_n ok.1 ok.2.1 hd hq h3 hi2 rfl (fun ls2 hl2 => kk H locs ls2 h1 h2 (zlh_st1 hl2 hp))
theorem v_lload_g (ok : zOK G γ own cc nL fr lo) {i : Nat} {x : Int} (hl : ls[i]? = some (some (zj x))) (hd : decode cc pc = .ok (.lload i, 2)) (hn : pc + 2 = n) (kk : zVV G γ w k n ls (zj x :: st) M) : zVV G γ w k pc ls st M := by
  subst hn
  intro H locs cls h1 h2 h3
  exact lv_lload ok.1 ok.2.1 hd (zlh_get h3 hl) (kk H locs cls h1 h2 h3)
theorem v_lload_n (ok : zOK G γ own cc nL fr lo) {q : Fin 4} {i : Nat} {x : Int} (hl : ls[i]? = some (some (zj x))) (hq : (q : Nat) = i) (hd : decode cc pc = .ok (.lload_n q, 1)) (hn : pc + 1 = n) (kk : zVV G γ w k n ls (zj x :: st) M) : zVV G γ w k pc ls st M := by
  subst hn
  intro H locs cls h1 h2 h3
  exact lv_lload_n ok.1 ok.2.1 hd hq (zlh_get h3 hl) (kk H locs cls h1 h2 h3)
theorem v_lstore_g (ok : zOK G γ own cc nL fr lo) {i : Nat} {x : Int} (hi : i + 1 < nL) (hp : ∀ j : Nat, j + 1 = i → zlong ((ls[j]?).getD none) = false) (hd : decode cc pc = .ok (.lstore i, 2)) (hn : pc + 2 = n) (kk : zVV G γ w k n ((ls.set i (some (zj x))).set (i + 1) none) st M) : zVV G γ w k pc ls (zj x :: st) M := by
  subst hn
  intro H locs cls h1 h2 h3
  have hi2 := hi
  rw [← ok.2.2.1] at hi2
  exact lv_lstore ok.1 ok.2.1 hd h3 hi2 rfl (fun ls2 hl2 => kk H locs ls2 h1 h2 (zlh_st2 hl2 hp))
theorem v_lstore_n (ok : zOK G γ own cc nL fr lo) {q : Fin 4} {i : Nat} {x : Int} (hi : i + 1 < nL) (hp : ∀ j : Nat, j + 1 = i → zlong ((ls[j]?).getD none) = false) (hq : (q : Nat) = i) (hd : decode cc pc = .ok (.lstore_n q, 1)) (hn : pc + 1 = n) (kk : zVV G γ w k n ((ls.set i (some (zj x))).set (i + 1) none) st M) : zVV G γ w k pc ls (zj x :: st) M := by
  subst hn
  intro H locs cls h1 h2 h3
  have hi2 := hi
  rw [← ok.2.2.1] at hi2
  exact lv_lstore_n ok.1 ok.2.1 hd hq h3 hi2 rfl (fun ls2 hl2 => kk H locs ls2 h1 h2 (zlh_st2 hl2 hp))
theorem v_aload_g (ok : zOK G γ own cc nL fr lo) {i : Nat} {x : Int} (hl : ls[i]? = some (some (zr x))) (hd : decode cc pc = .ok (.aload i, 2)) (hn : pc + 2 = n) (kk : zVV G γ w k n ls (zr x :: st) M) : zVV G γ w k pc ls st M := by
  subst hn
  intro H locs cls h1 h2 h3
  exact lv_aload ok.1 ok.2.1 hd (zlh_get h3 hl) (kk H locs cls h1 h2 h3)
theorem v_aload_n (ok : zOK G γ own cc nL fr lo) {q : Fin 4} {i : Nat} {x : Int} (hl : ls[i]? = some (some (zr x))) (hq : (q : Nat) = i) (hd : decode cc pc = .ok (.aload_n q, 1)) (hn : pc + 1 = n) (kk : zVV G γ w k n ls (zr x :: st) M) : zVV G γ w k pc ls st M := by
  subst hn
  intro H locs cls h1 h2 h3
  exact lv_aload_n ok.1 ok.2.1 hd hq (zlh_get h3 hl) (kk H locs cls h1 h2 h3)
theorem v_astore_g (ok : zOK G γ own cc nL fr lo) {i : Nat} {x : Int} (hi : i < nL) (hp : ∀ j : Nat, j + 1 = i → zlong ((ls[j]?).getD none) = false) (hd : decode cc pc = .ok (.astore i, 2)) (hn : pc + 2 = n) (kk : zVV G γ w k n (ls.set i (some (zr x))) st M) : zVV G γ w k pc ls (zr x :: st) M := by
  subst hn
  intro H locs cls h1 h2 h3
  have hi2 := hi
  rw [← ok.2.2.1] at hi2
  exact lv_astore ok.1 ok.2.1 hd h3 hi2 rfl (fun ls2 hl2 => kk H locs ls2 h1 h2 (zlh_st1 hl2 hp))
theorem v_astore_n (ok : zOK G γ own cc nL fr lo) {q : Fin 4} {i : Nat} {x : Int} (hi : i < nL) (hp : ∀ j : Nat, j + 1 = i → zlong ((ls[j]?).getD none) = false) (hq : (q : Nat) = i) (hd : decode cc pc = .ok (.astore_n q, 1)) (hn : pc + 1 = n) (kk : zVV G γ w k n (ls.set i (some (zr x))) st M) : zVV G γ w k pc ls (zr x :: st) M := by
  subst hn
  intro H locs cls h1 h2 h3
  have hi2 := hi
  rw [← ok.2.2.1] at hi2
  exact lv_astore_n ok.1 ok.2.1 hd hq h3 hi2 rfl (fun ls2 hl2 => kk H locs ls2 h1 h2 (zlh_st1 hl2 hp))
theorem v_iinc_g (ok : zOK G γ own cc nL fr lo) {i : Nat} {x c : Int} (hi : i < nL) (hl : ls[i]? = some (some (zi x))) (hp : ∀ j : Nat, j + 1 = i → zlong ((ls[j]?).getD none) = false) (hd : decode cc pc = .ok (.iinc i c, 3)) (hn : pc + 3 = n) (kk : zVV G γ w k n (ls.set i (some (zi (x + c)))) st M) : zVV G γ w k pc ls st M := by
  subst hn
  intro H locs cls h1 h2 h3
  have hi2 := hi
  rw [← ok.2.2.1] at hi2
  obtain ⟨q, hq⟩ := List.getElem?_of_mem (zll_mem.mpr ⟨zi x, hl, rfl⟩ : (i, zc w.1 (zi x)) ∈ zll w.1 ls)
  exact lv_iinc ok.1 ok.2.1 hd h3 (k := q) hq (v := Int32.ofInt (x + c)) (zn_add x c).symm hi2 rfl (fun ls2 hl2 => kk H locs ls2 h1 h2 (zlh_st1 hl2 hp))
theorem v_iload_0 (ok : zOK G γ own cc nL fr lo) {ll : zL} {x : Int} (hd : decode cc pc = .ok (.iload_n 0, 1)) (hn : pc + 1 = n) (kk : zVV G γ w k n (some (zi x) :: ll) (zi x :: st) M) : zVV G γ w k pc (some (zi x) :: ll) st M := v_iload_n ok rfl (by rfl) hd hn kk
theorem v_istore_0 (ok : zOK G γ own cc nL fr lo) {b : Option zV} {ll : zL} {x : Int} (hi : 0 < nL) (hd : decode cc pc = .ok (.istore_n 0, 1)) (hn : pc + 1 = n) (kk : zVV G γ w k n (some (zi x) :: ll) st M) : zVV G γ w k pc (b :: ll) (zi x :: st) M := v_istore_n ok hi (fun j hj => by omega) (by rfl) hd hn kk
theorem v_lload_0 (ok : zOK G γ own cc nL fr lo) {ll : zL} {x : Int} (hd : decode cc pc = .ok (.lload_n 0, 1)) (hn : pc + 1 = n) (kk : zVV G γ w k n (some (zj x) :: ll) (zj x :: st) M) : zVV G γ w k pc (some (zj x) :: ll) st M := v_lload_n ok rfl (by rfl) hd hn kk
theorem v_lstore_0 (ok : zOK G γ own cc nL fr lo) {b b2 : Option zV} {ll : zL} {x : Int} (hi : 0 + 1 < nL) (hd : decode cc pc = .ok (.lstore_n 0, 1)) (hn : pc + 1 = n) (kk : zVV G γ w k n (some (zj x) :: none :: ll) st M) : zVV G γ w k pc (b :: b2 :: ll) (zj x :: st) M := v_lstore_n ok hi (fun j hj => by omega) (by rfl) hd hn kk
theorem v_aload_0 (ok : zOK G γ own cc nL fr lo) {ll : zL} {x : Int} (hd : decode cc pc = .ok (.aload_n 0, 1)) (hn : pc + 1 = n) (kk : zVV G γ w k n (some (zr x) :: ll) (zr x :: st) M) : zVV G γ w k pc (some (zr x) :: ll) st M := v_aload_n ok rfl (by rfl) hd hn kk
theorem v_astore_0 (ok : zOK G γ own cc nL fr lo) {b : Option zV} {ll : zL} {x : Int} (hi : 0 < nL) (hd : decode cc pc = .ok (.astore_n 0, 1)) (hn : pc + 1 = n) (kk : zVV G γ w k n (some (zr x) :: ll) st M) : zVV G γ w k pc (b :: ll) (zr x :: st) M := v_astore_n ok hi (fun j hj => by omega) (by rfl) hd hn kk
theorem v_iinc_0 (ok : zOK G γ own cc nL fr lo) {ll : zL} {x c : Int} (hi : 0 < nL) (hd : decode cc pc = .ok (.iinc 0 c, 3)) (hn : pc + 3 = n) (kk : zVV G γ w k n (some (zi (x + c)) :: ll) st M) : zVV G γ w k pc (some (zi x) :: ll) st M := v_iinc_g ok hi rfl (fun j hj => by omega) hd hn kk
theorem v_iload_1 (ok : zOK G γ own cc nL fr lo) {a0 : Option zV} {ll : zL} {x : Int} (hd : decode cc pc = .ok (.iload_n 1, 1)) (hn : pc + 1 = n) (kk : zVV G γ w k n (a0 :: some (zi x) :: ll) (zi x :: st) M) : zVV G γ w k pc (a0 :: some (zi x) :: ll) st M := v_iload_n ok rfl (by rfl) hd hn kk
theorem v_istore_1 (ok : zOK G γ own cc nL fr lo) {a0 : Option zV} {b : Option zV} {ll : zL} {x : Int} (hi : 1 < nL) (hp : zlong a0 = false) (hd : decode cc pc = .ok (.istore_n 1, 1)) (hn : pc + 1 = n) (kk : zVV G γ w k n (a0 :: some (zi x) :: ll) st M) : zVV G γ w k pc (a0 :: b :: ll) (zi x :: st) M := v_istore_n ok hi (fun j hj => by have e : j = 0 := (by omega); subst e; exact hp) (by rfl) hd hn kk
theorem v_lload_1 (ok : zOK G γ own cc nL fr lo) {a0 : Option zV} {ll : zL} {x : Int} (hd : decode cc pc = .ok (.lload_n 1, 1)) (hn : pc + 1 = n) (kk : zVV G γ w k n (a0 :: some (zj x) :: ll) (zj x :: st) M) : zVV G γ w k pc (a0 :: some (zj x) :: ll) st M := v_lload_n ok rfl (by rfl) hd hn kk
theorem v_lstore_1 (ok : zOK G γ own cc nL fr lo) {a0 : Option zV} {b b2 : Option zV} {ll : zL} {x : Int} (hi : 1 + 1 < nL) (hp : zlong a0 = false) (hd : decode cc pc = .ok (.lstore_n 1, 1)) (hn : pc + 1 = n) (kk : zVV G γ w k n (a0 :: some (zj x) :: none :: ll) st M) : zVV G γ w k pc (a0 :: b :: b2 :: ll) (zj x :: st) M := v_lstore_n ok hi (fun j hj => by have e : j = 0 := (by omega); subst e; exact hp) (by rfl) hd hn kk
theorem v_aload_1 (ok : zOK G γ own cc nL fr lo) {a0 : Option zV} {ll : zL} {x : Int} (hd : decode cc pc = .ok (.aload_n 1, 1)) (hn : pc + 1 = n) (kk : zVV G γ w k n (a0 :: some (zr x) :: ll) (zr x :: st) M) : zVV G γ w k pc (a0 :: some (zr x) :: ll) st M := v_aload_n ok rfl (by rfl) hd hn kk
theorem v_astore_1 (ok : zOK G γ own cc nL fr lo) {a0 : Option zV} {b : Option zV} {ll : zL} {x : Int} (hi : 1 < nL) (hp : zlong a0 = false) (hd : decode cc pc = .ok (.astore_n 1, 1)) (hn : pc + 1 = n) (kk : zVV G γ w k n (a0 :: some (zr x) :: ll) st M) : zVV G γ w k pc (a0 :: b :: ll) (zr x :: st) M := v_astore_n ok hi (fun j hj => by have e : j = 0 := (by omega); subst e; exact hp) (by rfl) hd hn kk
theorem v_iinc_1 (ok : zOK G γ own cc nL fr lo) {a0 : Option zV} {ll : zL} {x c : Int} (hi : 1 < nL) (hp : zlong a0 = false) (hd : decode cc pc = .ok (.iinc 1 c, 3)) (hn : pc + 3 = n) (kk : zVV G γ w k n (a0 :: some (zi (x + c)) :: ll) st M) : zVV G γ w k pc (a0 :: some (zi x) :: ll) st M := v_iinc_g ok hi rfl (fun j hj => by have e : j = 0 := (by omega); subst e; exact hp) hd hn kk
theorem v_iload_2 (ok : zOK G γ own cc nL fr lo) {a0 a1 : Option zV} {ll : zL} {x : Int} (hd : decode cc pc = .ok (.iload_n 2, 1)) (hn : pc + 1 = n) (kk : zVV G γ w k n (a0 :: a1 :: some (zi x) :: ll) (zi x :: st) M) : zVV G γ w k pc (a0 :: a1 :: some (zi x) :: ll) st M := v_iload_n ok rfl (by rfl) hd hn kk
theorem v_istore_2 (ok : zOK G γ own cc nL fr lo) {a0 a1 : Option zV} {b : Option zV} {ll : zL} {x : Int} (hi : 2 < nL) (hp : zlong a1 = false) (hd : decode cc pc = .ok (.istore_n 2, 1)) (hn : pc + 1 = n) (kk : zVV G γ w k n (a0 :: a1 :: some (zi x) :: ll) st M) : zVV G γ w k pc (a0 :: a1 :: b :: ll) (zi x :: st) M := v_istore_n ok hi (fun j hj => by have e : j = 1 := (by omega); subst e; exact hp) (by rfl) hd hn kk
theorem v_lload_2 (ok : zOK G γ own cc nL fr lo) {a0 a1 : Option zV} {ll : zL} {x : Int} (hd : decode cc pc = .ok (.lload_n 2, 1)) (hn : pc + 1 = n) (kk : zVV G γ w k n (a0 :: a1 :: some (zj x) :: ll) (zj x :: st) M) : zVV G γ w k pc (a0 :: a1 :: some (zj x) :: ll) st M := v_lload_n ok rfl (by rfl) hd hn kk
theorem v_lstore_2 (ok : zOK G γ own cc nL fr lo) {a0 a1 : Option zV} {b b2 : Option zV} {ll : zL} {x : Int} (hi : 2 + 1 < nL) (hp : zlong a1 = false) (hd : decode cc pc = .ok (.lstore_n 2, 1)) (hn : pc + 1 = n) (kk : zVV G γ w k n (a0 :: a1 :: some (zj x) :: none :: ll) st M) : zVV G γ w k pc (a0 :: a1 :: b :: b2 :: ll) (zj x :: st) M := v_lstore_n ok hi (fun j hj => by have e : j = 1 := (by omega); subst e; exact hp) (by rfl) hd hn kk
theorem v_aload_2 (ok : zOK G γ own cc nL fr lo) {a0 a1 : Option zV} {ll : zL} {x : Int} (hd : decode cc pc = .ok (.aload_n 2, 1)) (hn : pc + 1 = n) (kk : zVV G γ w k n (a0 :: a1 :: some (zr x) :: ll) (zr x :: st) M) : zVV G γ w k pc (a0 :: a1 :: some (zr x) :: ll) st M := v_aload_n ok rfl (by rfl) hd hn kk
theorem v_astore_2 (ok : zOK G γ own cc nL fr lo) {a0 a1 : Option zV} {b : Option zV} {ll : zL} {x : Int} (hi : 2 < nL) (hp : zlong a1 = false) (hd : decode cc pc = .ok (.astore_n 2, 1)) (hn : pc + 1 = n) (kk : zVV G γ w k n (a0 :: a1 :: some (zr x) :: ll) st M) : zVV G γ w k pc (a0 :: a1 :: b :: ll) (zr x :: st) M := v_astore_n ok hi (fun j hj => by have e : j = 1 := (by omega); subst e; exact hp) (by rfl) hd hn kk
theorem v_iinc_2 (ok : zOK G γ own cc nL fr lo) {a0 a1 : Option zV} {ll : zL} {x c : Int} (hi : 2 < nL) (hp : zlong a1 = false) (hd : decode cc pc = .ok (.iinc 2 c, 3)) (hn : pc + 3 = n) (kk : zVV G γ w k n (a0 :: a1 :: some (zi (x + c)) :: ll) st M) : zVV G γ w k pc (a0 :: a1 :: some (zi x) :: ll) st M := v_iinc_g ok hi rfl (fun j hj => by have e : j = 1 := (by omega); subst e; exact hp) hd hn kk
theorem v_iload_3 (ok : zOK G γ own cc nL fr lo) {a0 a1 a2 : Option zV} {ll : zL} {x : Int} (hd : decode cc pc = .ok (.iload_n 3, 1)) (hn : pc + 1 = n) (kk : zVV G γ w k n (a0 :: a1 :: a2 :: some (zi x) :: ll) (zi x :: st) M) : zVV G γ w k pc (a0 :: a1 :: a2 :: some (zi x) :: ll) st M := v_iload_n ok rfl (by rfl) hd hn kk
theorem v_istore_3 (ok : zOK G γ own cc nL fr lo) {a0 a1 a2 : Option zV} {b : Option zV} {ll : zL} {x : Int} (hi : 3 < nL) (hp : zlong a2 = false) (hd : decode cc pc = .ok (.istore_n 3, 1)) (hn : pc + 1 = n) (kk : zVV G γ w k n (a0 :: a1 :: a2 :: some (zi x) :: ll) st M) : zVV G γ w k pc (a0 :: a1 :: a2 :: b :: ll) (zi x :: st) M := v_istore_n ok hi (fun j hj => by have e : j = 2 := (by omega); subst e; exact hp) (by rfl) hd hn kk
theorem v_lload_3 (ok : zOK G γ own cc nL fr lo) {a0 a1 a2 : Option zV} {ll : zL} {x : Int} (hd : decode cc pc = .ok (.lload_n 3, 1)) (hn : pc + 1 = n) (kk : zVV G γ w k n (a0 :: a1 :: a2 :: some (zj x) :: ll) (zj x :: st) M) : zVV G γ w k pc (a0 :: a1 :: a2 :: some (zj x) :: ll) st M := v_lload_n ok rfl (by rfl) hd hn kk
theorem v_lstore_3 (ok : zOK G γ own cc nL fr lo) {a0 a1 a2 : Option zV} {b b2 : Option zV} {ll : zL} {x : Int} (hi : 3 + 1 < nL) (hp : zlong a2 = false) (hd : decode cc pc = .ok (.lstore_n 3, 1)) (hn : pc + 1 = n) (kk : zVV G γ w k n (a0 :: a1 :: a2 :: some (zj x) :: none :: ll) st M) : zVV G γ w k pc (a0 :: a1 :: a2 :: b :: b2 :: ll) (zj x :: st) M := v_lstore_n ok hi (fun j hj => by have e : j = 2 := (by omega); subst e; exact hp) (by rfl) hd hn kk
theorem v_aload_3 (ok : zOK G γ own cc nL fr lo) {a0 a1 a2 : Option zV} {ll : zL} {x : Int} (hd : decode cc pc = .ok (.aload_n 3, 1)) (hn : pc + 1 = n) (kk : zVV G γ w k n (a0 :: a1 :: a2 :: some (zr x) :: ll) (zr x :: st) M) : zVV G γ w k pc (a0 :: a1 :: a2 :: some (zr x) :: ll) st M := v_aload_n ok rfl (by rfl) hd hn kk
theorem v_astore_3 (ok : zOK G γ own cc nL fr lo) {a0 a1 a2 : Option zV} {b : Option zV} {ll : zL} {x : Int} (hi : 3 < nL) (hp : zlong a2 = false) (hd : decode cc pc = .ok (.astore_n 3, 1)) (hn : pc + 1 = n) (kk : zVV G γ w k n (a0 :: a1 :: a2 :: some (zr x) :: ll) st M) : zVV G γ w k pc (a0 :: a1 :: a2 :: b :: ll) (zr x :: st) M := v_astore_n ok hi (fun j hj => by have e : j = 2 := (by omega); subst e; exact hp) (by rfl) hd hn kk
theorem v_iinc_3 (ok : zOK G γ own cc nL fr lo) {a0 a1 a2 : Option zV} {ll : zL} {x c : Int} (hi : 3 < nL) (hp : zlong a2 = false) (hd : decode cc pc = .ok (.iinc 3 c, 3)) (hn : pc + 3 = n) (kk : zVV G γ w k n (a0 :: a1 :: a2 :: some (zi (x + c)) :: ll) st M) : zVV G γ w k pc (a0 :: a1 :: a2 :: some (zi x) :: ll) st M := v_iinc_g ok hi rfl (fun j hj => by have e : j = 2 := (by omega); subst e; exact hp) hd hn kk
theorem v_iload_4 (ok : zOK G γ own cc nL fr lo) {a0 a1 a2 a3 : Option zV} {ll : zL} {x : Int} (hd : decode cc pc = .ok (.iload 4, 2)) (hn : pc + 2 = n) (kk : zVV G γ w k n (a0 :: a1 :: a2 :: a3 :: some (zi x) :: ll) (zi x :: st) M) : zVV G γ w k pc (a0 :: a1 :: a2 :: a3 :: some (zi x) :: ll) st M := v_iload_g ok rfl hd hn kk
theorem v_istore_4 (ok : zOK G γ own cc nL fr lo) {a0 a1 a2 a3 : Option zV} {b : Option zV} {ll : zL} {x : Int} (hi : 4 < nL) (hp : zlong a3 = false) (hd : decode cc pc = .ok (.istore 4, 2)) (hn : pc + 2 = n) (kk : zVV G γ w k n (a0 :: a1 :: a2 :: a3 :: some (zi x) :: ll) st M) : zVV G γ w k pc (a0 :: a1 :: a2 :: a3 :: b :: ll) (zi x :: st) M := v_istore_g ok hi (fun j hj => by have e : j = 3 := (by omega); subst e; exact hp) hd hn kk
theorem v_lload_4 (ok : zOK G γ own cc nL fr lo) {a0 a1 a2 a3 : Option zV} {ll : zL} {x : Int} (hd : decode cc pc = .ok (.lload 4, 2)) (hn : pc + 2 = n) (kk : zVV G γ w k n (a0 :: a1 :: a2 :: a3 :: some (zj x) :: ll) (zj x :: st) M) : zVV G γ w k pc (a0 :: a1 :: a2 :: a3 :: some (zj x) :: ll) st M := v_lload_g ok rfl hd hn kk
theorem v_lstore_4 (ok : zOK G γ own cc nL fr lo) {a0 a1 a2 a3 : Option zV} {b b2 : Option zV} {ll : zL} {x : Int} (hi : 4 + 1 < nL) (hp : zlong a3 = false) (hd : decode cc pc = .ok (.lstore 4, 2)) (hn : pc + 2 = n) (kk : zVV G γ w k n (a0 :: a1 :: a2 :: a3 :: some (zj x) :: none :: ll) st M) : zVV G γ w k pc (a0 :: a1 :: a2 :: a3 :: b :: b2 :: ll) (zj x :: st) M := v_lstore_g ok hi (fun j hj => by have e : j = 3 := (by omega); subst e; exact hp) hd hn kk
theorem v_aload_4 (ok : zOK G γ own cc nL fr lo) {a0 a1 a2 a3 : Option zV} {ll : zL} {x : Int} (hd : decode cc pc = .ok (.aload 4, 2)) (hn : pc + 2 = n) (kk : zVV G γ w k n (a0 :: a1 :: a2 :: a3 :: some (zr x) :: ll) (zr x :: st) M) : zVV G γ w k pc (a0 :: a1 :: a2 :: a3 :: some (zr x) :: ll) st M := v_aload_g ok rfl hd hn kk
theorem v_astore_4 (ok : zOK G γ own cc nL fr lo) {a0 a1 a2 a3 : Option zV} {b : Option zV} {ll : zL} {x : Int} (hi : 4 < nL) (hp : zlong a3 = false) (hd : decode cc pc = .ok (.astore 4, 2)) (hn : pc + 2 = n) (kk : zVV G γ w k n (a0 :: a1 :: a2 :: a3 :: some (zr x) :: ll) st M) : zVV G γ w k pc (a0 :: a1 :: a2 :: a3 :: b :: ll) (zr x :: st) M := v_astore_g ok hi (fun j hj => by have e : j = 3 := (by omega); subst e; exact hp) hd hn kk
theorem v_iinc_4 (ok : zOK G γ own cc nL fr lo) {a0 a1 a2 a3 : Option zV} {ll : zL} {x c : Int} (hi : 4 < nL) (hp : zlong a3 = false) (hd : decode cc pc = .ok (.iinc 4 c, 3)) (hn : pc + 3 = n) (kk : zVV G γ w k n (a0 :: a1 :: a2 :: a3 :: some (zi (x + c)) :: ll) st M) : zVV G γ w k pc (a0 :: a1 :: a2 :: a3 :: some (zi x) :: ll) st M := v_iinc_g ok hi rfl (fun j hj => by have e : j = 3 := (by omega); subst e; exact hp) hd hn kk
theorem v_iload_5 (ok : zOK G γ own cc nL fr lo) {a0 a1 a2 a3 a4 : Option zV} {ll : zL} {x : Int} (hd : decode cc pc = .ok (.iload 5, 2)) (hn : pc + 2 = n) (kk : zVV G γ w k n (a0 :: a1 :: a2 :: a3 :: a4 :: some (zi x) :: ll) (zi x :: st) M) : zVV G γ w k pc (a0 :: a1 :: a2 :: a3 :: a4 :: some (zi x) :: ll) st M := v_iload_g ok rfl hd hn kk
theorem v_istore_5 (ok : zOK G γ own cc nL fr lo) {a0 a1 a2 a3 a4 : Option zV} {b : Option zV} {ll : zL} {x : Int} (hi : 5 < nL) (hp : zlong a4 = false) (hd : decode cc pc = .ok (.istore 5, 2)) (hn : pc + 2 = n) (kk : zVV G γ w k n (a0 :: a1 :: a2 :: a3 :: a4 :: some (zi x) :: ll) st M) : zVV G γ w k pc (a0 :: a1 :: a2 :: a3 :: a4 :: b :: ll) (zi x :: st) M := v_istore_g ok hi (fun j hj => by have e : j = 4 := (by omega); subst e; exact hp) hd hn kk
theorem v_lload_5 (ok : zOK G γ own cc nL fr lo) {a0 a1 a2 a3 a4 : Option zV} {ll : zL} {x : Int} (hd : decode cc pc = .ok (.lload 5, 2)) (hn : pc + 2 = n) (kk : zVV G γ w k n (a0 :: a1 :: a2 :: a3 :: a4 :: some (zj x) :: ll) (zj x :: st) M) : zVV G γ w k pc (a0 :: a1 :: a2 :: a3 :: a4 :: some (zj x) :: ll) st M := v_lload_g ok rfl hd hn kk
theorem v_lstore_5 (ok : zOK G γ own cc nL fr lo) {a0 a1 a2 a3 a4 : Option zV} {b b2 : Option zV} {ll : zL} {x : Int} (hi : 5 + 1 < nL) (hp : zlong a4 = false) (hd : decode cc pc = .ok (.lstore 5, 2)) (hn : pc + 2 = n) (kk : zVV G γ w k n (a0 :: a1 :: a2 :: a3 :: a4 :: some (zj x) :: none :: ll) st M) : zVV G γ w k pc (a0 :: a1 :: a2 :: a3 :: a4 :: b :: b2 :: ll) (zj x :: st) M := v_lstore_g ok hi (fun j hj => by have e : j = 4 := (by omega); subst e; exact hp) hd hn kk
theorem v_aload_5 (ok : zOK G γ own cc nL fr lo) {a0 a1 a2 a3 a4 : Option zV} {ll : zL} {x : Int} (hd : decode cc pc = .ok (.aload 5, 2)) (hn : pc + 2 = n) (kk : zVV G γ w k n (a0 :: a1 :: a2 :: a3 :: a4 :: some (zr x) :: ll) (zr x :: st) M) : zVV G γ w k pc (a0 :: a1 :: a2 :: a3 :: a4 :: some (zr x) :: ll) st M := v_aload_g ok rfl hd hn kk
theorem v_astore_5 (ok : zOK G γ own cc nL fr lo) {a0 a1 a2 a3 a4 : Option zV} {b : Option zV} {ll : zL} {x : Int} (hi : 5 < nL) (hp : zlong a4 = false) (hd : decode cc pc = .ok (.astore 5, 2)) (hn : pc + 2 = n) (kk : zVV G γ w k n (a0 :: a1 :: a2 :: a3 :: a4 :: some (zr x) :: ll) st M) : zVV G γ w k pc (a0 :: a1 :: a2 :: a3 :: a4 :: b :: ll) (zr x :: st) M := v_astore_g ok hi (fun j hj => by have e : j = 4 := (by omega); subst e; exact hp) hd hn kk
theorem v_iinc_5 (ok : zOK G γ own cc nL fr lo) {a0 a1 a2 a3 a4 : Option zV} {ll : zL} {x c : Int} (hi : 5 < nL) (hp : zlong a4 = false) (hd : decode cc pc = .ok (.iinc 5 c, 3)) (hn : pc + 3 = n) (kk : zVV G γ w k n (a0 :: a1 :: a2 :: a3 :: a4 :: some (zi (x + c)) :: ll) st M) : zVV G γ w k pc (a0 :: a1 :: a2 :: a3 :: a4 :: some (zi x) :: ll) st M := v_iinc_g ok hi rfl (fun j hj => by have e : j = 4 := (by omega); subst e; exact hp) hd hn kk
theorem v_iload_6 (ok : zOK G γ own cc nL fr lo) {a0 a1 a2 a3 a4 a5 : Option zV} {ll : zL} {x : Int} (hd : decode cc pc = .ok (.iload 6, 2)) (hn : pc + 2 = n) (kk : zVV G γ w k n (a0 :: a1 :: a2 :: a3 :: a4 :: a5 :: some (zi x) :: ll) (zi x :: st) M) : zVV G γ w k pc (a0 :: a1 :: a2 :: a3 :: a4 :: a5 :: some (zi x) :: ll) st M := v_iload_g ok rfl hd hn kk
theorem v_istore_6 (ok : zOK G γ own cc nL fr lo) {a0 a1 a2 a3 a4 a5 : Option zV} {b : Option zV} {ll : zL} {x : Int} (hi : 6 < nL) (hp : zlong a5 = false) (hd : decode cc pc = .ok (.istore 6, 2)) (hn : pc + 2 = n) (kk : zVV G γ w k n (a0 :: a1 :: a2 :: a3 :: a4 :: a5 :: some (zi x) :: ll) st M) : zVV G γ w k pc (a0 :: a1 :: a2 :: a3 :: a4 :: a5 :: b :: ll) (zi x :: st) M := v_istore_g ok hi (fun j hj => by have e : j = 5 := (by omega); subst e; exact hp) hd hn kk
theorem v_lload_6 (ok : zOK G γ own cc nL fr lo) {a0 a1 a2 a3 a4 a5 : Option zV} {ll : zL} {x : Int} (hd : decode cc pc = .ok (.lload 6, 2)) (hn : pc + 2 = n) (kk : zVV G γ w k n (a0 :: a1 :: a2 :: a3 :: a4 :: a5 :: some (zj x) :: ll) (zj x :: st) M) : zVV G γ w k pc (a0 :: a1 :: a2 :: a3 :: a4 :: a5 :: some (zj x) :: ll) st M := v_lload_g ok rfl hd hn kk
theorem v_lstore_6 (ok : zOK G γ own cc nL fr lo) {a0 a1 a2 a3 a4 a5 : Option zV} {b b2 : Option zV} {ll : zL} {x : Int} (hi : 6 + 1 < nL) (hp : zlong a5 = false) (hd : decode cc pc = .ok (.lstore 6, 2)) (hn : pc + 2 = n) (kk : zVV G γ w k n (a0 :: a1 :: a2 :: a3 :: a4 :: a5 :: some (zj x) :: none :: ll) st M) : zVV G γ w k pc (a0 :: a1 :: a2 :: a3 :: a4 :: a5 :: b :: b2 :: ll) (zj x :: st) M := v_lstore_g ok hi (fun j hj => by have e : j = 5 := (by omega); subst e; exact hp) hd hn kk
theorem v_aload_6 (ok : zOK G γ own cc nL fr lo) {a0 a1 a2 a3 a4 a5 : Option zV} {ll : zL} {x : Int} (hd : decode cc pc = .ok (.aload 6, 2)) (hn : pc + 2 = n) (kk : zVV G γ w k n (a0 :: a1 :: a2 :: a3 :: a4 :: a5 :: some (zr x) :: ll) (zr x :: st) M) : zVV G γ w k pc (a0 :: a1 :: a2 :: a3 :: a4 :: a5 :: some (zr x) :: ll) st M := v_aload_g ok rfl hd hn kk
theorem v_astore_6 (ok : zOK G γ own cc nL fr lo) {a0 a1 a2 a3 a4 a5 : Option zV} {b : Option zV} {ll : zL} {x : Int} (hi : 6 < nL) (hp : zlong a5 = false) (hd : decode cc pc = .ok (.astore 6, 2)) (hn : pc + 2 = n) (kk : zVV G γ w k n (a0 :: a1 :: a2 :: a3 :: a4 :: a5 :: some (zr x) :: ll) st M) : zVV G γ w k pc (a0 :: a1 :: a2 :: a3 :: a4 :: a5 :: b :: ll) (zr x :: st) M := v_astore_g ok hi (fun j hj => by have e : j = 5 := (by omega); subst e; exact hp) hd hn kk
theorem v_iinc_6 (ok : zOK G γ own cc nL fr lo) {a0 a1 a2 a3 a4 a5 : Option zV} {ll : zL} {x c : Int} (hi : 6 < nL) (hp : zlong a5 = false) (hd : decode cc pc = .ok (.iinc 6 c, 3)) (hn : pc + 3 = n) (kk : zVV G γ w k n (a0 :: a1 :: a2 :: a3 :: a4 :: a5 :: some (zi (x + c)) :: ll) st M) : zVV G γ w k pc (a0 :: a1 :: a2 :: a3 :: a4 :: a5 :: some (zi x) :: ll) st M := v_iinc_g ok hi rfl (fun j hj => by have e : j = 5 := (by omega); subst e; exact hp) hd hn kk
theorem v_iload_7 (ok : zOK G γ own cc nL fr lo) {a0 a1 a2 a3 a4 a5 a6 : Option zV} {ll : zL} {x : Int} (hd : decode cc pc = .ok (.iload 7, 2)) (hn : pc + 2 = n) (kk : zVV G γ w k n (a0 :: a1 :: a2 :: a3 :: a4 :: a5 :: a6 :: some (zi x) :: ll) (zi x :: st) M) : zVV G γ w k pc (a0 :: a1 :: a2 :: a3 :: a4 :: a5 :: a6 :: some (zi x) :: ll) st M := v_iload_g ok rfl hd hn kk
theorem v_istore_7 (ok : zOK G γ own cc nL fr lo) {a0 a1 a2 a3 a4 a5 a6 : Option zV} {b : Option zV} {ll : zL} {x : Int} (hi : 7 < nL) (hp : zlong a6 = false) (hd : decode cc pc = .ok (.istore 7, 2)) (hn : pc + 2 = n) (kk : zVV G γ w k n (a0 :: a1 :: a2 :: a3 :: a4 :: a5 :: a6 :: some (zi x) :: ll) st M) : zVV G γ w k pc (a0 :: a1 :: a2 :: a3 :: a4 :: a5 :: a6 :: b :: ll) (zi x :: st) M := v_istore_g ok hi (fun j hj => by have e : j = 6 := (by omega); subst e; exact hp) hd hn kk
theorem v_lload_7 (ok : zOK G γ own cc nL fr lo) {a0 a1 a2 a3 a4 a5 a6 : Option zV} {ll : zL} {x : Int} (hd : decode cc pc = .ok (.lload 7, 2)) (hn : pc + 2 = n) (kk : zVV G γ w k n (a0 :: a1 :: a2 :: a3 :: a4 :: a5 :: a6 :: some (zj x) :: ll) (zj x :: st) M) : zVV G γ w k pc (a0 :: a1 :: a2 :: a3 :: a4 :: a5 :: a6 :: some (zj x) :: ll) st M := v_lload_g ok rfl hd hn kk
theorem v_lstore_7 (ok : zOK G γ own cc nL fr lo) {a0 a1 a2 a3 a4 a5 a6 : Option zV} {b b2 : Option zV} {ll : zL} {x : Int} (hi : 7 + 1 < nL) (hp : zlong a6 = false) (hd : decode cc pc = .ok (.lstore 7, 2)) (hn : pc + 2 = n) (kk : zVV G γ w k n (a0 :: a1 :: a2 :: a3 :: a4 :: a5 :: a6 :: some (zj x) :: none :: ll) st M) : zVV G γ w k pc (a0 :: a1 :: a2 :: a3 :: a4 :: a5 :: a6 :: b :: b2 :: ll) (zj x :: st) M := v_lstore_g ok hi (fun j hj => by have e : j = 6 := (by omega); subst e; exact hp) hd hn kk
theorem v_aload_7 (ok : zOK G γ own cc nL fr lo) {a0 a1 a2 a3 a4 a5 a6 : Option zV} {ll : zL} {x : Int} (hd : decode cc pc = .ok (.aload 7, 2)) (hn : pc + 2 = n) (kk : zVV G γ w k n (a0 :: a1 :: a2 :: a3 :: a4 :: a5 :: a6 :: some (zr x) :: ll) (zr x :: st) M) : zVV G γ w k pc (a0 :: a1 :: a2 :: a3 :: a4 :: a5 :: a6 :: some (zr x) :: ll) st M := v_aload_g ok rfl hd hn kk
theorem v_astore_7 (ok : zOK G γ own cc nL fr lo) {a0 a1 a2 a3 a4 a5 a6 : Option zV} {b : Option zV} {ll : zL} {x : Int} (hi : 7 < nL) (hp : zlong a6 = false) (hd : decode cc pc = .ok (.astore 7, 2)) (hn : pc + 2 = n) (kk : zVV G γ w k n (a0 :: a1 :: a2 :: a3 :: a4 :: a5 :: a6 :: some (zr x) :: ll) st M) : zVV G γ w k pc (a0 :: a1 :: a2 :: a3 :: a4 :: a5 :: a6 :: b :: ll) (zr x :: st) M := v_astore_g ok hi (fun j hj => by have e : j = 6 := (by omega); subst e; exact hp) hd hn kk
theorem v_iinc_7 (ok : zOK G γ own cc nL fr lo) {a0 a1 a2 a3 a4 a5 a6 : Option zV} {ll : zL} {x c : Int} (hi : 7 < nL) (hp : zlong a6 = false) (hd : decode cc pc = .ok (.iinc 7 c, 3)) (hn : pc + 3 = n) (kk : zVV G γ w k n (a0 :: a1 :: a2 :: a3 :: a4 :: a5 :: a6 :: some (zi (x + c)) :: ll) st M) : zVV G γ w k pc (a0 :: a1 :: a2 :: a3 :: a4 :: a5 :: a6 :: some (zi x) :: ll) st M := v_iinc_g ok hi rfl (fun j hj => by have e : j = 6 := (by omega); subst e; exact hp) hd hn kk
theorem v_iload_8 (ok : zOK G γ own cc nL fr lo) {a0 a1 a2 a3 a4 a5 a6 a7 : Option zV} {ll : zL} {x : Int} (hd : decode cc pc = .ok (.iload 8, 2)) (hn : pc + 2 = n) (kk : zVV G γ w k n (a0 :: a1 :: a2 :: a3 :: a4 :: a5 :: a6 :: a7 :: some (zi x) :: ll) (zi x :: st) M) : zVV G γ w k pc (a0 :: a1 :: a2 :: a3 :: a4 :: a5 :: a6 :: a7 :: some (zi x) :: ll) st M := v_iload_g ok rfl hd hn kk
theorem v_istore_8 (ok : zOK G γ own cc nL fr lo) {a0 a1 a2 a3 a4 a5 a6 a7 : Option zV} {b : Option zV} {ll : zL} {x : Int} (hi : 8 < nL) (hp : zlong a7 = false) (hd : decode cc pc = .ok (.istore 8, 2)) (hn : pc + 2 = n) (kk : zVV G γ w k n (a0 :: a1 :: a2 :: a3 :: a4 :: a5 :: a6 :: a7 :: some (zi x) :: ll) st M) : zVV G γ w k pc (a0 :: a1 :: a2 :: a3 :: a4 :: a5 :: a6 :: a7 :: b :: ll) (zi x :: st) M := v_istore_g ok hi (fun j hj => by have e : j = 7 := (by omega); subst e; exact hp) hd hn kk
theorem v_lload_8 (ok : zOK G γ own cc nL fr lo) {a0 a1 a2 a3 a4 a5 a6 a7 : Option zV} {ll : zL} {x : Int} (hd : decode cc pc = .ok (.lload 8, 2)) (hn : pc + 2 = n) (kk : zVV G γ w k n (a0 :: a1 :: a2 :: a3 :: a4 :: a5 :: a6 :: a7 :: some (zj x) :: ll) (zj x :: st) M) : zVV G γ w k pc (a0 :: a1 :: a2 :: a3 :: a4 :: a5 :: a6 :: a7 :: some (zj x) :: ll) st M := v_lload_g ok rfl hd hn kk
theorem v_lstore_8 (ok : zOK G γ own cc nL fr lo) {a0 a1 a2 a3 a4 a5 a6 a7 : Option zV} {b b2 : Option zV} {ll : zL} {x : Int} (hi : 8 + 1 < nL) (hp : zlong a7 = false) (hd : decode cc pc = .ok (.lstore 8, 2)) (hn : pc + 2 = n) (kk : zVV G γ w k n (a0 :: a1 :: a2 :: a3 :: a4 :: a5 :: a6 :: a7 :: some (zj x) :: none :: ll) st M) : zVV G γ w k pc (a0 :: a1 :: a2 :: a3 :: a4 :: a5 :: a6 :: a7 :: b :: b2 :: ll) (zj x :: st) M := v_lstore_g ok hi (fun j hj => by have e : j = 7 := (by omega); subst e; exact hp) hd hn kk
theorem v_aload_8 (ok : zOK G γ own cc nL fr lo) {a0 a1 a2 a3 a4 a5 a6 a7 : Option zV} {ll : zL} {x : Int} (hd : decode cc pc = .ok (.aload 8, 2)) (hn : pc + 2 = n) (kk : zVV G γ w k n (a0 :: a1 :: a2 :: a3 :: a4 :: a5 :: a6 :: a7 :: some (zr x) :: ll) (zr x :: st) M) : zVV G γ w k pc (a0 :: a1 :: a2 :: a3 :: a4 :: a5 :: a6 :: a7 :: some (zr x) :: ll) st M := v_aload_g ok rfl hd hn kk
theorem v_astore_8 (ok : zOK G γ own cc nL fr lo) {a0 a1 a2 a3 a4 a5 a6 a7 : Option zV} {b : Option zV} {ll : zL} {x : Int} (hi : 8 < nL) (hp : zlong a7 = false) (hd : decode cc pc = .ok (.astore 8, 2)) (hn : pc + 2 = n) (kk : zVV G γ w k n (a0 :: a1 :: a2 :: a3 :: a4 :: a5 :: a6 :: a7 :: some (zr x) :: ll) st M) : zVV G γ w k pc (a0 :: a1 :: a2 :: a3 :: a4 :: a5 :: a6 :: a7 :: b :: ll) (zr x :: st) M := v_astore_g ok hi (fun j hj => by have e : j = 7 := (by omega); subst e; exact hp) hd hn kk
theorem v_iinc_8 (ok : zOK G γ own cc nL fr lo) {a0 a1 a2 a3 a4 a5 a6 a7 : Option zV} {ll : zL} {x c : Int} (hi : 8 < nL) (hp : zlong a7 = false) (hd : decode cc pc = .ok (.iinc 8 c, 3)) (hn : pc + 3 = n) (kk : zVV G γ w k n (a0 :: a1 :: a2 :: a3 :: a4 :: a5 :: a6 :: a7 :: some (zi (x + c)) :: ll) st M) : zVV G γ w k pc (a0 :: a1 :: a2 :: a3 :: a4 :: a5 :: a6 :: a7 :: some (zi x) :: ll) st M := v_iinc_g ok hi rfl (fun j hj => by have e : j = 7 := (by omega); subst e; exact hp) hd hn kk
theorem v_iload_9 (ok : zOK G γ own cc nL fr lo) {a0 a1 a2 a3 a4 a5 a6 a7 a8 : Option zV} {ll : zL} {x : Int} (hd : decode cc pc = .ok (.iload 9, 2)) (hn : pc + 2 = n) (kk : zVV G γ w k n (a0 :: a1 :: a2 :: a3 :: a4 :: a5 :: a6 :: a7 :: a8 :: some (zi x) :: ll) (zi x :: st) M) : zVV G γ w k pc (a0 :: a1 :: a2 :: a3 :: a4 :: a5 :: a6 :: a7 :: a8 :: some (zi x) :: ll) st M := v_iload_g ok rfl hd hn kk
theorem v_istore_9 (ok : zOK G γ own cc nL fr lo) {a0 a1 a2 a3 a4 a5 a6 a7 a8 : Option zV} {b : Option zV} {ll : zL} {x : Int} (hi : 9 < nL) (hp : zlong a8 = false) (hd : decode cc pc = .ok (.istore 9, 2)) (hn : pc + 2 = n) (kk : zVV G γ w k n (a0 :: a1 :: a2 :: a3 :: a4 :: a5 :: a6 :: a7 :: a8 :: some (zi x) :: ll) st M) : zVV G γ w k pc (a0 :: a1 :: a2 :: a3 :: a4 :: a5 :: a6 :: a7 :: a8 :: b :: ll) (zi x :: st) M := v_istore_g ok hi (fun j hj => by have e : j = 8 := (by omega); subst e; exact hp) hd hn kk
theorem v_lload_9 (ok : zOK G γ own cc nL fr lo) {a0 a1 a2 a3 a4 a5 a6 a7 a8 : Option zV} {ll : zL} {x : Int} (hd : decode cc pc = .ok (.lload 9, 2)) (hn : pc + 2 = n) (kk : zVV G γ w k n (a0 :: a1 :: a2 :: a3 :: a4 :: a5 :: a6 :: a7 :: a8 :: some (zj x) :: ll) (zj x :: st) M) : zVV G γ w k pc (a0 :: a1 :: a2 :: a3 :: a4 :: a5 :: a6 :: a7 :: a8 :: some (zj x) :: ll) st M := v_lload_g ok rfl hd hn kk
theorem v_lstore_9 (ok : zOK G γ own cc nL fr lo) {a0 a1 a2 a3 a4 a5 a6 a7 a8 : Option zV} {b b2 : Option zV} {ll : zL} {x : Int} (hi : 9 + 1 < nL) (hp : zlong a8 = false) (hd : decode cc pc = .ok (.lstore 9, 2)) (hn : pc + 2 = n) (kk : zVV G γ w k n (a0 :: a1 :: a2 :: a3 :: a4 :: a5 :: a6 :: a7 :: a8 :: some (zj x) :: none :: ll) st M) : zVV G γ w k pc (a0 :: a1 :: a2 :: a3 :: a4 :: a5 :: a6 :: a7 :: a8 :: b :: b2 :: ll) (zj x :: st) M := v_lstore_g ok hi (fun j hj => by have e : j = 8 := (by omega); subst e; exact hp) hd hn kk
theorem v_aload_9 (ok : zOK G γ own cc nL fr lo) {a0 a1 a2 a3 a4 a5 a6 a7 a8 : Option zV} {ll : zL} {x : Int} (hd : decode cc pc = .ok (.aload 9, 2)) (hn : pc + 2 = n) (kk : zVV G γ w k n (a0 :: a1 :: a2 :: a3 :: a4 :: a5 :: a6 :: a7 :: a8 :: some (zr x) :: ll) (zr x :: st) M) : zVV G γ w k pc (a0 :: a1 :: a2 :: a3 :: a4 :: a5 :: a6 :: a7 :: a8 :: some (zr x) :: ll) st M := v_aload_g ok rfl hd hn kk
theorem v_astore_9 (ok : zOK G γ own cc nL fr lo) {a0 a1 a2 a3 a4 a5 a6 a7 a8 : Option zV} {b : Option zV} {ll : zL} {x : Int} (hi : 9 < nL) (hp : zlong a8 = false) (hd : decode cc pc = .ok (.astore 9, 2)) (hn : pc + 2 = n) (kk : zVV G γ w k n (a0 :: a1 :: a2 :: a3 :: a4 :: a5 :: a6 :: a7 :: a8 :: some (zr x) :: ll) st M) : zVV G γ w k pc (a0 :: a1 :: a2 :: a3 :: a4 :: a5 :: a6 :: a7 :: a8 :: b :: ll) (zr x :: st) M := v_astore_g ok hi (fun j hj => by have e : j = 8 := (by omega); subst e; exact hp) hd hn kk
theorem v_iinc_9 (ok : zOK G γ own cc nL fr lo) {a0 a1 a2 a3 a4 a5 a6 a7 a8 : Option zV} {ll : zL} {x c : Int} (hi : 9 < nL) (hp : zlong a8 = false) (hd : decode cc pc = .ok (.iinc 9 c, 3)) (hn : pc + 3 = n) (kk : zVV G γ w k n (a0 :: a1 :: a2 :: a3 :: a4 :: a5 :: a6 :: a7 :: a8 :: some (zi (x + c)) :: ll) st M) : zVV G γ w k pc (a0 :: a1 :: a2 :: a3 :: a4 :: a5 :: a6 :: a7 :: a8 :: some (zi x) :: ll) st M := v_iinc_g ok hi rfl (fun j hj => by have e : j = 8 := (by omega); subst e; exact hp) hd hn kk
theorem v_iload_10 (ok : zOK G γ own cc nL fr lo) {a0 a1 a2 a3 a4 a5 a6 a7 a8 a9 : Option zV} {ll : zL} {x : Int} (hd : decode cc pc = .ok (.iload 10, 2)) (hn : pc + 2 = n) (kk : zVV G γ w k n (a0 :: a1 :: a2 :: a3 :: a4 :: a5 :: a6 :: a7 :: a8 :: a9 :: some (zi x) :: ll) (zi x :: st) M) : zVV G γ w k pc (a0 :: a1 :: a2 :: a3 :: a4 :: a5 :: a6 :: a7 :: a8 :: a9 :: some (zi x) :: ll) st M := v_iload_g ok rfl hd hn kk
theorem v_istore_10 (ok : zOK G γ own cc nL fr lo) {a0 a1 a2 a3 a4 a5 a6 a7 a8 a9 : Option zV} {b : Option zV} {ll : zL} {x : Int} (hi : 10 < nL) (hp : zlong a9 = false) (hd : decode cc pc = .ok (.istore 10, 2)) (hn : pc + 2 = n) (kk : zVV G γ w k n (a0 :: a1 :: a2 :: a3 :: a4 :: a5 :: a6 :: a7 :: a8 :: a9 :: some (zi x) :: ll) st M) : zVV G γ w k pc (a0 :: a1 :: a2 :: a3 :: a4 :: a5 :: a6 :: a7 :: a8 :: a9 :: b :: ll) (zi x :: st) M := v_istore_g ok hi (fun j hj => by have e : j = 9 := (by omega); subst e; exact hp) hd hn kk
theorem v_lload_10 (ok : zOK G γ own cc nL fr lo) {a0 a1 a2 a3 a4 a5 a6 a7 a8 a9 : Option zV} {ll : zL} {x : Int} (hd : decode cc pc = .ok (.lload 10, 2)) (hn : pc + 2 = n) (kk : zVV G γ w k n (a0 :: a1 :: a2 :: a3 :: a4 :: a5 :: a6 :: a7 :: a8 :: a9 :: some (zj x) :: ll) (zj x :: st) M) : zVV G γ w k pc (a0 :: a1 :: a2 :: a3 :: a4 :: a5 :: a6 :: a7 :: a8 :: a9 :: some (zj x) :: ll) st M := v_lload_g ok rfl hd hn kk
theorem v_lstore_10 (ok : zOK G γ own cc nL fr lo) {a0 a1 a2 a3 a4 a5 a6 a7 a8 a9 : Option zV} {b b2 : Option zV} {ll : zL} {x : Int} (hi : 10 + 1 < nL) (hp : zlong a9 = false) (hd : decode cc pc = .ok (.lstore 10, 2)) (hn : pc + 2 = n) (kk : zVV G γ w k n (a0 :: a1 :: a2 :: a3 :: a4 :: a5 :: a6 :: a7 :: a8 :: a9 :: some (zj x) :: none :: ll) st M) : zVV G γ w k pc (a0 :: a1 :: a2 :: a3 :: a4 :: a5 :: a6 :: a7 :: a8 :: a9 :: b :: b2 :: ll) (zj x :: st) M := v_lstore_g ok hi (fun j hj => by have e : j = 9 := (by omega); subst e; exact hp) hd hn kk
theorem v_aload_10 (ok : zOK G γ own cc nL fr lo) {a0 a1 a2 a3 a4 a5 a6 a7 a8 a9 : Option zV} {ll : zL} {x : Int} (hd : decode cc pc = .ok (.aload 10, 2)) (hn : pc + 2 = n) (kk : zVV G γ w k n (a0 :: a1 :: a2 :: a3 :: a4 :: a5 :: a6 :: a7 :: a8 :: a9 :: some (zr x) :: ll) (zr x :: st) M) : zVV G γ w k pc (a0 :: a1 :: a2 :: a3 :: a4 :: a5 :: a6 :: a7 :: a8 :: a9 :: some (zr x) :: ll) st M := v_aload_g ok rfl hd hn kk
theorem v_astore_10 (ok : zOK G γ own cc nL fr lo) {a0 a1 a2 a3 a4 a5 a6 a7 a8 a9 : Option zV} {b : Option zV} {ll : zL} {x : Int} (hi : 10 < nL) (hp : zlong a9 = false) (hd : decode cc pc = .ok (.astore 10, 2)) (hn : pc + 2 = n) (kk : zVV G γ w k n (a0 :: a1 :: a2 :: a3 :: a4 :: a5 :: a6 :: a7 :: a8 :: a9 :: some (zr x) :: ll) st M) : zVV G γ w k pc (a0 :: a1 :: a2 :: a3 :: a4 :: a5 :: a6 :: a7 :: a8 :: a9 :: b :: ll) (zr x :: st) M := v_astore_g ok hi (fun j hj => by have e : j = 9 := (by omega); subst e; exact hp) hd hn kk
theorem v_iinc_10 (ok : zOK G γ own cc nL fr lo) {a0 a1 a2 a3 a4 a5 a6 a7 a8 a9 : Option zV} {ll : zL} {x c : Int} (hi : 10 < nL) (hp : zlong a9 = false) (hd : decode cc pc = .ok (.iinc 10 c, 3)) (hn : pc + 3 = n) (kk : zVV G γ w k n (a0 :: a1 :: a2 :: a3 :: a4 :: a5 :: a6 :: a7 :: a8 :: a9 :: some (zi (x + c)) :: ll) st M) : zVV G γ w k pc (a0 :: a1 :: a2 :: a3 :: a4 :: a5 :: a6 :: a7 :: a8 :: a9 :: some (zi x) :: ll) st M := v_iinc_g ok hi rfl (fun j hj => by have e : j = 9 := (by omega); subst e; exact hp) hd hn kk
theorem v_iload_11 (ok : zOK G γ own cc nL fr lo) {a0 a1 a2 a3 a4 a5 a6 a7 a8 a9 a10 : Option zV} {ll : zL} {x : Int} (hd : decode cc pc = .ok (.iload 11, 2)) (hn : pc + 2 = n) (kk : zVV G γ w k n (a0 :: a1 :: a2 :: a3 :: a4 :: a5 :: a6 :: a7 :: a8 :: a9 :: a10 :: some (zi x) :: ll) (zi x :: st) M) : zVV G γ w k pc (a0 :: a1 :: a2 :: a3 :: a4 :: a5 :: a6 :: a7 :: a8 :: a9 :: a10 :: some (zi x) :: ll) st M := v_iload_g ok rfl hd hn kk
theorem v_istore_11 (ok : zOK G γ own cc nL fr lo) {a0 a1 a2 a3 a4 a5 a6 a7 a8 a9 a10 : Option zV} {b : Option zV} {ll : zL} {x : Int} (hi : 11 < nL) (hp : zlong a10 = false) (hd : decode cc pc = .ok (.istore 11, 2)) (hn : pc + 2 = n) (kk : zVV G γ w k n (a0 :: a1 :: a2 :: a3 :: a4 :: a5 :: a6 :: a7 :: a8 :: a9 :: a10 :: some (zi x) :: ll) st M) : zVV G γ w k pc (a0 :: a1 :: a2 :: a3 :: a4 :: a5 :: a6 :: a7 :: a8 :: a9 :: a10 :: b :: ll) (zi x :: st) M := v_istore_g ok hi (fun j hj => by have e : j = 10 := (by omega); subst e; exact hp) hd hn kk
theorem v_lload_11 (ok : zOK G γ own cc nL fr lo) {a0 a1 a2 a3 a4 a5 a6 a7 a8 a9 a10 : Option zV} {ll : zL} {x : Int} (hd : decode cc pc = .ok (.lload 11, 2)) (hn : pc + 2 = n) (kk : zVV G γ w k n (a0 :: a1 :: a2 :: a3 :: a4 :: a5 :: a6 :: a7 :: a8 :: a9 :: a10 :: some (zj x) :: ll) (zj x :: st) M) : zVV G γ w k pc (a0 :: a1 :: a2 :: a3 :: a4 :: a5 :: a6 :: a7 :: a8 :: a9 :: a10 :: some (zj x) :: ll) st M := v_lload_g ok rfl hd hn kk
theorem v_lstore_11 (ok : zOK G γ own cc nL fr lo) {a0 a1 a2 a3 a4 a5 a6 a7 a8 a9 a10 : Option zV} {b b2 : Option zV} {ll : zL} {x : Int} (hi : 11 + 1 < nL) (hp : zlong a10 = false) (hd : decode cc pc = .ok (.lstore 11, 2)) (hn : pc + 2 = n) (kk : zVV G γ w k n (a0 :: a1 :: a2 :: a3 :: a4 :: a5 :: a6 :: a7 :: a8 :: a9 :: a10 :: some (zj x) :: none :: ll) st M) : zVV G γ w k pc (a0 :: a1 :: a2 :: a3 :: a4 :: a5 :: a6 :: a7 :: a8 :: a9 :: a10 :: b :: b2 :: ll) (zj x :: st) M := v_lstore_g ok hi (fun j hj => by have e : j = 10 := (by omega); subst e; exact hp) hd hn kk
theorem v_aload_11 (ok : zOK G γ own cc nL fr lo) {a0 a1 a2 a3 a4 a5 a6 a7 a8 a9 a10 : Option zV} {ll : zL} {x : Int} (hd : decode cc pc = .ok (.aload 11, 2)) (hn : pc + 2 = n) (kk : zVV G γ w k n (a0 :: a1 :: a2 :: a3 :: a4 :: a5 :: a6 :: a7 :: a8 :: a9 :: a10 :: some (zr x) :: ll) (zr x :: st) M) : zVV G γ w k pc (a0 :: a1 :: a2 :: a3 :: a4 :: a5 :: a6 :: a7 :: a8 :: a9 :: a10 :: some (zr x) :: ll) st M := v_aload_g ok rfl hd hn kk
theorem v_astore_11 (ok : zOK G γ own cc nL fr lo) {a0 a1 a2 a3 a4 a5 a6 a7 a8 a9 a10 : Option zV} {b : Option zV} {ll : zL} {x : Int} (hi : 11 < nL) (hp : zlong a10 = false) (hd : decode cc pc = .ok (.astore 11, 2)) (hn : pc + 2 = n) (kk : zVV G γ w k n (a0 :: a1 :: a2 :: a3 :: a4 :: a5 :: a6 :: a7 :: a8 :: a9 :: a10 :: some (zr x) :: ll) st M) : zVV G γ w k pc (a0 :: a1 :: a2 :: a3 :: a4 :: a5 :: a6 :: a7 :: a8 :: a9 :: a10 :: b :: ll) (zr x :: st) M := v_astore_g ok hi (fun j hj => by have e : j = 10 := (by omega); subst e; exact hp) hd hn kk
theorem v_iinc_11 (ok : zOK G γ own cc nL fr lo) {a0 a1 a2 a3 a4 a5 a6 a7 a8 a9 a10 : Option zV} {ll : zL} {x c : Int} (hi : 11 < nL) (hp : zlong a10 = false) (hd : decode cc pc = .ok (.iinc 11 c, 3)) (hn : pc + 3 = n) (kk : zVV G γ w k n (a0 :: a1 :: a2 :: a3 :: a4 :: a5 :: a6 :: a7 :: a8 :: a9 :: a10 :: some (zi (x + c)) :: ll) st M) : zVV G γ w k pc (a0 :: a1 :: a2 :: a3 :: a4 :: a5 :: a6 :: a7 :: a8 :: a9 :: a10 :: some (zi x) :: ll) st M := v_iinc_g ok hi rfl (fun j hj => by have e : j = 10 := (by omega); subst e; exact hp) hd hn kk
end ZOPS
