/-! the law's entry -/
theorem zTmem {w : Cond} (i : Nat) (h : tables_1[i]? = some w) : w ∈ lw_tbl := List.mem_append_right _ (List.mem_of_getElem? h)
theorem zTabs {s : State} {args : Array Value} {n : String} {N : Nat} {f : Int → Int} {A : Nat → Prop} (hN : N < 2 ^ 31) (hl : (Cond.laysStatic RX7 n "[I").before args s = true) (hini : (Cond.initialized RX7).before args s = true) (harr : (Cond.arrayOf (.static RX7 n "[I") .int).before args s = true) (hlen : (Cond.eq (.length (.static RX7 n "[I")) (.int (Int32.ofNat N))).before args s = true) (hel : ∀ j : Nat, j < N → (Cond.eq (.elem (.static RX7 n "[I") (.int (Int32.ofNat j))) (.int (Int32.ofInt (f j)))).before args s = true) (hA : ∀ a : Nat, a < s.heap.size → ¬ A a) : ∃ t, va_Z RX7 n "[I" (.ref t) A s s.heap ∧ va_T .int t N (fun j => .int (Int32.ofInt (f j))) A s s.heap := by
  obtain ⟨t, ht, hT⟩ := va_Tof hN harr (va_eqt hlen) (fun j hj => va_eqt (hel j hj)) hA
  exact ⟨t, va_Zof hl hini ht hA, hT⟩
theorem zArr {s : State} {args : Array Value} {ty : FieldType} (h : (Cond.arrayClass ty).before args s = true) : ∃ cA, s.vm.findClass ("[" ++ ty.toString) = some cA ∧ ArrOfT s cA ty := by
  obtain ⟨cA, kA, comp, f1, f2, f3⟩ := Cond.arrayClass_spec h
  exact ⟨cA, f1, fun N z => ⟨(fun k h => by cases h), kA, f2, comp, f3⟩⟩
theorem zArA {s : State} {args : Array Value} {ty : FieldType} (h : (Cond.arrayOver (.array ty)).before args s = true) : ∃ cA, s.vm.findClass ("[" ++ (FieldType.array ty).toString) = some cA ∧ ArrOfT s cA (.array ty) := by
  obtain ⟨comp, cA, kA, f1, f2, f3, f4⟩ := zAO h
  exact ⟨cA, f4, fun N z => ⟨(fun k h => by cases h), kA, f2, comp, f3⟩⟩
theorem zArO {s : State} {args : Array Value} {C : String} (h : (Cond.arrayOver (.object C)).before args s = true) : ∃ cA, va_RA s cA (.object C) ∧ ArrOfT s cA (.object C) := by
  obtain ⟨comp, cA, kA, f1, f2, f3, f4, f5⟩ := Cond.arrayOver_spec h
  exact ⟨cA, ⟨kA, comp, f3, f4, f1, f5⟩, fun N z => ⟨(fun k h => by cases h), kA, f3, comp, f4⟩⟩
theorem zOv_g {s : State} {ty : FieldType} {a : Array Value} (h : (Cond.arrayOver ty).before a s = true) (a' : Array Value) : (Cond.arrayOver ty).before a' s = true := by
  unfold Cond.before at h ⊢
  simp only [Cond.holds, Cond.value] at h ⊢
  exact h
set_option maxHeartbeats 4000000 in
set_option maxRecDepth 100000 in
theorem z_known {s : State} {b L : Nat} {xs : Nat → Int32} (l : Launch) (hL : L ≤ 448) (hts : ∀ w ∈ lw_tbl, w.before #[Value.ref b] s = true) (hX : va_X b L xs s s.heap) (hbl : b < s.heap.size) (hgv : (Jvm.Cond.and given_1 narrow_1).before #[Value.ref b] s = true) : ∃ G : zG, zGl G = l ∧ zGn G = s.heap.size ∧ zGh G = s.heap ∧ zGa G 306 = b ∧ zsc G ∧ zKn G s := by
  have hfl := flat_of_before _ hgv
  have hA : ∀ a : Nat, a < s.heap.size → ¬ (fun q => s.heap.size ≤ q) a := fun a h => Nat.not_le.mpr h
  have hini : (Cond.initialized RX7).before #[Value.ref b] s = true := (hts _ (zTmem 1 (by decide +kernel)))
  obtain ⟨t0, hZ0, hT0⟩ := zTabs (n := "BRIDE_LEAST") (N := 4) (f := ztab 300) (A := fun q => s.heap.size ≤ q) (by decide) (hts _ (zTmem 222 (by decide +kernel))) hini (hfl _ (by decide +kernel)) (hfl _ (by decide +kernel)) (fun j hj => by
    obtain rfl | rfl | rfl | rfl : j = 0 ∨ j = 1 ∨ j = 2 ∨ j = 3 := by omega
    all_goals exact hfl _ (by decide +kernel)) hA
  obtain ⟨t1, hZ1, hT1⟩ := zTabs (n := "BRIDE_MOST") (N := 4) (f := ztab 301) (A := fun q => s.heap.size ≤ q) (by decide) (hts _ (zTmem 224 (by decide +kernel))) hini (hfl _ (by decide +kernel)) (hfl _ (by decide +kernel)) (fun j hj => by
    obtain rfl | rfl | rfl | rfl : j = 0 ∨ j = 1 ∨ j = 2 ∨ j = 3 := by omega
    all_goals exact hfl _ (by decide +kernel)) hA
  obtain ⟨t2, hZ2, hT2⟩ := zTabs (n := "SHOE_LEAST") (N := 3) (f := ztab 302) (A := fun q => s.heap.size ≤ q) (by decide) (hts _ (zTmem 244 (by decide +kernel))) hini (hfl _ (by decide +kernel)) (hfl _ (by decide +kernel)) (fun j hj => by
    obtain rfl | rfl | rfl : j = 0 ∨ j = 1 ∨ j = 2 := by omega
    all_goals exact hfl _ (by decide +kernel)) hA
  obtain ⟨t3, hZ3, hT3⟩ := zTabs (n := "SHOE_MOST") (N := 3) (f := ztab 303) (A := fun q => s.heap.size ≤ q) (by decide) (hts _ (zTmem 246 (by decide +kernel))) hini (hfl _ (by decide +kernel)) (hfl _ (by decide +kernel)) (fun j hj => by
    obtain rfl | rfl | rfl : j = 0 ∨ j = 1 ∨ j = 2 := by omega
    all_goals exact hfl _ (by decide +kernel)) hA
  obtain ⟨t4, hZ4, hT4⟩ := zTabs (n := "GIVES") (N := 4) (f := ztab 304) (A := fun q => s.heap.size ≤ q) (by decide) (hts _ (zTmem 287 (by decide +kernel))) hini (hfl _ (by decide +kernel)) (hfl _ (by decide +kernel)) (fun j hj => by
    obtain rfl | rfl | rfl | rfl : j = 0 ∨ j = 1 ∨ j = 2 ∨ j = 3 := by omega
    all_goals exact hfl _ (by decide +kernel)) hA
  obtain ⟨t5, hZ5, hT5⟩ := zTabs (n := "LET_OUT") (N := 4) (f := ztab 305) (A := fun q => s.heap.size ≤ q) (by decide) (hts _ (zTmem 292 (by decide +kernel))) hini (hfl _ (by decide +kernel)) (hfl _ (by decide +kernel)) (fun j hj => by
    obtain rfl | rfl | rfl | rfl : j = 0 ∨ j = 1 ∨ j = 2 ∨ j = 3 := by omega
    all_goals exact hfl _ (by decide +kernel)) hA
  obtain ⟨c0, i0, hK0⟩ := u_known (C := RX0) (T := TX0) (N := 3) (n := 3) hts (fun w hw => (List.mem_filter.mp (inz_0 w hw)).1) (hts _ (zTmem 119 (by decide +kernel)))
  obtain ⟨c1, i1, hK1⟩ := u_known (C := RX1) (T := TX1) (N := 5) (n := 5) hts (fun w hw => (List.mem_filter.mp (inz_1 w hw)).1) (hts _ (zTmem 23 (by decide +kernel)))
  obtain ⟨c2, i2, hK2⟩ := u_known (C := RX2) (T := TX2) (N := 6) (n := 6) hts (fun w hw => (List.mem_filter.mp (inz_2 w hw)).1) (hts _ (zTmem 136 (by decide +kernel)))
  obtain ⟨c3, i3, hK3⟩ := u_known (C := RX3) (T := TX3) (N := 4) (n := 4) hts (fun w hw => (List.mem_filter.mp (inz_3 w hw)).1) (hts _ (zTmem 164 (by decide +kernel)))
  obtain ⟨c4, i4, hK4⟩ := u_known (C := RX4) (T := TX4) (N := 4) (n := 4) hts (fun w hw => (List.mem_filter.mp (inz_4 w hw)).1) (hts _ (zTmem 59 (by decide +kernel)))
  obtain ⟨c5, i5, hK5⟩ := u_known (C := RX5) (T := TX5) (N := 2) (n := 2) hts (fun w hw => (List.mem_filter.mp (inz_5 w hw)).1) (hts _ (zTmem 105 (by decide +kernel)))
  obtain ⟨c6, i6, hK6⟩ := u_known (C := RX6) (T := TX6) (N := 4) (n := 4) hts (fun w hw => (List.mem_filter.mp (inz_6 w hw)).1) (hts _ (zTmem 81 (by decide +kernel)))
  obtain ⟨c7, i7, hK7⟩ := u_known (C := RX7) (T := TX7) (N := 9) (n := 9) hts (fun w hw => (List.mem_filter.mp (inz_7 w hw)).1) (hts _ (zTmem 15 (by decide +kernel)))
  obtain ⟨c8, i8, hK8⟩ := u_known (C := RX8) (T := TX8) (N := 32) (n := 32) hts (fun w hw => (List.mem_filter.mp (inz_8 w hw)).1) (hts _ (zTmem 608 (by decide +kernel)))
  obtain ⟨a0, f0, r0⟩ := zArr (ty := .int) (hts _ (zTmem 57 (by decide +kernel)))
  obtain ⟨a1, f1, r1⟩ := zArr (ty := .boolean) (hts _ (zTmem 711 (by decide +kernel)))
  obtain ⟨a2, f2, r2⟩ := zArr (ty := .long) (hts _ (zTmem 103 (by decide +kernel)))
  obtain ⟨a3, f3, r3⟩ := zArA (ty := .int) (hts _ (zTmem 29 (by decide +kernel)))
  obtain ⟨a4, f4, r4⟩ := zArA (ty := .long) (hts _ (zTmem 87 (by decide +kernel)))
  obtain ⟨a5, f5, r5⟩ := zArO (C := RX3) (hts _ (zTmem 163 (by decide +kernel)))
  let dC : Nat → ClassId := fun k => match k with
    | 0 => c0
    | 1 => c1
    | 2 => c2
    | 3 => c3
    | 4 => c4
    | 5 => c5
    | 6 => c6
    | 7 => c7
    | _ => c8
  let dI : Nat → Nat → Nat := fun k => match k with
    | 0 => i0
    | 1 => i1
    | 2 => i2
    | 3 => i3
    | 4 => i4
    | 5 => i5
    | 6 => i6
    | 7 => i7
    | _ => i8
  let gc : Nat → ClassId := fun k => match k with
    | 0 => a0
    | 1 => a1
    | 2 => a2
    | 3 => a3
    | 4 => a4
    | _ => a5
  let ga : Int → Nat := fun k => if k = 300 then t0 else if k = 301 then t1 else if k = 302 then t2 else if k = 303 then t3 else if k = 304 then t4 else if k = 305 then t5 else b
  let gs : Int → Nat := fun k => if k = 306 then L else ztl k
  let gt : Int → Int → Int := fun k j => if k = 306 then (xs j.toNat).toInt else ztab k j
  have hS : va_T .int b L (fun j => .int (Int32.ofInt (xs j).toInt)) (fun q => s.heap.size ≤ q) s s.heap := by
    obtain ⟨scr, y1, y2, y3, y4, y5⟩ := hX
    exact ⟨scr, y1, y2, y3, Nat.le_of_eq y4.symm, by rw [y4], fun j hj => by
      rw [y5 j hj]
      show some (Value.int (xs j)) = some (Value.int (Int32.ofInt (xs j).toInt))
      rw [Int32.ofInt_toInt], Nat.not_le.mpr hbl⟩
  refine ⟨(l, (dC, dI), gc, s.heap.size, s.heap, ga, gs, gt), rfl, rfl, rfl, rfl, ⟨hL, fun j => ?_⟩, ⟨?_, ?_⟩, ?_, ?_, ?_, Nat.le_refl _, ?_⟩
  · have h1 := Int32.le_toInt (xs j.toNat)
    have h2 := Int32.toInt_lt (xs j.toNat)
    show -2147483648 ≤ (xs j.toNat).toInt ∧ (xs j.toNat).toInt ≤ 2147483647
    omega
  · intro c q hq
    match c, hq with
    | 0, hq => cases hq; exact hK0
    | 1, hq => cases hq; exact hK1
    | 2, hq => cases hq; exact hK2
    | 3, hq => cases hq; exact hK3
    | 4, hq => cases hq; exact hK4
    | 5, hq => cases hq; exact hK5
    | 6, hq => cases hq; exact hK6
    | 7, hq => cases hq; exact hK7
    | 8, hq => cases hq; exact hK8
    | c + 9, hq => simp [zcl] at hq
  · intro k q hq
    match k, hq with
    | 0, hq => cases hq; exact ⟨r0, f0⟩
    | 1, hq => cases hq; exact ⟨r1, f1⟩
    | 2, hq => cases hq; exact ⟨r2, f2⟩
    | 3, hq => cases hq; exact ⟨r3, f3⟩
    | 4, hq => cases hq; exact ⟨r4, f4⟩
    | 5, hq => cases hq; exact ⟨r5, f5⟩
    | k + 6, hq =>
      have := (List.getElem?_eq_some_iff.mp hq).1
      simp at this
      omega
  · intro k h1 h2
    obtain rfl | rfl | rfl | rfl | rfl | rfl : k = 300 ∨ k = 301 ∨ k = 302 ∨ k = 303 ∨ k = 304 ∨ k = 305 := by omega
    · exact hZ0
    · exact hZ1
    · exact hZ2
    · exact hZ3
    · exact hZ4
    · exact hZ5
  · intro k h1 h2
    obtain rfl | rfl | rfl | rfl | rfl | rfl | rfl : k = 300 ∨ k = 301 ∨ k = 302 ∨ k = 303 ∨ k = 304 ∨ k = 305 ∨ k = 306 := by omega
    · exact hT0
    · exact hT1
    · exact hT2
    · exact hT3
    · exact hT4
    · exact hT5
    · exact hS
  · intro w hw
    have h1 := (List.mem_filter.mp hw).2
    have h2 := hts w (List.mem_append_right _ (List.mem_filter.mp hw).1)
    cases w <;> first | (cases h1; done) | exact va_Nw.of rfl h2
  · intro k h1 h2
    obtain rfl | rfl | rfl | rfl | rfl | rfl : k = 300 ∨ k = 301 ∨ k = 302 ∨ k = 303 ∨ k = 304 ∨ k = 305 := by omega
    all_goals exact ⟨rfl, rfl⟩
