/-! contracts, calls, ends -/
/-- a method: name, code, locals, what it returns, frames and locals that it needs -/
abbrev zMI : Type := MethodName × ByteArray × Nat × Option FieldType × Nat × Nat
def zws (mi : zMI) : List Cond := Cond.code mi.1 mi.2.1 mi.2.2.1 mi.2.2.2.1 :: zTb
def zrm (mi : zMI) : Room := { frames := mi.2.2.2.2.1, cells := 0, slots := 0, locals := mi.2.2.2.2.2 }
def zPre (G : zG) (w : zW) (M : zM) (U : State) : Prop := zHo G w M U.heap ∧ zKn G U
/-- called with args over M, the method returns an int, and Q holds of it and of the memory then -/
def zTI (G : zG) (w : zW) (mi : zMI) (args : List zV) (M : zM) (Q : Int → zM → Prop) : Prop :=
  Met (zGl G) mi.1 (zws mi) (zrm mi) (va_Pc (args.map (zc w.1)) (zPre G w M)) (va_Qi (fun r u => ∃ x, r = Int32.ofInt x ∧ Q x u) (fun (u : zM) t => zHo G w u t.heap) (zA G)) 0 0 (zA G)
def zTV (G : zG) (w : zW) (mi : zMI) (args : List zV) (M : zM) (Q : zM → Prop) : Prop :=
  Met (zGl G) mi.1 (zws mi) (zrm mi) (va_Pc (args.map (zc w.1)) (zPre G w M)) (va_Qv Q (fun (u : zM) t => zHo G w u t.heap) (zA G)) 0 0 (zA G)
theorem zTI.weaken {G : zG} {w : zW} {mi : zMI} {args : List zV} {M : zM} {Q Q' : Int → zM → Prop} (h : zTI G w mi args M Q) (hQ : ∀ x u, Q x u → Q' x u) : zTI G w mi args M Q' := by
  intro p e ha hc hk s m a below hf hs hP hK
  obtain ⟨t, o, h1, h2, h3, ⟨⟨r, u, q1, ⟨x, q2, q3⟩, q4⟩, q5⟩, h6⟩ := h p e ha hc hk s m a below hf hs hP hK
  exact ⟨t, o, h1, h2, h3, ⟨⟨r, u, q1, ⟨x, q2, hQ _ _ q3⟩, q4⟩, q5⟩, h6⟩
theorem zTV.weaken {G : zG} {w : zW} {mi : zMI} {args : List zV} {M : zM} {Q Q' : zM → Prop} (h : zTV G w mi args M Q) (hQ : ∀ u, Q u → Q' u) : zTV G w mi args M Q' := by
  intro p e ha hc hk s m a below hf hs hP hK
  obtain ⟨t, o, h1, h2, h3, ⟨⟨u, q1, q3, q4⟩, q5⟩, h6⟩ := h p e ha hc hk s m a below hf hs hP hK
  exact ⟨t, o, h1, h2, h3, ⟨⟨u, q1, hQ _ q3, q4⟩, q5⟩, h6⟩
/-- locals at the entry -/
def zen (args : List zV) (n : Nat) : zL := (args.flatMap (fun v => if zlong (some v) = true then [some v, none] else [some v])) ++ List.replicate (n - ((args.flatMap (fun v => if zlong (some v) = true then [some v, none] else [some v])).length)) none
theorem zen_mem (ad : Int → Nat) : ∀ (args : List zV) (o i : Nat) (v : zV), (args.flatMap (fun v => if zlong (some v) = true then [some v, none] else [some v]))[i]? = some (some v) → (o + i, zc ad v) ∈ lv_args o (args.map (zc ad)) := by
  intro args
  induction args with
  | nil => intro o i v h; simp at h
  | cons a l ih =>
    intro o i v h
    rw [List.flatMap_cons] at h
    rw [List.map_cons]
    unfold lv_args
    by_cases hl : zlong (some a) = true
    · rw [if_pos hl] at h
      have hcat : (zc ad a).category = 2 := by rw [zc_cat, if_pos hl]
      rw [if_pos hcat]
      match i, h with
      | 0, h => simp at h; subst h; exact List.mem_cons_self
      | 1, h => simp at h
      | i + 2, h =>
        have := ih (o + 2) i v (by simpa using h)
        rw [show o + (i + 2) = o + 2 + i by omega]
        exact List.mem_cons_of_mem _ this
    · rw [if_neg hl] at h
      have hcat : ¬ (zc ad a).category = 2 := by rw [zc_cat, if_neg hl]; decide
      rw [if_neg hcat]
      match i, h with
      | 0, h => simp at h; subst h; exact List.mem_cons_self
      | i + 1, h =>
        have := ih (o + 1) i v (by simpa using h)
        rw [show o + (i + 1) = o + 1 + i by omega]
        exact List.mem_cons_of_mem _ this
theorem zen_len (ad : Int → Nat) (args : List zV) : (lg_sl (args.map (zc ad))).length = (args.flatMap (fun v => if zlong (some v) = true then [some v, none] else [some v])).length := by
  induction args with
  | nil => rfl
  | cons a l ih =>
    unfold lg_sl at ih ⊢
    rw [List.map_cons, List.flatMap_cons, List.flatMap_cons, List.length_append, List.length_append, ih]
    congr 1
    by_cases hl : zlong (some a) = true
    · rw [if_pos hl, if_pos (by rw [zc_cat, if_pos hl])]; rfl
    · rw [if_neg hl, if_neg (by rw [zc_cat, if_neg hl]; decide)]; rfl
/-- the end of a method with an int, the end of one with nothing -/
def zRI (G : zG) (γ : zF) (w : zW) (cc : ByteArray) (Q : Int → zM → Prop) : Prop :=
  ∀ (pc : Nat) (H : Heap) (locs : List Loc) (cls : Array Slot) (M : zM) (x : Int), decode cc pc = .ok (.ireturn, 1) → zHo G w M H → va_S (zA G) (zFs γ).heap H locs → Q x M → zWW G γ (0, 0) H locs (F0 (zFm γ) pc cls [.int (Int32.ofInt x)])
/-- the same of a boolean -/
def zRZ (G : zG) (γ : zF) (w : zW) (cc : ByteArray) (Q : Int → zM → Prop) : Prop :=
  ∀ (pc : Nat) (H : Heap) (locs : List Loc) (cls : Array Slot) (M : zM) (x : Int), decode cc pc = .ok (.ireturn, 1) → (x = 0 ∨ x = 1) → zHo G w M H → va_S (zA G) (zFs γ).heap H locs → Q x M → zWW G γ (0, 0) H locs (F0 (zFm γ) pc cls [.int (Int32.ofInt x)])
def zRV (G : zG) (γ : zF) (w : zW) (cc : ByteArray) (Q : zM → Prop) : Prop :=
  ∀ (pc : Nat) (H : Heap) (locs : List Loc) (cls : Array Slot) (M : zM), decode cc pc = .ok (.return_, 1) → zHo G w M H → va_S (zA G) (zFs γ).heap H locs → Q M → zWW G γ (0, 0) H locs (F0 (zFm γ) pc cls [])
theorem v_iret {G : zG} {γ : zF} {w : zW} {cc : ByteArray} {pc : Nat} {ls : zL} {M : zM} {Q : Int → zM → Prop} {x : Int} (rt : zRI G γ w cc Q) (hd : decode cc pc = .ok (.ireturn, 1)) (hq : Q x M) : zVV G γ w (0, 0) pc ls [zi x] M :=
  fun H locs cls h1 h2 _ => rt pc H locs cls M x hd h1 h2 hq
theorem v_zret {G : zG} {γ : zF} {w : zW} {cc : ByteArray} {pc : Nat} {ls : zL} {M : zM} {Q : Int → zM → Prop} {x : Int} (rt : zRZ G γ w cc Q) (hd : decode cc pc = .ok (.ireturn, 1)) (hx : x = 0 ∨ x = 1) (hq : Q x M) : zVV G γ w (0, 0) pc ls [zi x] M :=
  fun H locs cls h1 h2 _ => rt pc H locs cls M x hd hx h1 h2 hq
theorem v_vret {G : zG} {γ : zF} {w : zW} {cc : ByteArray} {pc : Nat} {ls : zL} {M : zM} {Q : zM → Prop} (rt : zRV G γ w cc Q) (hd : decode cc pc = .ok (.return_, 1)) (hq : Q M) : zVV G γ w (0, 0) pc ls [] M :=
  fun H locs cls h1 h2 _ => rt pc H locs cls M hd h1 h2 hq
section ZMET
variable {G : zG} {w : zW} {y : MethodName} {cc : ByteArray} {nL fr lo : Nat} {args : List zV} {M : zM} {ls : zL}
theorem zentry {own : String} {ret : Option FieldType} {p : Program} {e : Env} {s : State} {m : MethodId} {a : Array Value} {below : List Frame} {meth : Method} {c : Code} {s₁ : State} {Qf : State → Prop} (hy : y.cls = own) (hls : zen args nL = ls) (hlen : ls.length ≤ nL)
    (B : BodyLoose p (zGl G) y (headSpec (zws (y, cc, nL, ret, fr, lo)) (zrm (y, cc, nL, ret, fr, lo))) cc nL ret e s m a below meth c s₁) (hml : c.maxLocals = nL) (hP : va_Pc (args.map (zc w.1)) (zPre G w M) a s)
    (body : ∀ γ : zF, γ = (p, e, zrm (y, cc, nL, ret, fr, lo), s, m, a, below, meth, c, Qf) → zOK G γ own cc nL fr lo → zVV G γ w (0, 0) 0 ls [] M) :
    W p (zGl G) e (headSpec (zws (y, cc, nL, ret, fr, lo)) (zrm (y, cc, nL, ret, fr, lo))).room s m a below meth c s.heap [] 0 0 Qf (entryFrame m a nL) := by
  obtain ⟨rfl, hH, hKn⟩ := hP
  have hts := atoms_spec (ws := zws (y, cc, nL, ret, fr, lo)) B.pre
  have ok : zOK G (p, e, zrm (y, cc, nL, ret, fr, lo), s, m, (args.map (zc w.1)).toArray, below, meth, c, Qf) own cc nL fr lo :=
    ⟨B.exec, B.bytes, hml, hy ▸ findClass_of_methodNamed B.named, fun x hx => hts x (List.mem_cons_of_mem _ hx), hKn, Nat.le_refl _, Nat.le_refl _⟩
  have hb := body _ rfl ok
  have hle : (lg_sl (args.map (zc w.1))).length ≤ nL := by
    rw [zen_len]
    rw [← hls] at hlen
    unfold zen at hlen
    rw [List.length_append] at hlen
    omega
  have hl := lv_entry (args.map (zc w.1)) (n := nL) hle
  rw [lg_entry_eq]
  refine hb s.heap [] _ hH va_S.rf ?_
  show zlh w.1 _ c.maxLocals ls
  rw [hml]
  refine zlh_sub hl fun i v hv => ?_
  rw [← hls] at hv
  unfold zen at hv
  by_cases hi : i < (args.flatMap (fun v => if zlong (some v) = true then [some v, none] else [some v])).length
  · rw [List.getElem?_append_left hi] at hv
    have := zen_mem w.1 args 0 i v hv
    rw [Nat.zero_add] at this
    exact this
  · rw [List.getElem?_append_right (by omega)] at hv
    rw [List.getElem?_replicate] at hv
    split at hv <;> cases hv
theorem zTI.of {Q : Int → zM → Prop} {own : String} (hy : plainName y.cls = true) (hown : y.cls = own) (hls : zen args nL = ls) (hlen : ls.length ≤ nL) (body : ∀ γ : zF, zOK G γ own cc nL fr lo → zRI G γ w cc Q → zVV G γ w (0, 0) 0 ls [] M) : zTI G w (y, cc, nL, some .int, fr, lo) args M Q := by
  refine Met.ofW (cc := cc) (maxL := nL) (ret := some .int) hy rfl ?_
  intro p e s m a below meth c s₁ B hml hP
  refine zentry hown hls hlen B hml hP fun γ hγ ok => body γ ok ?_
  subst hγ
  intro pc H locs cls M' x hd hH hS hq
  have hlocks := B.notSynchronized
  exact W.iret B.exec B.bytes B.returns (fun t ht hW => ⟨⟨_, M', rfl, ⟨x, rfl, hq⟩, by show zHo G w M' t.heap; rw [ht]; exact hH⟩, hS.F ht⟩) hS.2.2 hd
theorem zTI.ofZ {Q : Int → zM → Prop} {own : String} (hy : plainName y.cls = true) (hown : y.cls = own) (hls : zen args nL = ls) (hlen : ls.length ≤ nL) (body : ∀ γ : zF, zOK G γ own cc nL fr lo → zRZ G γ w cc Q → zVV G γ w (0, 0) 0 ls [] M) : zTI G w (y, cc, nL, some .boolean, fr, lo) args M Q := by
  refine Met.ofW (cc := cc) (maxL := nL) (ret := some .boolean) hy rfl ?_
  intro p e s m a below meth c s₁ B hml hP
  refine zentry hown hls hlen B hml hP fun γ hγ ok => body γ ok ?_
  subst hγ
  intro pc H locs cls M' x hd hx hH hS hq
  have hlocks := B.notSynchronized
  exact W.zret B.exec B.bytes B.returns (by rcases hx with rfl | rfl <;> rfl) (fun t ht hW => ⟨⟨_, M', rfl, ⟨x, rfl, hq⟩, by show zHo G w M' t.heap; rw [ht]; exact hH⟩, hS.F ht⟩) hS.2.2 hd
theorem zTV.of {Q : zM → Prop} {own : String} (hy : plainName y.cls = true) (hown : y.cls = own) (hls : zen args nL = ls) (hlen : ls.length ≤ nL) (body : ∀ γ : zF, zOK G γ own cc nL fr lo → zRV G γ w cc Q → zVV G γ w (0, 0) 0 ls [] M) : zTV G w (y, cc, nL, none, fr, lo) args M Q := by
  refine Met.ofW (cc := cc) (maxL := nL) (ret := none) hy rfl ?_
  intro p e s m a below meth c s₁ B hml hP
  refine zentry hown hls hlen B hml hP fun γ hγ ok => body γ ok ?_
  subst hγ
  intro pc H locs cls M' hd hH hS hq
  have hlocks := B.notSynchronized
  exact W.vret B.exec B.bytes B.returns (fun t ht hW => ⟨⟨M', rfl, hq, by show zHo G w M' t.heap; rw [ht]; exact hH⟩, hS.F ht⟩) hS.2.2 hd
end ZMET
/-! calls -/
def zMc (mi : zMI) (n : Nat) : Prop := Cond.code mi.1 mi.2.1 mi.2.2.1 mi.2.2.2.1 ∈ zTb ∧ mi.1.cls ≠ "java/lang/invoke/MethodHandle" ∧ mi.1.cls ≠ "java/lang/invoke/VarHandle" ∧ (parseMethodDescriptor mi.1.desc).map (fun d => d.parameters.length) = some n
def zCv (own : String) (idx : Nat) (y : MethodName) : Prop := Cond.methodLink own idx y ∈ zTb ∧ Cond.instanceMethod y ∈ zTb ∧ Cond.selects y.cls y y ∈ zTb ∧ Cond.initialized y.cls ∈ zTb
def zCs (own : String) (idx : Nat) (y : MethodName) : Prop := (Cond.methodLink own idx y ∈ zTb ∨ Cond.methodLinkNest own idx y RX7 ∈ zNs) ∧ Cond.static y ∈ zTb ∧ Cond.initialized y.cls ∈ zTb
theorem zTb_good : ∀ w ∈ zTb, (w.onTables && w.keeps) = true ∨ ∃ ty, w = .arrayClass ty := fun _ hw => good_of_word (List.mem_filter.mp hw).2
theorem zPre_blind {G : zG} {w : zW} {M : zM} {av : List Value} : FrameBlind (va_Pc av (zPre G w M)) := fun _ U g mk h => ⟨h.1, h.2.1, zKn_same (s := U) rfl h.2.2⟩
def zcs (st : List zV) : Nat := (st.map (fun v => if zlong (some v) = true then 2 else 1)).sum
theorem zcs_eq (ad : Int → Nat) (st : List zV) : ((st.map (zc ad)).map (fun v => v.category)).sum = zcs st := by
  unfold zcs
  rw [List.map_map]
  congr 1
  apply List.map_congr_left
  intro v _
  exact zc_cat ad v
section ZCALL
variable {G : zG} {γ : zF} {w : zW} {k : Nat × Nat} {own : String} {cc : ByteArray} {nL fr lo pc n idx : Nat} {ls : zL} {st : List zV} {M : zM} {mi : zMI} {args : List zV}
theorem zcallB (ok : zOK G γ own cc nL fr lo) {na : Nat} (hm : zMc mi na) (hi : Cond.initialized mi.1.cls ∈ zTb) (hf : mi.2.2.2.2.1 + 1 ≤ fr ∧ 8 + (mi.2.2.1 + 11) + mi.2.2.2.2.2 ≤ lo) :
    (zrm mi).cells = 0 ∧ (zrm mi).slots = 0 ∧ (zrm mi).frames + 1 ≤ (zFR γ).frames ∧ 8 + (mi.2.2.1 + 11) + (zrm mi).locals ≤ (zFR γ).locals ∧ (∀ w ∈ zws mi, ∀ (a' : Array Value) (U : State), (zFs γ).WarmedH U.vm → w.before a' U = true) ∧ Cond.code mi.1 mi.2.1 mi.2.2.1 mi.2.2.2.1 ∈ zws mi ∧
      (Cond.code mi.1 mi.2.1 mi.2.2.1 mi.2.2.2.1).before (zFa γ) (zFs γ) = true ∧ (Cond.initialized mi.1.cls).before (zFa γ) (zFs γ) = true ∧ (mi.1.cls ≠ "java/lang/invoke/MethodHandle" ∧ mi.1.cls ≠ "java/lang/invoke/VarHandle") ∧ (∀ sig, parseMethodDescriptor mi.1.desc = some sig → na = sig.parameters.length) := by
  obtain ⟨hc, hd1, hd2, hd3⟩ := hm
  refine ⟨rfl, rfl, Nat.le_trans hf.1 ok.2.2.2.2.2.2.1, Nat.le_trans hf.2 ok.2.2.2.2.2.2.2, fun x hx a' U hW => ?_, List.mem_cons_self, ok.2.2.2.2.1 _ hc, ok.2.2.2.2.1 _ hi, ⟨hd1, hd2⟩, fun sig h => ?_⟩
  · rcases List.mem_cons.mp hx with rfl | hx
    · exact word_at hW (zTb_good _ hc) (ok.2.2.2.2.1 _ hc)
    · exact word_at hW (zTb_good _ hx) (ok.2.2.2.2.1 _ hx)
  · rw [h] at hd3
    exact (Option.some.inj hd3).symm
theorem zrunS (ok : zOK G γ own cc nL fr lo) {na : Nat} {H : Heap} {locs : List Loc} {cls : Array Slot} {Qc : Array Value → State → Outcome → State → Prop} (hM : Met (zGl G) mi.1 (zws mi) (zrm mi) (va_Pc (args.map (zc w.1)) (zPre G w M)) Qc 0 0 (zA G)) (hm : zMc mi na) (hs : zCs own idx mi.1) (hf : mi.2.2.2.2.1 + 1 ≤ fr ∧ 8 + (mi.2.2.1 + 11) + mi.2.2.2.2.2 ≤ lo) (hna : args.length = na) (hst : zcs st ≤ 8) (hk : k.1 ≤ (zFR γ).cells ∧ k.2 ≤ (zFR γ).slots)
    (hd : decode cc pc = .ok (.invokestatic idx, 3)) (h1 : zHo G w M H) (h3 : zlh w.1 cls (zFc γ).maxLocals ls) :
    va_Run γ.1 (zGl G) γ.2.1 (zFR γ) (zFs γ) (zFm γ) (zFa γ) γ.2.2.2.2.2.2.1 (zFt γ) (zFc γ) H locs k.1 k.2 0 0 (F0 (zFm γ) pc cls ((args.reverse ++ st).map (zc w.1))) (st.map (zc w.1)) (Qc (args.map (zc w.1)).toArray) (zA G) := by
  have hB := zcallB ok hm hs.2.2 hf
  have S : CallFix γ.1 (zFm γ) (zFc γ) cc nL (zFs γ) (zFa γ) zTb own := ⟨ok.1, ok.2.1, ok.2.2.1, ok.2.2.2.1, ok.2.2.2.2.1⟩
  have hp : PreS (zFs γ) H (va_Pc (args.map (zc w.1)) (zPre G w M)) (args.map (zc w.1)) := ⟨zPre_blind, fun U hU hW => ⟨rfl, by rw [hU]; exact h1, zKn_warm hW ok.2.2.2.2.2.1⟩⟩
  have hW : 2 * (F0 (zFm γ) pc cls ((args.reverse ++ st).map (zc w.1))).monitorRoom + ((st.map (zc w.1)).map fun v => v.category).sum ≤ 8 := lv_room (by rw [zcs_eq]; exact hst)
  rcases hs.1 with hl | hl
  · exact va_runS S hM ⟨⟨hB.1, hB.2.1, hB.2.2.1, hB.2.2.2.1, hB.2.2.2.2.1, hB.2.2.2.2.2.1, hB.2.2.2.2.2.2.1, hB.2.2.2.2.2.2.2.1, hB.2.2.2.2.2.2.2.2.1, hB.2.2.2.2.2.2.2.2.2, ok.2.2.2.2.1 _ hl⟩, ok.2.2.2.2.1 _ hs.2.1⟩ hp rfl (by rw [List.length_map]; exact hna) (h3.1.trans ok.2.2.1) (by show ((args.reverse ++ st).map (zc w.1)) = _; rw [List.map_append, List.map_reverse]) hW hd hk
  · exact va_runSN S hM ⟨⟨⟨hB.1, hB.2.1, hB.2.2.1, hB.2.2.2.1, hB.2.2.2.2.1, hB.2.2.2.2.2.1⟩, hB.2.2.2.2.2.2.1, hB.2.2.2.2.2.2.2.1, hB.2.2.2.2.2.2.2.2.1, hB.2.2.2.2.2.2.2.2.2, va_Nw.use rfl (ok.2.2.2.2.2.1.2.2.2.1 _ hl)⟩, ok.2.2.2.2.1 _ hs.2.1, trivial⟩ hp rfl (by rw [List.length_map]; exact hna) (h3.1.trans ok.2.2.1) (by show ((args.reverse ++ st).map (zc w.1)) = _; rw [List.map_append, List.map_reverse]) hW hd hk
theorem zrunV (ok : zOK G γ own cc nL fr lo) {na : Nat} {H : Heap} {locs : List Loc} {cls : Array Slot} {r b : Int} {c : Nat} {q : vw_C} {Qc : Array Value → State → Outcome → State → Prop} (hM : Met (zGl G) mi.1 (zws mi) (zrm mi) (va_Pc ((zr r :: args).map (zc w.1)) (zPre G w M)) Qc 0 0 (zA G)) (hm : zMc mi na) (hs : zCv own idx mi.1) (hl : zlay r = (6, c, b)) (ha : w.2.1 r = true) (hc : zcl[c]? = some q) (hq : q.1 = mi.1.cls) (hf : mi.2.2.2.2.1 + 1 ≤ fr ∧ 8 + (mi.2.2.1 + 11) + mi.2.2.2.2.2 ≤ lo) (hna : args.length = na) (hst : zcs st ≤ 8) (hk : k.1 ≤ (zFR γ).cells ∧ k.2 ≤ (zFR γ).slots)
    (hd : decode cc pc = .ok (.invokevirtual idx, 3)) (h1 : zHo G w M H) (h3 : zlh w.1 cls (zFc γ).maxLocals ls) :
    va_Run γ.1 (zGl G) γ.2.1 (zFR γ) (zFs γ) (zFm γ) (zFa γ) γ.2.2.2.2.2.2.1 (zFt γ) (zFc γ) H locs k.1 k.2 0 0 (F0 (zFm γ) pc cls ((args.reverse ++ zr r :: st).map (zc w.1))) (st.map (zc w.1)) (Qc ((zr r :: args).map (zc w.1)).toArray) (zA G) := by
  have hB := zcallB ok hm hs.2.2.2 hf
  have S : CallFix γ.1 (zFm γ) (zFc γ) cc nL (zFs γ) (zFa γ) zTb own := ⟨ok.1, ok.2.1, ok.2.2.1, ok.2.2.2.1, ok.2.2.2.2.1⟩
  obtain ⟨cell, q1, q2, q3, q4⟩ := zHo_obj h1 ha hl hc
  have hcl := (ok.2.2.2.2.2.1.1.1 c _ hc).2.1
  have hp : PreV (zFs γ) H mi.1.cls (w.1 r) (va_Pc ((zr r :: args).map (zc w.1)) (zPre G w M)) (args.map (zc w.1)) := ⟨zPre_blind, ⟨cell, q1, by rw [q3]; rfl, by rw [q2, ← hq]; exact hcl⟩, fun U hU hW => ⟨rfl, by rw [hU]; exact h1, zKn_warm hW ok.2.2.2.2.2.1⟩⟩
  have hW : 2 * (F0 (zFm γ) pc cls ((args.reverse ++ zr r :: st).map (zc w.1))).monitorRoom + ((st.map (zc w.1)).map fun v => v.category).sum ≤ 8 := lv_room (by rw [zcs_eq]; exact hst)
  exact va_runV S hM ⟨⟨hB.1, hB.2.1, hB.2.2.1, hB.2.2.2.1, hB.2.2.2.2.1, hB.2.2.2.2.2.1, hB.2.2.2.2.2.2.1, hB.2.2.2.2.2.2.2.1, hB.2.2.2.2.2.2.2.2.1, hB.2.2.2.2.2.2.2.2.2, ok.2.2.2.2.1 _ hs.1⟩, ok.2.2.2.2.1 _ hs.2.1, ok.2.2.2.2.1 _ hs.2.2.1⟩ hp rfl (by rw [List.length_map]; exact hna) (h3.1.trans ok.2.2.1) (by show ((args.reverse ++ zr r :: st).map (zc w.1)) = _; rw [List.map_append, List.map_reverse]; rfl) hW hd hk
theorem v_callSI (ok : zOK G γ own cc nL fr lo) {na : Nat} {Q : Int → zM → Prop} (hm : zMc mi na) (hs : zCs own idx mi.1) (hf : mi.2.2.2.2.1 + 1 ≤ fr ∧ 8 + (mi.2.2.1 + 11) + mi.2.2.2.2.2 ≤ lo) (hk : k.1 ≤ (zFR γ).cells ∧ k.2 ≤ (zFR γ).slots) (hd : decode cc pc = .ok (.invokestatic idx, 3)) (hn : pc + 3 = n) {st0 : List zV} (hst0 : args.reverse ++ st = st0) (hna : args.length = na) (hst : zcs st ≤ 8) (hT : zTI G w mi args M Q) (kk : ∀ x M', Q x M' → zVV G γ w k n ls (zi x :: st) M') : zVV G γ w k pc ls st0 M := by
  subst hn
  subst hst0
  intro H locs cls h1 h2 h3
  refine va_calli (zrunS (st := st) ok hT hm hs hf hna hst hk hd h1 h3) h2 (fun q _ hq => hq) (fun q hq => hq) ?_
  rintro r u t H1 locs1 ht hvm ⟨x, rfl, hq⟩ hB hz hk1 hS
  exact kk x u hq H1 locs1 cls (by rw [← ht]; exact hB) hS h3
theorem v_callSV (ok : zOK G γ own cc nL fr lo) {na : Nat} {Q : zM → Prop} (hm : zMc mi na) (hs : zCs own idx mi.1) (hf : mi.2.2.2.2.1 + 1 ≤ fr ∧ 8 + (mi.2.2.1 + 11) + mi.2.2.2.2.2 ≤ lo) (hk : k.1 ≤ (zFR γ).cells ∧ k.2 ≤ (zFR γ).slots) (hd : decode cc pc = .ok (.invokestatic idx, 3)) (hn : pc + 3 = n) {st0 : List zV} (hst0 : args.reverse ++ st = st0) (hna : args.length = na) (hst : zcs st ≤ 8) (hT : zTV G w mi args M Q) (kk : ∀ M', Q M' → zVV G γ w k n ls st M') : zVV G γ w k pc ls st0 M := by
  subst hn
  subst hst0
  intro H locs cls h1 h2 h3
  refine va_callv (zrunS (st := st) ok hT hm hs hf hna hst hk hd h1 h3) h2 (fun q _ hq => hq) (fun q hq => hq) ?_
  rintro u t H1 locs1 ht hvm hq hB hz hk1 hS
  exact kk u hq H1 locs1 cls (by rw [← ht]; exact hB) hS h3
theorem v_callVI (ok : zOK G γ own cc nL fr lo) {na : Nat} {r b : Int} {c : Nat} {q : vw_C} {Q : Int → zM → Prop} (hm : zMc mi na) (hs : zCv own idx mi.1) (hl : zlay r = (6, c, b)) (ha : w.2.1 r = true) (hc : zcl[c]? = some q) (hq : q.1 = mi.1.cls) (hf : mi.2.2.2.2.1 + 1 ≤ fr ∧ 8 + (mi.2.2.1 + 11) + mi.2.2.2.2.2 ≤ lo) (hk : k.1 ≤ (zFR γ).cells ∧ k.2 ≤ (zFR γ).slots) (hd : decode cc pc = .ok (.invokevirtual idx, 3)) (hn : pc + 3 = n) {st0 : List zV} (hst0 : args.reverse ++ zr r :: st = st0) (hna : args.length = na) (hst : zcs st ≤ 8) (hT : zTI G w mi (zr r :: args) M Q) (kk : ∀ x M', Q x M' → zVV G γ w k n ls (zi x :: st) M') : zVV G γ w k pc ls st0 M := by
  subst hn
  subst hst0
  intro H locs cls h1 h2 h3
  refine va_calli (zrunV (st := st) ok hT hm hs hl ha hc hq hf hna hst hk hd h1 h3) h2 (fun q _ hq => hq) (fun q hq => hq) ?_
  rintro r u t H1 locs1 ht hvm ⟨x, rfl, hq⟩ hB hz hk1 hS
  exact kk x u hq H1 locs1 cls (by rw [← ht]; exact hB) hS h3
theorem v_callVV (ok : zOK G γ own cc nL fr lo) {na : Nat} {r b : Int} {c : Nat} {q : vw_C} {Q : zM → Prop} (hm : zMc mi na) (hs : zCv own idx mi.1) (hl : zlay r = (6, c, b)) (ha : w.2.1 r = true) (hc : zcl[c]? = some q) (hq : q.1 = mi.1.cls) (hf : mi.2.2.2.2.1 + 1 ≤ fr ∧ 8 + (mi.2.2.1 + 11) + mi.2.2.2.2.2 ≤ lo) (hk : k.1 ≤ (zFR γ).cells ∧ k.2 ≤ (zFR γ).slots) (hd : decode cc pc = .ok (.invokevirtual idx, 3)) (hn : pc + 3 = n) {st0 : List zV} (hst0 : args.reverse ++ zr r :: st = st0) (hna : args.length = na) (hst : zcs st ≤ 8) (hT : zTV G w mi (zr r :: args) M Q) (kk : ∀ M', Q M' → zVV G γ w k n ls st M') : zVV G γ w k pc ls st0 M := by
  subst hn
  subst hst0
  intro H locs cls h1 h2 h3
  refine va_callv (zrunV (st := st) ok hT hm hs hl ha hc hq hf hna hst hk hd h1 h3) h2 (fun q _ hq => hq) (fun q hq => hq) ?_
  rintro u t H1 locs1 ht hvm hq hB hz hk1 hS
  exact kk u hq H1 locs1 cls (by rw [← ht]; exact hB) hS h3
/-! Math.max, Math.min, System.arraycopy -/
def zmax (x y : Int) : Int := if x < y then y else x
def zmin (x y : Int) : Int := if y < x then y else x
def zmm (own : String) (idx : Nat) (y : MethodName) (b : ByteArray) : Prop := Cond.methodLink own idx y ∈ zTb ∧ Cond.static y ∈ zTb ∧ Cond.initialized "java/lang/Math" ∈ zTb ∧ Cond.code y b 2 (some .int) ∈ zTb
theorem v_max (ok : zOK G γ own cc nL fr lo) {x y : Int} (hs : zmm own idx Lib.Math.max.name Lib.Math.max.code) (hf : 1 ≤ fr ∧ zcs st + 13 ≤ lo) (hk : k.1 ≤ (zFR γ).cells ∧ k.2 ≤ (zFR γ).slots) (hx : -2147483648 ≤ x ∧ x ≤ 2147483647) (hy : -2147483648 ≤ y ∧ y ≤ 2147483647) (hd : decode cc pc = .ok (.invokestatic idx, 3)) (hn : pc + 3 = n) (kk : zVV G γ w k n ls (zi (zmax x y) :: st) M) : zVV G γ w k pc ls (zi y :: zi x :: st) M := by
  subst hn
  intro H locs cls h1 h2 h3
  have h := kk H locs cls h1 h2 h3
  have e : zc w.1 (zi (zmax x y)) = .int (if Int32.ofInt x < Int32.ofInt y then Int32.ofInt y else Int32.ofInt x) := by
    refine congrArg Value.int ?_
    unfold zmax
    by_cases c : x < y
    · rw [if_pos c, if_pos ((zn_lt hx hy).mpr c)]
    · rw [if_neg c, if_neg (fun q => c ((zn_lt hx hy).mp q))]
  rw [List.map_cons, e] at h
  exact va_mmax ok.1 ok.2.1 h3.1.symm ok.2.2.2.1 (ok.2.2.2.2.1 _ hs.1) (ok.2.2.2.2.1 _ hs.2.1) (ok.2.2.2.2.1 _ hs.2.2.1) (ok.2.2.2.2.1 _ hs.2.2.2) (Nat.le_trans hf.1 ok.2.2.2.2.2.2.1) (by rw [zcs_eq]; exact Nat.le_trans hf.2 ok.2.2.2.2.2.2.2) hk.1 hk.2 hd h
theorem v_min (ok : zOK G γ own cc nL fr lo) {x y : Int} (hs : zmm own idx Lib.Math.min.name Lib.Math.min.code) (hf : 1 ≤ fr ∧ zcs st + 13 ≤ lo) (hk : k.1 ≤ (zFR γ).cells ∧ k.2 ≤ (zFR γ).slots) (hx : -2147483648 ≤ x ∧ x ≤ 2147483647) (hy : -2147483648 ≤ y ∧ y ≤ 2147483647) (hd : decode cc pc = .ok (.invokestatic idx, 3)) (hn : pc + 3 = n) (kk : zVV G γ w k n ls (zi (zmin x y) :: st) M) : zVV G γ w k pc ls (zi y :: zi x :: st) M := by
  subst hn
  intro H locs cls h1 h2 h3
  have h := kk H locs cls h1 h2 h3
  have e : zc w.1 (zi (zmin x y)) = .int (if Int32.ofInt y < Int32.ofInt x then Int32.ofInt y else Int32.ofInt x) := by
    refine congrArg Value.int ?_
    unfold zmin
    by_cases c : y < x
    · rw [if_pos c, if_pos ((zn_lt hy hx).mpr c)]
    · rw [if_neg c, if_neg (fun q => c ((zn_lt hy hx).mp q))]
  rw [List.map_cons, e] at h
  exact va_mmin ok.1 ok.2.1 h3.1.symm ok.2.2.2.1 (ok.2.2.2.2.1 _ hs.1) (ok.2.2.2.2.1 _ hs.2.1) (ok.2.2.2.2.1 _ hs.2.2.1) (ok.2.2.2.2.1 _ hs.2.2.2) (Nat.le_trans hf.1 ok.2.2.2.2.2.2.1) (by rw [zcs_eq]; exact Nat.le_trans hf.2 ok.2.2.2.2.2.2.2) hk.1 hk.2 hd h
def zcpy (M : zM) (rs sp rd dp n : Int) : zM := fun r j => if r = rd ∧ dp ≤ j ∧ j < dp + n then M rs (sp + (j - dp)) else M r j
def zac (own : String) (idx : Nat) : Prop := Cond.methodLink own idx arraycopyName ∈ zTb ∧ Cond.native arraycopyName ∈ zTb ∧ Cond.static arraycopyName ∈ zTb ∧ Cond.initialized "java/lang/System" ∈ zTb
theorem v_copy (ok : zOK G γ own cc nL fr lo) {m0 m1 : Nat} {r0 r1 b0 b1 sp dp c : Int} (hs : zac own idx) (hf : 1 ≤ fr ∧ zcs st + (nativeFrameWords "java/lang/System" "arraycopy" 5 + 11) ≤ lo) (hl0 : zlay r0 = (0, m0, b0)) (ha0 : w.2.1 r0 = true) (hl1 : zlay r1 = (0, m1, b1)) (ha1 : w.2.1 r1 = true) (hm : m0 ≤ 2147483647 ∧ m1 ≤ 2147483647)
    (hsp : 0 ≤ sp ∧ sp + c ≤ (m0 : Int)) (hdp : 0 ≤ dp ∧ dp + c ≤ (m1 : Int)) (hc : 0 ≤ c) (hd : decode cc pc = .ok (.invokestatic idx, 3)) (hn : pc + 3 = n) (kk : zVV G γ w k n ls st (zcpy M r0 sp r1 dp c)) : zVV G γ w k pc ls (zi c :: zi dp :: zr r1 :: zi sp :: zr r0 :: st) M := by
  subst hn
  intro H locs cls h1 h2 h3
  have hc0 := zHo_arr h1 ha0 hl0 (by omega)
  have hc1 := zHo_arr h1 ha1 hl1 (by omega)
  have e0 : zct w M r0 0 b0 = .inl (fun j => Int32.ofInt (M r0 j)) := rfl
  have e1 : zct w M r1 0 b1 = .inl (fun j => Int32.ofInt (M r1 j)) := rfl
  rw [e0] at hc0
  rw [e1] at hc1
  have lv0 : zlv w r0 := ⟨ha0, by rw [hl0]; show 0 ≤ 6; omega⟩
  have lv1 : zlv w r1 := ⟨ha1, by rw [hl1]; show 0 ≤ 6; omega⟩
  have hA0 := (h1.2.2.1 r0 lv0).1
  have hA1 := (h1.2.2.1 r1 lv1).1
  have hkn := ok.2.2.2.2.2.1
  have n1 := zn_neg (x := sp) (by omega)
  have n2 := zn_neg (x := dp) (by omega)
  have n3 := zn_neg (x := c) (by omega)
  have k1 := zn_clamp (x := sp) (by omega)
  have k2 := zn_clamp (x := dp) (by omega)
  have k3 := zn_clamp (x := c) (by omega)
  have fin : ∀ (H1 : Heap) (locs1 : List Loc), H1.size = H.size → (∀ q : Nat, q ≠ w.1 r1 → H1[q]? = H[q]?) → H1[w.1 r1]? = some (vp_cell (zGc G 0) (m1, .inl (va_cpy (fun j : Nat => Int32.ofInt (M r0 j)) (fun j : Nat => Int32.ofInt (M r1 j)) sp.toNat dp.toNat c.toNat))) → va_S (zA G) (zFs γ).heap H1 locs1 → zWW G γ k H1 locs1 (F0 (zFm γ) (pc + 3) cls (st.map (zc w.1))) := by
    intro H1 locs1 z oq e hS
    refine kk H1 locs1 cls (zHo_put h1 lv1 (fun r' hr' => ?_) z oq ?_) hS h3
    · funext j
      unfold zcpy
      rw [if_neg (fun q => hr' q.1)]
    · have e9 : zce G w (zcpy M r0 sp r1 dp c) r1 = .inl (zGc G 0, m1, .inl (fun j => Int32.ofInt (zcpy M r0 sp r1 dp c r1 j))) := by
        unfold zce
        rw [hl1]
        rfl
      rw [e9]
      show H1[w.1 r1]? = some (vp_cell _ _)
      rw [e]
      congr 4
      funext j
      unfold va_cpy zcpy
      by_cases hj : dp.toNat ≤ j ∧ j < dp.toNat + c.toNat
      · rw [if_pos hj, if_pos ⟨rfl, by omega, by omega⟩]
        have e7 : ((sp.toNat + (j - dp.toNat) : Nat) : Int) = sp + ((j : Int) - dp) := by omega
        show Int32.ofInt (M r0 ((sp.toNat + (j - dp.toNat) : Nat) : Int)) = _
        rw [e7]
      · rw [if_neg hj, if_neg (fun q => hj (by omega))]
  have key : zWW G γ k H locs (F0 (zFm γ) pc cls ((zi c :: zi dp :: zr r1 :: zi sp :: zr r0 :: st).map (zc w.1))) := by
    intro T hT X
    have nn : ∀ z : Int, (0 ≤ z ∧ z ≤ 2147483647) → (Int32.ofInt z).toInt = ((Int32.ofInt z).toNatClampNeg : Int) := fun z hz => by rw [zn_clamp hz, zn_toI (by omega)]; omega
    obtain ⟨-, x0, y0, cm0, kk0⟩ := (zKn_arr hkn (t := 0) (by omega)).1 m0 (fun j => .int (Int32.ofInt (M r0 j)))
    obtain ⟨-, x1, y1, cm1, kk1⟩ := (zKn_arr hkn (t := 0) (by omega)).1 m1 (fun j => .int (Int32.ofInt (M r1 j)))
    obtain ⟨vm', X', step⟩ := X.arraycopy ok.1 ok.2.2.2.1 (ok.2.2.2.2.1 _ hs.1) (ok.2.2.2.2.1 _ hs.2.1) (ok.2.2.2.2.1 _ hs.2.2.1) (ok.2.2.2.2.1 _ hs.2.2.2) (src := w.1 r0) (dst := w.1 r1) (cs := vp_cell (zGc G 0) (m0, .inl (fun j => Int32.ofInt (M r0 j)))) (cd := vp_cell (zGc G 0) (m1, .inl (fun j => Int32.ofInt (M r1 j)))) (srcPos := Int32.ofInt sp) (destPos := Int32.ofInt dp) (n := Int32.ofInt c) (by rw [hT]; exact hc0) (by rw [hT]; exact hc1)
      (fun _ h => by cases h) (fun _ h => by cases h) (fun h => by cases h) (fun h => by cases h) y0 y1 kk0 kk1 (by rfl) n1 n2 n3
      (by rw [nn sp (by omega), nn c (by omega), k1, k3]; show ¬ _ > ((arrV (zGc G 0) m0 (fun j => .int (Int32.ofInt (M r0 j)))).slots.size : Int); rw [arrV_size]; omega)
      (by rw [nn dp (by omega), nn c (by omega), k2, k3]; show ¬ _ > ((arrV (zGc G 0) m1 (fun j => .int (Int32.ofInt (M r1 j)))).slots.size : Int); rw [arrV_size]; omega)
      (fun vm₁ _ i hi => by
        rw [k3] at hi
        rw [k1]
        have e : (vp_cell (zGc G 0) (m0, .inl (fun j => Int32.ofInt (M r0 j)))).slots.getD (sp.toNat + i) .null = .int (Int32.ofInt (M r0 ((sp.toNat + i : Nat) : Int))) := by
          show (arrV (zGc G 0) m0 (fun j => .int (Int32.ofInt (M r0 j)))).slots.getD _ _ = _
          rw [Array.getD_eq_getD_getElem?, arrV_read _ _ (by omega)]
          rfl
        refine ⟨?_, ?_⟩
        · rw [e]
          rfl
        · rw [e]
          exact trivial)
      (g := F0 (zFm γ) pc cls ((zi c :: zi dp :: zr r1 :: zi sp :: zr r0 :: st).map (zc w.1))) rfl h3.1 (rest := st.map (zc w.1)) rfl (by rw [ok.2.1]; exact hd) (Nat.le_trans hf.1 ok.2.2.2.2.2.2.1) (by show 2 * 0 + _ + _ ≤ _; rw [zcs_eq]; have := ok.2.2.2.2.2.2.2; omega)
    have e1 : copied (vp_cell (zGc G 0) (m0, .inl (fun j => Int32.ofInt (M r0 j)))) (vp_cell (zGc G 0) (m1, .inl (fun j => Int32.ofInt (M r1 j)))) (Int32.ofInt sp) (Int32.ofInt dp) (Int32.ofInt c) = vp_cell (zGc G 0) (m1, .inl (va_cpy (fun j : Nat => Int32.ofInt (M r0 j)) (fun j : Nat => Int32.ofInt (M r1 j)) sp.toNat dp.toNat c.toNat)) := by
      have := va_copied (fun z => .int z) (zGc G 0) (zGc G 0) (n0 := m0) (n1 := m1) (sp := sp.toNat) (dp := dp.toNat) (n := c.toNat) (fun j : Nat => Int32.ofInt (M r0 j)) (fun j : Nat => Int32.ofInt (M r1 j)) (by omega)
      unfold copied
      rw [k1, k2, k3]
      exact this
    rw [e1] at X' step
    have hl : w.1 r1 < H.size := (Array.getElem?_eq_some_iff.mp hc1).1
    have oq : ∀ q : Nat, q ≠ w.1 r1 → (H.setIfInBounds (w.1 r1) (vp_cell (zGc G 0) (m1, .inl (va_cpy (fun j : Nat => Int32.ofInt (M r0 j)) (fun j : Nat => Int32.ofInt (M r1 j)) sp.toNat dp.toNat c.toNat))))[q]? = H[q]? := fun q hq => by simp [Array.getElem?_setIfInBounds, Ne.symm hq]
    have hh : ((T.setVm vm').setCell (w.1 r1) (vp_cell (zGc G 0) (m1, .inl (va_cpy (fun j : Nat => Int32.ofInt (M r0 j)) (fun j : Nat => Int32.ofInt (M r1 j)) sp.toNat dp.toNat c.toNat)))).heap = H.setIfInBounds (w.1 r1) (vp_cell (zGc G 0) (m1, .inl (va_cpy (fun j : Nat => Int32.ofInt (M r0 j)) (fun j : Nat => Int32.ofInt (M r1 j)) sp.toNat dp.toNat c.toNat))) := by rw [← hT]; rfl
    obtain ⟨t, a1, b1⟩ := fin _ _ (by simp) oq (by simp [Array.getElem?_setIfInBounds, hl]) ⟨by simp; exact h2.1, fun q g1 g2 => by
        rw [oq q (fun e => g2 (by rw [e]; exact hA1))]
        exact h2.2.1 q g1 g2, fun q hq => by
        rcases List.mem_append.mp hq with h | h
        · exact h2.2.2 q h
        · obtain ⟨z, -, hz⟩ := List.mem_map.mp h
          rw [← hz]
          exact hA1⟩ _ hh X'
    exact ⟨t, step t a1, b1⟩
  exact key
end ZCALL
