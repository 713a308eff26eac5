/-! pure words: the reading of texts. T the bytes, len how many, p a place -/
def zskf (T : Int → Int) (len : Int) : Nat → Int → Int
  | 0, p => p
  | n + 1, p => if p < len ∧ T p = 32 then zskf T len n (p + 1) else p
/-- the next place that is no blank -/
def zsk (T : Int → Int) (len p : Int) : Int := zskf T len (len - p).toNat p
theorem zsk_y {T : Int → Int} {len p : Int} (h : p < len ∧ T p = 32) : zsk T len p = zsk T len (p + 1) := by
  unfold zsk
  rw [show (len - p).toNat = (len - (p + 1)).toNat + 1 by omega]
  exact if_pos h
theorem zsk_n {T : Int → Int} {len p : Int} (h : ¬ (p < len ∧ T p = 32)) : zsk T len p = p := by
  unfold zsk
  cases hn : (len - p).toNat with
  | zero => rfl
  | succ n => exact if_neg h
theorem zsk_b {T : Int → Int} {len : Int} (n : Nat) : ∀ p, n = (len - p).toNat → p ≤ len → p ≤ zsk T len p ∧ zsk T len p ≤ len ∧ ¬ (zsk T len p < len ∧ T (zsk T len p) = 32) := by
  induction n with
  | zero =>
    intro p hn hp
    rw [zsk_n (by omega)]
    omega
  | succ n ih =>
    intro p hn hp
    by_cases h : p < len ∧ T p = 32
    · rw [zsk_y h]
      have := ih (p + 1) (by omega) (by omega)
      exact ⟨by omega, this.2⟩
    · rw [zsk_n h]
      exact ⟨by omega, hp, h⟩
theorem zsk_bd {T : Int → Int} {len p : Int} (hp : p ≤ len) : p ≤ zsk T len p ∧ zsk T len p ≤ len := ⟨(zsk_b _ p rfl hp).1, (zsk_b _ p rfl hp).2.1⟩
theorem zsk_sk {T : Int → Int} {len p : Int} (hp : p ≤ len) : zsk T len (zsk T len p) = zsk T len p := zsk_n (zsk_b _ p rfl hp).2.2
/-- figures from a place on: value (1000 and more are 1000), and the place behind -/
def znuf (T : Int → Int) (len : Int) : Nat → Int → Int → Int × Int
  | 0, p, v => (v, p)
  | n + 1, p, v => if p < len ∧ 48 ≤ T p ∧ T p ≤ 57 then znuf T len n (p + 1) (zmin 1000 (10 * v + T p - 48)) else (v, p)
def znu (T : Int → Int) (len p v : Int) : Int × Int := znuf T len (len - p).toNat p v
theorem znu_y {T : Int → Int} {len p v : Int} (h : p < len ∧ 48 ≤ T p ∧ T p ≤ 57) : znu T len p v = znu T len (p + 1) (zmin 1000 (10 * v + T p - 48)) := by
  unfold znu
  rw [show (len - p).toNat = (len - (p + 1)).toNat + 1 by omega]
  exact if_pos h
theorem znu_n {T : Int → Int} {len p v : Int} (h : ¬ (p < len ∧ 48 ≤ T p ∧ T p ≤ 57)) : znu T len p v = (v, p) := by
  unfold znu
  cases hn : (len - p).toNat with
  | zero => rfl
  | succ n => exact if_neg h
theorem znu_b {T : Int → Int} {len : Int} (n : Nat) : ∀ p v, n = (len - p).toNat → p ≤ len → 0 ≤ v ∧ v ≤ 1000 → p ≤ (znu T len p v).2 ∧ (znu T len p v).2 ≤ len ∧ 0 ≤ (znu T len p v).1 ∧ (znu T len p v).1 ≤ 1000 := by
  induction n with
  | zero =>
    intro p v hn hp hv
    rw [znu_n (by omega)]
    show p ≤ p ∧ p ≤ len ∧ 0 ≤ v ∧ v ≤ 1000
    omega
  | succ n ih =>
    intro p v hn hp hv
    by_cases h : p < len ∧ 48 ≤ T p ∧ T p ≤ 57
    · rw [znu_y h]
      have h1 := zmin_b 1000 (10 * v + T p - 48)
      have := ih (p + 1) (zmin 1000 (10 * v + T p - 48)) (by omega) (by omega) (by omega)
      exact ⟨by omega, this.2⟩
    · rw [znu_n h]
      show p ≤ p ∧ p ≤ len ∧ 0 ≤ v ∧ v ≤ 1000
      omega
/-- a number from lo to hi: its value (-1: none), and the place then -/
def zrn (T : Int → Int) (len p lo hi : Int) : Int × Int :=
  if (znu T len (zsk T len p) 0).2 = zsk T len p ∨ (znu T len (zsk T len p) 0).1 < lo ∨ hi < (znu T len (zsk T len p) 0).1 then (-1, zsk T len p) else ((znu T len (zsk T len p) 0).1, (znu T len (zsk T len p) 0).2)
theorem zrn_b {T : Int → Int} {len p lo hi : Int} (hp : p ≤ len) (hl : 0 ≤ lo) : p ≤ (zrn T len p lo hi).2 ∧ (zrn T len p lo hi).2 ≤ len ∧ ((zrn T len p lo hi).1 = -1 ∨ (lo ≤ (zrn T len p lo hi).1 ∧ (zrn T len p lo hi).1 ≤ hi)) := by
  have h1 := zsk_bd (T := T) hp
  have h2 := znu_b (T := T) (len := len) _ (zsk T len p) 0 rfl h1.2 (by omega)
  unfold zrn
  split
  · show p ≤ zsk T len p ∧ zsk T len p ≤ len ∧ ((-1 : Int) = -1 ∨ _)
    omega
  · show p ≤ (znu T len (zsk T len p) 0).2 ∧ (znu T len (zsk T len p) 0).2 ≤ len ∧ (_ ∨ (lo ≤ (znu T len (zsk T len p) 0).1 ∧ (znu T len (zsk T len p) 0).1 ≤ hi))
    omega
/-- a sign: 1 and the place behind it, or 0 -/
def zps (T : Int → Int) (len p c : Int) : Int × Int := if zsk T len p < len ∧ T (zsk T len p) = c then (1, zsk T len p + 1) else (0, zsk T len p)
theorem zps_b {T : Int → Int} {len p c : Int} (hp : p ≤ len) : p ≤ (zps T len p c).2 ∧ (zps T len p c).2 ≤ len ∧ ((zps T len p c).1 = 0 ∨ (zps T len p c).1 = 1) := by
  have h1 := zsk_bd (T := T) hp
  unfold zps
  split
  · show p ≤ zsk T len p + 1 ∧ zsk T len p + 1 ≤ len ∧ _
    omega
  · show p ≤ zsk T len p ∧ zsk T len p ≤ len ∧ _
    omega
/-- a digit 0 .. 4: its value (-1: none), and the place then -/
def zdg (T : Int → Int) (len p : Int) : Int × Int := if zsk T len p < len ∧ 48 ≤ T (zsk T len p) ∧ T (zsk T len p) ≤ 52 then (T (zsk T len p) - 48, zsk T len p + 1) else (-1, zsk T len p)
theorem zdg_b {T : Int → Int} {len p : Int} (hp : p ≤ len) : p ≤ (zdg T len p).2 ∧ (zdg T len p).2 ≤ len ∧ ((zdg T len p).1 = -1 ∨ (0 ≤ (zdg T len p).1 ∧ (zdg T len p).1 ≤ 4)) := by
  have h1 := zsk_bd (T := T) hp
  unfold zdg
  split
  · show p ≤ zsk T len p + 1 ∧ zsk T len p + 1 ≤ len ∧ (T (zsk T len p) - 48 = -1 ∨ _)
    show p ≤ zsk T len p + 1 ∧ zsk T len p + 1 ≤ len ∧ (T (zsk T len p) - 48 = -1 ∨ (0 ≤ T (zsk T len p) - 48 ∧ T (zsk T len p) - 48 ≤ 4))
    omega
  · show p ≤ zsk T len p ∧ zsk T len p ≤ len ∧ ((-1 : Int) = -1 ∨ _)
    omega
/-- what a sign may lead: behind c a number or digit by f, else 0 -/
def zop (q : Int × Int) (f : Int → Int × Int) : Int × Int := if q.1 = 1 then f q.2 else (0, q.2)
/-- a bride: whether she can be read (1, 0), the place then, her row -/
abbrev zTR : Type := Int × Int × (Int → Int)
def zrow (a b c d : Int) : Int → Int := fun j => if j = 0 then a else if j = 1 then b else if j = 2 then c else d
def zno (p : Int) : zTR := (0, p, fun _ => 0)
def zb5 (l r s : Int) (a : Int × Int) : zTR := if a.1 < 0 then zno a.2 else (1, a.2, zrow l r s a.1)
def zb4 (T : Int → Int) (len l r : Int) (a : Int × Int) : zTR := if a.1 < 0 then zno a.2 else zb5 l r a.1 (zop (zps T len a.2 104) (fun q => zrn T len q 0 11))
def zb3 (T : Int → Int) (len l : Int) (a : Int × Int) : zTR := if a.1 < 0 then zno a.2 else zb4 T len l a.1 (zop (zps T len a.2 115) (zdg T len))
def zb2 (T : Int → Int) (len l : Int) (q : Int × Int) : zTR := if q.1 = 0 then zno q.2 else zb3 T len l (zrn T len q.2 20 60)
def zb1 (T : Int → Int) (len : Int) (a : Int × Int) : zTR := if a.1 < 0 then zno a.2 else zb2 T len a.1 (zps T len a.2 47)
def zrb (T : Int → Int) (len p : Int) : zTR := zb1 T len (zrn T len p 20 60)
/-- a shoe, likewise -/
def zs4 (T : Int → Int) (len d z : Int) (q : Int × Int) : zTR := if q.1 = 1 then (1, q.2, zrow d z 3 0) else (1, q.2, zrow d z 0 0)
def zs3 (T : Int → Int) (len d z : Int) (q : Int × Int) : zTR := if q.1 = 1 then (1, q.2, zrow d z 2 0) else zs4 T len d z (zps T len q.2 112)
def zs2 (T : Int → Int) (len d z : Int) (q : Int × Int) : zTR := if q.1 = 1 then (1, q.2, zrow d z 1 0) else zs3 T len d z (zps T len q.2 118)
def zs1 (T : Int → Int) (len d : Int) (a : Int × Int) : zTR := if a.1 < 0 then zno a.2 else zs2 T len d a.1 (zps T len a.2 103)
def zrs (T : Int → Int) (len p : Int) : zTR := if zsk T len p < len ∧ T (zsk T len p) = 108 then zs1 T len 0 (zrn T len (zsk T len p + 1) 20 70) else if zsk T len p < len ∧ T (zsk T len p) = 114 then zs1 T len 1 (zrn T len (zsk T len p + 1) 20 70) else zno (zsk T len p)
theorem zno_b {p q len : Int} (h : q ≤ p ∧ p ≤ len) : q ≤ (zno p).2.1 ∧ (zno p).2.1 ≤ len ∧ ((zno p).1 = 0 ∨ (zno p).1 = 1) := ⟨h.1, h.2, Or.inl rfl⟩
theorem zop_b {T : Int → Int} {len p c : Int} {f : Int → Int × Int} (hp : p ≤ len) (hf : ∀ q, q ≤ len → q ≤ (f q).2 ∧ (f q).2 ≤ len) : p ≤ (zop (zps T len p c) f).2 ∧ (zop (zps T len p c) f).2 ≤ len := by
  have h1 := zps_b (T := T) (c := c) hp
  unfold zop
  split
  · have := hf _ h1.2.1
    omega
  · exact ⟨h1.1, h1.2.1⟩
theorem zrb_b {T : Int → Int} {len p : Int} (hp : p ≤ len) : p ≤ (zrb T len p).2.1 ∧ (zrb T len p).2.1 ≤ len ∧ ((zrb T len p).1 = 0 ∨ (zrb T len p).1 = 1) := by
  have h1 := zrn_b (T := T) (hi := 60) hp (show (0 : Int) ≤ 20 by omega)
  unfold zrb zb1
  split
  · exact zno_b (by omega)
  · have h2 := zps_b (T := T) (c := 47) h1.2.1
    unfold zb2
    split
    · exact zno_b (by omega)
    · have h3 := zrn_b (T := T) (hi := 60) h2.2.1 (show (0 : Int) ≤ 20 by omega)
      unfold zb3
      split
      · exact zno_b (by omega)
      · have h4 := zop_b (T := T) (c := 115) (f := zdg T len) h3.2.1 (fun q hq => ⟨(zdg_b hq).1, (zdg_b hq).2.1⟩)
        unfold zb4
        split
        · exact zno_b (by omega)
        · have h5 := zop_b (T := T) (c := 104) (f := fun q => zrn T len q 0 11) h4.2 (fun q hq => ⟨(zrn_b hq (by omega)).1, (zrn_b hq (by omega)).2.1⟩)
          unfold zb5
          split
          · exact zno_b (by omega)
          · exact ⟨Int.le_trans h1.1 (Int.le_trans h2.1 (Int.le_trans h3.1 (Int.le_trans h4.1 h5.1))), h5.2, Or.inr rfl⟩
theorem zrs_b {T : Int → Int} {len p : Int} (hp : p ≤ len) : p ≤ (zrs T len p).2.1 ∧ (zrs T len p).2.1 ≤ len ∧ ((zrs T len p).1 = 0 ∨ (zrs T len p).1 = 1) := by
  have h1 := zsk_bd (T := T) hp
  have key : ∀ d, zsk T len p < len → p ≤ (zs1 T len d (zrn T len (zsk T len p + 1) 20 70)).2.1 ∧ (zs1 T len d (zrn T len (zsk T len p + 1) 20 70)).2.1 ≤ len ∧ ((zs1 T len d (zrn T len (zsk T len p + 1) 20 70)).1 = 0 ∨ (zs1 T len d (zrn T len (zsk T len p + 1) 20 70)).1 = 1) := by
    intro d hd
    have h2 := zrn_b (T := T) (p := zsk T len p + 1) (lo := 20) (hi := 70) (len := len) (by omega) (by omega)
    unfold zs1
    split
    · exact zno_b (by omega)
    · have h3 := zps_b (T := T) (c := 103) h2.2.1
      unfold zs2
      split
      · exact ⟨by show p ≤ (zps T len _ 103).2; omega, h3.2.1, Or.inr rfl⟩
      · have h4 := zps_b (T := T) (c := 118) h3.2.1
        unfold zs3
        split
        · exact ⟨by show p ≤ (zps T len _ 118).2; omega, h4.2.1, Or.inr rfl⟩
        · have h5 := zps_b (T := T) (c := 112) h4.2.1
          unfold zs4
          split
          · exact ⟨by show p ≤ (zps T len _ 112).2; omega, h5.2.1, Or.inr rfl⟩
          · exact ⟨by show p ≤ (zps T len _ 112).2; omega, h5.2.1, Or.inr rfl⟩
  unfold zrs
  split
  · next h => exact key 0 h.1
  · split
    · next h => exact key 1 h.1
    · exact zno_b h1
/-- a text of items by f, with , between: how many, or the fault; their rows -/
def zal (f : Int → zTR) (T : Int → Int) (len : Int) : Nat → Int → Int → (Int → Int → Int) → Int × (Int → Int → Int)
  | 0, _, p, R => (-20 - p, R)
  | n + 1, k, p, R =>
    if (f p).1 = 0 then (-20 - (f p).2.1, R) else
    if len ≤ zsk T len (f p).2.1 then (k + 1, fun i j => if i = k then (f p).2.2 j else R i j) else
    if n = 0 ∨ T (zsk T len (f p).2.1) ≠ 44 then (-20 - zsk T len (f p).2.1, fun i j => if i = k then (f p).2.2 j else R i j) else
    zal f T len n (k + 1) (zsk T len (f p).2.1 + 1) (fun i j => if i = k then (f p).2.2 j else R i j)
