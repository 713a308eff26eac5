/-! pure words: rows of brides, of shoes; feet; what is asked; limps -/
theorem zrec (P : Nat → Prop) (h : ∀ n, (∀ m, m < n → P m) → P n) : ∀ n, P n := fun n => Nat.strongRecOn n h
def zBR (f : Int → Int) : Prop := (20 ≤ f 0 ∧ f 0 ≤ 60) ∧ (20 ≤ f 1 ∧ f 1 ≤ 60) ∧ (0 ≤ f 2 ∧ f 2 ≤ 4) ∧ (0 ≤ f 3 ∧ f 3 ≤ 11)
def zSR (f : Int → Int) : Prop := (0 ≤ f 0 ∧ f 0 ≤ 1) ∧ (20 ≤ f 1 ∧ f 1 ≤ 70) ∧ (0 ≤ f 2 ∧ f 2 ≤ 3) ∧ (0 ≤ f 3 ∧ f 3 ≤ 1)
def zfo (f : Int → Int) (side h : Int) : Int := f side + h * f 2 / 4
def zgiv (kind : Int) : Int := if kind = 2 then 1 else if kind = 3 then 2 else 0
def zlto (kind : Int) : Int := if kind = 1 then 0 else if kind = 3 then 1 else 6
def zloo (kind loose : Int) : Int := if kind = 1 then 0 else loose
def zask (foot size kind loose out : Int) : Int := if zmax 0 (foot - zgiv kind - size) ≤ zmin out (zlto kind) ∧ size + zmax 0 (foot - zgiv kind - size) ≤ foot + zloo kind loose then zmax 0 (foot - zgiv kind - size) else -4
def zlim (foot size kind loose : Int) : Int := if foot + zloo kind loose < size then size - (foot + zloo kind loose) else if size < foot - zgiv kind then size - (foot - zgiv kind) else 0
theorem zmul_b {h s : Int} (hh : 0 ≤ h ∧ h ≤ 11) (hs : 0 ≤ s ∧ s ≤ 4) : 0 ≤ h * s ∧ h * s ≤ 44 := by
  refine ⟨Int.mul_nonneg hh.1 hs.1, ?_⟩
  have h1 : h * s ≤ 11 * s := Int.mul_le_mul_of_nonneg_right hh.2 hs.1
  omega
theorem zfo_b {f : Int → Int} (hf : zBR f) {side h : Int} (hs : side = 0 ∨ side = 1) (hh : 0 ≤ h ∧ h ≤ 11) : 20 ≤ zfo f side h ∧ zfo f side h ≤ 71 := by
  obtain ⟨h0, h1, h2, h3⟩ := hf
  have := zmul_b hh h2
  unfold zfo
  rcases hs with rfl | rfl <;> omega
theorem zt304 {k : Int} (h : 0 ≤ k ∧ k ≤ 3) : ztab 304 k = zgiv k := by
  obtain rfl | rfl | rfl | rfl : k = 0 ∨ k = 1 ∨ k = 2 ∨ k = 3 := by omega
  all_goals decide
theorem zt305 {k : Int} (h : 0 ≤ k ∧ k ≤ 3) : ztab 305 k = zlto k := by
  obtain rfl | rfl | rfl | rfl : k = 0 ∨ k = 1 ∨ k = 2 ∨ k = 3 := by omega
  all_goals decide
theorem zgiv_b (k : Int) : 0 ≤ zgiv k ∧ zgiv k ≤ 2 := by
  unfold zgiv
  split
  · omega
  · split <;> omega
theorem zlto_b (k : Int) : 0 ≤ zlto k ∧ zlto k ≤ 6 := by
  unfold zlto
  split
  · omega
  · split <;> omega
theorem zloo_b {k l : Int} (h : 0 ≤ l ∧ l ≤ 6) : 0 ≤ zloo k l ∧ zloo k l ≤ 6 := by
  unfold zloo
  split <;> omega
theorem zmax_b (x y : Int) : x ≤ zmax x y ∧ y ≤ zmax x y ∧ (zmax x y = x ∨ zmax x y = y) := by
  unfold zmax
  split <;> omega
theorem zmin_b (x y : Int) : zmin x y ≤ x ∧ zmin x y ≤ y ∧ (zmin x y = x ∨ zmin x y = y) := by
  unfold zmin
  split <;> omega
theorem zask_b {foot size kind loose out : Int} (ho : 0 ≤ out ∧ out ≤ 6) : zask foot size kind loose out = -4 ∨ (0 ≤ zask foot size kind loose out ∧ zask foot size kind loose out ≤ 6) := by
  unfold zask
  have h1 := zmax_b 0 (foot - zgiv kind - size)
  have h2 := zmin_b out (zlto kind)
  split <;> omega
