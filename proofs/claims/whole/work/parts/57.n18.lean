/-! the model: all rows, in their order -/
/-- the item i of a row -/
def zgt : List Nat → Nat → Nat
  | [], _ => 0
  | a :: _, 0 => a
  | _ :: t, i + 1 => zgt t i
/-- t before each -/
def zpre (t : Nat) : List (List Nat) → List (List Nat)
  | [] => []
  | p :: r => (t :: p) :: zpre t r
def zapd : List (List Nat) → List (List Nat) → List (List Nat)
  | [], r => r
  | p :: s, r => p :: zapd s r
def zpe (f : Nat → List (List Nat)) : Nat → List (List Nat)
  | 0 => []
  | t + 1 => zapd (zpe f t) (f t)
/-- all rows of m numbers below n that are not in the set h, in order -/
def zpm (n : Nat) : Nat → Int → List (List Nat)
  | 0, _ => [[]]
  | m + 1, h => zpe (fun t => if zbit h t = 0 then zpre t (zpm n m (h + zp2 t)) else []) n
def zbl (f : Nat → Bool) : Nat → Bool
  | 0 => true
  | n + 1 => zbl f n && f n
def zbx (f : Nat → Bool) : Nat → Bool
  | 0 => false
  | n + 1 => zbx f n || f n
theorem zbl_t {f : Nat → Bool} (n : Nat) : zbl f n = true → ∀ i, i < n → f i = true := by
  induction n with
  | zero => intro _ i hi; omega
  | succ n ih =>
    intro h i hi
    have h : (zbl f n && f n) = true := h
    rw [Bool.and_eq_true] at h
    by_cases e : i = n
    · rw [e]; exact h.2
    · exact ih h.1 i (by omega)
theorem zbx_t {f : Nat → Bool} (n : Nat) : zbx f n = true → ∃ i, i < n ∧ f i = true := by
  induction n with
  | zero => intro h; cases h
  | succ n ih =>
    intro h
    have h : (zbx f n || f n) = true := h
    rw [Bool.or_eq_true] at h
    rcases h with h | h
    · obtain ⟨i, hi, q⟩ := ih h
      exact ⟨i, by omega, q⟩
    · exact ⟨n, by omega, h⟩
def zrok (n : Nat) (p : List Nat) : Bool := zbl (fun i => decide (zgt p i < n)) n
def zrla (n : Nat) (p : List Nat) : Bool := zbl (fun i => decide (n ≤ i + 1) || decide (zgt p (i + 1) < zgt p i)) n
def zrc1 (n K : Nat) (p : List Nat) : Bool := zbl (fun i => decide (i ≤ K) || (decide (n ≤ i + 1) || decide (zgt p (i + 1) < zgt p i))) n
def zrc2 (n K J : Nat) (p : List Nat) : Bool := zbl (fun i => decide (i ≤ J) || decide (zgt p i < zgt p K)) n
def zrc3 (n K J : Nat) (p q : List Nat) : Bool := zbl (fun i => decide (zgt q i = if i < K then zgt p i else if i = K then zgt p J else if n + K - i = J then zgt p K else zgt p (n + K - i))) n
def zrc (n K J : Nat) (p q : List Nat) : Bool := decide (K + 1 < n) && (decide (K < J) && (decide (J < n) && (decide (zgt p K < zgt p (K + 1)) && (zrc1 n K p && (decide (zgt p K < zgt p J) && (zrc2 n K J p && zrc3 n K J p q))))))
def zradj (n : Nat) (p q : List Nat) : Bool := zbx (fun K => zbx (fun J => zrc n K J p q) n) n
def zrnx (n : Nat) (p : List Nat) : List (List Nat) → Bool
  | [] => zrla n p
  | q :: _ => zradj n p q
def zck (n : Nat) : List (List Nat) → Bool
  | [] => true
  | p :: t => zrok n p && (zrnx n p t && zck n t)
def zid (n : Nat) : List (List Nat) → Bool
  | [] => false
  | p :: _ => zbl (fun i => decide (zgt p i = i)) n
theorem zck_1 : (zck 1 (zpm 1 1 0) && zid 1 (zpm 1 1 0)) = true := by decide +kernel
theorem zck_2 : (zck 2 (zpm 2 2 0) && zid 2 (zpm 2 2 0)) = true := by decide +kernel
theorem zck_3 : (zck 3 (zpm 3 3 0) && zid 3 (zpm 3 3 0)) = true := by decide +kernel
theorem zck_4 : (zck 4 (zpm 4 4 0) && zid 4 (zpm 4 4 0)) = true := by decide +kernel
theorem zck_5 : (zck 5 (zpm 5 5 0) && zid 5 (zpm 5 5 0)) = true := by decide +kernel
theorem zck_6 : (zck 6 (zpm 6 6 0) && zid 6 (zpm 6 6 0)) = true := by decide +kernel
/-- the row in memory is p -/
def zis (n : Int) (f : Int → Int) (p : List Nat) : Prop := ∀ i : Nat, (i : Int) < n → f i = (zgt p i : Nat)
theorem zrok_b {n : Nat} {f : Int → Int} {p : List Nat} (h : zrok n p = true) (hp : zis n f p) : ∀ i : Int, 0 ≤ i ∧ i < n → 0 ≤ f i ∧ f i < n := by
  intro i hi
  have h1 := zbl_t n h i.toNat (by omega)
  have h1 : zgt p i.toNat < n := of_decide_eq_true h1
  have h2 := hp i.toNat (by omega)
  rw [show ((i.toNat : Nat) : Int) = i by omega] at h2
  omega
theorem zla_x {n : Nat} {f : Int → Int} {p : List Nat} (h : zrla n p = true) (hp : zis n f p) {f2 : Int → Int} (hx : zNx n f f2) : False := by
  obtain ⟨k, j, h1, h2, _⟩ := hx
  have q := zbl_t n h k.toNat (by omega)
  rw [Bool.or_eq_true, decide_eq_true_eq, decide_eq_true_eq] at q
  have e1 := hp k.toNat (by omega)
  have e2 := hp (k.toNat + 1) (by omega)
  rw [show ((k.toNat : Nat) : Int) = k by omega] at e1
  rw [show ((k.toNat + 1 : Nat) : Int) = k + 1 by omega] at e2
  omega
theorem zad_k {n : Nat} {f : Int → Int} {p q : List Nat} (h : zradj n p q = true) (hp : zis n f p) : ∃ K J : Nat, zrc n K J p q = true := by
  obtain ⟨K, _, h2⟩ := zbx_t n h
  obtain ⟨J, _, h3⟩ := zbx_t n h2
  exact ⟨K, J, h3⟩
theorem zrc_o {n K J : Nat} {p q : List Nat} (h : zrc n K J p q = true) : K + 1 < n ∧ K < J ∧ J < n ∧ zgt p K < zgt p (K + 1) ∧ zrc1 n K p = true ∧ zgt p K < zgt p J ∧ zrc2 n K J p = true ∧ zrc3 n K J p q = true := by
  unfold zrc at h
  rw [Bool.and_eq_true, Bool.and_eq_true, Bool.and_eq_true, Bool.and_eq_true, Bool.and_eq_true, Bool.and_eq_true, Bool.and_eq_true, decide_eq_true_eq, decide_eq_true_eq, decide_eq_true_eq, decide_eq_true_eq, decide_eq_true_eq] at h
  exact h
theorem zad_0 {n : Nat} {f : Int → Int} {p q : List Nat} (h : zradj n p q = true) (hp : zis n f p) (hx : ∀ i, 0 ≤ i ∧ i + 1 < n → f (i + 1) < f i) : False := by
  obtain ⟨K, J, h3⟩ := zad_k h hp
  obtain ⟨a1, a2, a3, a4, _⟩ := zrc_o h3
  have e1 := hp K (by omega)
  have e2 := hp (K + 1) (by omega)
  have e3 := hx K (by omega)
  rw [show ((K + 1 : Nat) : Int) = (K : Int) + 1 by omega] at e2
  omega
theorem zad_n {n : Nat} {f f2 : Int → Int} {p q : List Nat} (h : zradj n p q = true) (hp : zis n f p) (hx : zNx n f f2) : zis n f2 q := by
  obtain ⟨K, J, h3⟩ := zad_k h hp
  obtain ⟨a1, a2, a3, a4, a5, a6, a7, a8⟩ := zrc_o h3
  obtain ⟨k, j, b1, b2, b3, b4, b5, b6, b7⟩ := hx
  have eK := hp K (by omega)
  have eK1 := hp (K + 1) (by omega)
  have ek := hp k.toNat (by omega)
  have ek1 := hp (k.toNat + 1) (by omega)
  have eJ := hp J (by omega)
  have ej := hp j.toNat (by omega)
  rw [show ((K + 1 : Nat) : Int) = (K : Int) + 1 by omega] at eK1
  rw [show ((k.toNat : Nat) : Int) = k by omega] at ek
  rw [show ((k.toNat + 1 : Nat) : Int) = k + 1 by omega] at ek1
  rw [show ((j.toNat : Nat) : Int) = j by omega] at ej
  have hkK : k = K := by
    by_cases c1 : k < K
    · have := b3 K (by omega)
      omega
    · by_cases c2 : (K : Int) < k
      · have q1 := zbl_t n a5 k.toNat (by omega)
        rw [Bool.or_eq_true, Bool.or_eq_true, decide_eq_true_eq, decide_eq_true_eq, decide_eq_true_eq] at q1
        omega
      · omega
  subst hkK
  have hjJ : j = J := by
    by_cases c1 : j < J
    · have := b6 J (by omega)
      omega
    · by_cases c2 : (J : Int) < j
      · have q1 := zbl_t n a7 j.toNat (by omega)
        rw [Bool.or_eq_true, decide_eq_true_eq, decide_eq_true_eq] at q1
        omega
      · omega
  subst hjJ
  intro i hi
  have q1 := zbl_t n a8 i (by omega)
  rw [decide_eq_true_eq] at q1
  rw [b7 i (by omega), q1]
  by_cases c1 : i < K
  · rw [if_pos (by omega), if_pos c1]
    exact hp i hi
  · rw [if_neg (by omega), if_neg c1]
    by_cases c2 : i = K
    · rw [if_pos (by omega), if_pos c2]
      exact eJ
    · rw [if_neg (by omega), if_neg c2]
      by_cases c3 : n + K - i = J
      · rw [if_pos (by omega), if_pos c3]
        exact eK
      · rw [if_neg (by omega), if_neg c3, show ((n : Int) + (K : Int) - (i : Int)) = ((n + K - i : Nat) : Int) by omega]
        exact hp _ (by omega)
/-- how many, and the first -/
def zcp (f : List Nat → Bool) : List (List Nat) → Nat
  | [] => 0
  | p :: t => if f p = true then zcp f t + 1 else zcp f t
def zff (f : List Nat → Bool) : List (List Nat) → List Nat
  | [] => []
  | p :: t => if f p = true then p else zff f t
/-- a row from the bride b on is allowed -/
def zokl (c : Int → Int → Bool) : Int → List Nat → Bool
  | _, [] => true
  | b, t :: r => c b t && zokl c (b + 1) r
theorem zokl_t {c : Int → Int → Bool} (p : List Nat) : ∀ b, zokl c b p = true ↔ ∀ i : Nat, i < p.length → c (b + i) (zgt p i) = true := by
  induction p with
  | nil => exact fun b => ⟨fun _ i hi => absurd hi (Nat.not_lt_zero _), fun _ => rfl⟩
  | cons t r ih =>
    intro b
    show (c b t && zokl c (b + 1) r) = true ↔ _
    rw [Bool.and_eq_true, ih (b + 1)]
    constructor
    · rintro ⟨h1, h2⟩ i hi
      cases i with
      | zero =>
        rw [show b + ((0 : Nat) : Int) = b by omega]
        exact h1
      | succ i =>
        have := h2 i (by have : (t :: r).length = r.length + 1 := rfl; omega)
        rw [show b + ((i + 1 : Nat) : Int) = b + 1 + (i : Int) by omega]
        exact this
    · intro h
      refine ⟨?_, fun i hi => ?_⟩
      · have := h 0 (by show 0 < r.length + 1; omega)
        rw [show b + ((0 : Nat) : Int) = b by omega] at this
        exact this
      · have := h (i + 1) (by show i + 1 < r.length + 1; omega)
        rw [show b + ((i + 1 : Nat) : Int) = b + 1 + (i : Int) by omega] at this
        exact this
theorem zpre_x {t : Nat} {p : List Nat} {P : List Nat → Prop} (r : List (List Nat)) (h : ∀ q, q ∈ r → P (t :: q)) : ∀ q, q ∈ zpre t r → P q := by
  induction r with
  | nil => intro q hq; cases hq
  | cons a r ih =>
    intro q hq
    cases hq with
    | head => exact h a (List.Mem.head _)
    | tail _ hq => exact ih (fun z hz => h z (List.Mem.tail _ hz)) q hq
theorem zapd_x {P : List Nat → Prop} (s r : List (List Nat)) (h1 : ∀ q, q ∈ s → P q) (h2 : ∀ q, q ∈ r → P q) : ∀ q, q ∈ zapd s r → P q := by
  induction s with
  | nil => exact h2
  | cons a s ih =>
    intro q hq
    cases hq with
    | head => exact h1 a (List.Mem.head _)
    | tail _ hq => exact ih (fun z hz => h1 z (List.Mem.tail _ hz)) q hq
theorem zpm_l (n m : Nat) : ∀ h, ∀ q, q ∈ zpm n m h → q.length = m := by
  induction m with
  | zero =>
    intro h q hq
    cases hq with
    | head => rfl
    | tail _ hq => cases hq
  | succ m ih =>
    intro h
    have key : ∀ k : Nat, ∀ q, q ∈ zpe (fun t => if zbit h t = 0 then zpre t (zpm n m (h + zp2 t)) else []) k → q.length = m + 1 := by
      intro k
      induction k with
      | zero => intro q hq; cases hq
      | succ k ihk =>
        refine zapd_x (P := fun q => q.length = m + 1) _ _ ihk ?_
        show ∀ q, q ∈ (if zbit h k = 0 then zpre k (zpm n m (h + zp2 k)) else []) → q.length = m + 1
        split
        · exact zpre_x (p := []) (P := fun q => q.length = m + 1) _ (fun q hq => by
            have := ih _ q hq
            show q.length + 1 = m + 1
            omega)
        · intro q hq; cases hq
    exact key n
