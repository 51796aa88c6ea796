/-! Long division: the sums -/
def Sm (f : Nat → Int) (X : Nat) : Nat → Int
  | 0 => 0
  | k + 1 => Sm f X k + f (X - k) * 10 ^ k
theorem p10 : ∀ k : Nat, (1:Int) ≤ 10 ^ k := by
  intro k
  induction k with
  | zero => exact Int.le_refl _
  | succ k ih => rw [Int.pow_succ]; omega
def dg9 (f : Nat → Int) (X : Nat) : Prop := ∀ j, j ≤ X → 0 ≤ f j ∧ f j ≤ 9
theorem Sm_congr {f g : Nat → Int} {X : Nat} : ∀ k : Nat, (∀ j, j < k → f (X - j) = g (X - j)) → Sm f X k = Sm g X k := by
  intro k
  induction k with
  | zero => intro _; rfl
  | succ k ih =>
    intro h
    show Sm f X k + f (X - k) * 10 ^ k = Sm g X k + g (X - k) * 10 ^ k
    rw [ih (fun j hj => h j (Nat.lt_succ_of_lt hj)), h k (Nat.lt_succ_self k)]
theorem mul_b {a p : Int} (h0 : 0 ≤ a) (h9 : a ≤ 9) (hp : 1 ≤ p) : 0 ≤ a * p ∧ a * p ≤ 9 * p := by
  refine ⟨Int.mul_nonneg h0 (by omega), Int.mul_le_mul_of_nonneg_right h9 (by omega)⟩
theorem Sm_bd {f : Nat → Int} {X : Nat} (h : dg9 f X) : ∀ k : Nat, 0 ≤ Sm f X k ∧ Sm f X k ≤ 10 ^ k - 1 := by
  intro k
  induction k with
  | zero => exact ⟨Int.le_refl _, Int.le_refl _⟩
  | succ k ih =>
    obtain ⟨a, b⟩ := h (X - k) (Nat.sub_le _ _)
    have m := mul_b a b (p10 k)
    have e : Sm f X (k + 1) = Sm f X k + f (X - k) * 10 ^ k := rfl
    rw [e, Int.pow_succ]
    generalize f (X - k) * 10 ^ k = y at m ⊢
    generalize (10:Int) ^ k = p at m ih ⊢
    omega
theorem Sm_mono {f : Nat → Int} {X : Nat} (h : ∀ j, j ≤ X → 0 ≤ f j) (k : Nat) : ∀ d : Nat, Sm f X k ≤ Sm f X (k + d) := by
  intro d
  induction d with
  | zero => exact Int.le_refl _
  | succ d ih =>
    have e : Sm f X (k + (d + 1)) = Sm f X (k + d) + f (X - (k + d)) * 10 ^ (k + d) := rfl
    have m : 0 ≤ f (X - (k + d)) * 10 ^ (k + d) := Int.mul_nonneg (h _ (Nat.sub_le _ _)) (by have := p10 (k + d); omega)
    rw [e]
    omega
theorem Sm_pos {f : Nat → Int} {X p : Nat} (h : dg9 f X) (hp : p ≤ X) (h1 : 1 ≤ f p) : 1 ≤ Sm f X (X + 1) := by
  have e : Sm f X (X - p + 1) = Sm f X (X - p) + f (X - (X - p)) * 10 ^ (X - p) := rfl
  have i : X - (X - p) = p := by omega
  rw [i] at e
  have b := (Sm_bd h (X - p)).1
  have q := p10 (X - p)
  have m : 1 * (10:Int) ^ (X - p) ≤ f p * 10 ^ (X - p) := Int.mul_le_mul_of_nonneg_right h1 (by omega)
  have mo := Sm_mono (fun j hj => (h j hj).1) (X - p + 1) p
  have i2 : X - p + 1 + p = X + 1 := by omega
  rw [i2] at mo
  omega
theorem Sm_tail {f g : Nat → Int} {X K : Nat} : ∀ d : Nat, (∀ j, K ≤ j → j < K + d → f (X - j) = g (X - j)) → Sm f X (K + d) - Sm g X (K + d) = Sm f X K - Sm g X K := by
  intro d
  induction d with
  | zero => intro _; rfl
  | succ d ih =>
    intro h
    have e1 : Sm f X (K + (d + 1)) = Sm f X (K + d) + f (X - (K + d)) * 10 ^ (K + d) := rfl
    have e2 : Sm g X (K + (d + 1)) = Sm g X (K + d) + g (X - (K + d)) * 10 ^ (K + d) := rfl
    have ih := ih (fun j h1 h2 => h j h1 (by omega))
    rw [e1, e2, h (K + d) (by omega) (by omega)]
    omega
theorem Sm_lex {f g : Nat → Int} {X m : Nat} (hf : dg9 f X) (hg : dg9 g X) (hm : m ≤ X) (he : ∀ j, j < m → f j = g j) (hl : g m < f m) : Sm g X (X + 1) < Sm f X (X + 1) := by
  have t := Sm_tail (f := f) (g := g) (X := X) (K := X - m + 1) m (fun j h1 h2 => he (X - j) (by omega))
  have i : X - m + 1 + m = X + 1 := by omega
  rw [i] at t
  have e1 : Sm f X (X - m + 1) = Sm f X (X - m) + f (X - (X - m)) * 10 ^ (X - m) := rfl
  have e2 : Sm g X (X - m + 1) = Sm g X (X - m) + g (X - (X - m)) * 10 ^ (X - m) := rfl
  have i2 : X - (X - m) = m := by omega
  rw [i2] at e1 e2
  have b1 := (Sm_bd hf (X - m)).1
  have b2 := (Sm_bd hg (X - m)).2
  have q := p10 (X - m)
  have mm : (g m + 1) * (10:Int) ^ (X - m) ≤ f m * 10 ^ (X - m) := Int.mul_le_mul_of_nonneg_right (by omega) (by omega)
  rw [Int.add_mul, Int.one_mul] at mm
  omega
theorem Sm_shift {f g : Nat → Int} {X : Nat} {d : Int} (hX : f X = d) (hs : ∀ j, j < X → f j = g (j + 1)) : ∀ k : Nat, k ≤ X → Sm f X (k + 1) = d + 10 * Sm g X k := by
  intro k
  induction k with
  | zero =>
    intro _
    show 0 + f (X - 0) * 10 ^ 0 = d + 10 * 0
    rw [Nat.sub_zero, hX, Int.pow_zero]
    omega
  | succ k ih =>
    intro hk
    have e1 : Sm f X (k + 1 + 1) = Sm f X (k + 1) + f (X - (k + 1)) * 10 ^ (k + 1) := rfl
    have e2 : Sm g X (k + 1) = Sm g X k + g (X - k) * 10 ^ k := rfl
    have i : X - (k + 1) + 1 = X - k := by omega
    rw [e1, e2, ih (by omega), hs (X - (k + 1)) (by omega), i, Int.pow_succ, ← Int.mul_assoc]
    generalize g (X - k) * 10 ^ k = y
    omega
theorem Sm_next {f g : Nat → Int} {X : Nat} {d E : Int} (hg : dg9 g X) (hX : f X = d) (d9 : d ≤ 9) (hs : ∀ j, j < X → f j = g (j + 1)) (hl : Sm g X (X + 1) < E) : Sm f X (X + 1) < 10 * E := by
  have a := Sm_shift hX hs X (Nat.le_refl _)
  have e : Sm g X (X + 1) = Sm g X X + g (X - X) * 10 ^ X := rfl
  have m := (mul_b (hg (X - X) (Nat.sub_le _ _)).1 (hg (X - X) (Nat.sub_le _ _)).2 (p10 X)).1
  omega
/-- one step of the subtraction -/
theorem Sm_sub {f g e f' : Nat → Int} {X k : Nat} {c c' : Int} (h : Sm f X k = Sm g X k - Sm e X k + c * 10 ^ k) (hk : k ≤ X) (hv : f' (X - k) = g (X - k) - e (X - k) - c + 10 * c') (ho : ∀ j, j < k → f' (X - j) = f (X - j)) : Sm f' X (k + 1) = Sm g X (k + 1) - Sm e X (k + 1) + c' * 10 ^ (k + 1) := by
  have e1 : Sm f' X (k + 1) = Sm f' X k + f' (X - k) * 10 ^ k := rfl
  have e2 : Sm g X (k + 1) = Sm g X k + g (X - k) * 10 ^ k := rfl
  have e3 : Sm e X (k + 1) = Sm e X k + e (X - k) * 10 ^ k := rfl
  rw [e1, e2, e3, Sm_congr k ho, h, hv, Int.pow_succ]
  generalize (10:Int) ^ k = p
  generalize Sm g X k = u
  generalize Sm e X k = v
  generalize g (X - k) = a
  generalize e (X - k) = b
  grind
