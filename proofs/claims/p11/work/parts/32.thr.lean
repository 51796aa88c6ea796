/-! The reference's patterns: threads, matches -/
def ucn (f : Nat → Int32) (r : Int32) : Nat → Nat
  | 0 => 0
  | k + 1 => ucn f r k + (if f k = r then 0 else 1)
theorem ucn_le {f : Nat → Int32} {r : Int32} : ∀ K, ucn f r K ≤ K := by
  intro K
  induction K with
  | zero => exact Nat.le_refl _
  | succ K ih => show ucn f r K + _ ≤ K + 1; split <;> omega
theorem ucn_ge {f : Nat → Int32} {r : Int32} {j : Nat} : ∀ K, K ≤ j → ucn (upd f j r) r K = ucn f r K := by
  intro K
  induction K with
  | zero => intro _; rfl
  | succ K ih =>
    intro h
    show ucn (upd f j r) r K + _ = ucn f r K + _
    rw [ih (by omega), o_updN (show K ≠ j by omega)]
theorem ucn_upd {f : Nat → Int32} {r : Int32} {j : Nat} (hr : f j ≠ r) : ∀ K, j < K → ucn (upd f j r) r K + 1 = ucn f r K := by
  intro K
  induction K with
  | zero => intro h; exact absurd h (Nat.not_lt_zero _)
  | succ K ih =>
    intro h
    show ucn (upd f j r) r K + _ + 1 = ucn f r K + _
    by_cases e : K = j
    · subst e
      rw [ucn_ge K (Nat.le_refl _), o_updE, if_pos rfl, if_neg hr]
    · have := ih (by omega)
      rw [o_updN e]
      omega
theorem gi_tnc {i : Int32} (h : 0 ≤ i) : ((gi i : Nat) : Int) = i.toInt := o_tnc h
def SETK (o : SNO) (k : Int32) : Prop := 0 ≤ k ∧ k < NO_steps o - 1 ∧ 0 ≤ NO_opA o (gi k) ∧ NO_opA o (gi k) < 8000
/-- marks f of round r, n waiting in t, mn found in l -/
def TX (K : Nat) (o : SNO) (l f : Nat → Int32) (r mn : Int32) : Prop := 0 ≤ mn ∧ mn.toInt + ucn f r K ≤ 25000 ∧ ∀ i : Int32, 0 ≤ i → i < mn → SETK o (l (gi i))
def TJ (K : Nat) (o : SNO) (l : Nat → Int32) (c : Int) (n : Int32) (f t : Nat → Int32) (r mn : Int32) : Prop := 0 ≤ n ∧ n.toInt + ucn f r K ≤ c ∧ (∀ i : Int32, 0 ≤ i → i < n → 0 ≤ t (gi i) ∧ t (gi i) < NO_steps o) ∧ TX K o l f r mn
theorem TJ_mono {K : Nat} {o : SNO} {l : Nat → Int32} {c d : Int} {n : Int32} {f t : Nat → Int32} {r mn : Int32} (h : TJ K o l c n f t r mn) (hd : c ≤ d) : TJ K o l d n f t r mn := ⟨h.1, Int.le_trans h.2.1 hd, h.2.2⟩
theorem i32p {n : Int32} (h : n.toInt ≤ 1000000) (h0 : 0 ≤ n) : (n + 1).toInt = n.toInt + 1 ∧ 0 ≤ n + 1 ∧ n < n + 1 := by
  have l : n ≤ 1000000 := Int32.le_iff_toInt_le.mpr h
  refine ⟨o_add1 (Int32.lt_of_le_of_lt l (by decide)), ?_, ?_⟩ <;> grind
theorem i32m {n : Int32} (h0 : 0 < n) : (n + -1).toInt = n.toInt - 1 ∧ 0 ≤ n + -1 ∧ n + -1 < n := by
  have h := Int32.lt_iff_toInt_lt.mp h0
  have z0 : (0 : Int32).toInt = 0 := rfl
  have z1 : (-1 : Int32).toInt = -1 := rfl
  have b := o_i32 n
  rw [z0] at h
  have e : (n + -1).toInt = n.toInt - 1 := by
    rw [Int32.toInt_add, z1]
    apply Int.bmod_eq_of_le <;> omega
  refine ⟨e, ?_, ?_⟩
  · rw [Int32.le_iff_toInt_le, e, z0]; omega
  · rw [Int32.lt_iff_toInt_lt, e]; omega
theorem i32lt {n : Int32} {m : Int32} {k : Int} (hm : m.toInt = k) (h : n.toInt < k) : n < m := by
  rw [Int32.lt_iff_toInt_lt, hm]; exact h
theorem TJ_pop {K : Nat} {o : SNO} {l : Nat → Int32} {c : Int} {n : Int32} {f t : Nat → Int32} {r mn : Int32} (h : TJ K o l c n f t r mn) (h0 : 0 < n) {m : Int32} (em : m = n + -1) : TJ K o l (c - 1) m f t r mn := by
  subst em
  obtain ⟨a1, a2, a3, a4⟩ := h
  obtain ⟨e1, e2, e3⟩ := i32m h0
  exact ⟨e2, by omega, fun i i0 hi => a3 i i0 (Int32.lt_trans hi e3), a4⟩
theorem TJ_mark {K : Nat} {o : SNO} {l : Nat → Int32} {c : Int} {n k : Int32} {f t : Nat → Int32} {r mn : Int32} (hK : K = 25000) (h : TJ K o l c n f t r mn) (k0 : 0 ≤ k) (k1 : k < 25000) (hm : f (gi k) ≠ r) : TJ K o l (c - 1) n (upd f (gi k) r) t r mn ∧ mn.toInt + ucn (upd f (gi k) r) r K ≤ 24999 ∧ ucn (upd f (gi k) r) r K + 1 = ucn f r K := by
  obtain ⟨a1, a2, a3, a4, a5, a7⟩ := h
  have kl : gi k < K := by rw [hK]; exact o_tncL (m := 25000) rfl k0 k1
  have u : ucn (upd f (gi k) r) r K + 1 = ucn f r K := ucn_upd hm K kl
  exact ⟨⟨a1, by omega, a3, a4, by omega, a7⟩, by omega, u⟩
theorem TJ_push {K : Nat} {o : SNO} {l : Nat → Int32} {c : Int} {n v : Int32} {f t : Nat → Int32} {r mn : Int32} (h : TJ K o l c n f t r mn) (hc : c ≤ 25001) (v0 : 0 ≤ v) (v1 : v < NO_steps o) {w : Int32} (ew : w = n + 1) : TJ K o l (c + 1) w f (upd t (gi n) v) r mn := by
  subst ew
  obtain ⟨a1, a2, a3, a4⟩ := h
  obtain ⟨e1, e2, e3⟩ := i32p (n := n) (by omega) a1
  refine ⟨e2, by omega, fun i i0 hi => ?_, a4⟩
  by_cases e : i = n
  · rw [e, o_updE]; exact ⟨v0, v1⟩
  · rw [o_updN (o_neq i0 a1 e)]
    refine a3 i i0 ?_
    have h1 := Int32.lt_iff_toInt_lt.mp hi
    rw [Int32.lt_iff_toInt_lt]
    have : i.toInt ≠ n.toInt := fun z => e (Int32.toInt_inj.mp z)
    omega
theorem TJ_add {K : Nat} {o : SNO} {l : Nat → Int32} {c : Int} {n k : Int32} {f t : Nat → Int32} {r mn : Int32} (h : TJ K o l c n f t r mn) (hu : mn.toInt + ucn f r K ≤ 24999) (hk : SETK o k) : TJ K o (upd l (gi mn) k) c n f t r (mn + 1) := by
  obtain ⟨a1, a2, a3, a4, a5, a7⟩ := h
  obtain ⟨e1, e2, e3⟩ := i32p (n := mn) (by omega) a4
  refine ⟨a1, a2, a3, e2, by omega, fun i i0 hi => ?_⟩
  by_cases e : i = mn
  · rw [e, o_updE]; exact hk
  · rw [o_updN (o_neq i0 a4 e)]
    refine a7 i i0 ?_
    have h1 := Int32.lt_iff_toInt_lt.mp hi
    rw [Int32.lt_iff_toInt_lt]
    have : i.toInt ≠ mn.toInt := fun z => e (Int32.toInt_inj.mp z)
    omega
def tmu (K : Nat) (z : Int32 × SNX) : Nat := 2 * ucn (NX_mark z.2) (NX_round z.2) K + gi z.1
theorem tmuB {K : Nat} (hK : K = 25000) {o : SNO} {l : Nat → Int32} {z : Int32 × SNX} (h : TJ K o l 25001 z.1 (NX_mark z.2) (NX_todo z.2) (NX_round z.2) (NX_many1 z.2)) : tmu K z < o_big := by
  have e := gi_tnc h.1
  have h2 := h.2.1
  unfold tmu
  generalize ucn (NX_mark z.2) (NX_round z.2) K = u at h2 ⊢
  unfold o_big
  omega
theorem prg_k {o : SNO} (h : PRG o) {k : Int32} (k0 : 0 ≤ k) (k1 : k < NO_steps o) (h9 : NO_op o (gi k) ≠ 9) : OPX (NO_op o) (NO_opA o) (NO_opB o) (NO_steps o - 1) k ∧ k < NO_steps o - 1 := by
  have hk : k < NO_steps o - 1 := by
    by_cases e : k = NO_steps o - 1
    · rw [e] at h9; exact absurd h.2.2.1 h9
    · have h1 := h.1
      have h2 := h.2.1
      clear h; generalize NO_steps o = m at *; grind
  exact ⟨h.2.2.2 k k0 hk, hk⟩
theorem m3_ar {n m : Int32} (h0 : 0 < n) (em : m = n + -1) : m.toInt = n.toInt - 1 ∧ 0 ≤ m ∧ m < n := by
  subst em
  exact i32m h0
theorem p3_ar {a w : Int32} (h : a.toInt ≤ 26000) (h0 : 0 ≤ a) (ew : w = a + 1) : w.toInt = a.toInt + 1 ∧ 0 ≤ w ∧ o_in a 50000 = true := by
  subst ew
  obtain ⟨e1, e2, e3⟩ := i32p (n := a) (by omega) h0
  have l : a < 50000 := i32lt (k := 50000) rfl (by omega)
  exact ⟨e1, e2, o_inM (m := 50000) rfl h0 l⟩
theorem kp_ar {s k : Int32} (h1 : 1 ≤ s) (hs : s ≤ 24500) (k0 : 0 ≤ k) (ol : k < s - 1) : 0 ≤ k + 1 ∧ k + 1 < s := by
  constructor <;> grind
theorem hl_ar {s w : Int32} (h1 : 1 ≤ s) (hs : s ≤ 24500) (hw : w ≤ s - 1) : w < s := by grind
theorem o4_ar {w : Int32} (h1 : 1 ≤ w) (h2 : w ≤ 5) (c3 : ¬ w = 1) (c4 : ¬ w = 2) (c5 : ¬ w = 3) (c6 : ¬ w = 5) : w = 4 := by grind
