/-! Long division: the program -/
theorem gi_of {z : Int32} {k : Nat} (h : z.toInt = (k:Int)) : gi z = k := by
  have e := gi_tnc (i := z) (nn0 (by omega))
  omega
theorem in_of {z : Int32} {k N : Nat} (h : z.toInt = (k:Int)) (hk : k < N) : o_in z N = true := by
  have h0 : 0 ≤ z := nn0 (by omega)
  have e : z.toNatClampNeg = k := gi_of h
  unfold o_in
  have a : decide (z < 0) = false := decide_eq_false (Int32.not_lt.mpr h0)
  have b : decide (N ≤ z.toNatClampNeg) = false := decide_eq_false (by rw [e]; omega)
  rw [a, b]
  rfl
theorem tI1 {z : Int32} {k : Nat} (h : z.toInt = (k:Int)) (hk : k < 1000000000) : (z + 1).toInt = ((k + 1 : Nat) : Int) := by
  have e := i32a (a := z) (b := 1) (by rw [o_one]; omega) (by rw [o_one]; omega)
  rw [o_one] at e
  rw [e, h]
  rfl
theorem tIa {z w : Int32} {k l : Nat} (h : z.toInt = (k:Int)) (h2 : w.toInt = (l:Int)) (hk : k + l < 1000000000) : (z + w).toInt = ((k + l : Nat) : Int) := by
  have e := i32a (a := z) (b := w) (by omega) (by omega)
  rw [e, h, h2]
  omega
def lv (s : SMT) : Nat → Int := fun j => (MT_left s j).toInt
def ed (a2 : SMT) (F : Nat) : Nat → Int := fun i => if i = 0 then 0 else (MT_digits a2 (F + (i - 1))).toInt
theorem ed_s {a2 : SMT} {F i : Nat} : ed a2 F (i + 1) = (MT_digits a2 (F + i)).toInt := by
  show (if i + 1 = 0 then (0:Int) else (MT_digits a2 (F + (i + 1 - 1))).toInt) = _
  rw [if_neg (Nat.succ_ne_zero i), Nat.add_sub_cancel]
theorem bn9 {f : Nat → Int32} (h : o_bn 0 9 f) (i : Nat) : 0 ≤ (f i).toInt ∧ (f i).toInt ≤ 9 := by
  have a := Int32.le_iff_toInt_le.mp (h i).1
  have b := Int32.le_iff_toInt_le.mp (h i).2
  exact ⟨a, b⟩
theorem ed9 {a2 : SMT} {F X : Nat} (h : o_bn 0 9 (MT_digits a2)) : dg9 (ed a2 F) X := by
  intro j _
  cases j with
  | zero => exact ⟨Int.le_refl _, show (0:Int) ≤ 9 by decide⟩
  | succ j => rw [ed_s]; exact bn9 h _
/-- the divisor: where it lies -/
def MC (n : Nat) (a2 : SMT) (x3 x5 : Int32) (X F : Nat) : Prop := o_big ≤ n ∧ o_in x3 1000 = true ∧ x5.toInt = (X:Int) ∧ X ≤ 60 ∧ (MT_from a2 (gi x3)).toInt = (F:Int) ∧ F + X ≤ 8192 ∧ o_bn 0 9 (MT_digits a2)
def RIm (z a2 : SMT) (X F : Nat) (w : Int32 × Int32) : Prop := ∃ k : Nat, w.1.toInt = (k:Int) ∧ k ≤ X ∧ ∀ j, j < k → lv z (j + 1) = ed a2 F (j + 1)
def RPm (z a2 : SMT) (X F : Nat) (q : Nat × Int32 × Int32) : Prop := (q.1 = 1 ∧ ∃ k : Nat, q.2.1.toInt = (k:Int) ∧ k < X ∧ (∀ j, j < k → lv z (j + 1) = ed a2 F (j + 1)) ∧ q.2.2.toInt = ed a2 F (k + 1) ∧ lv z (k + 1) ≠ ed a2 F (k + 1)) ∨ (q.1 = 2 ∧ ∀ j, j < X → lv z (j + 1) = ed a2 F (j + 1))
theorem s_reaches {n : Nat} {x3 x5 : Int32} {z a2 : SMT} {X F : Nat} (h : MC n a2 x3 x5 X F) (hz : dg9 (lv z) X) : o_ok (m_MT_reaches n x3 x5 z a2) (fun r => (r ≠ 0 → Sm (ed a2 F) X (X + 1) ≤ Sm (lv z) X (X + 1)) ∧ (r = 0 → Sm (lv z) X (X + 1) < Sm (ed a2 F) X (X + 1))) := by
  obtain ⟨hn, g3, hX, hX6, hF, hFX, hb⟩ := h
  have he : dg9 (ed a2 F) X := ed9 hb
  unfold m_MT_reaches
  refine o_okG (by decide) (o_okI (fun c0 => ?_) (fun c0 => o_okS ⟨fun _ => ?_, fun e => absurd e (by decide)⟩))
  · have c0 := Int32.le_iff_toInt_le.mp c0
    have l0 : lv z 0 = 0 := by
      have a := (hz 0 (Nat.zero_le _)).1
      have b : lv z 0 ≤ 0 := c0
      omega
    refine o_okB (o_lpR (P := RPm z a2 X F) (RIm z a2 X F) (fun w => o_mu w.1) hn o_muB ⟨0, rfl, Nat.zero_le _, fun j hj => absurd hj (Nat.not_lt_zero j)⟩ ?_) ?_
    · intro w ⟨k, k1, k2, k3⟩
      unfold m_MT_reaches_b14
      refine o_okI (fun c => ?_) (fun c => ?_)
      · refine o_okS ⟨fun e => absurd e (Nat.succ_ne_zero 1), fun _ => Or.inr ⟨rfl, fun j hj => k3 j ?_⟩⟩
        have c := Int32.le_iff_toInt_le.mp c
        omega
      · have c := Int32.lt_iff_toInt_lt.mp (Int32.not_le.mp c)
        have kX : k < X := by omega
        have fi := tIa hF k1 (by omega)
        have w1 := tI1 k1 (by omega)
        refine o_okG g3 (o_okG (in_of fi (by omega)) (o_okN (fun d ed' => o_okG (in_of w1 (by omega)) ?_)))
        have d1 : d.toInt = ed a2 F (k + 1) := by
          have ed' : d = MT_digits a2 (gi (MT_from a2 (gi x3) + w.1)) := ed'
          rw [ed', gi_of fi, ed_s]
        have lz : (MT_left z (gi (w.1 + 1))).toInt = lv z (k + 1) := by
          rw [gi_of w1]
          rfl
        refine o_okI (fun e => o_okN (fun u eu => o_okS ⟨fun _ => ⟨⟨k + 1, ?_, kX, ?_⟩, ?_⟩, fun e => absurd rfl e⟩)) (fun ne => o_okS ⟨fun e => absurd e (Nat.succ_ne_zero 0), fun _ => Or.inl ⟨rfl, k, k1, kX, k3, d1, ?_⟩⟩)
        · show u.toInt = _
          rw [eu]; exact w1
        · intro j hj
          by_cases ej : j = k
          · have e : (MT_left z (gi (w.1 + 1))) = d := e
            rw [ej, ← lz, ← d1, e]
          · exact k3 j (by omega)
        · show o_mu u < o_mu w.1
          rw [eu]
          refine o_muL (Int32.lt_iff_toInt_lt.mpr ?_)
          omega
        · rw [← lz, ← d1]
          exact fun e => ne (Int32.toInt_inj.mp e)
    · intro q ⟨_, hq⟩
      rcases hq with ⟨q1, k, k1, k2, k3, k4, k5⟩ | ⟨q1, k3⟩
      · have w1 := tI1 k1 (by omega)
        have lz : (MT_left z (gi (q.2.1 + 1))).toInt = lv z (k + 1) := by
          rw [gi_of w1]
          rfl
        have ag : ∀ j, j < k + 1 → lv z j = ed a2 F j := by
          intro j hj
          cases j with
          | zero => exact l0
          | succ j => exact k3 j (by omega)
        refine o_okI (fun _ => o_okG (in_of w1 (by omega)) (o_okI (fun c => o_okS ⟨fun e => absurd rfl e, fun _ => ?_⟩) (fun c => o_okS ⟨fun _ => ?_, fun e => absurd e (by decide)⟩))) (fun ne => absurd q1 ne)
        · have c := Int32.le_iff_toInt_le.mp c
          have c : (MT_left z (gi (q.2.1 + 1))).toInt ≤ q.2.2.toInt := c
          rw [lz, k4] at c
          exact Sm_lex he hz (m := k + 1) (by omega) (fun j hj => (ag j hj).symm) (by omega)
        · have c := Int32.lt_iff_toInt_lt.mp (Int32.not_le.mp c)
          have c : q.2.2.toInt < (MT_left z (gi (q.2.1 + 1))).toInt := c
          rw [lz, k4] at c
          exact Int.le_of_lt (Sm_lex hz he (m := k + 1) (by omega) ag (by omega))
      · refine o_okI (fun e => absurd (q1.symm.trans e) (by decide)) (fun _ => o_okS ⟨fun _ => ?_, fun e => absurd e (by decide)⟩)
        rw [Sm_congr (f := ed a2 F) (g := lv z) (X := X) (X + 1)]
        · exact Int.le_refl _
        · intro j hj
          have hi : X - j ≤ X := Nat.sub_le _ _
          generalize X - j = i at hi
          cases i with
          | zero => exact l0.symm
          | succ i => exact (k3 i (by omega)).symm
  · have c0 := Int32.lt_iff_toInt_lt.mp (Int32.not_le.mp c0)
    have c0 : 0 < lv z 0 := c0
    exact Int.le_of_lt (Sm_lex hz he (m := 0) (Nat.zero_le _) (fun j hj => absurd hj (Nat.not_lt_zero j)) c0)
/-- the subtraction's state: c, place, tree -/
def BI (s0 a2 : SMT) (X F : Nat) (z : Int32 × Int32 × SMT) : Prop := ∃ k : Nat, k ≤ X + 1 ∧ z.2.1.toInt + (k:Int) = (X:Int) ∧ (z.1.toInt = 0 ∨ z.1.toInt = 1) ∧ LF s0 z.2.2 ∧ dg9 (lv z.2.2) X ∧ (∀ j : Nat, j + k ≤ X → lv z.2.2 j = lv s0 j) ∧ Sm (lv z.2.2) X k = Sm (lv s0) X k - Sm (ed a2 F) X k + z.1.toInt * 10 ^ k
theorem ten_mul {b : Int32} (h : b.toInt = 0 ∨ b.toInt = 1) : (10 * b).toInt = 10 * b.toInt := by
  have hb : b = 0 ∨ b = 1 := by
    rcases h with h | h
    · exact Or.inl (Int32.toInt_inj.mp h)
    · exact Or.inr (Int32.toInt_inj.mp h)
  rcases hb with rfl | rfl <;> decide
theorem ten_add {v b : Int32} (h : b.toInt = 0 ∨ b.toInt = 1) (h9 : 0 ≤ v.toInt + 10 * b.toInt ∧ v.toInt + 10 * b.toInt ≤ 9) : (v + 10 * b).toInt = v.toInt + 10 * b.toInt := by
  have tm := ten_mul h
  generalize 10 * b = y at tm ⊢
  rw [← tm] at h9 ⊢
  exact i32a (by omega) (by omega)
theorem tIm {z : Int32} (h : 0 ≤ z.toInt) : (z + -1).toInt = z.toInt - 1 := by
  have m1 : (-1:Int32).toInt = -1 := rfl
  generalize (-1:Int32) = y at m1 ⊢
  have b := o_i32 z
  rw [i32a (by omega) (by omega), m1]
  rfl
theorem tIl {z : Int32} (h : 0 ≤ z.toInt) : z + -1 < z := by
  have e := tIm h
  rw [Int32.lt_iff_toInt_lt, e]
  omega
theorem LF_upd {a s : SMT} {f : Nat → Int32} (h : LF a s) : LF a (MT_mk (MT_text s) (MT_kind s) (MT_place s) (MT_many s) (MT_parent s) (MT_power s) (MT_first s) (MT_next s) (MT_name s) (MT_from s) (MT_characters s) (MT_digits s) (MT_minus s) (MT_values s) (MT_letters s) (MT_at s) (MT_wrong s) (MT_used s) (MT_written s) f) := by
  obtain ⟨l, rfl⟩ := h
  exact ⟨f, rfl⟩
theorem s_sub {n : Nat} {x1 x3 x4 x5 x6 : Int32} {s0 a2 : SMT} {X F : Nat} (h : MC n a2 x3 x5 X F) (hz : dg9 (lv s0) X) : o_ok (o_lp n (m_MT_isMultiple_b168 n x1 x3 x4 x5 x6 a2) ((0:Int32), x5, s0)) (fun q => q.1 ≠ 0 ∧ LF s0 q.2.2.2 ∧ dg9 (lv q.2.2.2) X ∧ (Sm (ed a2 F) X (X + 1) ≤ Sm (lv s0) X (X + 1) → Sm (lv q.2.2.2) X (X + 1) = Sm (lv s0) X (X + 1) - Sm (ed a2 F) X (X + 1))) := by
  obtain ⟨hn, g3, hX, hX6, hF, hFX, hb⟩ := h
  have he : dg9 (ed a2 F) X := ed9 hb
  refine o_lpR (BI s0 a2 X F) (fun z => o_nu z.2.1) hn o_nuB ⟨0, Nat.zero_le _, by show x5.toInt + ((0:Nat):Int) = _; omega, Or.inl rfl, LF_rfl, hz, fun _ _ => rfl, by show (0:Int) = 0 - 0 + 0 * 10 ^ 0; omega⟩ ?_
  intro z ⟨k, k1, k2, k3, k4, k5, k6, k7⟩
  unfold m_MT_isMultiple_b168
  refine o_okI (fun c => ?_) (fun c => ?_)
  · refine o_okS ⟨fun e => absurd e (Nat.succ_ne_zero 0), fun _ => ⟨k4, k5, fun hl => ?_⟩⟩
    have c := Int32.lt_iff_toInt_lt.mp c
    have c : z.2.1.toInt < 0 := c
    have ek : k = X + 1 := by omega
    rw [ek] at k7
    show Sm (lv z.2.2) X (X + 1) = _
    have b := Sm_bd k5 (X + 1)
    have q := p10 (X + 1)
    rcases k3 with e | e
    · rw [e] at k7
      rw [k7]
      omega
    · exfalso
      rw [e, Int.one_mul] at k7
      omega
  · have c := Int32.le_iff_toInt_le.mp (Int32.not_lt.mp c)
    have c : 0 ≤ z.2.1.toInt := c
    obtain ⟨i, hi⟩ : ∃ i : Nat, z.2.1.toInt = (i:Int) := ⟨z.2.1.toInt.toNat, by omega⟩
    have iX : i = X - k := by omega
    have kX : k ≤ X := by omega
    have gz := in_of hi (show i < 80 by omega)
    have lz : (MT_left z.2.2 (gi z.2.1)).toInt = lv s0 (X - k) := by
      have a := k6 i (by omega)
      rw [gi_of hi, ← iX]
      exact a
    have nj1 : ∀ j, j + (k + 1) ≤ X → j ≠ gi z.2.1 := by
      intro j hj
      rw [gi_of hi]
      omega
    have nj2 : ∀ j, j + (k + 1) ≤ X → j + k ≤ X := by
      intro j hj
      omega
    have nj3 : ∀ j, j < k → X - j ≠ gi z.2.1 := by
      intro j hj
      rw [gi_of hi]
      omega
    have j205 : ∀ e : Int32, e.toInt = ed a2 F (X - k) → o_ok (m_MT_isMultiple_j205 n x1 x3 x4 x5 x6 z.1 z.2.1 (MT_left z.2.2 (gi z.2.1)) e z.2.2 a2) (fun q => (q.1 = 0 → BI s0 a2 X F q.2 ∧ o_nu q.2.2.1 < o_nu z.2.1) ∧ (q.1 ≠ 0 → LF s0 q.2.2.2 ∧ dg9 (lv q.2.2.2) X ∧ (Sm (ed a2 F) X (X + 1) ≤ Sm (lv s0) X (X + 1) → Sm (lv q.2.2.2) X (X + 1) = Sm (lv s0) X (X + 1) - Sm (ed a2 F) X (X + 1)))) := by
      intro e he1
      have r1 := hz (X - k) (Nat.sub_le _ _)
      have r2 := he (X - k) (Nat.sub_le _ _)
      have d1 := i32s (a := MT_left z.2.2 (gi z.2.1)) (b := e) (by omega) (by omega)
      have d2 := i32s (a := MT_left z.2.2 (gi z.2.1) - e) (b := z.1) (by omega) (by omega)
      have j221 : ∀ (v b : Int32), v.toInt = lv s0 (X - k) - ed a2 F (X - k) - z.1.toInt → (b.toInt = 0 ∨ b.toInt = 1) → (0 ≤ v.toInt + 10 * b.toInt ∧ v.toInt + 10 * b.toInt ≤ 9) → o_ok (m_MT_isMultiple_j221 n x1 x3 x4 x5 x6 z.2.1 v b z.2.2 a2) (fun q => (q.1 = 0 → BI s0 a2 X F q.2 ∧ o_nu q.2.2.1 < o_nu z.2.1) ∧ (q.1 ≠ 0 → LF s0 q.2.2.2 ∧ dg9 (lv q.2.2.2) X ∧ (Sm (ed a2 F) X (X + 1) ≤ Sm (lv s0) X (X + 1) → Sm (lv q.2.2.2) X (X + 1) = Sm (lv s0) X (X + 1) - Sm (ed a2 F) X (X + 1)))) := by
        intro v b hv hb1 h9
        unfold m_MT_isMultiple_j221
        have sv := ten_add hb1 h9
        refine o_okG gz (o_okN (fun u eu => ?_))
        have hu : u.toInt = z.2.1.toInt - 1 := by rw [eu]; exact tIm c
        have lu : u < z.2.1 := by rw [eu]; exact tIl c
        clear eu
        obtain ⟨y, ey⟩ : ∃ y : Int32, y = v + 10 * b := ⟨_, rfl⟩
        rw [← ey] at sv ⊢
        clear ey
        refine o_okS ⟨fun _ => ⟨⟨k + 1, Nat.succ_le_succ kX, ?_, hb1, LF_upd k4, ?_, ?_, ?_⟩, o_nuL lu⟩, fun e => absurd rfl e⟩
        · show u.toInt + ((k + 1 : Nat) : Int) = X
          rw [hu]
          clear sv h9 hv d1 d2 he1 r1 r2 k7 lz
          omega
        · intro j hj
          show 0 ≤ (upd (MT_left z.2.2) (gi z.2.1) y j).toInt ∧ (upd (MT_left z.2.2) (gi z.2.1) y j).toInt ≤ 9
          by_cases ej : j = gi z.2.1
          · rw [ej, o_updE, sv]; exact h9
          · rw [o_updN ej]; exact k5 j hj
        · intro j hj
          show (upd (MT_left z.2.2) (gi z.2.1) y j).toInt = _
          rw [o_updN (nj1 j hj)]
          exact k6 j (nj2 j hj)
        · refine Sm_sub k7 kX ?_ ?_
          · show (upd (MT_left z.2.2) (gi z.2.1) y (X - k)).toInt = lv s0 (X - k) - ed a2 F (X - k) - z.1.toInt + 10 * b.toInt
            have ei : X - k = gi z.2.1 := by rw [gi_of hi]; exact iX.symm
            rw [← hv, ei, o_updE, sv]
          · intro j hj
            show (upd (MT_left z.2.2) (gi z.2.1) y (X - j)).toInt = _
            rw [o_updN (nj3 j hj)]
            rfl
      unfold m_MT_isMultiple_j205
      refine o_okN (fun v ev => ?_)
      have hv : v.toInt = lv s0 (X - k) - ed a2 F (X - k) - z.1.toInt := by rw [ev, d2, d1, lz, he1]
      refine o_okI (fun c => j221 v 0 hv (Or.inl rfl) ?_) (fun c => j221 v 1 hv (Or.inr rfl) ?_)
      · have c := Int32.le_iff_toInt_le.mp c
        have c : 0 ≤ v.toInt := c
        have z0 : (0:Int32).toInt = 0 := rfl
        rw [z0]
        omega
      · have c := Int32.lt_iff_toInt_lt.mp (Int32.not_le.mp c)
        have c : v.toInt < 0 := c
        rw [o_one]
        omega
    refine o_okG gz (o_okI (fun c2 => j205 0 ?_) (fun c2 => ?_))
    · have c2 := Int32.le_iff_toInt_le.mp c2
      have c2 : z.2.1.toInt ≤ 0 := c2
      have e0 : X - k = 0 := by omega
      rw [e0]
      rfl
    · have c2 := Int32.lt_iff_toInt_lt.mp (Int32.not_le.mp c2)
      have c2 : 0 < z.2.1.toInt := c2
      have f1 := tIa hF hi (by omega)
      have f2 := i32s (a := MT_from a2 (gi x3) + z.2.1) (b := 1) (by rw [o_one]; omega) (by rw [o_one]; omega)
      rw [o_one] at f2
      have f3 : (MT_from a2 (gi x3) + z.2.1 - 1).toInt = ((F + (i - 1) : Nat) : Int) := by omega
      refine o_okG g3 (o_okG (in_of f3 (by omega)) (j205 _ ?_))
      show (MT_digits a2 (gi (MT_from a2 (gi x3) + z.2.1 - 1))).toInt = _
      obtain ⟨i', ei⟩ : ∃ i', X - k = i' + 1 := ⟨X - k - 1, by omega⟩
      rw [gi_of f3, ei, ed_s]
      have : i - 1 = i' := by omega
      rw [this]
