/-! The digits of the numbers: a number, an array, an object, a text -/
theorem i32a {a b : Int32} (h0 : -2147483648 ≤ a.toInt + b.toInt) (h1 : a.toInt + b.toInt < 2147483648) : (a + b).toInt = a.toInt + b.toInt := by
  rw [Int32.toInt_add]
  apply Int.bmod_eq_of_le <;> omega
theorem i32s {a b : Int32} (h0 : -2147483648 ≤ a.toInt - b.toInt) (h1 : a.toInt - b.toInt < 2147483648) : (a - b).toInt = a.toInt - b.toInt := by
  rw [Int32.toInt_sub]
  apply Int.bmod_eq_of_le <;> omega
def CN (s : SMT) (x : Int32) : Prop := 0 ≤ x.toInt ∧ (MT_written s).toInt + x.toInt ≤ 8192
theorem nn0 {a : Int32} (h : 0 ≤ a.toInt) : 0 ≤ a := Int32.le_iff_toInt_le.mpr h
theorem o_one : (1:Int32).toInt = 1 := rfl
/-- a digit is written behind -/
theorem DK_dig {a s t : SMT} {x d : Int32} (h : DK a s) (c : CN s x) (g : o_in (MT_written s + x) 8192 = true) (d0 : 0 ≤ d) (d9 : d ≤ 9) (e1 : MT_digits t = upd (MT_digits s) (gi (MT_written s + x)) d) (e2 : MT_written t = MT_written s) (e3 : MT_kind t = MT_kind s) (e4 : MT_values t = MT_values s) (e5 : MT_many t = MT_many s) (e6 : MT_from t = MT_from s) : DK a t ∧ CN t (x + 1) := by
  obtain ⟨⟨k1, k2⟩, b1, b2, b3⟩ := h
  obtain ⟨c1, c2⟩ := c
  have w := i32a (a := MT_written s) (b := x) (by omega) (by omega)
  obtain ⟨g1, g2⟩ := in_nn g
  have w1 := gi_tnc g1
  have w2 := gi_tnc (nn0 b2.1)
  have x1 : (x + 1).toInt = x.toInt + 1 := by
    have := i32a (a := x) (b := 1) (by rw [o_one]; omega) (by rw [o_one]; omega)
    rw [o_one] at this
    exact this
  refine ⟨⟨⟨by rw [e4]; exact k1, fun i hi => by rw [e3]; exact k2 i hi⟩, by rw [e1]; exact o_bnU b1 d0 d9, by rw [e2]; exact b2, ?_⟩, ?_⟩
  · intro i hi k3 hm
    rw [e4] at hi
    rw [e3] at k3
    rw [e5] at hm
    obtain ⟨k, a1, a2, a3, a4⟩ := b3 i hi k3 hm
    unfold NZd
    rw [e5, e6, e2, e1]
    refine ⟨k, a1, a2, a3, ?_⟩
    rw [o_updN (by omega)]
    exact a4
  · unfold CN
    rw [e2, x1]
    omega
/-- the number's row is set -/
theorem DK_num {a s t : SMT} {i : Nat} {x4 x9 : Int32} (h : DK a s) (c : CN s x4) (h9 : 0 ≤ x9.toInt ∧ x9.toInt ≤ x4.toInt) (hd : x4 = x9 ∨ (x9.toInt < x4.toInt ∧ MT_digits s (gi (MT_written s + x4 - 1)) ≠ 0)) (e1 : MT_digits t = MT_digits s) (e2 : MT_written t = MT_written s + x4) (e3 : MT_kind t = MT_kind s) (e4 : MT_values t = MT_values s) (e5 : MT_many t = upd (MT_many s) i (x4 - x9)) (e6 : MT_from t = upd (MT_from s) i (MT_written s + x9)) : DK a t := by
  obtain ⟨⟨k1, k2⟩, b1, b2, b3⟩ := h
  obtain ⟨c1, c2⟩ := c
  have w := i32a (a := MT_written s) (b := x4) (by omega) (by omega)
  have w2 := gi_tnc (nn0 b2.1)
  have w0 : 0 ≤ (MT_written s + x4).toInt := by omega
  have w3 := gi_tnc (nn0 w0)
  refine ⟨⟨by rw [e4]; exact k1, fun i hi => by rw [e3]; exact k2 i hi⟩, by rw [e1]; exact b1, by rw [e2]; omega, ?_⟩
  intro j hj k3 hm
  rw [e4] at hj
  rw [e3] at k3
  rw [e5] at hm
  unfold NZd
  rw [e5, e6, e2, e1]
  by_cases ej : j = i
  · rw [ej] at hm ⊢
    rw [o_updE] at hm ⊢
    rw [o_updE]
    have m := i32s (a := x4) (b := x9) (by omega) (by omega)
    rcases hd with e | ⟨l1, l2⟩
    · exfalso
      apply hm
      rw [e]
      clear hm m h9 e1 e2 e3 e4 e5 e6 b1 b3 k1 k2 w w2 w3 w0
      grind
    · have m1 := i32s (a := x4 - x9) (b := 1) (by rw [o_one]; omega) (by rw [o_one]; omega)
      rw [o_one] at m1
      have ee : MT_written s + x9 + (x4 - x9 - 1) = MT_written s + x4 - 1 := by
        clear hm m h9 e1 e2 e3 e4 e5 e6 b1 b3 k1 k2 w w2 w3 w0 l1 l2 m1
        grind
      have u := i32s (a := MT_written s + x4) (b := 1) (by rw [o_one]; omega) (by rw [o_one]; omega)
      rw [o_one] at u
      have u0 : 0 ≤ (MT_written s + x4 - 1).toInt := by omega
      have u3 := gi_tnc (nn0 u0)
      refine ⟨x4 - x9 - 1, nn0 (by omega), Int32.lt_iff_toInt_lt.mpr (by omega), ?_, ?_⟩
      · rw [ee]; omega
      · rw [ee]; exact l2
  · rw [o_updN ej] at hm
    obtain ⟨k, a1, a2, a3, a4⟩ := b3 j hj k3 hm
    rw [o_updN ej, o_updN ej]
    refine ⟨k, a1, a2, ?_, a4⟩
    omega
def DN (a : SMT) (s : SMT) (x : Int32) : Prop := DK a s ∧ CN s x
theorem DN_sm {a s t : SMT} {x : Int32} (h : DN a s x) (g : SMr s t) : DN a t x := by
  refine ⟨DK_sm h.1 g, ?_⟩
  unfold CN
  rw [g.2.1]
  exact h.2
theorem c_549 {n : Nat} {x2 x4 x5 x7 x9 : Int32} {a a0 : SMT} (h : DN a a0 x4) (h9 : 0 ≤ x9.toInt ∧ x9.toInt ≤ x4.toInt) (hd : x4 = x9 ∨ (x9.toInt < x4.toInt ∧ MT_digits a0 (gi (MT_written a0 + x4 - 1)) ≠ 0)) : o_pc (m_MT_number_j549 n x2 x4 x5 x7 x9 a0) (fun r => DK a r.2) := by
  unfold m_MT_number_j549
  refine pcG (fun _ => pcG (fun _ => pcG (fun _ => pcI (fun _ => ?_) (fun _ => ?_))))
  · unfold m_MT_number_j596
    refine pcG (fun _ => pcG (fun _ => pcI (fun _ => pcG (fun _ => ?_)) (fun _ => ?_)))
    · unfold m_MT_number_j613
      exact pcS (DK_num h.1 h.2 h9 hd rfl rfl rfl rfl rfl rfl)
    · unfold m_MT_number_j613
      exact pcS (DK_num h.1 h.2 h9 hd rfl rfl rfl rfl rfl rfl)
  · unfold m_MT_number_j596
    refine pcG (fun _ => pcG (fun _ => pcI (fun _ => pcG (fun _ => ?_)) (fun _ => ?_)))
    · unfold m_MT_number_j613
      exact pcS (DK_num h.1 h.2 h9 hd rfl rfl rfl rfl rfl rfl)
    · unfold m_MT_number_j613
      exact pcS (DK_num h.1 h.2 h9 hd rfl rfl rfl rfl rfl rfl)
theorem DN_le {a s : SMT} {x y : Int32} (h : DN a s x) (h0 : 0 ≤ y.toInt) (h1 : y.toInt ≤ x.toInt) : DN a s y := ⟨h.1, h0, by have := h.2.2; omega⟩
theorem c_466 {n : Nat} {x2 x3 x4 x5 x7 x8 : Int32} {a a0 : SMT} (h : DN a a0 x4) : o_pc (m_MT_number_j466 n x2 x3 x4 x5 x7 x8 a0) (fun r => DK a r.2) := by
  have bad : o_pc (m_MT_number_j479 n x3 a0) (fun r => DK a r.2) := by
    unfold m_MT_number_j479
    exact pcB c_bad (fun q hq => pcG (fun _ => pcS (DK_sm h.1 hq)))
  have z0 : (0:Int32).toInt = 0 := rfl
  unfold m_MT_number_j466
  refine pcI (fun _ => bad) (fun _ => pcI (fun _ => ?_) (fun _ => bad))
  refine pcB (pcLs (fun z : Int32 => 0 ≤ z.toInt ∧ z.toInt ≤ x4.toInt) ?_ n _ ⟨by rw [z0]; exact Int.le_refl _, by rw [z0]; exact h.2.1⟩) (fun q13 h13 => ?_)
  · intro z ⟨hz0, hz1⟩
    unfold m_MT_number_b488
    refine pcI (fun _ => pcS ⟨hz0, hz1⟩) (fun c => pcG (fun _ => pcI (fun _ => pcN (fun u eu => pcS ?_)) (fun _ => pcS ⟨hz0, hz1⟩)))
    have c := Int32.lt_iff_toInt_lt.mp (Int32.not_le.mp c)
    have l := h.2.2
    have l2 := h.1.2.2.1.1
    have e := i32a (a := z) (b := 1) (by rw [o_one]; omega) (by rw [o_one]; omega)
    rw [o_one] at e
    show 0 ≤ u.toInt ∧ u.toInt ≤ x4.toInt
    rw [eu, e]
    omega
  obtain ⟨n0, n1⟩ := h13
  have n0 : 0 ≤ q13.2.toInt := n0
  have n1 : q13.2.toInt ≤ x4.toInt := n1
  refine pcB (pcL (P := fun q => (q13.2.toInt ≤ q.2.1.toInt ∧ q.2.1.toInt ≤ x4.toInt) ∧ (q.2.1 = q13.2 ∨ (q13.2.toInt < q.2.1.toInt ∧ MT_digits a0 (gi (MT_written a0 + q.2.1 - 1)) ≠ 0))) (fun z : Int32 × Int32 => q13.2.toInt ≤ z.1.toInt ∧ z.1.toInt ≤ x4.toInt) ?_ n _ ⟨n1, Int.le_refl _⟩) (fun q14 h14 => ?_)
  · intro z ⟨hz0, hz1⟩
    unfold m_MT_number_b516
    refine pcI (fun c => pcS ⟨fun e => absurd e (Nat.succ_ne_zero 0), fun _ => ⟨⟨hz0, hz1⟩, Or.inl ?_⟩⟩) (fun c => pcG (fun _ => pcI (fun _ => pcN (fun u eu => pcN (fun _ _ => pcS ⟨fun _ => ?_, fun e => absurd rfl e⟩))) (fun d => pcS ⟨fun e => absurd e (Nat.succ_ne_zero 0), fun _ => ⟨⟨hz0, hz1⟩, Or.inr ⟨?_, d⟩⟩⟩)))
    · have c := Int32.le_iff_toInt_le.mp c
      exact Int32.toInt_inj.mp (Int.le_antisymm c hz0)
    · have c := Int32.lt_iff_toInt_lt.mp (Int32.not_le.mp c)
      have m : (-1:Int32).toInt = -1 := rfl
      have e := i32a (a := z.1) (b := -1) (by rw [m]; omega) (by rw [m]; have := o_i32 z.1; omega)
      rw [m] at e
      show q13.2.toInt ≤ u.toInt ∧ u.toInt ≤ x4.toInt
      rw [eu, e]
      omega
    · exact Int32.lt_iff_toInt_lt.mp (Int32.not_le.mp c)
  obtain ⟨⟨m0, m1⟩, m2⟩ := h14
  exact c_549 (DN_le h (by omega) m1) ⟨n0, m0⟩ m2
theorem c_369 {n : Nat} {x2 x3 x4 x5 x7 x8 x9 : Int32} {a a0 : SMT} (h : DN a a0 x4) : o_pc (m_MT_number_j369 n x2 x3 x4 x5 x7 x8 x9 a0) (fun r => DK a r.2) := by
  unfold m_MT_number_j369
  refine pcX (fun _ => pcX (fun _ => pcI (fun _ => pcB c_bad (fun q hq => pcG (fun _ => pcS (DK_sm h.1 hq)))) (fun _ => ?_)))
  refine pcB (pcLs (fun z : Int32 × Int32 × SMT => SMr a0 z.2.2) ?_ n _ SM_rfl) (fun q22 h22 => ?_)
  · intro z hz
    have j : ∀ v : Int32, o_pc (m_MT_number_j440 n x2 x3 x4 x5 v z.2.1 x9 z.2.2) (fun q => SMr a0 q.2.2.2) := by
      intro v
      unfold m_MT_number_j440
      exact pcN (fun _ _ => pcS hz)
    unfold m_MT_number_b396
    exact pcX (fun _ => pcX (fun _ => pcI (fun _ => pcS hz) (fun _ => pcI (fun _ => j _) (fun _ => pcX (fun _ => pcN (fun _ _ => j _))))))
  have h2 := DN_sm h h22
  exact pcI (fun _ => c_466 h2) (fun _ => pcN (fun _ _ => c_466 h2))
theorem c_331 {n : Nat} {x2 x3 x4 x5 x7 x8 y0 : Int32} {a a0 : SMT} (h : DN a a0 x4) : o_pc (m_MT_number_j331 n x2 x3 x4 x5 x7 x8 y0 a0) (fun r => DK a r.2) := by
  have j : o_pc (m_MT_number_j359 n x2 x3 x4 x5 x7 x8 y0 a0) (fun r => DK a r.2) := by
    unfold m_MT_number_j359
    exact c_369 (DN_sm h ⟨rfl, rfl, rfl, rfl, rfl, rfl⟩)
  unfold m_MT_number_j331
  exact pcX (fun _ => pcI (fun _ => j) (fun _ => pcX (fun _ => pcI (fun _ => j) (fun _ => c_369 h))))
theorem c_281 {n : Nat} {x2 x3 x4 x5 : Int32} {a a0 : SMT} (h : DN a a0 x4) : o_pc (m_MT_number_j281 n x2 x3 x4 x5 a0) (fun r => DK a r.2) := by
  unfold m_MT_number_j281
  refine pcX (fun _ => pcI (fun _ => pcX (fun _ => pcI (fun _ => ?_) (fun _ => ?_))) (fun _ => c_466 h))
  · exact c_331 (DN_sm h ⟨rfl, rfl, rfl, rfl, rfl, rfl⟩)
  · exact c_331 (DN_sm h ⟨rfl, rfl, rfl, rfl, rfl, rfl⟩)
theorem dig9 {q : Int32} (h : 48 ≤ q ∧ q ≤ 57) : 0 ≤ q - 48 ∧ q - 48 ≤ 9 := by
  constructor <;> grind
theorem c_in {x0 x1 x2 : Int32} : o_pc (m_MM_in x0 x1 x2) (fun r => r ≠ 0 → x1 ≤ x0 ∧ x0 ≤ x2) := pcW (pcK s_MM_in) (fun _ h => h.2)
theorem c_174 {n : Nat} {x2 x3 x4 x5 : Int32} {a a0 : SMT} (h : DN a a0 x4) : o_pc (m_MT_number_j174 n x2 x3 x4 x5 a0) (fun r => DK a r.2) := by
  unfold m_MT_number_j174
  refine pcX (fun _ => pcI (fun _ => pcX (fun _ => pcX (fun _ => pcI (fun _ => ?_) (fun _ => ?_)))) (fun _ => c_281 h))
  · exact pcB c_bad (fun q hq => pcG (fun _ => pcS (DK_sm (DK_sm h.1 ⟨rfl, rfl, rfl, rfl, rfl, rfl⟩) hq)))
  refine pcB (pcLs (fun z : Int32 × Int32 × SMT => DN a z.2.2 z.1) ?_ n _ (DN_sm h ⟨rfl, rfl, rfl, rfl, rfl, rfl⟩)) (fun q hq => c_281 hq)
  intro z hz
  unfold m_MT_number_b224
  refine pcE (fun q27 e27 => pcB c_in (fun q28 h28 => pcI (fun _ => pcS hz) (fun c => pcN (fun u eu => pcE (fun q29 e29 => pcG (fun g => pcN (fun _ _ => pcS ?_)))))))
  have e29 : m_MT_c (MT_at z.2.2) z.2.2 = some q29 := e29
  have e : q27 = q29 := Option.some.inj (e27.symm.trans e29)
  have d := dig9 (h28 c)
  rw [e] at d
  show DN a _ u
  rw [eu]
  exact DK_dig hz.1 hz.2 g d.1 d.2 rfl rfl rfl rfl rfl rfl
def CDg (s : SMT) : Prop := ∀ v, m_MT_c (MT_at s) s = some v → 48 ≤ v ∧ v ≤ 57
theorem c_71 {n : Nat} {x2 x3 x4 x5 : Int32} {a a0 : SMT} (h : DN a a0 x4) : o_pc (m_MT_number_j71 n x2 x3 x4 x5 a0) (fun r => DK a r.2) := by
  unfold m_MT_number_j71
  refine pcE (fun q3 e3 => pcB c_in (fun q4 h4 => pcI (fun _ => pcB c_bad (fun q hq => pcG (fun _ => pcS (DK_sm h.1 hq)))) (fun c => ?_)))
  have hc : CDg a0 := by
    intro v ev
    have e : q3 = v := Option.some.inj (e3.symm.trans ev)
    rw [← e]
    exact h4 c
  have lp : ∀ x6 : Int32, o_pc (o_lp n (m_MT_number_b118 n x2 x3 x5 x6) (x4, a0)) (fun q => DN a q.2.2 q.2.1) := by
    intro x6
    refine pcL (fun z : Int32 × SMT => DN a z.2 z.1 ∧ CDg z.2) ?_ n _ ⟨h, hc⟩
    intro z ⟨hz, hd⟩
    unfold m_MT_number_b118
    refine pcN (fun u eu => pcE (fun q6 e6 => pcG (fun g => ?_)))
    have d := dig9 (hd q6 e6)
    have D : ∀ t : SMT, MT_digits t = upd (MT_digits z.2) (gi (MT_written z.2 + z.1)) (q6 - 48) → MT_written t = MT_written z.2 → MT_kind t = MT_kind z.2 → MT_values t = MT_values z.2 → MT_many t = MT_many z.2 → MT_from t = MT_from z.2 → DN a t u := by
      intro t e1 e2 e3 e4 e5 e6
      rw [eu]
      exact DK_dig hz.1 hz.2 g d.1 d.2 e1 e2 e3 e4 e5 e6
    refine pcI (fun _ => pcE (fun q7 e7 => pcB c_in (fun q8 h8 => pcI (fun _ => ?_) (fun c8 => ?_)))) (fun _ => ?_)
    · exact pcS ⟨fun e => absurd e (Nat.succ_ne_zero 0), fun _ => D _ rfl rfl rfl rfl rfl rfl⟩
    · refine pcS ⟨fun _ => ⟨D _ rfl rfl rfl rfl rfl rfl, ?_⟩, fun e => absurd rfl e⟩
      intro v ev
      have e : q7 = v := Option.some.inj (e7.symm.trans ev)
      rw [← e]
      exact h8 c8
    · exact pcS ⟨fun e => absurd e (Nat.succ_ne_zero 0), fun _ => D _ rfl rfl rfl rfl rfl rfl⟩
  exact pcX (fun _ => pcI (fun _ => pcB (lp _) (fun q hq => c_174 hq)) (fun _ => pcB (lp _) (fun q hq => c_174 hq)))
theorem c_51 {n : Nat} {x2 x3 x4 x5 y1 y2 : Int32} {a a0 : SMT} (h : DN a a0 x4) : o_pc (m_MT_number_j51 n x2 x3 x4 x5 y1 y2 a0) (fun r => DK a r.2) := by
  unfold m_MT_number_j51
  refine pcG (fun _ => pcG (fun _ => pcI (fun _ => ?_) (fun _ => ?_)))
  · exact c_71 (DN_sm h ⟨rfl, rfl, rfl, rfl, rfl, rfl⟩)
  · exact c_71 (DN_sm h ⟨rfl, rfl, rfl, rfl, rfl, rfl⟩)
