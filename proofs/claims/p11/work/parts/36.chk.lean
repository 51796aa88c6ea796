theorem s_MM_fault {x1 : Int32} {x2 : Int32} {Nf : SNF} (p0 : x1 ≠ 0) : o_ok (m_MM_fault x1 x2 Nf) (fun r => NF_faultKind r ≠ 0 ∧ NF_checked r = NF_checked Nf) := by
  unfold m_MM_fault
  refine o_okI (fun c1 => ?_) (fun c1 => ?_)
  · refine o_okS ?_
    refine ⟨?_, ?_⟩
    · first | with_reducible exact True.intro | with_reducible assumption | grind [-Prod] | grind [-Prod] | grind [-Prod, o_bn, upd]
    · first | with_reducible exact True.intro | with_reducible assumption | grind [-Prod] | grind [-Prod] | grind [-Prod, o_bn, upd]
  · refine o_okI (fun c2 => ?_) (fun c2 => ?_)
    · refine o_okS ?_
      refine ⟨?_, ?_⟩
      · first | with_reducible exact True.intro | with_reducible assumption | grind [-Prod] | grind [-Prod] | grind [-Prod, o_bn, upd]
      · first | with_reducible exact True.intro | with_reducible assumption | grind [-Prod] | grind [-Prod] | grind [-Prod, o_bn, upd]
    · refine o_okI (fun c3 => ?_) (fun c3 => ?_)
      · refine o_okI (fun c4 => ?_) (fun c4 => ?_)
        · refine o_okS ?_
          refine ⟨?_, ?_⟩
          · first | with_reducible exact True.intro | with_reducible assumption | grind [-Prod] | grind [-Prod] | grind [-Prod, o_bn, upd]
          · first | with_reducible exact True.intro | with_reducible assumption | grind [-Prod] | grind [-Prod] | grind [-Prod, o_bn, upd]
        · refine o_okS ?_
          refine ⟨?_, ?_⟩
          · first | with_reducible exact True.intro | with_reducible assumption | grind [-Prod] | grind [-Prod] | grind [-Prod, o_bn, upd]
          · first | with_reducible exact True.intro | with_reducible assumption | grind [-Prod] | grind [-Prod] | grind [-Prod, o_bn, upd]
      · refine o_okS ?_
        refine ⟨?_, ?_⟩
        · first | with_reducible exact True.intro | with_reducible assumption | grind [-Prod] | grind [-Prod] | grind [-Prod, o_bn, upd]
        · first | with_reducible exact True.intro | with_reducible assumption | grind [-Prod] | grind [-Prod] | grind [-Prod, o_bn, upd]
theorem s_MM_intOf_b32 {n : Nat} {x1 : Int32} {M0 : SMT} {z : Int32 × Int32} (hn : o_big ≤ n) (h_M0 : I_MT M0) (t_M0 : T_MT M0) (p0 : 0 ≤ x1) (p1 : x1 < 1000) (p2 : 0 ≤ MT_from M0 x1.toNatClampNeg) (p3 : MT_from M0 x1.toNatClampNeg ≤ 8192) (p4 : MT_many M0 x1.toNatClampNeg ≤ 8192 - MT_from M0 x1.toNatClampNeg) (l0 : 0 ≤ z.2) : o_ok (m_MM_intOf_b32 n x1 M0 z) (fun q => (q.1 = 0 → 0 ≤ q.2.2 ∧ o_mu q.2.2 < o_mu z.2) ∧ (q.1 ≠ 0 → True)) := by
  unfold m_MM_intOf_b32
  refine o_okG (o_inM (m := 1000) rfl (by first | with_reducible exact True.intro | with_reducible assumption | grind [-Prod, → sc_EX] | grind [-Prod, → sc_MT, → sc_EX] | grind [-Prod, I_MT, o_bn, upd]) (by first | with_reducible exact True.intro | with_reducible assumption | grind [-Prod, → sc_EX] | grind [-Prod, → sc_MT, → sc_EX] | grind [-Prod, I_MT, o_bn, upd])) ?_
  refine o_okG (o_inM (m := 1000) rfl (by first | with_reducible exact True.intro | with_reducible assumption | grind [-Prod, → sc_EX] | grind [-Prod, → sc_MT, → sc_EX] | grind [-Prod, I_MT, o_bn, upd]) (by first | with_reducible exact True.intro | with_reducible assumption | grind [-Prod, → sc_EX] | grind [-Prod, → sc_MT, → sc_EX] | grind [-Prod, I_MT, o_bn, upd])) ?_
  refine o_okI (fun c1 => ?_) (fun c1 => ?_)
  · refine o_okS ?_
    refine ⟨fun h => absurd (show (1 : Nat) = 0 from h) (by decide), fun _ => ?_⟩
    trivial
  · refine o_okG (o_inM (m := 1000) rfl (by first | with_reducible exact True.intro | with_reducible assumption | grind [-Prod, → sc_EX] | grind [-Prod, → sc_MT, → sc_EX] | grind [-Prod, I_MT, o_bn, upd]) (by first | with_reducible exact True.intro | with_reducible assumption | grind [-Prod, → sc_EX] | grind [-Prod, → sc_MT, → sc_EX] | grind [-Prod, I_MT, o_bn, upd])) ?_
    refine o_okI (fun c2 => ?_) (fun c2 => ?_)
    · unfold m_MM_intOf_j95
      refine o_okN (fun x2_96_3 ex2_96_3 => ?_)
      refine o_okN (fun x3_97_4 ex3_97_4 => ?_)
      refine o_okS ?_
      refine ⟨fun _ => ?_, fun h => absurd rfl h⟩
      refine ⟨?_, ?_⟩
      · first | with_reducible exact True.intro | with_reducible assumption | grind [-Prod, → sc_EX] | grind [-Prod, → sc_MT, → sc_EX] | grind [-Prod, I_MT, o_bn, upd]
      · first | exact o_muL (by first | with_reducible exact True.intro | with_reducible assumption | grind [-Prod, → sc_EX] | grind [-Prod, → sc_MT, → sc_EX] | grind [-Prod, I_MT, o_bn, upd]) | exact o_nuL (by first | with_reducible exact True.intro | with_reducible assumption | grind [-Prod, → sc_EX] | grind [-Prod, → sc_MT, → sc_EX] | grind [-Prod, I_MT, o_bn, upd]) | (first | with_reducible exact True.intro | with_reducible assumption | grind [-Prod, → sc_EX] | grind [-Prod, → sc_MT, → sc_EX] | grind [-Prod, I_MT, o_bn, upd])
    · refine o_okG (o_inM (m := 1000) rfl (by first | with_reducible exact True.intro | with_reducible assumption | grind [-Prod, → sc_EX] | grind [-Prod, → sc_MT, → sc_EX] | grind [-Prod, I_MT, o_bn, upd]) (by first | with_reducible exact True.intro | with_reducible assumption | grind [-Prod, → sc_EX] | grind [-Prod, → sc_MT, → sc_EX] | grind [-Prod, I_MT, o_bn, upd])) ?_
      refine o_okG (o_inM (m := 8192) rfl (by first | with_reducible exact True.intro | with_reducible assumption | grind [-Prod, → sc_EX] | grind [-Prod, → sc_MT, → sc_EX] | grind [-Prod, I_MT, o_bn, upd]) (by first | with_reducible exact True.intro | with_reducible assumption | grind [-Prod, → sc_EX] | grind [-Prod, → sc_MT, → sc_EX] | grind [-Prod, I_MT, o_bn, upd])) ?_
      unfold m_MM_intOf_j95
      refine o_okN (fun x2_96_5 ex2_96_5 => ?_)
      refine o_okN (fun x3_97_6 ex3_97_6 => ?_)
      refine o_okS ?_
      refine ⟨fun _ => ?_, fun h => absurd rfl h⟩
      refine ⟨?_, ?_⟩
      · first | with_reducible exact True.intro | with_reducible assumption | grind [-Prod, → sc_EX] | grind [-Prod, → sc_MT, → sc_EX] | grind [-Prod, I_MT, o_bn, upd]
      · first | exact o_muL (by first | with_reducible exact True.intro | with_reducible assumption | grind [-Prod, → sc_EX] | grind [-Prod, → sc_MT, → sc_EX] | grind [-Prod, I_MT, o_bn, upd]) | exact o_nuL (by first | with_reducible exact True.intro | with_reducible assumption | grind [-Prod, → sc_EX] | grind [-Prod, → sc_MT, → sc_EX] | grind [-Prod, I_MT, o_bn, upd]) | (first | with_reducible exact True.intro | with_reducible assumption | grind [-Prod, → sc_EX] | grind [-Prod, → sc_MT, → sc_EX] | grind [-Prod, I_MT, o_bn, upd])
theorem l_MM_intOf_b32 {n : Nat} {x1 : Int32} {M0 : SMT} {z : Int32 × Int32} (hn : o_big ≤ n) (h_M0 : I_MT M0) (t_M0 : T_MT M0) (p0 : 0 ≤ x1) (p1 : x1 < 1000) (p2 : 0 ≤ MT_from M0 x1.toNatClampNeg) (p3 : MT_from M0 x1.toNatClampNeg ≤ 8192) (p4 : MT_many M0 x1.toNatClampNeg ≤ 8192 - MT_from M0 x1.toNatClampNeg) (l0 : 0 ≤ z.2) : o_ok (o_lp n (m_MM_intOf_b32 n x1 M0) z) (fun q => q.1 ≠ 0 ∧ True) := by
  exact o_lpR (fun z => 0 ≤ z.2) (fun z => o_mu z.2) hn (o_muB) l0
    (fun z hz => by have l0 := hz; exact o_okW (s_MM_intOf_b32 hn h_M0 t_M0 p0 p1 p2 p3 p4 l0) (fun q hq => ⟨fun h => by have := hq.1 h; grind, hq.2⟩))
theorem s_MM_intOf {n : Nat} {x1 : Int32} {M0 : SMT} (hn : o_big ≤ n) (h_M0 : I_MT M0) (t_M0 : T_MT M0) (p0 : 0 ≤ x1) (p1 : x1 < MT_values M0) (p2 : MT_kind M0 x1.toNatClampNeg = 3) : o_ok (m_MM_intOf n x1 M0) (fun r => True) := by
  obtain ⟨f1, f2, f3, f4, f9⟩ := (t_M0 x1 p0 p1).2.2.2.2.2.1 p2
  unfold m_MM_intOf
  refine o_okG (o_inM (m := 1000) rfl (by first | with_reducible exact True.intro | with_reducible assumption | grind [-Prod, → sc_EX] | grind [-Prod, → sc_MT, → sc_EX] | grind [-Prod, I_MT, o_bn, upd]) (by first | with_reducible exact True.intro | with_reducible assumption | grind [-Prod, → sc_EX] | grind [-Prod, → sc_MT, → sc_EX] | grind [-Prod, I_MT, o_bn, upd])) ?_
  refine o_okG (o_inM (m := 1000) rfl (by first | with_reducible exact True.intro | with_reducible assumption | grind [-Prod, → sc_EX] | grind [-Prod, → sc_MT, → sc_EX] | grind [-Prod, I_MT, o_bn, upd]) (by first | with_reducible exact True.intro | with_reducible assumption | grind [-Prod, → sc_EX] | grind [-Prod, → sc_MT, → sc_EX] | grind [-Prod, I_MT, o_bn, upd])) ?_
  refine o_okI (fun c1 => ?_) (fun c1 => ?_)
  · refine o_okB (l_MM_intOf_b32  hn h_M0 t_M0 (by first | with_reducible exact True.intro | with_reducible assumption | grind [-Prod, → sc_EX] | grind [-Prod, → sc_MT, → sc_EX] | grind [-Prod, I_MT, o_bn, upd]) (by first | with_reducible exact True.intro | with_reducible assumption | grind [-Prod, → sc_EX] | grind [-Prod, → sc_MT, → sc_EX] | grind [-Prod, I_MT, o_bn, upd]) (by first | with_reducible exact True.intro | with_reducible assumption | grind [-Prod, → sc_EX] | grind [-Prod, → sc_MT, → sc_EX] | grind [-Prod, I_MT, o_bn, upd]) (by first | with_reducible exact True.intro | with_reducible assumption | grind [-Prod, → sc_EX] | grind [-Prod, → sc_MT, → sc_EX] | grind [-Prod, I_MT, o_bn, upd]) (by first | with_reducible exact True.intro | with_reducible assumption | grind [-Prod, → sc_EX] | grind [-Prod, → sc_MT, → sc_EX] | grind [-Prod, I_MT, o_bn, upd]) (by first | with_reducible exact True.intro | with_reducible assumption | grind [-Prod, → sc_EX] | grind [-Prod, → sc_MT, → sc_EX] | grind [-Prod, I_MT, o_bn, upd])) ?_
    intro q1_2 ⟨yq1_2, _⟩
    refine o_okS ?_
    trivial
  · refine o_okS ?_
    trivial
theorem s_MM_isName {x0 : Int32} {x1 : Int32}  : o_ok (m_MM_isName x0 x1) (fun r => True) := by
  unfold m_MM_isName
  refine o_okB (s_MM_in ) ?_
  intro q1_1 ⟨g2, g3⟩
  refine o_okI (fun c4 => ?_) (fun c4 => ?_)
  · refine o_okB (s_MM_in ) ?_
    intro q2_5 ⟨g6, g7⟩
    refine o_okI (fun c8 => ?_) (fun c8 => ?_)
    · refine o_okI (fun c9 => ?_) (fun c9 => ?_)
      · refine o_okS ?_
        trivial
      · refine o_okI (fun c10 => ?_) (fun c10 => ?_)
        · refine o_okB (s_MM_in ) ?_
          intro q3_11 ⟨g12, g13⟩
          refine o_okI (fun c14 => ?_) (fun c14 => ?_)
          · refine o_okI (fun c15 => ?_) (fun c15 => ?_)
            · refine o_okS ?_
              trivial
            · refine o_okI (fun c16 => ?_) (fun c16 => ?_)
              · refine o_okS ?_
                trivial
              · refine o_okS ?_
                trivial
          · refine o_okS ?_
            trivial
        · refine o_okS ?_
          trivial
    · refine o_okS ?_
      trivial
  · refine o_okS ?_
    trivial
theorem s_MM_typeOf_b2 {n : Nat} {x1 : Int32} {M0 : SMT} {z : Int32} (hn : o_big ≤ n) (h_M0 : I_MT M0) (t_M0 : T_MT M0) (p0 : 0 ≤ x1) (p1 : x1 < MT_values M0) (l0 : 0 ≤ z) : o_ok (m_MM_typeOf_b2 n x1 M0 z) (fun q => (q.1 = 0 → 0 ≤ q.2 ∧ o_mu q.2 < o_mu z) ∧ (q.1 ≠ 0 → True)) := by
  unfold m_MM_typeOf_b2
  refine o_okI (fun c1 => ?_) (fun c1 => ?_)
  · refine o_okS ?_
    refine ⟨fun h => absurd (show (2 : Nat) = 0 from h) (by decide), fun _ => ?_⟩
    trivial
  · refine o_okG (o_inM (m := 1000) rfl (by first | with_reducible exact True.intro | with_reducible assumption | grind [-Prod, → sc_EX] | grind [-Prod, → sc_MT, → sc_EX] | grind [-Prod, I_MT, o_bn, upd]) (by first | with_reducible exact True.intro | with_reducible assumption | grind [-Prod, → sc_EX] | grind [-Prod, → sc_MT, → sc_EX] | grind [-Prod, I_MT, o_bn, upd])) ?_
    refine o_okI (fun c2 => ?_) (fun c2 => ?_)
    · refine o_okG (o_inM (m := 7) rfl (by first | with_reducible exact True.intro | with_reducible assumption | grind [-Prod, → sc_EX] | grind [-Prod, → sc_MT, → sc_EX] | grind [-Prod, I_MT, o_bn, upd]) (by first | with_reducible exact True.intro | with_reducible assumption | grind [-Prod, → sc_EX] | grind [-Prod, → sc_MT, → sc_EX] | grind [-Prod, I_MT, o_bn, upd])) ?_
      refine o_okB (s_MT_is  hn h_M0 t_M0 (by first | with_reducible exact True.intro | with_reducible assumption | grind [-Prod, → sc_EX] | grind [-Prod, → sc_MT, → sc_EX] | grind [-Prod, I_MT, o_bn, upd]) (by first | with_reducible exact True.intro | with_reducible assumption | grind [-Prod, → sc_EX] | grind [-Prod, → sc_MT, → sc_EX] | grind [-Prod, I_MT, o_bn, upd]) (by first | with_reducible exact True.intro | with_reducible assumption | grind [-Prod, → sc_EX] | grind [-Prod, → sc_MT, → sc_EX] | grind [-Prod, I_MT, o_bn, upd])) ?_
      intro q1_3 g4
      refine o_okI (fun c5 => ?_) (fun c5 => ?_)
      · refine o_okN (fun x2_43_6 ex2_43_6 => ?_)
        refine o_okS ?_
        refine ⟨fun _ => ?_, fun h => absurd rfl h⟩
        refine ⟨?_, ?_⟩
        · first | with_reducible exact True.intro | with_reducible assumption | grind [-Prod, → sc_EX] | grind [-Prod, → sc_MT, → sc_EX] | grind [-Prod, I_MT, o_bn, upd]
        · first | exact o_muL (by first | with_reducible exact True.intro | with_reducible assumption | grind [-Prod, → sc_EX] | grind [-Prod, → sc_MT, → sc_EX] | grind [-Prod, I_MT, o_bn, upd]) | exact o_nuL (by first | with_reducible exact True.intro | with_reducible assumption | grind [-Prod, → sc_EX] | grind [-Prod, → sc_MT, → sc_EX] | grind [-Prod, I_MT, o_bn, upd]) | (first | with_reducible exact True.intro | with_reducible assumption | grind [-Prod, → sc_EX] | grind [-Prod, → sc_MT, → sc_EX] | grind [-Prod, I_MT, o_bn, upd])
      · refine o_okS ?_
        refine ⟨fun h => absurd (show (1 : Nat) = 0 from h) (by decide), fun _ => ?_⟩
        trivial
    · refine o_okN (fun x2_43_7 ex2_43_7 => ?_)
      refine o_okS ?_
      refine ⟨fun _ => ?_, fun h => absurd rfl h⟩
      refine ⟨?_, ?_⟩
      · first | with_reducible exact True.intro | with_reducible assumption | grind [-Prod, → sc_EX] | grind [-Prod, → sc_MT, → sc_EX] | grind [-Prod, I_MT, o_bn, upd]
      · first | exact o_muL (by first | with_reducible exact True.intro | with_reducible assumption | grind [-Prod, → sc_EX] | grind [-Prod, → sc_MT, → sc_EX] | grind [-Prod, I_MT, o_bn, upd]) | exact o_nuL (by first | with_reducible exact True.intro | with_reducible assumption | grind [-Prod, → sc_EX] | grind [-Prod, → sc_MT, → sc_EX] | grind [-Prod, I_MT, o_bn, upd]) | (first | with_reducible exact True.intro | with_reducible assumption | grind [-Prod, → sc_EX] | grind [-Prod, → sc_MT, → sc_EX] | grind [-Prod, I_MT, o_bn, upd])
theorem l_MM_typeOf_b2 {n : Nat} {x1 : Int32} {M0 : SMT} {z : Int32} (hn : o_big ≤ n) (h_M0 : I_MT M0) (t_M0 : T_MT M0) (p0 : 0 ≤ x1) (p1 : x1 < MT_values M0) (l0 : 0 ≤ z) : o_ok (o_lp n (m_MM_typeOf_b2 n x1 M0) z) (fun q => q.1 ≠ 0 ∧ True) := by
  exact o_lpR (fun z => 0 ≤ z) (fun z => o_mu z) hn (o_muB) l0
    (fun z hz => by have l0 := hz; exact o_okW (s_MM_typeOf_b2 hn h_M0 t_M0 p0 p1 l0) (fun q hq => ⟨fun h => by have := hq.1 h; grind, hq.2⟩))
theorem s_MM_typeOf {n : Nat} {x1 : Int32} {M0 : SMT} (hn : o_big ≤ n) (h_M0 : I_MT M0) (t_M0 : T_MT M0) (p0 : 0 ≤ x1) (p1 : x1 < MT_values M0) : o_ok (m_MM_typeOf n x1 M0) (fun r => True) := by
  unfold m_MM_typeOf
  refine o_okB (l_MM_typeOf_b2  hn h_M0 t_M0 (by first | with_reducible exact True.intro | with_reducible assumption | grind [-Prod, → sc_EX] | grind [-Prod, → sc_MT, → sc_EX] | grind [-Prod, I_MT, o_bn, upd]) (by first | with_reducible exact True.intro | with_reducible assumption | grind [-Prod, → sc_EX] | grind [-Prod, → sc_MT, → sc_EX] | grind [-Prod, I_MT, o_bn, upd]) (by first | with_reducible exact True.intro | with_reducible assumption | grind [-Prod, → sc_EX] | grind [-Prod, → sc_MT, → sc_EX] | grind [-Prod, I_MT, o_bn, upd])) ?_
  intro q2_1 ⟨yq2_1, _⟩
  refine o_okI (fun c2 => ?_) (fun c2 => ?_)
  · refine o_okS ?_
    trivial
  · refine o_okS ?_
    trivial
/-! The reference's check: rows of values as lists, strings, type, anchor -/
theorem tchain {s : SMT} {x : Int32} (hI : I_MT s) (hT : T_MT s) (x0 : 0 ≤ x) (x1 : x < MT_values s) : ∃ L, CL (MT_next s) L (MT_first s (gi x)) ∧ L.length ≤ 2000 ∧ ∀ y ∈ L, x < y ∧ 0 ≤ y ∧ y < MT_values s := by
  have hm := Int32.le_iff_toInt_le.mp hI.2.1
  have z1 : (1000 : Int32).toInt = 1000 := rfl
  rw [z1] at hm
  obtain ⟨L, h1, h2, h3⟩ := CL_ex (X := MT_next s) (m := MT_values s) (Q := fun _ k => x < k ∧ 0 ≤ k ∧ k < MT_values s)
    (fun _ k ⟨q1, q2, q3⟩ => by
      refine ⟨q2, q3, ?_⟩
      rcases (hT k q2 q3).2.2.1 with e | ⟨d1, d2⟩
      · exact Or.inl e
      · exact Or.inr ⟨d1, Int32.lt_trans q1 d1, Int32.le_of_lt (Int32.lt_of_le_of_lt q2 d1), d2⟩) 2000 0 (MT_first s (gi x)) (by
      rcases (hT x x0 x1).2.1 with e | ⟨d1, d2⟩
      · exact Or.inl e
      · have d0 : 0 ≤ MT_first s (gi x) := Int32.le_of_lt (Int32.lt_of_le_of_lt x0 d1)
        refine Or.inr ⟨⟨d1, d0, d2⟩, ?_⟩
        have d0 := Int32.le_iff_toInt_le.mp d0
        have z0 : (0 : Int32).toInt = 0 := rfl
        rw [z0] at d0
        omega)
  refine ⟨L, h1, h2, fun y hy => ?_⟩
  obtain ⟨j, hj⟩ := List.getElem?_of_mem hy
  exact h3 j y hj
/-- members: with names, two places apart -/
theorem tchainN {s : SMT} {x : Int32} (hI : I_MT s) (hT : T_MT s) (x0 : 0 ≤ x) (x1 : x < MT_values s) (hk : MT_kind s (gi x) = 6) : ∃ L, CL (MT_next s) L (MT_first s (gi x)) ∧ L.length ≤ 2000 ∧ ∀ y ∈ L, x + 2 ≤ y ∧ 0 ≤ y ∧ y < MT_values s ∧ MT_name s (gi y) ≠ -1 := by
  have hm := Int32.le_iff_toInt_le.mp hI.2.1
  have z1 : (1000 : Int32).toInt = 1000 := rfl
  rw [z1] at hm
  obtain ⟨L, h1, h2, h3⟩ := CL_ex (X := MT_next s) (m := MT_values s) (Q := fun _ k => x + 2 ≤ k ∧ 0 ≤ k ∧ k < MT_values s ∧ MT_name s (gi k) ≠ -1)
    (fun _ k ⟨q1, q2, q3, q4⟩ => by
      refine ⟨q2, q3, ?_⟩
      have N := hT k q2 q3
      rcases N.2.2.1 with e | ⟨d1, d2⟩
      · exact Or.inl e
      · have d0 : 0 ≤ MT_next s (gi k) := Int32.le_of_lt (Int32.lt_of_le_of_lt q2 d1)
        exact Or.inr ⟨d1, Int32.le_trans q1 (Int32.le_of_lt d1), d0, d2, (N.2.2.2.2.2.2.2.2.2.1 q4 (o_pos q2 d1)).1⟩) 2000 0 (MT_first s (gi x)) (by
      have N := hT x x0 x1
      rcases N.2.1 with e | ⟨d1, d2⟩
      · exact Or.inl e
      · have d0 : 0 ≤ MT_first s (gi x) := Int32.le_of_lt (Int32.lt_of_le_of_lt x0 d1)
        have nn := N.2.2.2.2.2.2.2.2.1 hk (o_pos x0 d1)
        refine Or.inr ⟨⟨nn.2, d0, d2, nn.1⟩, ?_⟩
        have d0 := Int32.le_iff_toInt_le.mp d0
        have z0 : (0 : Int32).toInt = 0 := rfl
        rw [z0] at d0
        omega)
  refine ⟨L, h1, h2, fun y hy => ?_⟩
  obtain ⟨j, hj⟩ := List.getElem?_of_mem hy
  exact h3 j y hj
/-- a loop along such a list -/
theorem cl_lp {X : Nat → Int32} {σ : Type} {f : σ → Option (Nat × σ)} {V : σ → Int32} {P : Nat × σ → Prop} (J : List Int32 → σ → Prop)
    (hstop : ∀ L z, J L z → CL X L (V z) → L = [] → o_ok (f z) (fun q => q.1 ≠ 0 ∧ P q))
    (hgo : ∀ y L z, J (y :: L) z → V z = y → 0 ≤ y → CL X L (X (gi y)) → o_ok (f z) (fun q => (q.1 = 0 → J L q.2 ∧ V q.2 = X (gi y)) ∧ (q.1 ≠ 0 → P q))) :
    ∀ (L : List Int32) (N : Nat) (z : σ), L.length < N → CL X L (V z) → J L z → o_ok (o_lp N f z) (fun q => q.1 ≠ 0 ∧ P q) := by
  intro L
  induction L with
  | nil =>
    intro N z hN hL hJ
    obtain ⟨M, rfl⟩ : ∃ M, N = M + 1 := ⟨N - 1, by have : 0 < N := hN; omega⟩
    refine lp_stop ?_
    obtain ⟨r, e, h1, h2⟩ := hstop [] z hJ hL rfl
    exact ⟨r, e, h1, h1, h2⟩
  | cons y L ih =>
    intro N z hN hL hJ
    obtain ⟨M, rfl⟩ : ∃ M, N = M + 1 := ⟨N - 1, by have := Nat.lt_of_le_of_lt (Nat.zero_le _) hN; omega⟩
    obtain ⟨e, k0, hL⟩ := hL
    obtain ⟨r, er, h1, h2⟩ := hgo y L z hJ e.symm (by rw [e]; exact k0) (by rw [e]; exact hL)
    by_cases h0 : r.1 = 0
    · obtain ⟨j1, j2⟩ := h1 h0
      refine lp_go ⟨r, er, h0, ih M r.2 (by have : (y :: L).length = L.length + 1 := rfl; omega) ?_ j1⟩
      rw [j2, e]; exact hL
    · exact lp_stop ⟨r, er, h0, h0, h2 h0⟩
theorem s_type_b86 {n : Nat} {x1 x2 : Int32} {M0 : SMT} {Nf : SNF} {L : List Int32} {z : Int32} (hn : o_big ≤ n) (hI : I_MT M0) (hT : T_MT M0) (hL : CL (MT_next M0) L z) (hlen : L.length ≤ 2000) (hv : ∀ y ∈ L, 0 ≤ y ∧ y < MT_values M0) (hm : x2 ∈ L) : o_ok (o_lp n (m_MM_type_b86 n x1 x2 M0 Nf) z) (fun q => q.1 ≠ 0 ∧ True) := by
  have h2 := hv x2 hm
  refine cl_lp (V := fun z => z) (fun L z => x2 ∈ L ∧ ∀ y ∈ L, 0 ≤ y ∧ y < MT_values M0) ?_ ?_ L n z (Nat.lt_of_le_of_lt hlen (Nat.lt_of_lt_of_le (by decide) hn)) hL ⟨hm, hv⟩
  · intro L z hJ _ e
    rw [e] at hJ
    cases hJ.1
  · intro y L z hJ ey y0 _
    obtain ⟨j1, j2⟩ := hJ
    obtain ⟨v0, v1⟩ := j2 y List.mem_cons_self
    have ey : z = y := ey
    subst ey
    unfold m_MM_type_b86
    refine o_okI (fun _ => o_okS ⟨fun e => absurd e (Nat.succ_ne_zero 1), fun _ => trivial⟩) (fun c => ?_)
    refine o_okB (s_MM_typeOf hn hI hT v0 v1) ?_
    intro q2 _
    refine o_okB (s_MM_typeOf hn hI hT h2.1 h2.2) ?_
    intro q3 _
    refine o_okI (fun _ => o_okS ⟨fun e => absurd e (Nat.succ_ne_zero 0), fun _ => trivial⟩) (fun _ => ?_)
    refine o_okG (o_inV hI v0 v1) (o_okN (fun w ew => o_okS ⟨fun _ => ⟨⟨?_, fun w hw => j2 w (List.mem_cons_of_mem _ hw)⟩, ew⟩, fun e => absurd rfl e⟩))
    rcases List.mem_cons.mp j1 with e | e
    · exact absurd e.symm c
    · exact e
theorem s_MM_type {n : Nat} {x1 : Int32} {M0 : SMT} {Nf : SNF} (hn : o_big ≤ n) (hI : I_MT M0) (hT : T_MT M0) (x0 : 0 ≤ x1) (xv : x1 < MT_values M0) : o_ok (m_MM_type n x1 M0 Nf) (fun r => (r = Nf ∨ NF_faultKind r ≠ 0) ∧ NF_checked r = NF_checked Nf) := by
  have gx := o_inV hI x0 xv
  obtain ⟨L, c1, c2, c3⟩ := tchain hI hT x0 xv
  have ft : ∀ v : Int32, o_ok (o_bd (m_MM_fault 1 v Nf) fun q => some q) (fun r => (r = Nf ∨ NF_faultKind r ≠ 0) ∧ NF_checked r = NF_checked Nf) := by
    intro v
    refine o_okB (s_MM_fault (by decide)) ?_
    intro q ⟨f1, f2⟩
    exact o_okS ⟨Or.inr f1, f2⟩
  unfold m_MM_type
  refine o_okG gx (o_okI (fun _ => o_okG gx (o_okI (fun _ => ft x1) (fun _ => o_okG gx (o_okN (fun w ew => ?_))))) (fun _ => ?_))
  · have ew : w = MT_first M0 (gi x1) := ew
    refine o_okB (cl_lp (P := fun _ => True) (V := fun z => z) (fun L2 z => ∀ y ∈ L2, y ∈ L) ?_ ?_ L n w (Nat.lt_of_le_of_lt c2 (Nat.lt_of_lt_of_le (by decide) hn)) (by rw [ew]; exact c1) (fun y h => h)) ?_
    · intro L2 z hJ hL e
      rw [e] at hL
      have hz : z = -1 := hL
      subst hz
      unfold m_MM_type_b57
      exact o_okI (fun _ => o_okS ⟨Nat.succ_ne_zero 2, trivial⟩) (fun c => absurd (show (-1:Int32) < 0 by decide) c)
    · intro y L2 z hJ ey y0 _
      have hy := hJ y List.mem_cons_self
      obtain ⟨v2, v0, v1⟩ := c3 y hy
      have ey : z = y := ey
      subst ey
      unfold m_MM_type_b57
      refine o_okI (fun c => absurd v0 (by have c : z < 0 := c; exact Int32.not_le.mpr c)) (fun _ => ?_)
      refine o_okB (s_MM_typeOf hn hI hT v0 v1) ?_
      intro q1 _
      refine o_okI (fun _ => ?_) (fun _ => o_okS ⟨fun e => absurd e (Nat.succ_ne_zero 0), fun _ => trivial⟩)
      refine o_okG gx (o_okN (fun k ek => ?_))
      have ek : k = MT_first M0 (gi x1) := ek
      refine o_okB (s_type_b86 (L := L) hn hI hT (by rw [ek]; exact c1) c2 (fun u hu => (c3 u hu).2) hy) ?_
      intro q4 _
      refine o_okI (fun _ => o_okS ⟨fun e => absurd e (Nat.succ_ne_zero 1), fun _ => trivial⟩) (fun _ => ?_)
      exact o_okG (o_inV hI v0 v1) (o_okN (fun u eu => o_okS ⟨fun _ => ⟨fun w hw => hJ w (List.mem_cons_of_mem _ hw), eu⟩, fun e => absurd rfl e⟩))
    · intro q5 _
      refine o_okI (fun _ => ft _) (fun _ => o_okI (fun _ => ft _) (fun _ => o_okS ⟨Or.inl rfl, rfl⟩))
  · refine o_okB (s_MM_typeOf hn hI hT x0 xv) ?_
    intro q9 _
    exact o_okI (fun _ => o_okS ⟨Or.inl rfl, rfl⟩) (fun _ => ft x1)
/-- all in a row are strings -/
def ASTR (s : SMT) (m : Int32) : Prop := MT_kind s (gi m) = 5 ∧ ∃ L, CL (MT_next s) L (MT_first s (gi m)) ∧ ∀ y ∈ L, MT_kind s (gi y) = 4
theorem s_strings_b64 {n : Nat} {x1 x2 : Int32} {M0 : SMT} {Nf : SNF} {L : List Int32} {z : Int32} (hn : o_big ≤ n) (hI : I_MT M0) (hT : T_MT M0) (hk2 : MT_kind M0 (gi x2) = 4) (hL : CL (MT_next M0) L z) (hlen : L.length ≤ 2000) (hv : ∀ y ∈ L, 0 ≤ y ∧ y < MT_values M0) (hm : x2 ∈ L) (hs : ∀ (A B : List Int32), L = A ++ x2 :: B → ∀ y ∈ A, MT_kind M0 (gi y) = 4) : o_ok (o_lp n (m_MM_strings_b64 n x1 x2 M0 Nf) z) (fun q => q.1 ≠ 0 ∧ True) := by
  have h2 := hv x2 hm
  refine cl_lp (V := fun z => z) (fun L z => x2 ∈ L ∧ (∀ y ∈ L, 0 ≤ y ∧ y < MT_values M0) ∧ ∀ (A B : List Int32), L = A ++ x2 :: B → ∀ y ∈ A, MT_kind M0 (gi y) = 4) ?_ ?_ L n z (Nat.lt_of_le_of_lt hlen (Nat.lt_of_lt_of_le (by decide) hn)) hL ⟨hm, hv, hs⟩
  · intro L z hJ _ e
    rw [e] at hJ
    cases hJ.1
  · intro y L z hJ ey y0 _
    obtain ⟨j1, j2, j3⟩ := hJ
    obtain ⟨v0, v1⟩ := j2 y List.mem_cons_self
    have ey : z = y := ey
    subst ey
    unfold m_MM_strings_b64
    refine o_okI (fun _ => o_okS ⟨fun e => absurd e (Nat.succ_ne_zero 1), fun _ => trivial⟩) (fun c => ?_)
    have hin : x2 ∈ L := by
      rcases List.mem_cons.mp j1 with e | e
      · exact absurd e.symm c
      · exact e
    obtain ⟨A, B, hAB⟩ := List.append_of_mem hin
    have hkz : MT_kind M0 (gi z) = 4 := j3 (z :: A) B (by rw [hAB]; rfl) z List.mem_cons_self
    refine o_okB (s_MT_same hn hI hT hI hT h2.1 h2.2 hk2 v0 v1 hkz) ?_
    intro q1 _
    refine o_okI (fun _ => ?_) (fun _ => o_okS ⟨fun e => absurd e (Nat.succ_ne_zero 0), fun _ => trivial⟩)
    refine o_okG (o_inV hI v0 v1) (o_okN (fun w ew => o_okS ⟨fun _ => ⟨⟨hin, fun w hw => j2 w (List.mem_cons_of_mem _ hw), fun A B e w hw => ?_⟩, ew⟩, fun e => absurd rfl e⟩))
    exact j3 (z :: A) B (by rw [e]; rfl) w (List.mem_cons_of_mem _ hw)
