theorem s_MT_is_b17 {n : Nat} {x1 : Int32} {x2 : Nat} {a0 : SMT} {z : Int32} (hn : o_big ≤ n) (h_a0 : I_MT a0) (t_a0 : T_MT a0) (p0 : 0 ≤ x1) (p1 : x1 < 1000) (p2 : 0 ≤ MT_from a0 x1.toNatClampNeg) (p3 : MT_from a0 x1.toNatClampNeg ≤ 4000) (p4 : o_sl x2 ≤ 4000 - MT_from a0 x1.toNatClampNeg) (l0 : 0 ≤ z) : o_ok (m_MT_is_b17 n x1 x2 a0 z) (fun q => (q.1 = 0 → 0 ≤ q.2 ∧ o_mu q.2 < o_mu z) ∧ (q.1 ≠ 0 → True)) := by
  unfold m_MT_is_b17
  refine o_okB (s_JS_length ) ?_
  intro q2_1 g2
  refine o_okI (fun c3 => ?_) (fun c3 => ?_)
  · refine o_okS ?_
    refine ⟨fun h => absurd (show (2 : Nat) = 0 from h) (by decide), fun _ => ?_⟩
    trivial
  · refine o_okG (o_inM (m := 1000) rfl (by first | with_reducible exact True.intro | with_reducible assumption | grind [-Prod, o_slB, → sc_EX] | grind [-Prod, → sc_MT, o_slB, → sc_EX] | grind [-Prod, I_MT, o_bn, upd, o_slB]) (by first | with_reducible exact True.intro | with_reducible assumption | grind [-Prod, o_slB, → sc_EX] | grind [-Prod, → sc_MT, o_slB, → sc_EX] | grind [-Prod, I_MT, o_bn, upd, o_slB])) ?_
    refine o_okG (o_inM (m := 4000) rfl (by first | with_reducible exact True.intro | with_reducible assumption | grind [-Prod, o_slB, → sc_EX] | grind [-Prod, → sc_MT, o_slB, → sc_EX] | grind [-Prod, I_MT, o_bn, upd, o_slB]) (by first | with_reducible exact True.intro | with_reducible assumption | grind [-Prod, o_slB, → sc_EX] | grind [-Prod, → sc_MT, o_slB, → sc_EX] | grind [-Prod, I_MT, o_bn, upd, o_slB])) ?_
    refine o_okB (s_JS_charAt  (by first | with_reducible exact True.intro | with_reducible assumption | grind [-Prod, o_slB, → sc_EX] | grind [-Prod, → sc_MT, o_slB, → sc_EX] | grind [-Prod, I_MT, o_bn, upd, o_slB]) (by first | with_reducible exact True.intro | with_reducible assumption | grind [-Prod, o_slB, → sc_EX] | grind [-Prod, → sc_MT, o_slB, → sc_EX] | grind [-Prod, I_MT, o_bn, upd, o_slB])) ?_
    intro q3_4 _
    refine o_okI (fun c5 => ?_) (fun c5 => ?_)
    · refine o_okN (fun x3_48_6 ex3_48_6 => ?_)
      refine o_okS ?_
      refine ⟨fun _ => ?_, fun h => absurd rfl h⟩
      refine ⟨?_, ?_⟩
      · first | with_reducible exact True.intro | with_reducible assumption | grind [-Prod, o_slB, → sc_EX] | grind [-Prod, → sc_MT, o_slB, → sc_EX] | grind [-Prod, I_MT, o_bn, upd, o_slB]
      · first | exact o_muL (by first | with_reducible exact True.intro | with_reducible assumption | grind [-Prod, o_slB, → sc_EX] | grind [-Prod, → sc_MT, o_slB, → sc_EX] | grind [-Prod, I_MT, o_bn, upd, o_slB]) | exact o_nuL (by first | with_reducible exact True.intro | with_reducible assumption | grind [-Prod, o_slB, → sc_EX] | grind [-Prod, → sc_MT, o_slB, → sc_EX] | grind [-Prod, I_MT, o_bn, upd, o_slB]) | (first | with_reducible exact True.intro | with_reducible assumption | grind [-Prod, o_slB, → sc_EX] | grind [-Prod, → sc_MT, o_slB, → sc_EX] | grind [-Prod, I_MT, o_bn, upd, o_slB])
    · refine o_okS ?_
      refine ⟨fun h => absurd (show (1 : Nat) = 0 from h) (by decide), fun _ => ?_⟩
      trivial
theorem l_MT_is_b17 {n : Nat} {x1 : Int32} {x2 : Nat} {a0 : SMT} {z : Int32} (hn : o_big ≤ n) (h_a0 : I_MT a0) (t_a0 : T_MT a0) (p0 : 0 ≤ x1) (p1 : x1 < 1000) (p2 : 0 ≤ MT_from a0 x1.toNatClampNeg) (p3 : MT_from a0 x1.toNatClampNeg ≤ 4000) (p4 : o_sl x2 ≤ 4000 - MT_from a0 x1.toNatClampNeg) (l0 : 0 ≤ z) : o_ok (o_lp n (m_MT_is_b17 n x1 x2 a0) z) (fun q => q.1 ≠ 0 ∧ True) := by
  exact o_lpR (fun z => 0 ≤ z) (fun z => o_mu z) hn (o_muB) l0
    (fun z hz => by have l0 := hz; exact o_okW (s_MT_is_b17 hn h_a0 t_a0 p0 p1 p2 p3 p4 l0) (fun q hq => ⟨fun h => by have := hq.1 h; grind, hq.2⟩))
theorem s_MT_is {n : Nat} {x1 : Int32} {x2 : Nat} {a0 : SMT} (hn : o_big ≤ n) (h_a0 : I_MT a0) (t_a0 : T_MT a0) (p0 : 0 ≤ x1) (p1 : x1 < MT_values a0) (p2 : MT_kind a0 x1.toNatClampNeg = 4) : o_ok (m_MT_is n x1 x2 a0) (fun r => (r = 0 ∨ r = 1)) := by
  obtain ⟨f1, f2, f3, f4⟩ := (t_a0 x1 p0 p1).2.2.2.2.1 p2
  unfold m_MT_is
  refine o_okG (o_inM (m := 1000) rfl (by first | with_reducible exact True.intro | with_reducible assumption | grind [-Prod, → sc_EX] | grind [-Prod, → sc_MT, → sc_EX] | grind [-Prod, I_MT, o_bn, upd]) (by first | with_reducible exact True.intro | with_reducible assumption | grind [-Prod, → sc_EX] | grind [-Prod, → sc_MT, → sc_EX] | grind [-Prod, I_MT, o_bn, upd])) ?_
  refine o_okB (s_JS_length ) ?_
  intro q1_1 g2
  refine o_okI (fun c3 => ?_) (fun c3 => ?_)
  · refine o_okB (l_MT_is_b17  hn h_a0 t_a0 (by first | with_reducible exact True.intro | with_reducible assumption | grind [-Prod, → sc_EX] | grind [-Prod, → sc_MT, → sc_EX] | grind [-Prod, I_MT, o_bn, upd]) (by first | with_reducible exact True.intro | with_reducible assumption | grind [-Prod, → sc_EX] | grind [-Prod, → sc_MT, → sc_EX] | grind [-Prod, I_MT, o_bn, upd]) (by first | with_reducible exact True.intro | with_reducible assumption | grind [-Prod, → sc_EX] | grind [-Prod, → sc_MT, → sc_EX] | grind [-Prod, I_MT, o_bn, upd]) (by first | with_reducible exact True.intro | with_reducible assumption | grind [-Prod, → sc_EX] | grind [-Prod, → sc_MT, → sc_EX] | grind [-Prod, I_MT, o_bn, upd]) (by first | with_reducible exact True.intro | with_reducible assumption | grind [-Prod, → sc_EX] | grind [-Prod, → sc_MT, → sc_EX] | grind [-Prod, I_MT, o_bn, upd]) (by first | with_reducible exact True.intro | with_reducible assumption | grind [-Prod, → sc_EX] | grind [-Prod, → sc_MT, → sc_EX] | grind [-Prod, I_MT, o_bn, upd])) ?_
    intro q4_4 ⟨yq4_4, _⟩
    refine o_okI (fun c5 => ?_) (fun c5 => ?_)
    · refine o_okS ?_
      first | with_reducible exact True.intro | with_reducible assumption | grind [-Prod, → sc_EX] | grind [-Prod, → sc_MT, → sc_EX] | grind [-Prod, I_MT, o_bn, upd]
    · refine o_okS ?_
      first | with_reducible exact True.intro | with_reducible assumption | grind [-Prod, → sc_EX] | grind [-Prod, → sc_MT, → sc_EX] | grind [-Prod, I_MT, o_bn, upd]
  · refine o_okS ?_
    first | with_reducible exact True.intro | with_reducible assumption | grind [-Prod, → sc_EX] | grind [-Prod, → sc_MT, → sc_EX] | grind [-Prod, I_MT, o_bn, upd]
theorem s_MT_isWhole {x1 : Int32} {a0 : SMT} (h_a0 : I_MT a0) (t_a0 : T_MT a0) (p0 : 0 ≤ x1) (p1 : x1 < MT_values a0) : o_ok (m_MT_isWhole x1 a0) (fun r => (r = 0 ∨ r = 1) ∧ (r ≠ 0 → MT_kind a0 x1.toNatClampNeg = 3 ∧ 0 ≤ MT_power a0 x1.toNatClampNeg)) := by
  unfold m_MT_isWhole
  refine o_okG (o_inM (m := 1000) rfl (by first | with_reducible exact True.intro | with_reducible assumption | grind [-Prod, → sc_EX] | grind [-Prod, → sc_MT, → sc_EX] | grind [-Prod, I_MT, o_bn, upd]) (by first | with_reducible exact True.intro | with_reducible assumption | grind [-Prod, → sc_EX] | grind [-Prod, → sc_MT, → sc_EX] | grind [-Prod, I_MT, o_bn, upd])) ?_
  refine o_okI (fun c1 => ?_) (fun c1 => ?_)
  · refine o_okG (o_inM (m := 1000) rfl (by first | with_reducible exact True.intro | with_reducible assumption | grind [-Prod, → sc_EX] | grind [-Prod, → sc_MT, → sc_EX] | grind [-Prod, I_MT, o_bn, upd]) (by first | with_reducible exact True.intro | with_reducible assumption | grind [-Prod, → sc_EX] | grind [-Prod, → sc_MT, → sc_EX] | grind [-Prod, I_MT, o_bn, upd])) ?_
    refine o_okI (fun c2 => ?_) (fun c2 => ?_)
    · refine o_okS ?_
      refine ⟨?_, ?_⟩
      · first | with_reducible exact True.intro | with_reducible assumption | grind [-Prod, → sc_EX] | grind [-Prod, → sc_MT, → sc_EX] | grind [-Prod, I_MT, o_bn, upd]
      · first | with_reducible exact True.intro | with_reducible assumption | grind [-Prod, → sc_EX] | grind [-Prod, → sc_MT, → sc_EX] | grind [-Prod, I_MT, o_bn, upd]
    · refine o_okS ?_
      refine ⟨?_, ?_⟩
      · first | with_reducible exact True.intro | with_reducible assumption | grind [-Prod, → sc_EX] | grind [-Prod, → sc_MT, → sc_EX] | grind [-Prod, I_MT, o_bn, upd]
      · first | with_reducible exact True.intro | with_reducible assumption | grind [-Prod, → sc_EX] | grind [-Prod, → sc_MT, → sc_EX] | grind [-Prod, I_MT, o_bn, upd]
  · refine o_okS ?_
    refine ⟨?_, ?_⟩
    · first | with_reducible exact True.intro | with_reducible assumption | grind [-Prod, → sc_EX] | grind [-Prod, → sc_MT, → sc_EX] | grind [-Prod, I_MT, o_bn, upd]
    · first | with_reducible exact True.intro | with_reducible assumption | grind [-Prod, → sc_EX] | grind [-Prod, → sc_MT, → sc_EX] | grind [-Prod, I_MT, o_bn, upd]
set_option maxHeartbeats 8000000 in
theorem s_MT_compare_b150 {n : Nat} {x1 : Int32} {x3 : Int32} {x4 : Int32} {a0 : SMT} {a2 : SMT} {z : Int32 × Int32 × Int32} (hn : o_big ≤ n) (h_a0 : I_MT a0) (t_a0 : T_MT a0) (h_a2 : I_MT a2) (t_a2 : T_MT a2) (p0 : 0 ≤ x1) (p1 : x1 < 1000) (p2 : 0 ≤ x3) (p3 : x3 < 1000) (p4 : 0 ≤ MT_from a0 x1.toNatClampNeg) (p5 : MT_from a0 x1.toNatClampNeg ≤ 8192) (p6 : MT_many a0 x1.toNatClampNeg ≤ 8192 - MT_from a0 x1.toNatClampNeg) (p7 : 0 ≤ MT_from a2 x3.toNatClampNeg) (p8 : MT_from a2 x3.toNatClampNeg ≤ 8192) (p9 : MT_many a2 x3.toNatClampNeg ≤ 8192 - MT_from a2 x3.toNatClampNeg) (l0 : 0 ≤ z.1) : o_ok (m_MT_compare_b150 n x1 x3 x4 a0 a2 z) (fun q => (q.1 = 0 → 0 ≤ q.2.1 ∧ o_mu q.2.1 < o_mu z.1) ∧ (q.1 ≠ 0 → True)) := by
  unfold m_MT_compare_b150
  refine o_okG (o_inM (m := 1000) rfl (by first | with_reducible exact True.intro | with_reducible assumption | grind [-Prod, → sc_EX] | grind [-Prod, → sc_MT, → sc_EX] | grind [-Prod, I_MT, o_bn, upd]) (by first | with_reducible exact True.intro | with_reducible assumption | grind [-Prod, → sc_EX] | grind [-Prod, → sc_MT, → sc_EX] | grind [-Prod, I_MT, o_bn, upd])) ?_
  refine o_okI (fun c1 => ?_) (fun c1 => ?_)
  · unfold m_MT_compare_j172
    refine o_okG (o_inM (m := 1000) rfl (by first | with_reducible exact True.intro | with_reducible assumption | grind [-Prod, → sc_EX] | grind [-Prod, → sc_MT, → sc_EX] | grind [-Prod, I_MT, o_bn, upd]) (by first | with_reducible exact True.intro | with_reducible assumption | grind [-Prod, → sc_EX] | grind [-Prod, → sc_MT, → sc_EX] | grind [-Prod, I_MT, o_bn, upd])) ?_
    refine o_okI (fun c2 => ?_) (fun c2 => ?_)
    · unfold m_MT_compare_j201
      refine o_okG (o_inM (m := 1000) rfl (by first | with_reducible exact True.intro | with_reducible assumption | grind [-Prod, → sc_EX] | grind [-Prod, → sc_MT, → sc_EX] | grind [-Prod, I_MT, o_bn, upd]) (by first | with_reducible exact True.intro | with_reducible assumption | grind [-Prod, → sc_EX] | grind [-Prod, → sc_MT, → sc_EX] | grind [-Prod, I_MT, o_bn, upd])) ?_
      refine o_okI (fun c3 => ?_) (fun c3 => ?_)
      · unfold m_MT_compare_j232
        refine o_okI (fun c4 => ?_) (fun c4 => ?_)
        · refine o_okN (fun x8_257_5 ex8_257_5 => ?_)
          refine o_okS ?_
          refine ⟨fun _ => ?_, fun h => absurd rfl h⟩
          refine ⟨?_, ?_⟩
          · first | with_reducible exact True.intro | with_reducible assumption | grind [-Prod, → sc_EX] | grind [-Prod, → sc_MT, → sc_EX] | grind [-Prod, I_MT, o_bn, upd]
          · first | exact o_muL (by first | with_reducible exact True.intro | with_reducible assumption | grind [-Prod, → sc_EX] | grind [-Prod, → sc_MT, → sc_EX] | grind [-Prod, I_MT, o_bn, upd]) | exact o_nuL (by first | with_reducible exact True.intro | with_reducible assumption | grind [-Prod, → sc_EX] | grind [-Prod, → sc_MT, → sc_EX] | grind [-Prod, I_MT, o_bn, upd]) | (first | with_reducible exact True.intro | with_reducible assumption | grind [-Prod, → sc_EX] | grind [-Prod, → sc_MT, → sc_EX] | grind [-Prod, I_MT, o_bn, upd])
        · refine o_okS ?_
          refine ⟨fun h => absurd (show (1 : Nat) = 0 from h) (by decide), fun _ => ?_⟩
          trivial
      · refine o_okG (o_inM (m := 1000) rfl (by first | with_reducible exact True.intro | with_reducible assumption | grind [-Prod, → sc_EX] | grind [-Prod, → sc_MT, → sc_EX] | grind [-Prod, I_MT, o_bn, upd]) (by first | with_reducible exact True.intro | with_reducible assumption | grind [-Prod, → sc_EX] | grind [-Prod, → sc_MT, → sc_EX] | grind [-Prod, I_MT, o_bn, upd])) ?_
        refine o_okG (o_inM (m := 8192) rfl (by first | with_reducible exact True.intro | with_reducible assumption | grind [-Prod, → sc_EX] | grind [-Prod, → sc_MT, → sc_EX] | grind [-Prod, I_MT, o_bn, upd]) (by first | with_reducible exact True.intro | with_reducible assumption | grind [-Prod, → sc_EX] | grind [-Prod, → sc_MT, → sc_EX] | grind [-Prod, I_MT, o_bn, upd])) ?_
        unfold m_MT_compare_j232
        refine o_okI (fun c6 => ?_) (fun c6 => ?_)
        · refine o_okN (fun x8_257_7 ex8_257_7 => ?_)
          refine o_okS ?_
          refine ⟨fun _ => ?_, fun h => absurd rfl h⟩
          refine ⟨?_, ?_⟩
          · first | with_reducible exact True.intro | with_reducible assumption | grind [-Prod, → sc_EX] | grind [-Prod, → sc_MT, → sc_EX] | grind [-Prod, I_MT, o_bn, upd]
          · first | exact o_muL (by first | with_reducible exact True.intro | with_reducible assumption | grind [-Prod, → sc_EX] | grind [-Prod, → sc_MT, → sc_EX] | grind [-Prod, I_MT, o_bn, upd]) | exact o_nuL (by first | with_reducible exact True.intro | with_reducible assumption | grind [-Prod, → sc_EX] | grind [-Prod, → sc_MT, → sc_EX] | grind [-Prod, I_MT, o_bn, upd]) | (first | with_reducible exact True.intro | with_reducible assumption | grind [-Prod, → sc_EX] | grind [-Prod, → sc_MT, → sc_EX] | grind [-Prod, I_MT, o_bn, upd])
        · refine o_okS ?_
          refine ⟨fun h => absurd (show (1 : Nat) = 0 from h) (by decide), fun _ => ?_⟩
          trivial
    · refine o_okG (o_inM (m := 1000) rfl (by first | with_reducible exact True.intro | with_reducible assumption | grind [-Prod, → sc_EX] | grind [-Prod, → sc_MT, → sc_EX] | grind [-Prod, I_MT, o_bn, upd]) (by first | with_reducible exact True.intro | with_reducible assumption | grind [-Prod, → sc_EX] | grind [-Prod, → sc_MT, → sc_EX] | grind [-Prod, I_MT, o_bn, upd])) ?_
      refine o_okG (o_inM (m := 8192) rfl (by first | with_reducible exact True.intro | with_reducible assumption | grind [-Prod, → sc_EX] | grind [-Prod, → sc_MT, → sc_EX] | grind [-Prod, I_MT, o_bn, upd]) (by first | with_reducible exact True.intro | with_reducible assumption | grind [-Prod, → sc_EX] | grind [-Prod, → sc_MT, → sc_EX] | grind [-Prod, I_MT, o_bn, upd])) ?_
      unfold m_MT_compare_j201
      refine o_okG (o_inM (m := 1000) rfl (by first | with_reducible exact True.intro | with_reducible assumption | grind [-Prod, → sc_EX] | grind [-Prod, → sc_MT, → sc_EX] | grind [-Prod, I_MT, o_bn, upd]) (by first | with_reducible exact True.intro | with_reducible assumption | grind [-Prod, → sc_EX] | grind [-Prod, → sc_MT, → sc_EX] | grind [-Prod, I_MT, o_bn, upd])) ?_
      refine o_okI (fun c8 => ?_) (fun c8 => ?_)
      · unfold m_MT_compare_j232
        refine o_okI (fun c9 => ?_) (fun c9 => ?_)
        · refine o_okN (fun x8_257_10 ex8_257_10 => ?_)
          refine o_okS ?_
          refine ⟨fun _ => ?_, fun h => absurd rfl h⟩
          refine ⟨?_, ?_⟩
          · first | with_reducible exact True.intro | with_reducible assumption | grind [-Prod, → sc_EX] | grind [-Prod, → sc_MT, → sc_EX] | grind [-Prod, I_MT, o_bn, upd]
          · first | exact o_muL (by first | with_reducible exact True.intro | with_reducible assumption | grind [-Prod, → sc_EX] | grind [-Prod, → sc_MT, → sc_EX] | grind [-Prod, I_MT, o_bn, upd]) | exact o_nuL (by first | with_reducible exact True.intro | with_reducible assumption | grind [-Prod, → sc_EX] | grind [-Prod, → sc_MT, → sc_EX] | grind [-Prod, I_MT, o_bn, upd]) | (first | with_reducible exact True.intro | with_reducible assumption | grind [-Prod, → sc_EX] | grind [-Prod, → sc_MT, → sc_EX] | grind [-Prod, I_MT, o_bn, upd])
        · refine o_okS ?_
          refine ⟨fun h => absurd (show (1 : Nat) = 0 from h) (by decide), fun _ => ?_⟩
          trivial
      · refine o_okG (o_inM (m := 1000) rfl (by first | with_reducible exact True.intro | with_reducible assumption | grind [-Prod, → sc_EX] | grind [-Prod, → sc_MT, → sc_EX] | grind [-Prod, I_MT, o_bn, upd]) (by first | with_reducible exact True.intro | with_reducible assumption | grind [-Prod, → sc_EX] | grind [-Prod, → sc_MT, → sc_EX] | grind [-Prod, I_MT, o_bn, upd])) ?_
        refine o_okG (o_inM (m := 8192) rfl (by first | with_reducible exact True.intro | with_reducible assumption | grind [-Prod, → sc_EX] | grind [-Prod, → sc_MT, → sc_EX] | grind [-Prod, I_MT, o_bn, upd]) (by first | with_reducible exact True.intro | with_reducible assumption | grind [-Prod, → sc_EX] | grind [-Prod, → sc_MT, → sc_EX] | grind [-Prod, I_MT, o_bn, upd])) ?_
        unfold m_MT_compare_j232
        refine o_okI (fun c11 => ?_) (fun c11 => ?_)
        · refine o_okN (fun x8_257_12 ex8_257_12 => ?_)
          refine o_okS ?_
          refine ⟨fun _ => ?_, fun h => absurd rfl h⟩
          refine ⟨?_, ?_⟩
          · first | with_reducible exact True.intro | with_reducible assumption | grind [-Prod, → sc_EX] | grind [-Prod, → sc_MT, → sc_EX] | grind [-Prod, I_MT, o_bn, upd]
          · first | exact o_muL (by first | with_reducible exact True.intro | with_reducible assumption | grind [-Prod, → sc_EX] | grind [-Prod, → sc_MT, → sc_EX] | grind [-Prod, I_MT, o_bn, upd]) | exact o_nuL (by first | with_reducible exact True.intro | with_reducible assumption | grind [-Prod, → sc_EX] | grind [-Prod, → sc_MT, → sc_EX] | grind [-Prod, I_MT, o_bn, upd]) | (first | with_reducible exact True.intro | with_reducible assumption | grind [-Prod, → sc_EX] | grind [-Prod, → sc_MT, → sc_EX] | grind [-Prod, I_MT, o_bn, upd])
        · refine o_okS ?_
          refine ⟨fun h => absurd (show (1 : Nat) = 0 from h) (by decide), fun _ => ?_⟩
          trivial
  · refine o_okG (o_inM (m := 1000) rfl (by first | with_reducible exact True.intro | with_reducible assumption | grind [-Prod, → sc_EX] | grind [-Prod, → sc_MT, → sc_EX] | grind [-Prod, I_MT, o_bn, upd]) (by first | with_reducible exact True.intro | with_reducible assumption | grind [-Prod, → sc_EX] | grind [-Prod, → sc_MT, → sc_EX] | grind [-Prod, I_MT, o_bn, upd])) ?_
    refine o_okI (fun c13 => ?_) (fun c13 => ?_)
    · refine o_okS ?_
      refine ⟨fun h => absurd (show (2 : Nat) = 0 from h) (by decide), fun _ => ?_⟩
      trivial
    · unfold m_MT_compare_j172
      refine o_okG (o_inM (m := 1000) rfl (by first | with_reducible exact True.intro | with_reducible assumption | grind [-Prod, → sc_EX] | grind [-Prod, → sc_MT, → sc_EX] | grind [-Prod, I_MT, o_bn, upd]) (by first | with_reducible exact True.intro | with_reducible assumption | grind [-Prod, → sc_EX] | grind [-Prod, → sc_MT, → sc_EX] | grind [-Prod, I_MT, o_bn, upd])) ?_
      refine o_okI (fun c14 => ?_) (fun c14 => ?_)
      · unfold m_MT_compare_j201
        refine o_okG (o_inM (m := 1000) rfl (by first | with_reducible exact True.intro | with_reducible assumption | grind [-Prod, → sc_EX] | grind [-Prod, → sc_MT, → sc_EX] | grind [-Prod, I_MT, o_bn, upd]) (by first | with_reducible exact True.intro | with_reducible assumption | grind [-Prod, → sc_EX] | grind [-Prod, → sc_MT, → sc_EX] | grind [-Prod, I_MT, o_bn, upd])) ?_
        refine o_okI (fun c15 => ?_) (fun c15 => ?_)
        · unfold m_MT_compare_j232
          refine o_okI (fun c16 => ?_) (fun c16 => ?_)
          · refine o_okN (fun x8_257_17 ex8_257_17 => ?_)
            refine o_okS ?_
            refine ⟨fun _ => ?_, fun h => absurd rfl h⟩
            refine ⟨?_, ?_⟩
            · first | with_reducible exact True.intro | with_reducible assumption | grind [-Prod, → sc_EX] | grind [-Prod, → sc_MT, → sc_EX] | grind [-Prod, I_MT, o_bn, upd]
            · first | exact o_muL (by first | with_reducible exact True.intro | with_reducible assumption | grind [-Prod, → sc_EX] | grind [-Prod, → sc_MT, → sc_EX] | grind [-Prod, I_MT, o_bn, upd]) | exact o_nuL (by first | with_reducible exact True.intro | with_reducible assumption | grind [-Prod, → sc_EX] | grind [-Prod, → sc_MT, → sc_EX] | grind [-Prod, I_MT, o_bn, upd]) | (first | with_reducible exact True.intro | with_reducible assumption | grind [-Prod, → sc_EX] | grind [-Prod, → sc_MT, → sc_EX] | grind [-Prod, I_MT, o_bn, upd])
          · refine o_okS ?_
            refine ⟨fun h => absurd (show (1 : Nat) = 0 from h) (by decide), fun _ => ?_⟩
            trivial
        · refine o_okG (o_inM (m := 1000) rfl (by first | with_reducible exact True.intro | with_reducible assumption | grind [-Prod, → sc_EX] | grind [-Prod, → sc_MT, → sc_EX] | grind [-Prod, I_MT, o_bn, upd]) (by first | with_reducible exact True.intro | with_reducible assumption | grind [-Prod, → sc_EX] | grind [-Prod, → sc_MT, → sc_EX] | grind [-Prod, I_MT, o_bn, upd])) ?_
          refine o_okG (o_inM (m := 8192) rfl (by first | with_reducible exact True.intro | with_reducible assumption | grind [-Prod, → sc_EX] | grind [-Prod, → sc_MT, → sc_EX] | grind [-Prod, I_MT, o_bn, upd]) (by first | with_reducible exact True.intro | with_reducible assumption | grind [-Prod, → sc_EX] | grind [-Prod, → sc_MT, → sc_EX] | grind [-Prod, I_MT, o_bn, upd])) ?_
          unfold m_MT_compare_j232
          refine o_okI (fun c18 => ?_) (fun c18 => ?_)
          · refine o_okN (fun x8_257_19 ex8_257_19 => ?_)
            refine o_okS ?_
            refine ⟨fun _ => ?_, fun h => absurd rfl h⟩
            refine ⟨?_, ?_⟩
            · first | with_reducible exact True.intro | with_reducible assumption | grind [-Prod, → sc_EX] | grind [-Prod, → sc_MT, → sc_EX] | grind [-Prod, I_MT, o_bn, upd]
            · first | exact o_muL (by first | with_reducible exact True.intro | with_reducible assumption | grind [-Prod, → sc_EX] | grind [-Prod, → sc_MT, → sc_EX] | grind [-Prod, I_MT, o_bn, upd]) | exact o_nuL (by first | with_reducible exact True.intro | with_reducible assumption | grind [-Prod, → sc_EX] | grind [-Prod, → sc_MT, → sc_EX] | grind [-Prod, I_MT, o_bn, upd]) | (first | with_reducible exact True.intro | with_reducible assumption | grind [-Prod, → sc_EX] | grind [-Prod, → sc_MT, → sc_EX] | grind [-Prod, I_MT, o_bn, upd])
          · refine o_okS ?_
            refine ⟨fun h => absurd (show (1 : Nat) = 0 from h) (by decide), fun _ => ?_⟩
            trivial
      · refine o_okG (o_inM (m := 1000) rfl (by first | with_reducible exact True.intro | with_reducible assumption | grind [-Prod, → sc_EX] | grind [-Prod, → sc_MT, → sc_EX] | grind [-Prod, I_MT, o_bn, upd]) (by first | with_reducible exact True.intro | with_reducible assumption | grind [-Prod, → sc_EX] | grind [-Prod, → sc_MT, → sc_EX] | grind [-Prod, I_MT, o_bn, upd])) ?_
        refine o_okG (o_inM (m := 8192) rfl (by first | with_reducible exact True.intro | with_reducible assumption | grind [-Prod, → sc_EX] | grind [-Prod, → sc_MT, → sc_EX] | grind [-Prod, I_MT, o_bn, upd]) (by first | with_reducible exact True.intro | with_reducible assumption | grind [-Prod, → sc_EX] | grind [-Prod, → sc_MT, → sc_EX] | grind [-Prod, I_MT, o_bn, upd])) ?_
        unfold m_MT_compare_j201
        refine o_okG (o_inM (m := 1000) rfl (by first | with_reducible exact True.intro | with_reducible assumption | grind [-Prod, → sc_EX] | grind [-Prod, → sc_MT, → sc_EX] | grind [-Prod, I_MT, o_bn, upd]) (by first | with_reducible exact True.intro | with_reducible assumption | grind [-Prod, → sc_EX] | grind [-Prod, → sc_MT, → sc_EX] | grind [-Prod, I_MT, o_bn, upd])) ?_
        refine o_okI (fun c20 => ?_) (fun c20 => ?_)
        · unfold m_MT_compare_j232
          refine o_okI (fun c21 => ?_) (fun c21 => ?_)
          · refine o_okN (fun x8_257_22 ex8_257_22 => ?_)
            refine o_okS ?_
            refine ⟨fun _ => ?_, fun h => absurd rfl h⟩
            refine ⟨?_, ?_⟩
            · first | with_reducible exact True.intro | with_reducible assumption | grind [-Prod, → sc_EX] | grind [-Prod, → sc_MT, → sc_EX] | grind [-Prod, I_MT, o_bn, upd]
            · first | exact o_muL (by first | with_reducible exact True.intro | with_reducible assumption | grind [-Prod, → sc_EX] | grind [-Prod, → sc_MT, → sc_EX] | grind [-Prod, I_MT, o_bn, upd]) | exact o_nuL (by first | with_reducible exact True.intro | with_reducible assumption | grind [-Prod, → sc_EX] | grind [-Prod, → sc_MT, → sc_EX] | grind [-Prod, I_MT, o_bn, upd]) | (first | with_reducible exact True.intro | with_reducible assumption | grind [-Prod, → sc_EX] | grind [-Prod, → sc_MT, → sc_EX] | grind [-Prod, I_MT, o_bn, upd])
          · refine o_okS ?_
            refine ⟨fun h => absurd (show (1 : Nat) = 0 from h) (by decide), fun _ => ?_⟩
            trivial
        · refine o_okG (o_inM (m := 1000) rfl (by first | with_reducible exact True.intro | with_reducible assumption | grind [-Prod, → sc_EX] | grind [-Prod, → sc_MT, → sc_EX] | grind [-Prod, I_MT, o_bn, upd]) (by first | with_reducible exact True.intro | with_reducible assumption | grind [-Prod, → sc_EX] | grind [-Prod, → sc_MT, → sc_EX] | grind [-Prod, I_MT, o_bn, upd])) ?_
          refine o_okG (o_inM (m := 8192) rfl (by first | with_reducible exact True.intro | with_reducible assumption | grind [-Prod, → sc_EX] | grind [-Prod, → sc_MT, → sc_EX] | grind [-Prod, I_MT, o_bn, upd]) (by first | with_reducible exact True.intro | with_reducible assumption | grind [-Prod, → sc_EX] | grind [-Prod, → sc_MT, → sc_EX] | grind [-Prod, I_MT, o_bn, upd])) ?_
          unfold m_MT_compare_j232
          refine o_okI (fun c23 => ?_) (fun c23 => ?_)
          · refine o_okN (fun x8_257_24 ex8_257_24 => ?_)
            refine o_okS ?_
            refine ⟨fun _ => ?_, fun h => absurd rfl h⟩
            refine ⟨?_, ?_⟩
            · first | with_reducible exact True.intro | with_reducible assumption | grind [-Prod, → sc_EX] | grind [-Prod, → sc_MT, → sc_EX] | grind [-Prod, I_MT, o_bn, upd]
            · first | exact o_muL (by first | with_reducible exact True.intro | with_reducible assumption | grind [-Prod, → sc_EX] | grind [-Prod, → sc_MT, → sc_EX] | grind [-Prod, I_MT, o_bn, upd]) | exact o_nuL (by first | with_reducible exact True.intro | with_reducible assumption | grind [-Prod, → sc_EX] | grind [-Prod, → sc_MT, → sc_EX] | grind [-Prod, I_MT, o_bn, upd]) | (first | with_reducible exact True.intro | with_reducible assumption | grind [-Prod, → sc_EX] | grind [-Prod, → sc_MT, → sc_EX] | grind [-Prod, I_MT, o_bn, upd])
          · refine o_okS ?_
            refine ⟨fun h => absurd (show (1 : Nat) = 0 from h) (by decide), fun _ => ?_⟩
            trivial
theorem l_MT_compare_b150 {n : Nat} {x1 : Int32} {x3 : Int32} {x4 : Int32} {a0 : SMT} {a2 : SMT} {z : Int32 × Int32 × Int32} (hn : o_big ≤ n) (h_a0 : I_MT a0) (t_a0 : T_MT a0) (h_a2 : I_MT a2) (t_a2 : T_MT a2) (p0 : 0 ≤ x1) (p1 : x1 < 1000) (p2 : 0 ≤ x3) (p3 : x3 < 1000) (p4 : 0 ≤ MT_from a0 x1.toNatClampNeg) (p5 : MT_from a0 x1.toNatClampNeg ≤ 8192) (p6 : MT_many a0 x1.toNatClampNeg ≤ 8192 - MT_from a0 x1.toNatClampNeg) (p7 : 0 ≤ MT_from a2 x3.toNatClampNeg) (p8 : MT_from a2 x3.toNatClampNeg ≤ 8192) (p9 : MT_many a2 x3.toNatClampNeg ≤ 8192 - MT_from a2 x3.toNatClampNeg) (l0 : 0 ≤ z.1) : o_ok (o_lp n (m_MT_compare_b150 n x1 x3 x4 a0 a2) z) (fun q => q.1 ≠ 0 ∧ True) := by
  exact o_lpR (fun z => 0 ≤ z.1) (fun z => o_mu z.1) hn (o_muB) l0
    (fun z hz => by have l0 := hz; exact o_okW (s_MT_compare_b150 hn h_a0 t_a0 h_a2 t_a2 p0 p1 p2 p3 p4 p5 p6 p7 p8 p9 l0) (fun q hq => ⟨fun h => by have := hq.1 h; grind, hq.2⟩))
set_option maxHeartbeats 8000000 in
theorem s_MT_compare {n : Nat} {x1 : Int32} {x3 : Int32} {a0 : SMT} {a2 : SMT} (hn : o_big ≤ n) (h_a0 : I_MT a0) (t_a0 : T_MT a0) (h_a2 : I_MT a2) (t_a2 : T_MT a2) (p0 : 0 ≤ x1) (p1 : x1 < MT_values a0) (p2 : MT_kind a0 x1.toNatClampNeg = 3) (p3 : 0 ≤ x3) (p4 : x3 < MT_values a2) (p5 : MT_kind a2 x3.toNatClampNeg = 3) : o_ok (m_MT_compare n x1 x3 a0 a2) (fun r => True) := by
  obtain ⟨f1, f2, f3, f4, f9⟩ := (t_a0 x1 p0 p1).2.2.2.2.2.1 p2
  obtain ⟨f5, f6, f7, f8, f10⟩ := (t_a2 x3 p3 p4).2.2.2.2.2.1 p5
  unfold m_MT_compare
  refine o_okG (o_inM (m := 1000) rfl (by first | with_reducible exact True.intro | with_reducible assumption | grind [-Prod, → sc_EX] | grind [-Prod, → sc_MT, → sc_EX] | grind [-Prod, I_MT, o_bn, upd]) (by first | with_reducible exact True.intro | with_reducible assumption | grind [-Prod, → sc_EX] | grind [-Prod, → sc_MT, → sc_EX] | grind [-Prod, I_MT, o_bn, upd])) ?_
  refine o_okI (fun c1 => ?_) (fun c1 => ?_)
  · unfold m_MT_compare_j27
    refine o_okG (o_inM (m := 1000) rfl (by first | with_reducible exact True.intro | with_reducible assumption | grind [-Prod, → sc_EX] | grind [-Prod, → sc_MT, → sc_EX] | grind [-Prod, I_MT, o_bn, upd]) (by first | with_reducible exact True.intro | with_reducible assumption | grind [-Prod, → sc_EX] | grind [-Prod, → sc_MT, → sc_EX] | grind [-Prod, I_MT, o_bn, upd])) ?_
    refine o_okI (fun c2 => ?_) (fun c2 => ?_)
    · unfold m_MT_compare_j56
      refine o_okI (fun c3 => ?_) (fun c3 => ?_)
      · refine o_okI (fun c4 => ?_) (fun c4 => ?_)
        · unfold m_MT_compare_j70
          refine o_okI (fun c5 => ?_) (fun c5 => ?_)
          · refine o_okI (fun c6 => ?_) (fun c6 => ?_)
            · refine o_okS ?_
              trivial
            · refine o_okS ?_
              trivial
          · refine o_okS ?_
            trivial
        · refine o_okG (o_inM (m := 1000) rfl (by first | with_reducible exact True.intro | with_reducible assumption | grind [-Prod, → sc_EX] | grind [-Prod, → sc_MT, → sc_EX] | grind [-Prod, I_MT, o_bn, upd]) (by first | with_reducible exact True.intro | with_reducible assumption | grind [-Prod, → sc_EX] | grind [-Prod, → sc_MT, → sc_EX] | grind [-Prod, I_MT, o_bn, upd])) ?_
          refine o_okG (o_inM (m := 1000) rfl (by first | with_reducible exact True.intro | with_reducible assumption | grind [-Prod, → sc_EX] | grind [-Prod, → sc_MT, → sc_EX] | grind [-Prod, I_MT, o_bn, upd]) (by first | with_reducible exact True.intro | with_reducible assumption | grind [-Prod, → sc_EX] | grind [-Prod, → sc_MT, → sc_EX] | grind [-Prod, I_MT, o_bn, upd])) ?_
          refine o_okN (fun x6_107_7 ex6_107_7 => ?_)
          refine o_okG (o_inM (m := 1000) rfl (by first | with_reducible exact True.intro | with_reducible assumption | grind [-Prod, → sc_EX] | grind [-Prod, → sc_MT, → sc_EX] | grind [-Prod, I_MT, o_bn, upd]) (by first | with_reducible exact True.intro | with_reducible assumption | grind [-Prod, → sc_EX] | grind [-Prod, → sc_MT, → sc_EX] | grind [-Prod, I_MT, o_bn, upd])) ?_
          refine o_okG (o_inM (m := 1000) rfl (by first | with_reducible exact True.intro | with_reducible assumption | grind [-Prod, → sc_EX] | grind [-Prod, → sc_MT, → sc_EX] | grind [-Prod, I_MT, o_bn, upd]) (by first | with_reducible exact True.intro | with_reducible assumption | grind [-Prod, → sc_EX] | grind [-Prod, → sc_MT, → sc_EX] | grind [-Prod, I_MT, o_bn, upd])) ?_
          refine o_okN (fun x7_122_8 ex7_122_8 => ?_)
          refine o_okI (fun c9 => ?_) (fun c9 => ?_)
          · refine o_okB (l_MT_compare_b150  hn h_a0 t_a0 h_a2 t_a2 (by first | with_reducible exact True.intro | with_reducible assumption | grind [-Prod, → sc_EX] | grind [-Prod, → sc_MT, → sc_EX] | grind [-Prod, I_MT, o_bn, upd]) (by first | with_reducible exact True.intro | with_reducible assumption | grind [-Prod, → sc_EX] | grind [-Prod, → sc_MT, → sc_EX] | grind [-Prod, I_MT, o_bn, upd]) (by first | with_reducible exact True.intro | with_reducible assumption | grind [-Prod, → sc_EX] | grind [-Prod, → sc_MT, → sc_EX] | grind [-Prod, I_MT, o_bn, upd]) (by first | with_reducible exact True.intro | with_reducible assumption | grind [-Prod, → sc_EX] | grind [-Prod, → sc_MT, → sc_EX] | grind [-Prod, I_MT, o_bn, upd]) (by first | with_reducible exact True.intro | with_reducible assumption | grind [-Prod, → sc_EX] | grind [-Prod, → sc_MT, → sc_EX] | grind [-Prod, I_MT, o_bn, upd]) (by first | with_reducible exact True.intro | with_reducible assumption | grind [-Prod, → sc_EX] | grind [-Prod, → sc_MT, → sc_EX] | grind [-Prod, I_MT, o_bn, upd]) (by first | with_reducible exact True.intro | with_reducible assumption | grind [-Prod, → sc_EX] | grind [-Prod, → sc_MT, → sc_EX] | grind [-Prod, I_MT, o_bn, upd]) (by first | with_reducible exact True.intro | with_reducible assumption | grind [-Prod, → sc_EX] | grind [-Prod, → sc_MT, → sc_EX] | grind [-Prod, I_MT, o_bn, upd]) (by first | with_reducible exact True.intro | with_reducible assumption | grind [-Prod, → sc_EX] | grind [-Prod, → sc_MT, → sc_EX] | grind [-Prod, I_MT, o_bn, upd]) (by first | with_reducible exact True.intro | with_reducible assumption | grind [-Prod, → sc_EX] | grind [-Prod, → sc_MT, → sc_EX] | grind [-Prod, I_MT, o_bn, upd]) (by first | with_reducible exact True.intro | with_reducible assumption | grind [-Prod, → sc_EX] | grind [-Prod, → sc_MT, → sc_EX] | grind [-Prod, I_MT, o_bn, upd])) ?_
            intro q1_10 ⟨yq1_10, _⟩
            refine o_okI (fun c11 => ?_) (fun c11 => ?_)
            · refine o_okI (fun c12 => ?_) (fun c12 => ?_)
              · refine o_okS ?_
                trivial
              · refine o_okS ?_
                trivial
            · refine o_okS ?_
              trivial
          · refine o_okI (fun c13 => ?_) (fun c13 => ?_)
            · refine o_okS ?_
              trivial
            · refine o_okS ?_
              trivial
      · unfold m_MT_compare_j70
        refine o_okI (fun c14 => ?_) (fun c14 => ?_)
        · refine o_okI (fun c15 => ?_) (fun c15 => ?_)
          · refine o_okS ?_
            trivial
          · refine o_okS ?_
            trivial
        · refine o_okS ?_
          trivial
    · refine o_okG (o_inM (m := 1000) rfl (by first | with_reducible exact True.intro | with_reducible assumption | grind [-Prod, → sc_EX] | grind [-Prod, → sc_MT, → sc_EX] | grind [-Prod, I_MT, o_bn, upd]) (by first | with_reducible exact True.intro | with_reducible assumption | grind [-Prod, → sc_EX] | grind [-Prod, → sc_MT, → sc_EX] | grind [-Prod, I_MT, o_bn, upd])) ?_
      refine o_okI (fun c16 => ?_) (fun c16 => ?_)
      · unfold m_MT_compare_j56
        refine o_okI (fun c17 => ?_) (fun c17 => ?_)
        · refine o_okI (fun c18 => ?_) (fun c18 => ?_)
          · unfold m_MT_compare_j70
            refine o_okI (fun c19 => ?_) (fun c19 => ?_)
            · refine o_okI (fun c20 => ?_) (fun c20 => ?_)
              · refine o_okS ?_
                trivial
              · refine o_okS ?_
                trivial
            · refine o_okS ?_
              trivial
          · refine o_okG (o_inM (m := 1000) rfl (by first | with_reducible exact True.intro | with_reducible assumption | grind [-Prod, → sc_EX] | grind [-Prod, → sc_MT, → sc_EX] | grind [-Prod, I_MT, o_bn, upd]) (by first | with_reducible exact True.intro | with_reducible assumption | grind [-Prod, → sc_EX] | grind [-Prod, → sc_MT, → sc_EX] | grind [-Prod, I_MT, o_bn, upd])) ?_
            refine o_okG (o_inM (m := 1000) rfl (by first | with_reducible exact True.intro | with_reducible assumption | grind [-Prod, → sc_EX] | grind [-Prod, → sc_MT, → sc_EX] | grind [-Prod, I_MT, o_bn, upd]) (by first | with_reducible exact True.intro | with_reducible assumption | grind [-Prod, → sc_EX] | grind [-Prod, → sc_MT, → sc_EX] | grind [-Prod, I_MT, o_bn, upd])) ?_
            refine o_okN (fun x6_107_21 ex6_107_21 => ?_)
            refine o_okG (o_inM (m := 1000) rfl (by first | with_reducible exact True.intro | with_reducible assumption | grind [-Prod, → sc_EX] | grind [-Prod, → sc_MT, → sc_EX] | grind [-Prod, I_MT, o_bn, upd]) (by first | with_reducible exact True.intro | with_reducible assumption | grind [-Prod, → sc_EX] | grind [-Prod, → sc_MT, → sc_EX] | grind [-Prod, I_MT, o_bn, upd])) ?_
            refine o_okG (o_inM (m := 1000) rfl (by first | with_reducible exact True.intro | with_reducible assumption | grind [-Prod, → sc_EX] | grind [-Prod, → sc_MT, → sc_EX] | grind [-Prod, I_MT, o_bn, upd]) (by first | with_reducible exact True.intro | with_reducible assumption | grind [-Prod, → sc_EX] | grind [-Prod, → sc_MT, → sc_EX] | grind [-Prod, I_MT, o_bn, upd])) ?_
            refine o_okN (fun x7_122_22 ex7_122_22 => ?_)
            refine o_okI (fun c23 => ?_) (fun c23 => ?_)
            · refine o_okB (l_MT_compare_b150  hn h_a0 t_a0 h_a2 t_a2 (by first | with_reducible exact True.intro | with_reducible assumption | grind [-Prod, → sc_EX] | grind [-Prod, → sc_MT, → sc_EX] | grind [-Prod, I_MT, o_bn, upd]) (by first | with_reducible exact True.intro | with_reducible assumption | grind [-Prod, → sc_EX] | grind [-Prod, → sc_MT, → sc_EX] | grind [-Prod, I_MT, o_bn, upd]) (by first | with_reducible exact True.intro | with_reducible assumption | grind [-Prod, → sc_EX] | grind [-Prod, → sc_MT, → sc_EX] | grind [-Prod, I_MT, o_bn, upd]) (by first | with_reducible exact True.intro | with_reducible assumption | grind [-Prod, → sc_EX] | grind [-Prod, → sc_MT, → sc_EX] | grind [-Prod, I_MT, o_bn, upd]) (by first | with_reducible exact True.intro | with_reducible assumption | grind [-Prod, → sc_EX] | grind [-Prod, → sc_MT, → sc_EX] | grind [-Prod, I_MT, o_bn, upd]) (by first | with_reducible exact True.intro | with_reducible assumption | grind [-Prod, → sc_EX] | grind [-Prod, → sc_MT, → sc_EX] | grind [-Prod, I_MT, o_bn, upd]) (by first | with_reducible exact True.intro | with_reducible assumption | grind [-Prod, → sc_EX] | grind [-Prod, → sc_MT, → sc_EX] | grind [-Prod, I_MT, o_bn, upd]) (by first | with_reducible exact True.intro | with_reducible assumption | grind [-Prod, → sc_EX] | grind [-Prod, → sc_MT, → sc_EX] | grind [-Prod, I_MT, o_bn, upd]) (by first | with_reducible exact True.intro | with_reducible assumption | grind [-Prod, → sc_EX] | grind [-Prod, → sc_MT, → sc_EX] | grind [-Prod, I_MT, o_bn, upd]) (by first | with_reducible exact True.intro | with_reducible assumption | grind [-Prod, → sc_EX] | grind [-Prod, → sc_MT, → sc_EX] | grind [-Prod, I_MT, o_bn, upd]) (by first | with_reducible exact True.intro | with_reducible assumption | grind [-Prod, → sc_EX] | grind [-Prod, → sc_MT, → sc_EX] | grind [-Prod, I_MT, o_bn, upd])) ?_
              intro q1_24 ⟨yq1_24, _⟩
              refine o_okI (fun c25 => ?_) (fun c25 => ?_)
              · refine o_okI (fun c26 => ?_) (fun c26 => ?_)
                · refine o_okS ?_
                  trivial
                · refine o_okS ?_
                  trivial
              · refine o_okS ?_
                trivial
            · refine o_okI (fun c27 => ?_) (fun c27 => ?_)
              · refine o_okS ?_
                trivial
              · refine o_okS ?_
                trivial
        · unfold m_MT_compare_j70
          refine o_okI (fun c28 => ?_) (fun c28 => ?_)
          · refine o_okI (fun c29 => ?_) (fun c29 => ?_)
            · refine o_okS ?_
              trivial
            · refine o_okS ?_
              trivial
          · refine o_okS ?_
            trivial
      · unfold m_MT_compare_j56
        refine o_okI (fun c30 => ?_) (fun c30 => ?_)
        · refine o_okI (fun c31 => ?_) (fun c31 => ?_)
          · unfold m_MT_compare_j70
            refine o_okI (fun c32 => ?_) (fun c32 => ?_)
            · refine o_okI (fun c33 => ?_) (fun c33 => ?_)
              · refine o_okS ?_
                trivial
              · refine o_okS ?_
                trivial
            · refine o_okS ?_
              trivial
          · refine o_okG (o_inM (m := 1000) rfl (by first | with_reducible exact True.intro | with_reducible assumption | grind [-Prod, → sc_EX] | grind [-Prod, → sc_MT, → sc_EX] | grind [-Prod, I_MT, o_bn, upd]) (by first | with_reducible exact True.intro | with_reducible assumption | grind [-Prod, → sc_EX] | grind [-Prod, → sc_MT, → sc_EX] | grind [-Prod, I_MT, o_bn, upd])) ?_
            refine o_okG (o_inM (m := 1000) rfl (by first | with_reducible exact True.intro | with_reducible assumption | grind [-Prod, → sc_EX] | grind [-Prod, → sc_MT, → sc_EX] | grind [-Prod, I_MT, o_bn, upd]) (by first | with_reducible exact True.intro | with_reducible assumption | grind [-Prod, → sc_EX] | grind [-Prod, → sc_MT, → sc_EX] | grind [-Prod, I_MT, o_bn, upd])) ?_
            refine o_okN (fun x6_107_34 ex6_107_34 => ?_)
            refine o_okG (o_inM (m := 1000) rfl (by first | with_reducible exact True.intro | with_reducible assumption | grind [-Prod, → sc_EX] | grind [-Prod, → sc_MT, → sc_EX] | grind [-Prod, I_MT, o_bn, upd]) (by first | with_reducible exact True.intro | with_reducible assumption | grind [-Prod, → sc_EX] | grind [-Prod, → sc_MT, → sc_EX] | grind [-Prod, I_MT, o_bn, upd])) ?_
            refine o_okG (o_inM (m := 1000) rfl (by first | with_reducible exact True.intro | with_reducible assumption | grind [-Prod, → sc_EX] | grind [-Prod, → sc_MT, → sc_EX] | grind [-Prod, I_MT, o_bn, upd]) (by first | with_reducible exact True.intro | with_reducible assumption | grind [-Prod, → sc_EX] | grind [-Prod, → sc_MT, → sc_EX] | grind [-Prod, I_MT, o_bn, upd])) ?_
            refine o_okN (fun x7_122_35 ex7_122_35 => ?_)
            refine o_okI (fun c36 => ?_) (fun c36 => ?_)
            · refine o_okB (l_MT_compare_b150  hn h_a0 t_a0 h_a2 t_a2 (by first | with_reducible exact True.intro | with_reducible assumption | grind [-Prod, → sc_EX] | grind [-Prod, → sc_MT, → sc_EX] | grind [-Prod, I_MT, o_bn, upd]) (by first | with_reducible exact True.intro | with_reducible assumption | grind [-Prod, → sc_EX] | grind [-Prod, → sc_MT, → sc_EX] | grind [-Prod, I_MT, o_bn, upd]) (by first | with_reducible exact True.intro | with_reducible assumption | grind [-Prod, → sc_EX] | grind [-Prod, → sc_MT, → sc_EX] | grind [-Prod, I_MT, o_bn, upd]) (by first | with_reducible exact True.intro | with_reducible assumption | grind [-Prod, → sc_EX] | grind [-Prod, → sc_MT, → sc_EX] | grind [-Prod, I_MT, o_bn, upd]) (by first | with_reducible exact True.intro | with_reducible assumption | grind [-Prod, → sc_EX] | grind [-Prod, → sc_MT, → sc_EX] | grind [-Prod, I_MT, o_bn, upd]) (by first | with_reducible exact True.intro | with_reducible assumption | grind [-Prod, → sc_EX] | grind [-Prod, → sc_MT, → sc_EX] | grind [-Prod, I_MT, o_bn, upd]) (by first | with_reducible exact True.intro | with_reducible assumption | grind [-Prod, → sc_EX] | grind [-Prod, → sc_MT, → sc_EX] | grind [-Prod, I_MT, o_bn, upd]) (by first | with_reducible exact True.intro | with_reducible assumption | grind [-Prod, → sc_EX] | grind [-Prod, → sc_MT, → sc_EX] | grind [-Prod, I_MT, o_bn, upd]) (by first | with_reducible exact True.intro | with_reducible assumption | grind [-Prod, → sc_EX] | grind [-Prod, → sc_MT, → sc_EX] | grind [-Prod, I_MT, o_bn, upd]) (by first | with_reducible exact True.intro | with_reducible assumption | grind [-Prod, → sc_EX] | grind [-Prod, → sc_MT, → sc_EX] | grind [-Prod, I_MT, o_bn, upd]) (by first | with_reducible exact True.intro | with_reducible assumption | grind [-Prod, → sc_EX] | grind [-Prod, → sc_MT, → sc_EX] | grind [-Prod, I_MT, o_bn, upd])) ?_
              intro q1_37 ⟨yq1_37, _⟩
              refine o_okI (fun c38 => ?_) (fun c38 => ?_)
              · refine o_okI (fun c39 => ?_) (fun c39 => ?_)
                · refine o_okS ?_
                  trivial
                · refine o_okS ?_
                  trivial
              · refine o_okS ?_
                trivial
            · refine o_okI (fun c40 => ?_) (fun c40 => ?_)
              · refine o_okS ?_
                trivial
              · refine o_okS ?_
                trivial
        · unfold m_MT_compare_j70
          refine o_okI (fun c41 => ?_) (fun c41 => ?_)
          · refine o_okI (fun c42 => ?_) (fun c42 => ?_)
            · refine o_okS ?_
              trivial
            · refine o_okS ?_
              trivial
          · refine o_okS ?_
            trivial
  · refine o_okG (o_inM (m := 1000) rfl (by first | with_reducible exact True.intro | with_reducible assumption | grind [-Prod, → sc_EX] | grind [-Prod, → sc_MT, → sc_EX] | grind [-Prod, I_MT, o_bn, upd]) (by first | with_reducible exact True.intro | with_reducible assumption | grind [-Prod, → sc_EX] | grind [-Prod, → sc_MT, → sc_EX] | grind [-Prod, I_MT, o_bn, upd])) ?_
    refine o_okI (fun c43 => ?_) (fun c43 => ?_)
    · unfold m_MT_compare_j27
      refine o_okG (o_inM (m := 1000) rfl (by first | with_reducible exact True.intro | with_reducible assumption | grind [-Prod, → sc_EX] | grind [-Prod, → sc_MT, → sc_EX] | grind [-Prod, I_MT, o_bn, upd]) (by first | with_reducible exact True.intro | with_reducible assumption | grind [-Prod, → sc_EX] | grind [-Prod, → sc_MT, → sc_EX] | grind [-Prod, I_MT, o_bn, upd])) ?_
      refine o_okI (fun c44 => ?_) (fun c44 => ?_)
      · unfold m_MT_compare_j56
        refine o_okI (fun c45 => ?_) (fun c45 => ?_)
        · refine o_okI (fun c46 => ?_) (fun c46 => ?_)
          · unfold m_MT_compare_j70
            refine o_okI (fun c47 => ?_) (fun c47 => ?_)
            · refine o_okI (fun c48 => ?_) (fun c48 => ?_)
              · refine o_okS ?_
                trivial
              · refine o_okS ?_
                trivial
            · refine o_okS ?_
              trivial
          · refine o_okG (o_inM (m := 1000) rfl (by first | with_reducible exact True.intro | with_reducible assumption | grind [-Prod, → sc_EX] | grind [-Prod, → sc_MT, → sc_EX] | grind [-Prod, I_MT, o_bn, upd]) (by first | with_reducible exact True.intro | with_reducible assumption | grind [-Prod, → sc_EX] | grind [-Prod, → sc_MT, → sc_EX] | grind [-Prod, I_MT, o_bn, upd])) ?_
            refine o_okG (o_inM (m := 1000) rfl (by first | with_reducible exact True.intro | with_reducible assumption | grind [-Prod, → sc_EX] | grind [-Prod, → sc_MT, → sc_EX] | grind [-Prod, I_MT, o_bn, upd]) (by first | with_reducible exact True.intro | with_reducible assumption | grind [-Prod, → sc_EX] | grind [-Prod, → sc_MT, → sc_EX] | grind [-Prod, I_MT, o_bn, upd])) ?_
            refine o_okN (fun x6_107_49 ex6_107_49 => ?_)
            refine o_okG (o_inM (m := 1000) rfl (by first | with_reducible exact True.intro | with_reducible assumption | grind [-Prod, → sc_EX] | grind [-Prod, → sc_MT, → sc_EX] | grind [-Prod, I_MT, o_bn, upd]) (by first | with_reducible exact True.intro | with_reducible assumption | grind [-Prod, → sc_EX] | grind [-Prod, → sc_MT, → sc_EX] | grind [-Prod, I_MT, o_bn, upd])) ?_
            refine o_okG (o_inM (m := 1000) rfl (by first | with_reducible exact True.intro | with_reducible assumption | grind [-Prod, → sc_EX] | grind [-Prod, → sc_MT, → sc_EX] | grind [-Prod, I_MT, o_bn, upd]) (by first | with_reducible exact True.intro | with_reducible assumption | grind [-Prod, → sc_EX] | grind [-Prod, → sc_MT, → sc_EX] | grind [-Prod, I_MT, o_bn, upd])) ?_
            refine o_okN (fun x7_122_50 ex7_122_50 => ?_)
            refine o_okI (fun c51 => ?_) (fun c51 => ?_)
            · refine o_okB (l_MT_compare_b150  hn h_a0 t_a0 h_a2 t_a2 (by first | with_reducible exact True.intro | with_reducible assumption | grind [-Prod, → sc_EX] | grind [-Prod, → sc_MT, → sc_EX] | grind [-Prod, I_MT, o_bn, upd]) (by first | with_reducible exact True.intro | with_reducible assumption | grind [-Prod, → sc_EX] | grind [-Prod, → sc_MT, → sc_EX] | grind [-Prod, I_MT, o_bn, upd]) (by first | with_reducible exact True.intro | with_reducible assumption | grind [-Prod, → sc_EX] | grind [-Prod, → sc_MT, → sc_EX] | grind [-Prod, I_MT, o_bn, upd]) (by first | with_reducible exact True.intro | with_reducible assumption | grind [-Prod, → sc_EX] | grind [-Prod, → sc_MT, → sc_EX] | grind [-Prod, I_MT, o_bn, upd]) (by first | with_reducible exact True.intro | with_reducible assumption | grind [-Prod, → sc_EX] | grind [-Prod, → sc_MT, → sc_EX] | grind [-Prod, I_MT, o_bn, upd]) (by first | with_reducible exact True.intro | with_reducible assumption | grind [-Prod, → sc_EX] | grind [-Prod, → sc_MT, → sc_EX] | grind [-Prod, I_MT, o_bn, upd]) (by first | with_reducible exact True.intro | with_reducible assumption | grind [-Prod, → sc_EX] | grind [-Prod, → sc_MT, → sc_EX] | grind [-Prod, I_MT, o_bn, upd]) (by first | with_reducible exact True.intro | with_reducible assumption | grind [-Prod, → sc_EX] | grind [-Prod, → sc_MT, → sc_EX] | grind [-Prod, I_MT, o_bn, upd]) (by first | with_reducible exact True.intro | with_reducible assumption | grind [-Prod, → sc_EX] | grind [-Prod, → sc_MT, → sc_EX] | grind [-Prod, I_MT, o_bn, upd]) (by first | with_reducible exact True.intro | with_reducible assumption | grind [-Prod, → sc_EX] | grind [-Prod, → sc_MT, → sc_EX] | grind [-Prod, I_MT, o_bn, upd]) (by first | with_reducible exact True.intro | with_reducible assumption | grind [-Prod, → sc_EX] | grind [-Prod, → sc_MT, → sc_EX] | grind [-Prod, I_MT, o_bn, upd])) ?_
              intro q1_52 ⟨yq1_52, _⟩
              refine o_okI (fun c53 => ?_) (fun c53 => ?_)
              · refine o_okI (fun c54 => ?_) (fun c54 => ?_)
                · refine o_okS ?_
                  trivial
                · refine o_okS ?_
                  trivial
              · refine o_okS ?_
                trivial
            · refine o_okI (fun c55 => ?_) (fun c55 => ?_)
              · refine o_okS ?_
                trivial
              · refine o_okS ?_
                trivial
        · unfold m_MT_compare_j70
          refine o_okI (fun c56 => ?_) (fun c56 => ?_)
          · refine o_okI (fun c57 => ?_) (fun c57 => ?_)
            · refine o_okS ?_
              trivial
            · refine o_okS ?_
              trivial
          · refine o_okS ?_
            trivial
      · refine o_okG (o_inM (m := 1000) rfl (by first | with_reducible exact True.intro | with_reducible assumption | grind [-Prod, → sc_EX] | grind [-Prod, → sc_MT, → sc_EX] | grind [-Prod, I_MT, o_bn, upd]) (by first | with_reducible exact True.intro | with_reducible assumption | grind [-Prod, → sc_EX] | grind [-Prod, → sc_MT, → sc_EX] | grind [-Prod, I_MT, o_bn, upd])) ?_
        refine o_okI (fun c58 => ?_) (fun c58 => ?_)
        · unfold m_MT_compare_j56
          refine o_okI (fun c59 => ?_) (fun c59 => ?_)
          · refine o_okI (fun c60 => ?_) (fun c60 => ?_)
            · unfold m_MT_compare_j70
              refine o_okI (fun c61 => ?_) (fun c61 => ?_)
              · refine o_okI (fun c62 => ?_) (fun c62 => ?_)
                · refine o_okS ?_
                  trivial
                · refine o_okS ?_
                  trivial
              · refine o_okS ?_
                trivial
            · refine o_okG (o_inM (m := 1000) rfl (by first | with_reducible exact True.intro | with_reducible assumption | grind [-Prod, → sc_EX] | grind [-Prod, → sc_MT, → sc_EX] | grind [-Prod, I_MT, o_bn, upd]) (by first | with_reducible exact True.intro | with_reducible assumption | grind [-Prod, → sc_EX] | grind [-Prod, → sc_MT, → sc_EX] | grind [-Prod, I_MT, o_bn, upd])) ?_
              refine o_okG (o_inM (m := 1000) rfl (by first | with_reducible exact True.intro | with_reducible assumption | grind [-Prod, → sc_EX] | grind [-Prod, → sc_MT, → sc_EX] | grind [-Prod, I_MT, o_bn, upd]) (by first | with_reducible exact True.intro | with_reducible assumption | grind [-Prod, → sc_EX] | grind [-Prod, → sc_MT, → sc_EX] | grind [-Prod, I_MT, o_bn, upd])) ?_
              refine o_okN (fun x6_107_63 ex6_107_63 => ?_)
              refine o_okG (o_inM (m := 1000) rfl (by first | with_reducible exact True.intro | with_reducible assumption | grind [-Prod, → sc_EX] | grind [-Prod, → sc_MT, → sc_EX] | grind [-Prod, I_MT, o_bn, upd]) (by first | with_reducible exact True.intro | with_reducible assumption | grind [-Prod, → sc_EX] | grind [-Prod, → sc_MT, → sc_EX] | grind [-Prod, I_MT, o_bn, upd])) ?_
              refine o_okG (o_inM (m := 1000) rfl (by first | with_reducible exact True.intro | with_reducible assumption | grind [-Prod, → sc_EX] | grind [-Prod, → sc_MT, → sc_EX] | grind [-Prod, I_MT, o_bn, upd]) (by first | with_reducible exact True.intro | with_reducible assumption | grind [-Prod, → sc_EX] | grind [-Prod, → sc_MT, → sc_EX] | grind [-Prod, I_MT, o_bn, upd])) ?_
              refine o_okN (fun x7_122_64 ex7_122_64 => ?_)
              refine o_okI (fun c65 => ?_) (fun c65 => ?_)
              · refine o_okB (l_MT_compare_b150  hn h_a0 t_a0 h_a2 t_a2 (by first | with_reducible exact True.intro | with_reducible assumption | grind [-Prod, → sc_EX] | grind [-Prod, → sc_MT, → sc_EX] | grind [-Prod, I_MT, o_bn, upd]) (by first | with_reducible exact True.intro | with_reducible assumption | grind [-Prod, → sc_EX] | grind [-Prod, → sc_MT, → sc_EX] | grind [-Prod, I_MT, o_bn, upd]) (by first | with_reducible exact True.intro | with_reducible assumption | grind [-Prod, → sc_EX] | grind [-Prod, → sc_MT, → sc_EX] | grind [-Prod, I_MT, o_bn, upd]) (by first | with_reducible exact True.intro | with_reducible assumption | grind [-Prod, → sc_EX] | grind [-Prod, → sc_MT, → sc_EX] | grind [-Prod, I_MT, o_bn, upd]) (by first | with_reducible exact True.intro | with_reducible assumption | grind [-Prod, → sc_EX] | grind [-Prod, → sc_MT, → sc_EX] | grind [-Prod, I_MT, o_bn, upd]) (by first | with_reducible exact True.intro | with_reducible assumption | grind [-Prod, → sc_EX] | grind [-Prod, → sc_MT, → sc_EX] | grind [-Prod, I_MT, o_bn, upd]) (by first | with_reducible exact True.intro | with_reducible assumption | grind [-Prod, → sc_EX] | grind [-Prod, → sc_MT, → sc_EX] | grind [-Prod, I_MT, o_bn, upd]) (by first | with_reducible exact True.intro | with_reducible assumption | grind [-Prod, → sc_EX] | grind [-Prod, → sc_MT, → sc_EX] | grind [-Prod, I_MT, o_bn, upd]) (by first | with_reducible exact True.intro | with_reducible assumption | grind [-Prod, → sc_EX] | grind [-Prod, → sc_MT, → sc_EX] | grind [-Prod, I_MT, o_bn, upd]) (by first | with_reducible exact True.intro | with_reducible assumption | grind [-Prod, → sc_EX] | grind [-Prod, → sc_MT, → sc_EX] | grind [-Prod, I_MT, o_bn, upd]) (by first | with_reducible exact True.intro | with_reducible assumption | grind [-Prod, → sc_EX] | grind [-Prod, → sc_MT, → sc_EX] | grind [-Prod, I_MT, o_bn, upd])) ?_
                intro q1_66 ⟨yq1_66, _⟩
                refine o_okI (fun c67 => ?_) (fun c67 => ?_)
                · refine o_okI (fun c68 => ?_) (fun c68 => ?_)
                  · refine o_okS ?_
                    trivial
                  · refine o_okS ?_
                    trivial
                · refine o_okS ?_
                  trivial
              · refine o_okI (fun c69 => ?_) (fun c69 => ?_)
                · refine o_okS ?_
                  trivial
                · refine o_okS ?_
                  trivial
          · unfold m_MT_compare_j70
            refine o_okI (fun c70 => ?_) (fun c70 => ?_)
            · refine o_okI (fun c71 => ?_) (fun c71 => ?_)
              · refine o_okS ?_
                trivial
              · refine o_okS ?_
                trivial
            · refine o_okS ?_
              trivial
        · unfold m_MT_compare_j56
          refine o_okI (fun c72 => ?_) (fun c72 => ?_)
          · refine o_okI (fun c73 => ?_) (fun c73 => ?_)
            · unfold m_MT_compare_j70
              refine o_okI (fun c74 => ?_) (fun c74 => ?_)
              · refine o_okI (fun c75 => ?_) (fun c75 => ?_)
                · refine o_okS ?_
                  trivial
                · refine o_okS ?_
                  trivial
              · refine o_okS ?_
                trivial
            · refine o_okG (o_inM (m := 1000) rfl (by first | with_reducible exact True.intro | with_reducible assumption | grind [-Prod, → sc_EX] | grind [-Prod, → sc_MT, → sc_EX] | grind [-Prod, I_MT, o_bn, upd]) (by first | with_reducible exact True.intro | with_reducible assumption | grind [-Prod, → sc_EX] | grind [-Prod, → sc_MT, → sc_EX] | grind [-Prod, I_MT, o_bn, upd])) ?_
              refine o_okG (o_inM (m := 1000) rfl (by first | with_reducible exact True.intro | with_reducible assumption | grind [-Prod, → sc_EX] | grind [-Prod, → sc_MT, → sc_EX] | grind [-Prod, I_MT, o_bn, upd]) (by first | with_reducible exact True.intro | with_reducible assumption | grind [-Prod, → sc_EX] | grind [-Prod, → sc_MT, → sc_EX] | grind [-Prod, I_MT, o_bn, upd])) ?_
              refine o_okN (fun x6_107_76 ex6_107_76 => ?_)
              refine o_okG (o_inM (m := 1000) rfl (by first | with_reducible exact True.intro | with_reducible assumption | grind [-Prod, → sc_EX] | grind [-Prod, → sc_MT, → sc_EX] | grind [-Prod, I_MT, o_bn, upd]) (by first | with_reducible exact True.intro | with_reducible assumption | grind [-Prod, → sc_EX] | grind [-Prod, → sc_MT, → sc_EX] | grind [-Prod, I_MT, o_bn, upd])) ?_
              refine o_okG (o_inM (m := 1000) rfl (by first | with_reducible exact True.intro | with_reducible assumption | grind [-Prod, → sc_EX] | grind [-Prod, → sc_MT, → sc_EX] | grind [-Prod, I_MT, o_bn, upd]) (by first | with_reducible exact True.intro | with_reducible assumption | grind [-Prod, → sc_EX] | grind [-Prod, → sc_MT, → sc_EX] | grind [-Prod, I_MT, o_bn, upd])) ?_
              refine o_okN (fun x7_122_77 ex7_122_77 => ?_)
              refine o_okI (fun c78 => ?_) (fun c78 => ?_)
              · refine o_okB (l_MT_compare_b150  hn h_a0 t_a0 h_a2 t_a2 (by first | with_reducible exact True.intro | with_reducible assumption | grind [-Prod, → sc_EX] | grind [-Prod, → sc_MT, → sc_EX] | grind [-Prod, I_MT, o_bn, upd]) (by first | with_reducible exact True.intro | with_reducible assumption | grind [-Prod, → sc_EX] | grind [-Prod, → sc_MT, → sc_EX] | grind [-Prod, I_MT, o_bn, upd]) (by first | with_reducible exact True.intro | with_reducible assumption | grind [-Prod, → sc_EX] | grind [-Prod, → sc_MT, → sc_EX] | grind [-Prod, I_MT, o_bn, upd]) (by first | with_reducible exact True.intro | with_reducible assumption | grind [-Prod, → sc_EX] | grind [-Prod, → sc_MT, → sc_EX] | grind [-Prod, I_MT, o_bn, upd]) (by first | with_reducible exact True.intro | with_reducible assumption | grind [-Prod, → sc_EX] | grind [-Prod, → sc_MT, → sc_EX] | grind [-Prod, I_MT, o_bn, upd]) (by first | with_reducible exact True.intro | with_reducible assumption | grind [-Prod, → sc_EX] | grind [-Prod, → sc_MT, → sc_EX] | grind [-Prod, I_MT, o_bn, upd]) (by first | with_reducible exact True.intro | with_reducible assumption | grind [-Prod, → sc_EX] | grind [-Prod, → sc_MT, → sc_EX] | grind [-Prod, I_MT, o_bn, upd]) (by first | with_reducible exact True.intro | with_reducible assumption | grind [-Prod, → sc_EX] | grind [-Prod, → sc_MT, → sc_EX] | grind [-Prod, I_MT, o_bn, upd]) (by first | with_reducible exact True.intro | with_reducible assumption | grind [-Prod, → sc_EX] | grind [-Prod, → sc_MT, → sc_EX] | grind [-Prod, I_MT, o_bn, upd]) (by first | with_reducible exact True.intro | with_reducible assumption | grind [-Prod, → sc_EX] | grind [-Prod, → sc_MT, → sc_EX] | grind [-Prod, I_MT, o_bn, upd]) (by first | with_reducible exact True.intro | with_reducible assumption | grind [-Prod, → sc_EX] | grind [-Prod, → sc_MT, → sc_EX] | grind [-Prod, I_MT, o_bn, upd])) ?_
                intro q1_79 ⟨yq1_79, _⟩
                refine o_okI (fun c80 => ?_) (fun c80 => ?_)
                · refine o_okI (fun c81 => ?_) (fun c81 => ?_)
                  · refine o_okS ?_
                    trivial
                  · refine o_okS ?_
                    trivial
                · refine o_okS ?_
                  trivial
              · refine o_okI (fun c82 => ?_) (fun c82 => ?_)
                · refine o_okS ?_
                  trivial
                · refine o_okS ?_
                  trivial
          · unfold m_MT_compare_j70
            refine o_okI (fun c83 => ?_) (fun c83 => ?_)
            · refine o_okI (fun c84 => ?_) (fun c84 => ?_)
              · refine o_okS ?_
                trivial
              · refine o_okS ?_
                trivial
            · refine o_okS ?_
              trivial
    · unfold m_MT_compare_j27
      refine o_okG (o_inM (m := 1000) rfl (by first | with_reducible exact True.intro | with_reducible assumption | grind [-Prod, → sc_EX] | grind [-Prod, → sc_MT, → sc_EX] | grind [-Prod, I_MT, o_bn, upd]) (by first | with_reducible exact True.intro | with_reducible assumption | grind [-Prod, → sc_EX] | grind [-Prod, → sc_MT, → sc_EX] | grind [-Prod, I_MT, o_bn, upd])) ?_
      refine o_okI (fun c85 => ?_) (fun c85 => ?_)
      · unfold m_MT_compare_j56
        refine o_okI (fun c86 => ?_) (fun c86 => ?_)
        · refine o_okI (fun c87 => ?_) (fun c87 => ?_)
          · unfold m_MT_compare_j70
            refine o_okI (fun c88 => ?_) (fun c88 => ?_)
            · refine o_okI (fun c89 => ?_) (fun c89 => ?_)
              · refine o_okS ?_
                trivial
              · refine o_okS ?_
                trivial
            · refine o_okS ?_
              trivial
          · refine o_okG (o_inM (m := 1000) rfl (by first | with_reducible exact True.intro | with_reducible assumption | grind [-Prod, → sc_EX] | grind [-Prod, → sc_MT, → sc_EX] | grind [-Prod, I_MT, o_bn, upd]) (by first | with_reducible exact True.intro | with_reducible assumption | grind [-Prod, → sc_EX] | grind [-Prod, → sc_MT, → sc_EX] | grind [-Prod, I_MT, o_bn, upd])) ?_
            refine o_okG (o_inM (m := 1000) rfl (by first | with_reducible exact True.intro | with_reducible assumption | grind [-Prod, → sc_EX] | grind [-Prod, → sc_MT, → sc_EX] | grind [-Prod, I_MT, o_bn, upd]) (by first | with_reducible exact True.intro | with_reducible assumption | grind [-Prod, → sc_EX] | grind [-Prod, → sc_MT, → sc_EX] | grind [-Prod, I_MT, o_bn, upd])) ?_
            refine o_okN (fun x6_107_90 ex6_107_90 => ?_)
            refine o_okG (o_inM (m := 1000) rfl (by first | with_reducible exact True.intro | with_reducible assumption | grind [-Prod, → sc_EX] | grind [-Prod, → sc_MT, → sc_EX] | grind [-Prod, I_MT, o_bn, upd]) (by first | with_reducible exact True.intro | with_reducible assumption | grind [-Prod, → sc_EX] | grind [-Prod, → sc_MT, → sc_EX] | grind [-Prod, I_MT, o_bn, upd])) ?_
            refine o_okG (o_inM (m := 1000) rfl (by first | with_reducible exact True.intro | with_reducible assumption | grind [-Prod, → sc_EX] | grind [-Prod, → sc_MT, → sc_EX] | grind [-Prod, I_MT, o_bn, upd]) (by first | with_reducible exact True.intro | with_reducible assumption | grind [-Prod, → sc_EX] | grind [-Prod, → sc_MT, → sc_EX] | grind [-Prod, I_MT, o_bn, upd])) ?_
            refine o_okN (fun x7_122_91 ex7_122_91 => ?_)
            refine o_okI (fun c92 => ?_) (fun c92 => ?_)
            · refine o_okB (l_MT_compare_b150  hn h_a0 t_a0 h_a2 t_a2 (by first | with_reducible exact True.intro | with_reducible assumption | grind [-Prod, → sc_EX] | grind [-Prod, → sc_MT, → sc_EX] | grind [-Prod, I_MT, o_bn, upd]) (by first | with_reducible exact True.intro | with_reducible assumption | grind [-Prod, → sc_EX] | grind [-Prod, → sc_MT, → sc_EX] | grind [-Prod, I_MT, o_bn, upd]) (by first | with_reducible exact True.intro | with_reducible assumption | grind [-Prod, → sc_EX] | grind [-Prod, → sc_MT, → sc_EX] | grind [-Prod, I_MT, o_bn, upd]) (by first | with_reducible exact True.intro | with_reducible assumption | grind [-Prod, → sc_EX] | grind [-Prod, → sc_MT, → sc_EX] | grind [-Prod, I_MT, o_bn, upd]) (by first | with_reducible exact True.intro | with_reducible assumption | grind [-Prod, → sc_EX] | grind [-Prod, → sc_MT, → sc_EX] | grind [-Prod, I_MT, o_bn, upd]) (by first | with_reducible exact True.intro | with_reducible assumption | grind [-Prod, → sc_EX] | grind [-Prod, → sc_MT, → sc_EX] | grind [-Prod, I_MT, o_bn, upd]) (by first | with_reducible exact True.intro | with_reducible assumption | grind [-Prod, → sc_EX] | grind [-Prod, → sc_MT, → sc_EX] | grind [-Prod, I_MT, o_bn, upd]) (by first | with_reducible exact True.intro | with_reducible assumption | grind [-Prod, → sc_EX] | grind [-Prod, → sc_MT, → sc_EX] | grind [-Prod, I_MT, o_bn, upd]) (by first | with_reducible exact True.intro | with_reducible assumption | grind [-Prod, → sc_EX] | grind [-Prod, → sc_MT, → sc_EX] | grind [-Prod, I_MT, o_bn, upd]) (by first | with_reducible exact True.intro | with_reducible assumption | grind [-Prod, → sc_EX] | grind [-Prod, → sc_MT, → sc_EX] | grind [-Prod, I_MT, o_bn, upd]) (by first | with_reducible exact True.intro | with_reducible assumption | grind [-Prod, → sc_EX] | grind [-Prod, → sc_MT, → sc_EX] | grind [-Prod, I_MT, o_bn, upd])) ?_
              intro q1_93 ⟨yq1_93, _⟩
              refine o_okI (fun c94 => ?_) (fun c94 => ?_)
              · refine o_okI (fun c95 => ?_) (fun c95 => ?_)
                · refine o_okS ?_
                  trivial
                · refine o_okS ?_
                  trivial
              · refine o_okS ?_
                trivial
            · refine o_okI (fun c96 => ?_) (fun c96 => ?_)
              · refine o_okS ?_
                trivial
              · refine o_okS ?_
                trivial
        · unfold m_MT_compare_j70
          refine o_okI (fun c97 => ?_) (fun c97 => ?_)
          · refine o_okI (fun c98 => ?_) (fun c98 => ?_)
            · refine o_okS ?_
              trivial
            · refine o_okS ?_
              trivial
          · refine o_okS ?_
            trivial
      · refine o_okG (o_inM (m := 1000) rfl (by first | with_reducible exact True.intro | with_reducible assumption | grind [-Prod, → sc_EX] | grind [-Prod, → sc_MT, → sc_EX] | grind [-Prod, I_MT, o_bn, upd]) (by first | with_reducible exact True.intro | with_reducible assumption | grind [-Prod, → sc_EX] | grind [-Prod, → sc_MT, → sc_EX] | grind [-Prod, I_MT, o_bn, upd])) ?_
        refine o_okI (fun c99 => ?_) (fun c99 => ?_)
        · unfold m_MT_compare_j56
          refine o_okI (fun c100 => ?_) (fun c100 => ?_)
          · refine o_okI (fun c101 => ?_) (fun c101 => ?_)
            · unfold m_MT_compare_j70
              refine o_okI (fun c102 => ?_) (fun c102 => ?_)
              · refine o_okI (fun c103 => ?_) (fun c103 => ?_)
                · refine o_okS ?_
                  trivial
                · refine o_okS ?_
                  trivial
              · refine o_okS ?_
                trivial
            · refine o_okG (o_inM (m := 1000) rfl (by first | with_reducible exact True.intro | with_reducible assumption | grind [-Prod, → sc_EX] | grind [-Prod, → sc_MT, → sc_EX] | grind [-Prod, I_MT, o_bn, upd]) (by first | with_reducible exact True.intro | with_reducible assumption | grind [-Prod, → sc_EX] | grind [-Prod, → sc_MT, → sc_EX] | grind [-Prod, I_MT, o_bn, upd])) ?_
              refine o_okG (o_inM (m := 1000) rfl (by first | with_reducible exact True.intro | with_reducible assumption | grind [-Prod, → sc_EX] | grind [-Prod, → sc_MT, → sc_EX] | grind [-Prod, I_MT, o_bn, upd]) (by first | with_reducible exact True.intro | with_reducible assumption | grind [-Prod, → sc_EX] | grind [-Prod, → sc_MT, → sc_EX] | grind [-Prod, I_MT, o_bn, upd])) ?_
              refine o_okN (fun x6_107_104 ex6_107_104 => ?_)
              refine o_okG (o_inM (m := 1000) rfl (by first | with_reducible exact True.intro | with_reducible assumption | grind [-Prod, → sc_EX] | grind [-Prod, → sc_MT, → sc_EX] | grind [-Prod, I_MT, o_bn, upd]) (by first | with_reducible exact True.intro | with_reducible assumption | grind [-Prod, → sc_EX] | grind [-Prod, → sc_MT, → sc_EX] | grind [-Prod, I_MT, o_bn, upd])) ?_
              refine o_okG (o_inM (m := 1000) rfl (by first | with_reducible exact True.intro | with_reducible assumption | grind [-Prod, → sc_EX] | grind [-Prod, → sc_MT, → sc_EX] | grind [-Prod, I_MT, o_bn, upd]) (by first | with_reducible exact True.intro | with_reducible assumption | grind [-Prod, → sc_EX] | grind [-Prod, → sc_MT, → sc_EX] | grind [-Prod, I_MT, o_bn, upd])) ?_
              refine o_okN (fun x7_122_105 ex7_122_105 => ?_)
              refine o_okI (fun c106 => ?_) (fun c106 => ?_)
              · refine o_okB (l_MT_compare_b150  hn h_a0 t_a0 h_a2 t_a2 (by first | with_reducible exact True.intro | with_reducible assumption | grind [-Prod, → sc_EX] | grind [-Prod, → sc_MT, → sc_EX] | grind [-Prod, I_MT, o_bn, upd]) (by first | with_reducible exact True.intro | with_reducible assumption | grind [-Prod, → sc_EX] | grind [-Prod, → sc_MT, → sc_EX] | grind [-Prod, I_MT, o_bn, upd]) (by first | with_reducible exact True.intro | with_reducible assumption | grind [-Prod, → sc_EX] | grind [-Prod, → sc_MT, → sc_EX] | grind [-Prod, I_MT, o_bn, upd]) (by first | with_reducible exact True.intro | with_reducible assumption | grind [-Prod, → sc_EX] | grind [-Prod, → sc_MT, → sc_EX] | grind [-Prod, I_MT, o_bn, upd]) (by first | with_reducible exact True.intro | with_reducible assumption | grind [-Prod, → sc_EX] | grind [-Prod, → sc_MT, → sc_EX] | grind [-Prod, I_MT, o_bn, upd]) (by first | with_reducible exact True.intro | with_reducible assumption | grind [-Prod, → sc_EX] | grind [-Prod, → sc_MT, → sc_EX] | grind [-Prod, I_MT, o_bn, upd]) (by first | with_reducible exact True.intro | with_reducible assumption | grind [-Prod, → sc_EX] | grind [-Prod, → sc_MT, → sc_EX] | grind [-Prod, I_MT, o_bn, upd]) (by first | with_reducible exact True.intro | with_reducible assumption | grind [-Prod, → sc_EX] | grind [-Prod, → sc_MT, → sc_EX] | grind [-Prod, I_MT, o_bn, upd]) (by first | with_reducible exact True.intro | with_reducible assumption | grind [-Prod, → sc_EX] | grind [-Prod, → sc_MT, → sc_EX] | grind [-Prod, I_MT, o_bn, upd]) (by first | with_reducible exact True.intro | with_reducible assumption | grind [-Prod, → sc_EX] | grind [-Prod, → sc_MT, → sc_EX] | grind [-Prod, I_MT, o_bn, upd]) (by first | with_reducible exact True.intro | with_reducible assumption | grind [-Prod, → sc_EX] | grind [-Prod, → sc_MT, → sc_EX] | grind [-Prod, I_MT, o_bn, upd])) ?_
                intro q1_107 ⟨yq1_107, _⟩
                refine o_okI (fun c108 => ?_) (fun c108 => ?_)
                · refine o_okI (fun c109 => ?_) (fun c109 => ?_)
                  · refine o_okS ?_
                    trivial
                  · refine o_okS ?_
                    trivial
                · refine o_okS ?_
                  trivial
              · refine o_okI (fun c110 => ?_) (fun c110 => ?_)
                · refine o_okS ?_
                  trivial
                · refine o_okS ?_
                  trivial
          · unfold m_MT_compare_j70
            refine o_okI (fun c111 => ?_) (fun c111 => ?_)
            · refine o_okI (fun c112 => ?_) (fun c112 => ?_)
              · refine o_okS ?_
                trivial
              · refine o_okS ?_
                trivial
            · refine o_okS ?_
              trivial
        · unfold m_MT_compare_j56
          refine o_okI (fun c113 => ?_) (fun c113 => ?_)
          · refine o_okI (fun c114 => ?_) (fun c114 => ?_)
            · unfold m_MT_compare_j70
              refine o_okI (fun c115 => ?_) (fun c115 => ?_)
              · refine o_okI (fun c116 => ?_) (fun c116 => ?_)
                · refine o_okS ?_
                  trivial
                · refine o_okS ?_
                  trivial
              · refine o_okS ?_
                trivial
            · refine o_okG (o_inM (m := 1000) rfl (by first | with_reducible exact True.intro | with_reducible assumption | grind [-Prod, → sc_EX] | grind [-Prod, → sc_MT, → sc_EX] | grind [-Prod, I_MT, o_bn, upd]) (by first | with_reducible exact True.intro | with_reducible assumption | grind [-Prod, → sc_EX] | grind [-Prod, → sc_MT, → sc_EX] | grind [-Prod, I_MT, o_bn, upd])) ?_
              refine o_okG (o_inM (m := 1000) rfl (by first | with_reducible exact True.intro | with_reducible assumption | grind [-Prod, → sc_EX] | grind [-Prod, → sc_MT, → sc_EX] | grind [-Prod, I_MT, o_bn, upd]) (by first | with_reducible exact True.intro | with_reducible assumption | grind [-Prod, → sc_EX] | grind [-Prod, → sc_MT, → sc_EX] | grind [-Prod, I_MT, o_bn, upd])) ?_
              refine o_okN (fun x6_107_117 ex6_107_117 => ?_)
              refine o_okG (o_inM (m := 1000) rfl (by first | with_reducible exact True.intro | with_reducible assumption | grind [-Prod, → sc_EX] | grind [-Prod, → sc_MT, → sc_EX] | grind [-Prod, I_MT, o_bn, upd]) (by first | with_reducible exact True.intro | with_reducible assumption | grind [-Prod, → sc_EX] | grind [-Prod, → sc_MT, → sc_EX] | grind [-Prod, I_MT, o_bn, upd])) ?_
              refine o_okG (o_inM (m := 1000) rfl (by first | with_reducible exact True.intro | with_reducible assumption | grind [-Prod, → sc_EX] | grind [-Prod, → sc_MT, → sc_EX] | grind [-Prod, I_MT, o_bn, upd]) (by first | with_reducible exact True.intro | with_reducible assumption | grind [-Prod, → sc_EX] | grind [-Prod, → sc_MT, → sc_EX] | grind [-Prod, I_MT, o_bn, upd])) ?_
              refine o_okN (fun x7_122_118 ex7_122_118 => ?_)
              refine o_okI (fun c119 => ?_) (fun c119 => ?_)
              · refine o_okB (l_MT_compare_b150  hn h_a0 t_a0 h_a2 t_a2 (by first | with_reducible exact True.intro | with_reducible assumption | grind [-Prod, → sc_EX] | grind [-Prod, → sc_MT, → sc_EX] | grind [-Prod, I_MT, o_bn, upd]) (by first | with_reducible exact True.intro | with_reducible assumption | grind [-Prod, → sc_EX] | grind [-Prod, → sc_MT, → sc_EX] | grind [-Prod, I_MT, o_bn, upd]) (by first | with_reducible exact True.intro | with_reducible assumption | grind [-Prod, → sc_EX] | grind [-Prod, → sc_MT, → sc_EX] | grind [-Prod, I_MT, o_bn, upd]) (by first | with_reducible exact True.intro | with_reducible assumption | grind [-Prod, → sc_EX] | grind [-Prod, → sc_MT, → sc_EX] | grind [-Prod, I_MT, o_bn, upd]) (by first | with_reducible exact True.intro | with_reducible assumption | grind [-Prod, → sc_EX] | grind [-Prod, → sc_MT, → sc_EX] | grind [-Prod, I_MT, o_bn, upd]) (by first | with_reducible exact True.intro | with_reducible assumption | grind [-Prod, → sc_EX] | grind [-Prod, → sc_MT, → sc_EX] | grind [-Prod, I_MT, o_bn, upd]) (by first | with_reducible exact True.intro | with_reducible assumption | grind [-Prod, → sc_EX] | grind [-Prod, → sc_MT, → sc_EX] | grind [-Prod, I_MT, o_bn, upd]) (by first | with_reducible exact True.intro | with_reducible assumption | grind [-Prod, → sc_EX] | grind [-Prod, → sc_MT, → sc_EX] | grind [-Prod, I_MT, o_bn, upd]) (by first | with_reducible exact True.intro | with_reducible assumption | grind [-Prod, → sc_EX] | grind [-Prod, → sc_MT, → sc_EX] | grind [-Prod, I_MT, o_bn, upd]) (by first | with_reducible exact True.intro | with_reducible assumption | grind [-Prod, → sc_EX] | grind [-Prod, → sc_MT, → sc_EX] | grind [-Prod, I_MT, o_bn, upd]) (by first | with_reducible exact True.intro | with_reducible assumption | grind [-Prod, → sc_EX] | grind [-Prod, → sc_MT, → sc_EX] | grind [-Prod, I_MT, o_bn, upd])) ?_
                intro q1_120 ⟨yq1_120, _⟩
                refine o_okI (fun c121 => ?_) (fun c121 => ?_)
                · refine o_okI (fun c122 => ?_) (fun c122 => ?_)
                  · refine o_okS ?_
                    trivial
                  · refine o_okS ?_
                    trivial
                · refine o_okS ?_
                  trivial
              · refine o_okI (fun c123 => ?_) (fun c123 => ?_)
                · refine o_okS ?_
                  trivial
                · refine o_okS ?_
                  trivial
          · unfold m_MT_compare_j70
            refine o_okI (fun c124 => ?_) (fun c124 => ?_)
            · refine o_okI (fun c125 => ?_) (fun c125 => ?_)
              · refine o_okS ?_
                trivial
              · refine o_okS ?_
                trivial
            · refine o_okS ?_
              trivial
/-! The reference's Text: walks along chains, members, alike -/
def CHN (s : SMT) (z : Int32) : Prop := z = -1 ∨ (0 ≤ z ∧ z < MT_values s ∧ MT_name s z.toNatClampNeg ≠ -1)
def CHV (s : SMT) (z : Int32) : Prop := z = -1 ∨ (0 ≤ z ∧ z < MT_values s)
theorem o_pos {z w : Int32} (h0 : 0 ≤ z) (h : z < w) : w ≠ -1 := by intro e; rw [e] at h; exact absurd (Int32.lt_of_le_of_lt h0 h) (by decide)
theorem CHV_first {s : SMT} {v : Int32} (hT : T_MT s) (h0 : 0 ≤ v) (h1 : v < MT_values s) : CHV s (MT_first s v.toNatClampNeg) ∧ (MT_first s v.toNatClampNeg = -1 ∨ v < MT_first s v.toNatClampNeg) := by
  rcases (hT v h0 h1).2.1 with h | h
  · exact ⟨Or.inl h, Or.inl h⟩
  · exact ⟨Or.inr ⟨Int32.le_of_lt (Int32.lt_of_le_of_lt h0 h.1), h.2⟩, Or.inr h.1⟩
theorem CHV_next {s : SMT} {z : Int32} (hT : T_MT s) (hz : CHV s z) (hn : ¬ z < 0) : CHV s (MT_next s z.toNatClampNeg) ∧ (MT_next s z.toNatClampNeg = -1 ∨ z < MT_next s z.toNatClampNeg) ∧ o_xi (MT_next s z.toNatClampNeg) < o_xi z := by
  rcases hz with e | hz
  · rw [e] at hn; exact absurd o_m1 hn
  rcases (hT z hz.1 hz.2).2.2.1 with h | h
  · exact ⟨Or.inl h, Or.inl h, o_xiL hn (Or.inl h)⟩
  · exact ⟨Or.inr ⟨Int32.le_of_lt (Int32.lt_of_le_of_lt hz.1 h.1), h.2⟩, Or.inr h.1, o_xiL hn (Or.inr h.1)⟩
theorem CHN_V {s : SMT} {z : Int32} (h : CHN s z) : CHV s z := by
  rcases h with h | h
  · exact Or.inl h
  · exact Or.inr ⟨h.1, h.2.1⟩
theorem CHN_first {s : SMT} {v : Int32} (hT : T_MT s) (h0 : 0 ≤ v) (h1 : v < MT_values s) (hk : MT_kind s v.toNatClampNeg = 6) : CHN s (MT_first s v.toNatClampNeg) := by
  obtain ⟨n1, n2, n3, n4, n5, n6, n7, n8, n9, n10, n11⟩ := hT v h0 h1
  rcases n2 with h | h
  · exact Or.inl h
  · exact Or.inr ⟨Int32.le_of_lt (Int32.lt_of_le_of_lt h0 h.1), h.2, (n9 hk (o_pos h0 h.1)).1⟩
theorem CHN_next {s : SMT} {z : Int32} (hT : T_MT s) (hz : CHN s z) (hn : ¬ z < 0) : CHN s (MT_next s z.toNatClampNeg) ∧ o_xi (MT_next s z.toNatClampNeg) < o_xi z := by
  have hv := CHV_next hT (CHN_V hz) hn
  refine ⟨?_, hv.2.2⟩
  rcases hz with e | hz
  · rw [e] at hn; exact absurd o_m1 hn
  obtain ⟨n1, n2, n3, n4, n5, n6, n7, n8, n9, n10, n11⟩ := hT z hz.1 hz.2.1
  rcases n3 with h | h
  · exact Or.inl h
  · exact Or.inr ⟨Int32.le_of_lt (Int32.lt_of_le_of_lt hz.1 h.1), h.2, (n10 hz.2.2 (o_pos hz.1 h.1)).1⟩
theorem CHN_name {s : SMT} {z : Int32} (hT : T_MT s) (hz : CHN s z) (hn : ¬ z < 0) : 0 ≤ z ∧ z < MT_values s ∧ 0 ≤ MT_name s z.toNatClampNeg ∧ MT_name s z.toNatClampNeg < MT_values s ∧ MT_kind s (MT_name s z.toNatClampNeg).toNatClampNeg = 4 := by
  rcases hz with e | hz
  · rw [e] at hn; exact absurd o_m1 hn
  rcases (hT z hz.1 hz.2.1).2.2.2.1 with h | h
  · exact absurd h hz.2.2
  · exact ⟨hz.1, hz.2.1, h.1, Int32.lt_trans h.2.1 hz.2.1, h.2.2⟩
theorem o_inV {s : SMT} {z : Int32} (hI : I_MT s) (h0 : 0 ≤ z) (h1 : z < MT_values s) : o_in z 1000 = true := o_inM (m := 1000) rfl h0 (Int32.lt_of_lt_of_le h1 hI.2.1)
theorem s_MT_member {n : Nat} {x1 : Int32} {x2 : Nat} {a0 : SMT} (hn : o_big ≤ n) (hI : I_MT a0) (hT : T_MT a0) (h0 : 0 ≤ x1) (h1 : x1 < MT_values a0) (hk : MT_kind a0 x1.toNatClampNeg = 6) : o_ok (m_MT_member n x1 x2 a0) (fun r => CHN a0 r) := by
  unfold m_MT_member
  refine o_okG (o_inV hI h0 h1) ?_
  refine o_okN (fun x ex => ?_)
  refine o_okB (o_lpR (P := fun q => CHN a0 q.2) (fun z : Int32 => CHN a0 z) o_xi hn o_xiB (by rw [ex]; exact CHN_first hT h0 h1 hk) (fun z hz => ?_)) ?_
  · unfold m_MT_member_b7
    refine o_okI (fun c1 => ?_) (fun c1 => ?_)
    · exact o_okS ⟨fun e => absurd (show (2 : Nat) = 0 from e) (by decide), fun _ => hz⟩
    obtain ⟨z0, z1, z2, z3, z4⟩ := CHN_name hT hz c1
    refine o_okG (o_inV hI z0 z1) ?_
    refine o_okB (s_MT_is hn hI hT z2 z3 z4) ?_
    intro q1 _
    refine o_okI (fun c2 => ?_) (fun c2 => ?_)
    · refine o_okG (o_inV hI z0 z1) ?_
      refine o_okN (fun y ey => ?_)
      exact o_okS ⟨fun _ => by show CHN a0 y ∧ o_xi y < o_xi z; rw [ey]; exact CHN_next hT hz c1, fun e => absurd rfl e⟩
    · exact o_okS ⟨fun e => absurd (show (1 : Nat) = 0 from e) (by decide), fun _ => hz⟩
  intro q2 ⟨y0, g⟩
  exact o_okI (fun _ => o_okS g) (fun _ => o_okS (Or.inl rfl))
theorem s_MT_member_1 {n : Nat} {x1 x3 : Int32} {a0 a2 : SMT} (hn : o_big ≤ n) (hI : I_MT a0) (hT : T_MT a0) (hI2 : I_MT a2) (hT2 : T_MT a2) (h0 : 0 ≤ x1) (h1 : x1 < MT_values a0) (hk : MT_kind a0 x1.toNatClampNeg = 6) (k0 : 0 ≤ x3) (k1 : x3 < MT_values a2) (k4 : MT_kind a2 x3.toNatClampNeg = 4) : o_ok (m_MT_member_1 n x1 x3 a0 a2) (fun r => CHN a0 r) := by
  unfold m_MT_member_1
  refine o_okG (o_inV hI h0 h1) ?_
  refine o_okN (fun x ex => ?_)
  refine o_okB (o_lpR (P := fun q => CHN a0 q.2) (fun z : Int32 => CHN a0 z) o_xi hn o_xiB (by rw [ex]; exact CHN_first hT h0 h1 hk) (fun z hz => ?_)) ?_
  · unfold m_MT_member_1_b8
    refine o_okI (fun c1 => ?_) (fun c1 => ?_)
    · exact o_okS ⟨fun e => absurd (show (2 : Nat) = 0 from e) (by decide), fun _ => hz⟩
    obtain ⟨z0, z1, z2, z3, z4⟩ := CHN_name hT hz c1
    refine o_okG (o_inV hI z0 z1) ?_
    refine o_okB (s_MT_same hn hI2 hT2 hI hT k0 k1 k4 z2 z3 z4) ?_
    intro q1 _
    refine o_okI (fun c2 => ?_) (fun c2 => ?_)
    · refine o_okG (o_inV hI z0 z1) ?_
      refine o_okN (fun y ey => ?_)
      exact o_okS ⟨fun _ => by show CHN a0 y ∧ o_xi y < o_xi z; rw [ey]; exact CHN_next hT hz c1, fun e => absurd rfl e⟩
    · exact o_okS ⟨fun e => absurd (show (1 : Nat) = 0 from e) (by decide), fun _ => hz⟩
  intro q2 ⟨y0, g⟩
  exact o_okI (fun _ => o_okS g) (fun _ => o_okS (Or.inl rfl))
abbrev p_al (rec : Int32 → Int32 → SMT → SMT → Option (Int32)) (a0 a2 : SMT) (lo : Int32) : Prop := ∀ (v w : Int32), lo < v → v < MT_values a0 → 0 ≤ w → w < MT_values a2 → o_ok (rec v w a0 a2) (fun r => r = 0 ∨ r = 1)
theorem s_MT_alike_F {n : Nat} {rec : Int32 → Int32 → SMT → SMT → Option (Int32)} {x1 x3 : Int32} {a0 a2 : SMT} (hn : o_big ≤ n) (hI : I_MT a0) (hT : T_MT a0) (hI2 : I_MT a2) (hT2 : T_MT a2) (h0 : 0 ≤ x1) (h1 : x1 < MT_values a0) (k0 : 0 ≤ x3) (k1 : x3 < MT_values a2) (hrec : p_al rec a0 a2 x1) : o_ok (m_MT_alike_F n rec x1 x3 a0 a2) (fun r => r = 0 ∨ r = 1) := by
  have g1 := o_inV hI h0 h1
  have g3 := o_inV hI2 k0 k1
  unfold m_MT_alike_F
  refine o_okG g1 (o_okG g3 ?_)
  refine o_okI (fun c1 => ?_) (fun _ => o_okS (Or.inl rfl))
  refine o_okG g1 ?_
  refine o_okI (fun c2 => ?_) (fun c2 => ?_)
  · refine o_okB (s_MT_compare hn hI hT hI2 hT2 h0 h1 c2 k0 k1 (by rw [← c1]; exact c2)) ?_
    intro q _
    exact o_okI (fun _ => o_okS (Or.inr rfl)) (fun _ => o_okS (Or.inl rfl))
  refine o_okG g1 ?_
  refine o_okI (fun c3 => ?_) (fun c3 => ?_)
  · refine o_okB (s_MT_same hn hI hT hI2 hT2 h0 h1 c3 k0 k1 (by rw [← c1]; exact c3)) ?_
    intro q hq
    exact o_okG (o_zbM hq) (o_okS hq)
  refine o_okG g1 ?_
  refine o_okI (fun c4 => ?_) (fun _ => o_okS (Or.inr rfl))
  refine o_okG g1 (o_okG g3 ?_)
  refine o_okI (fun c5 => ?_) (fun _ => o_okS (Or.inl rfl))
  obtain ⟨n1, n2, n3, n4, n5, n6, n7, n8, n9, n10, n11⟩ := hT x1 h0 h1
  obtain ⟨m1, m2, m3, m4, m5, m6, m7, m8, m9, m10, m11⟩ := hT2 x3 k0 k1
  have kd : MT_kind a0 x1.toNatClampNeg = 5 ∨ MT_kind a0 x1.toNatClampNeg = 6 := by
    clear hT hT2 n2 n3 n4 n5 n6 n7 n8 n9 n10 n11 m1 m2 m3 m4 m5 m6 m7 m8 m9 m10 m11 hrec
    grind
  refine o_okG g1 ?_
  refine o_okI (fun c6 => ?_) (fun c6 => ?_)
  · refine o_okG g3 (o_okN (fun b eb => o_okG g1 (o_okN (fun a ea => ?_))))
    have q1 := (n11 (by rw [c6]; decide)).2.2
    have q2 := (m11 (by rw [← c1, c6]; decide)).2.2
    rw [← c5] at q2
    refine o_okB (o_lpR (P := fun q => True) (fun z : Int32 × Int32 => ∃ k : Nat, CH (MT_next a0) (MT_parent a0) (MT_values a0) x1 k z.2 ∧ CH (MT_next a2) (MT_parent a2) (MT_values a2) x3 k z.1 ∧ (z.2 = -1 ∨ x1 < z.2)) (fun z => o_xi z.2) hn o_xiB ⟨_, by rw [ea]; exact q1, by rw [eb]; exact q2, by rw [ea]; exact (CHV_first hT h0 h1).2⟩ (fun z hz => ?_)) ?_
    · obtain ⟨k, z1, z2, z3⟩ := hz
      unfold m_MT_alike_b116
      refine o_okI (fun d1 => ?_) (fun d1 => ?_)
      · exact o_okS ⟨fun e => absurd (show (2 : Nat) = 0 from e) (by decide), fun _ => True.intro⟩
      cases k with
      | zero =>
        have z1 : z.2 = -1 := z1
        rw [z1] at d1; exact absurd o_m1 d1
      | succ k =>
        obtain ⟨a1, a2', a3, a4⟩ := z1
        obtain ⟨b1, b2, b3, b4⟩ := z2
        have lo : x1 < z.2 := by
          rcases z3 with e | e
          · rw [e] at d1; exact absurd o_m1 d1
          · exact e
        refine o_okB (hrec z.2 z.1 lo a2' b1 b2) ?_
        intro q4 _
        refine o_okI (fun d2 => ?_) (fun d2 => ?_)
        · exact o_okS ⟨fun e => absurd (show (1 : Nat) = 0 from e) (by decide), fun _ => True.intro⟩
        refine o_okG (o_inV hI a1 a2') (o_okN (fun y ey => o_okG (o_inV hI2 b1 b2) (o_okN (fun w ew => ?_))))
        have nx := CHV_next hT (Or.inr ⟨a1, a2'⟩) d1
        refine o_okS ⟨fun _ => ?_, fun e => absurd rfl e⟩
        refine ⟨⟨k, by show CH _ _ _ _ k y; rw [ey]; exact a4, by show CH _ _ _ _ k w; rw [ew]; exact b4, ?_⟩, by show o_xi y < o_xi z.2; rw [ey]; exact nx.2.2⟩
        show y = -1 ∨ x1 < y
        rw [ey]
        rcases nx.2.1 with e | e
        · exact Or.inl e
        · exact Or.inr (Int32.lt_trans lo e)
    intro q5 _
    exact o_okI (fun _ => o_okS (Or.inl rfl)) (fun _ => o_okS (Or.inr rfl))
  · have k6 : MT_kind a0 x1.toNatClampNeg = 6 := by rcases kd with z | z; exact absurd z c6; exact z
    refine o_okG g1 (o_okN (fun a ea => ?_))
    refine o_okB (o_lpR (P := fun q => True) (fun z : Int32 => CHN a0 z ∧ (z = -1 ∨ x1 < z)) o_xi hn o_xiB ⟨by rw [ea]; exact CHN_first hT h0 h1 k6, by rw [ea]; exact (CHV_first hT h0 h1).2⟩ (fun z hz => ?_)) ?_
    · unfold m_MT_alike_b166
      refine o_okI (fun d1 => ?_) (fun d1 => ?_)
      · exact o_okS ⟨fun e => absurd (show (2 : Nat) = 0 from e) (by decide), fun _ => True.intro⟩
      obtain ⟨z0, z1, z2, z3, z4⟩ := CHN_name hT hz.1 d1
      have lo : x1 < z := by
        rcases hz.2 with e | e
        · rw [e] at d1; exact absurd o_m1 d1
        · exact e
      refine o_okG (o_inV hI z0 z1) ?_
      refine o_okB (s_MT_member_1 hn hI2 hT2 hI hT k0 k1 (by rw [← c1]; exact k6) z2 z3 z4) ?_
      intro q1 hq1
      refine o_okI (fun d2 => ?_) (fun d2 => ?_)
      · exact o_okS ⟨fun e => absurd (show (1 : Nat) = 0 from e) (by decide), fun _ => True.intro⟩
      obtain ⟨w0, w1, -⟩ := CHN_name hT2 hq1 d2
      refine o_okB (hrec z q1 lo z1 w0 w1) ?_
      intro q2 _
      refine o_okI (fun d3 => ?_) (fun d3 => ?_)
      · exact o_okS ⟨fun e => absurd (show (1 : Nat) = 0 from e) (by decide), fun _ => True.intro⟩
      refine o_okG (o_inV hI z0 z1) (o_okN (fun y ey => ?_))
      have nx := CHN_next hT hz.1 d1
      have nv := CHV_next hT (CHN_V hz.1) d1
      refine o_okS ⟨fun _ => ⟨⟨by show CHN a0 y; rw [ey]; exact nx.1, ?_⟩, by show o_xi y < o_xi z; rw [ey]; exact nx.2⟩, fun e => absurd rfl e⟩
      show y = -1 ∨ x1 < y
      rw [ey]
      rcases nv.2.1 with e | e
      · exact Or.inl e
      · exact Or.inr (Int32.lt_trans lo e)
    intro q3 _
    exact o_okI (fun _ => o_okS (Or.inl rfl)) (fun _ => o_okS (Or.inr rfl))
theorem s_MT_alike {n d : Nat} {v w : Int32} {a0 a2 : SMT} (hn : o_big ≤ n) (hI : I_MT a0) (hT : T_MT a0) (hI2 : I_MT a2) (hT2 : T_MT a2) (h0 : 0 ≤ v) (h1 : v < MT_values a0) (k0 : 0 ≤ w) (k1 : w < MT_values a2) (hd : 1001 ≤ v.toInt + d) : o_ok (m_MT_alike n d v w a0 a2) (fun r => r = 0 ∨ r = 1) := by
  induction d generalizing v w with
  | zero =>
    have a := Int32.lt_iff_toInt_lt.mp (Int32.lt_of_lt_of_le h1 hI.2.1)
    have z : (1000 : Int32).toInt = 1000 := rfl
    rw [z] at a
    exfalso; omega
  | succ d ih =>
    refine s_MT_alike_F hn hI hT hI2 hT2 h0 h1 k0 k1 ?_
    intro v' w' lo hv hw0 hw1
    refine ih (Int32.le_of_lt (Int32.lt_of_le_of_lt h0 lo)) hv hw0 hw1 ?_
    have := Int32.lt_iff_toInt_lt.mp lo
    omega
