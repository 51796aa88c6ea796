theorem s_Tx_size {x1 : Int32} {a0 : STx} (h_a0 : I_Tx a0) : o_ok (m_Tx_size x1 a0) (fun r => (-8192 ≤ r ∧ r ≤ 8192)) := by
  unfold m_Tx_size
  refine o_okI (fun c1 => ?_) (fun c1 => ?_)
  · refine o_okS ?_
    first | with_reducible exact True.intro | with_reducible assumption | grind [-Prod] | grind [-Prod, → sc_Tx] | grind [-Prod, I_Tx, o_bn, upd]
  · refine o_okI (fun c2 => ?_) (fun c2 => ?_)
    · refine o_okS ?_
      first | with_reducible exact True.intro | with_reducible assumption | grind [-Prod] | grind [-Prod, → sc_Tx] | grind [-Prod, I_Tx, o_bn, upd]
    · refine o_okG (o_inM (m := 1000) rfl (by first | with_reducible exact True.intro | with_reducible assumption | grind [-Prod] | grind [-Prod, → sc_Tx] | grind [-Prod, I_Tx, o_bn, upd]) (by first | with_reducible exact True.intro | with_reducible assumption | grind [-Prod] | grind [-Prod, → sc_Tx] | grind [-Prod, I_Tx, o_bn, upd])) ?_
      refine o_okS ?_
      first | with_reducible exact True.intro | with_reducible assumption | grind [-Prod] | grind [-Prod, → sc_Tx] | grind [-Prod, I_Tx, o_bn, upd]
theorem s_Tx_sameString_b102 {n : Nat} {x4 : Int32} {x5 : Int32} {x6 : Int32} {a0 : STx} {a2 : STx} {z : Int32} (hn : o_big ≤ n) (h_a0 : I_Tx a0) (h_a2 : I_Tx a2) (p0 : 0 ≤ x4) (p1 : x4 ≤ 8192) (p2 : 0 ≤ x5) (p3 : x5 ≤ 8192) (p4 : x6 ≤ 8192) (p5 : x4 + x6 ≤ 8192) (p6 : x5 + x6 ≤ 8192) (l0 : 0 ≤ z) : o_ok (m_Tx_sameString_b102 n x4 x5 x6 a0 a2 z) (fun q => (q.1 = 0 → 0 ≤ q.2 ∧ o_mu q.2 < o_mu z) ∧ (q.1 ≠ 0 → True)) := by
  unfold m_Tx_sameString_b102
  refine o_okI (fun c1 => ?_) (fun c1 => ?_)
  · refine o_okS ?_
    refine ⟨fun h => absurd (show (2 : Nat) = 0 from h) (by decide), fun _ => ?_⟩
    trivial
  · refine o_okG (o_inM (m := 8192) rfl (by first | with_reducible exact True.intro | with_reducible assumption | grind [-Prod] | grind [-Prod, → sc_Tx] | grind [-Prod, I_Tx, o_bn, upd]) (by first | with_reducible exact True.intro | with_reducible assumption | grind [-Prod] | grind [-Prod, → sc_Tx] | grind [-Prod, I_Tx, o_bn, upd])) ?_
    refine o_okG (o_inM (m := 8192) rfl (by first | with_reducible exact True.intro | with_reducible assumption | grind [-Prod] | grind [-Prod, → sc_Tx] | grind [-Prod, I_Tx, o_bn, upd]) (by first | with_reducible exact True.intro | with_reducible assumption | grind [-Prod] | grind [-Prod, → sc_Tx] | grind [-Prod, I_Tx, o_bn, upd])) ?_
    refine o_okI (fun c2 => ?_) (fun c2 => ?_)
    · refine o_okN (fun x7_134_3 ex7_134_3 => ?_)
      refine o_okS ?_
      refine ⟨fun _ => ?_, fun h => absurd rfl h⟩
      refine ⟨?_, ?_⟩
      · first | with_reducible exact True.intro | with_reducible assumption | grind [-Prod] | grind [-Prod, → sc_Tx] | grind [-Prod, I_Tx, o_bn, upd]
      · first | exact o_muL (by first | with_reducible exact True.intro | with_reducible assumption | grind [-Prod] | grind [-Prod, → sc_Tx] | grind [-Prod, I_Tx, o_bn, upd]) | exact o_nuL (by first | with_reducible exact True.intro | with_reducible assumption | grind [-Prod] | grind [-Prod, → sc_Tx] | grind [-Prod, I_Tx, o_bn, upd]) | (first | with_reducible exact True.intro | with_reducible assumption | grind [-Prod] | grind [-Prod, → sc_Tx] | grind [-Prod, I_Tx, o_bn, upd])
    · refine o_okS ?_
      refine ⟨fun h => absurd (show (1 : Nat) = 0 from h) (by decide), fun _ => ?_⟩
      trivial
theorem l_Tx_sameString_b102 {n : Nat} {x4 : Int32} {x5 : Int32} {x6 : Int32} {a0 : STx} {a2 : STx} {z : Int32} (hn : o_big ≤ n) (h_a0 : I_Tx a0) (h_a2 : I_Tx a2) (p0 : 0 ≤ x4) (p1 : x4 ≤ 8192) (p2 : 0 ≤ x5) (p3 : x5 ≤ 8192) (p4 : x6 ≤ 8192) (p5 : x4 + x6 ≤ 8192) (p6 : x5 + x6 ≤ 8192) (l0 : 0 ≤ z) : o_ok (o_lp n (m_Tx_sameString_b102 n x4 x5 x6 a0 a2) z) (fun q => q.1 ≠ 0 ∧ True) := by
  exact o_lpR (fun z => 0 ≤ z) (fun z => o_mu z) hn (o_muB) l0
    (fun z hz => by have l0 := hz; exact o_okW (s_Tx_sameString_b102 hn h_a0 h_a2 p0 p1 p2 p3 p4 p5 p6 l0) (fun q hq => ⟨fun h => by have := hq.1 h; grind, hq.2⟩))
theorem s_Tx_sameString {n : Nat} {x1 : Int32} {x3 : Int32} {a0 : STx} {a2 : STx} (hn : o_big ≤ n) (h_a0 : I_Tx a0) (h_a2 : I_Tx a2) : o_ok (m_Tx_sameString n x1 x3 a0 a2) (fun r => (r = 0 ∨ r = 1)) := by
  unfold m_Tx_sameString
  refine o_okI (fun c1 => ?_) (fun c1 => ?_)
  · refine o_okS ?_
    first | with_reducible exact True.intro | with_reducible assumption | grind [-Prod] | grind [-Prod, → sc_Tx] | grind [-Prod, I_Tx, o_bn, upd]
  · refine o_okI (fun c2 => ?_) (fun c2 => ?_)
    · refine o_okS ?_
      first | with_reducible exact True.intro | with_reducible assumption | grind [-Prod] | grind [-Prod, → sc_Tx] | grind [-Prod, I_Tx, o_bn, upd]
    · refine o_okI (fun c3 => ?_) (fun c3 => ?_)
      · refine o_okS ?_
        first | with_reducible exact True.intro | with_reducible assumption | grind [-Prod] | grind [-Prod, → sc_Tx] | grind [-Prod, I_Tx, o_bn, upd]
      · refine o_okI (fun c4 => ?_) (fun c4 => ?_)
        · refine o_okS ?_
          first | with_reducible exact True.intro | with_reducible assumption | grind [-Prod] | grind [-Prod, → sc_Tx] | grind [-Prod, I_Tx, o_bn, upd]
        · refine o_okG (o_inM (m := 1000) rfl (by first | with_reducible exact True.intro | with_reducible assumption | grind [-Prod] | grind [-Prod, → sc_Tx] | grind [-Prod, I_Tx, o_bn, upd]) (by first | with_reducible exact True.intro | with_reducible assumption | grind [-Prod] | grind [-Prod, → sc_Tx] | grind [-Prod, I_Tx, o_bn, upd])) ?_
          refine o_okG (o_inM (m := 1000) rfl (by first | with_reducible exact True.intro | with_reducible assumption | grind [-Prod] | grind [-Prod, → sc_Tx] | grind [-Prod, I_Tx, o_bn, upd]) (by first | with_reducible exact True.intro | with_reducible assumption | grind [-Prod] | grind [-Prod, → sc_Tx] | grind [-Prod, I_Tx, o_bn, upd])) ?_
          refine o_okI (fun c5 => ?_) (fun c5 => ?_)
          · refine o_okG (o_inM (m := 1000) rfl (by first | with_reducible exact True.intro | with_reducible assumption | grind [-Prod] | grind [-Prod, → sc_Tx] | grind [-Prod, I_Tx, o_bn, upd]) (by first | with_reducible exact True.intro | with_reducible assumption | grind [-Prod] | grind [-Prod, → sc_Tx] | grind [-Prod, I_Tx, o_bn, upd])) ?_
            refine o_okN (fun x4_47_6 ex4_47_6 => ?_)
            refine o_okG (o_inM (m := 1000) rfl (by first | with_reducible exact True.intro | with_reducible assumption | grind [-Prod] | grind [-Prod, → sc_Tx] | grind [-Prod, I_Tx, o_bn, upd]) (by first | with_reducible exact True.intro | with_reducible assumption | grind [-Prod] | grind [-Prod, → sc_Tx] | grind [-Prod, I_Tx, o_bn, upd])) ?_
            refine o_okN (fun x5_55_7 ex5_55_7 => ?_)
            refine o_okG (o_inM (m := 1000) rfl (by first | with_reducible exact True.intro | with_reducible assumption | grind [-Prod] | grind [-Prod, → sc_Tx] | grind [-Prod, I_Tx, o_bn, upd]) (by first | with_reducible exact True.intro | with_reducible assumption | grind [-Prod] | grind [-Prod, → sc_Tx] | grind [-Prod, I_Tx, o_bn, upd])) ?_
            refine o_okN (fun x6_63_8 ex6_63_8 => ?_)
            refine o_okI (fun c9 => ?_) (fun c9 => ?_)
            · refine o_okS ?_
              first | with_reducible exact True.intro | with_reducible assumption | grind [-Prod] | grind [-Prod, → sc_Tx] | grind [-Prod, I_Tx, o_bn, upd]
            · refine o_okI (fun c10 => ?_) (fun c10 => ?_)
              · refine o_okS ?_
                first | with_reducible exact True.intro | with_reducible assumption | grind [-Prod] | grind [-Prod, → sc_Tx] | grind [-Prod, I_Tx, o_bn, upd]
              · refine o_okI (fun c11 => ?_) (fun c11 => ?_)
                · refine o_okS ?_
                  first | with_reducible exact True.intro | with_reducible assumption | grind [-Prod] | grind [-Prod, → sc_Tx] | grind [-Prod, I_Tx, o_bn, upd]
                · refine o_okI (fun c12 => ?_) (fun c12 => ?_)
                  · refine o_okB (l_Tx_sameString_b102  hn h_a0 h_a2 (by first | with_reducible exact True.intro | with_reducible assumption | grind [-Prod] | grind [-Prod, → sc_Tx] | grind [-Prod, I_Tx, o_bn, upd]) (by first | with_reducible exact True.intro | with_reducible assumption | grind [-Prod] | grind [-Prod, → sc_Tx] | grind [-Prod, I_Tx, o_bn, upd]) (by first | with_reducible exact True.intro | with_reducible assumption | grind [-Prod] | grind [-Prod, → sc_Tx] | grind [-Prod, I_Tx, o_bn, upd]) (by first | with_reducible exact True.intro | with_reducible assumption | grind [-Prod] | grind [-Prod, → sc_Tx] | grind [-Prod, I_Tx, o_bn, upd]) (by first | with_reducible exact True.intro | with_reducible assumption | grind [-Prod] | grind [-Prod, → sc_Tx] | grind [-Prod, I_Tx, o_bn, upd]) (by first | with_reducible exact True.intro | with_reducible assumption | grind [-Prod] | grind [-Prod, → sc_Tx] | grind [-Prod, I_Tx, o_bn, upd]) (by first | with_reducible exact True.intro | with_reducible assumption | grind [-Prod] | grind [-Prod, → sc_Tx] | grind [-Prod, I_Tx, o_bn, upd]) (by first | with_reducible exact True.intro | with_reducible assumption | grind [-Prod] | grind [-Prod, → sc_Tx] | grind [-Prod, I_Tx, o_bn, upd])) ?_
                    intro q1_13 ⟨yq1_13, _⟩
                    refine o_okI (fun c14 => ?_) (fun c14 => ?_)
                    · refine o_okS ?_
                      first | with_reducible exact True.intro | with_reducible assumption | grind [-Prod] | grind [-Prod, → sc_Tx] | grind [-Prod, I_Tx, o_bn, upd]
                    · refine o_okS ?_
                      first | with_reducible exact True.intro | with_reducible assumption | grind [-Prod] | grind [-Prod, → sc_Tx] | grind [-Prod, I_Tx, o_bn, upd]
                  · refine o_okS ?_
                    first | with_reducible exact True.intro | with_reducible assumption | grind [-Prod] | grind [-Prod, → sc_Tx] | grind [-Prod, I_Tx, o_bn, upd]
          · refine o_okS ?_
            first | with_reducible exact True.intro | with_reducible assumption | grind [-Prod] | grind [-Prod, → sc_Tx] | grind [-Prod, I_Tx, o_bn, upd]
set_option maxHeartbeats 8000000 in
theorem s_Tx_nextChild {x1 : Int32} {a0 : STx} (h_a0 : I_Tx a0) : o_ok (m_Tx_nextChild x1 a0) (fun r => True) := by
  unfold m_Tx_nextChild
  refine o_okI (fun c1 => ?_) (fun c1 => ?_)
  · unfold m_Tx_nextChild_j22
    refine o_okI (fun c2 => ?_) (fun c2 => ?_)
    · refine o_okS ?_
      trivial
    · refine o_okI (fun c3 => ?_) (fun c3 => ?_)
      · refine o_okS ?_
        trivial
      · refine o_okG (o_inM (m := 1000) rfl (by first | with_reducible exact True.intro | with_reducible assumption | grind [-Prod] | grind [-Prod, → sc_Tx] | grind [-Prod, I_Tx, o_bn, upd]) (by first | with_reducible exact True.intro | with_reducible assumption | grind [-Prod] | grind [-Prod, → sc_Tx] | grind [-Prod, I_Tx, o_bn, upd])) ?_
        refine o_okG (o_inM (m := 1000) rfl (by first | with_reducible exact True.intro | with_reducible assumption | grind [-Prod] | grind [-Prod, → sc_Tx] | grind [-Prod, I_Tx, o_bn, upd]) (by first | with_reducible exact True.intro | with_reducible assumption | grind [-Prod] | grind [-Prod, → sc_Tx] | grind [-Prod, I_Tx, o_bn, upd])) ?_
        refine o_okI (fun c4 => ?_) (fun c4 => ?_)
        · refine o_okG (o_inM (m := 1000) rfl (by first | with_reducible exact True.intro | with_reducible assumption | grind [-Prod] | grind [-Prod, → sc_Tx] | grind [-Prod, I_Tx, o_bn, upd]) (by first | with_reducible exact True.intro | with_reducible assumption | grind [-Prod] | grind [-Prod, → sc_Tx] | grind [-Prod, I_Tx, o_bn, upd])) ?_
          refine o_okI (fun c5 => ?_) (fun c5 => ?_)
          · refine o_okG (o_inM (m := 1000) rfl (by first | with_reducible exact True.intro | with_reducible assumption | grind [-Prod] | grind [-Prod, → sc_Tx] | grind [-Prod, I_Tx, o_bn, upd]) (by first | with_reducible exact True.intro | with_reducible assumption | grind [-Prod] | grind [-Prod, → sc_Tx] | grind [-Prod, I_Tx, o_bn, upd])) ?_
            refine o_okS ?_
            trivial
          · refine o_okG (o_inM (m := 1000) rfl (by first | with_reducible exact True.intro | with_reducible assumption | grind [-Prod] | grind [-Prod, → sc_Tx] | grind [-Prod, I_Tx, o_bn, upd]) (by first | with_reducible exact True.intro | with_reducible assumption | grind [-Prod] | grind [-Prod, → sc_Tx] | grind [-Prod, I_Tx, o_bn, upd])) ?_
            refine o_okS ?_
            trivial
        · refine o_okS ?_
          trivial
  · refine o_okI (fun c6 => ?_) (fun c6 => ?_)
    · unfold m_Tx_nextChild_j22
      refine o_okI (fun c7 => ?_) (fun c7 => ?_)
      · refine o_okS ?_
        trivial
      · refine o_okI (fun c8 => ?_) (fun c8 => ?_)
        · refine o_okS ?_
          trivial
        · refine o_okG (o_inM (m := 1000) rfl (by first | with_reducible exact True.intro | with_reducible assumption | grind [-Prod] | grind [-Prod, → sc_Tx] | grind [-Prod, I_Tx, o_bn, upd]) (by first | with_reducible exact True.intro | with_reducible assumption | grind [-Prod] | grind [-Prod, → sc_Tx] | grind [-Prod, I_Tx, o_bn, upd])) ?_
          refine o_okG (o_inM (m := 1000) rfl (by first | with_reducible exact True.intro | with_reducible assumption | grind [-Prod] | grind [-Prod, → sc_Tx] | grind [-Prod, I_Tx, o_bn, upd]) (by first | with_reducible exact True.intro | with_reducible assumption | grind [-Prod] | grind [-Prod, → sc_Tx] | grind [-Prod, I_Tx, o_bn, upd])) ?_
          refine o_okI (fun c9 => ?_) (fun c9 => ?_)
          · refine o_okG (o_inM (m := 1000) rfl (by first | with_reducible exact True.intro | with_reducible assumption | grind [-Prod] | grind [-Prod, → sc_Tx] | grind [-Prod, I_Tx, o_bn, upd]) (by first | with_reducible exact True.intro | with_reducible assumption | grind [-Prod] | grind [-Prod, → sc_Tx] | grind [-Prod, I_Tx, o_bn, upd])) ?_
            refine o_okI (fun c10 => ?_) (fun c10 => ?_)
            · refine o_okG (o_inM (m := 1000) rfl (by first | with_reducible exact True.intro | with_reducible assumption | grind [-Prod] | grind [-Prod, → sc_Tx] | grind [-Prod, I_Tx, o_bn, upd]) (by first | with_reducible exact True.intro | with_reducible assumption | grind [-Prod] | grind [-Prod, → sc_Tx] | grind [-Prod, I_Tx, o_bn, upd])) ?_
              refine o_okS ?_
              trivial
            · refine o_okG (o_inM (m := 1000) rfl (by first | with_reducible exact True.intro | with_reducible assumption | grind [-Prod] | grind [-Prod, → sc_Tx] | grind [-Prod, I_Tx, o_bn, upd]) (by first | with_reducible exact True.intro | with_reducible assumption | grind [-Prod] | grind [-Prod, → sc_Tx] | grind [-Prod, I_Tx, o_bn, upd])) ?_
              refine o_okS ?_
              trivial
          · refine o_okS ?_
            trivial
    · refine o_okG (o_inM (m := 1000) rfl (by first | with_reducible exact True.intro | with_reducible assumption | grind [-Prod] | grind [-Prod, → sc_Tx] | grind [-Prod, I_Tx, o_bn, upd]) (by first | with_reducible exact True.intro | with_reducible assumption | grind [-Prod] | grind [-Prod, → sc_Tx] | grind [-Prod, I_Tx, o_bn, upd])) ?_
      unfold m_Tx_nextChild_j22
      refine o_okI (fun c11 => ?_) (fun c11 => ?_)
      · refine o_okS ?_
        trivial
      · refine o_okI (fun c12 => ?_) (fun c12 => ?_)
        · refine o_okS ?_
          trivial
        · refine o_okG (o_inM (m := 1000) rfl (by first | with_reducible exact True.intro | with_reducible assumption | grind [-Prod] | grind [-Prod, → sc_Tx] | grind [-Prod, I_Tx, o_bn, upd]) (by first | with_reducible exact True.intro | with_reducible assumption | grind [-Prod] | grind [-Prod, → sc_Tx] | grind [-Prod, I_Tx, o_bn, upd])) ?_
          refine o_okG (o_inM (m := 1000) rfl (by first | with_reducible exact True.intro | with_reducible assumption | grind [-Prod] | grind [-Prod, → sc_Tx] | grind [-Prod, I_Tx, o_bn, upd]) (by first | with_reducible exact True.intro | with_reducible assumption | grind [-Prod] | grind [-Prod, → sc_Tx] | grind [-Prod, I_Tx, o_bn, upd])) ?_
          refine o_okI (fun c13 => ?_) (fun c13 => ?_)
          · refine o_okG (o_inM (m := 1000) rfl (by first | with_reducible exact True.intro | with_reducible assumption | grind [-Prod] | grind [-Prod, → sc_Tx] | grind [-Prod, I_Tx, o_bn, upd]) (by first | with_reducible exact True.intro | with_reducible assumption | grind [-Prod] | grind [-Prod, → sc_Tx] | grind [-Prod, I_Tx, o_bn, upd])) ?_
            refine o_okI (fun c14 => ?_) (fun c14 => ?_)
            · refine o_okG (o_inM (m := 1000) rfl (by first | with_reducible exact True.intro | with_reducible assumption | grind [-Prod] | grind [-Prod, → sc_Tx] | grind [-Prod, I_Tx, o_bn, upd]) (by first | with_reducible exact True.intro | with_reducible assumption | grind [-Prod] | grind [-Prod, → sc_Tx] | grind [-Prod, I_Tx, o_bn, upd])) ?_
              refine o_okS ?_
              trivial
            · refine o_okG (o_inM (m := 1000) rfl (by first | with_reducible exact True.intro | with_reducible assumption | grind [-Prod] | grind [-Prod, → sc_Tx] | grind [-Prod, I_Tx, o_bn, upd]) (by first | with_reducible exact True.intro | with_reducible assumption | grind [-Prod] | grind [-Prod, → sc_Tx] | grind [-Prod, I_Tx, o_bn, upd])) ?_
              refine o_okS ?_
              trivial
          · refine o_okS ?_
            trivial
theorem s_Tx_member_b10 {n : Nat} {x1 : Int32} {x3 : Int32} {a0 : STx} {a2 : STx} {z : Int32 × Int32} (hn : o_big ≤ n) (h_a0 : I_Tx a0) (h_a2 : I_Tx a2) (l0 : 0 ≤ z.2) : o_ok (m_Tx_member_b10 n x1 x3 a0 a2 z) (fun q => (q.1 = 0 → 0 ≤ q.2.2 ∧ o_mu q.2.2 < o_mu z.2) ∧ (q.1 ≠ 0 → True)) := by
  unfold m_Tx_member_b10
  refine o_okB (s_Tx_size  h_a0) ?_
  intro q2_1 g2
  refine o_okI (fun c3 => ?_) (fun c3 => ?_)
  · refine o_okS ?_
    refine ⟨fun h => absurd (show (2 : Nat) = 0 from h) (by decide), fun _ => ?_⟩
    trivial
  · refine o_okB (s_Tx_sameString  hn h_a0 h_a2) ?_
    intro q3_4 g5
    refine o_okI (fun c6 => ?_) (fun c6 => ?_)
    · refine o_okB (s_Tx_nextChild  h_a0) ?_
      intro q4_7 _
      refine o_okN (fun x5_44_8 ex5_44_8 => ?_)
      refine o_okS ?_
      refine ⟨fun _ => ?_, fun h => absurd rfl h⟩
      refine ⟨?_, ?_⟩
      · first | with_reducible exact True.intro | with_reducible assumption | grind [-Prod] | grind [-Prod, → sc_Tx] | grind [-Prod, I_Tx, o_bn, upd]
      · first | exact o_muL (by first | with_reducible exact True.intro | with_reducible assumption | grind [-Prod] | grind [-Prod, → sc_Tx] | grind [-Prod, I_Tx, o_bn, upd]) | exact o_nuL (by first | with_reducible exact True.intro | with_reducible assumption | grind [-Prod] | grind [-Prod, → sc_Tx] | grind [-Prod, I_Tx, o_bn, upd]) | (first | with_reducible exact True.intro | with_reducible assumption | grind [-Prod] | grind [-Prod, → sc_Tx] | grind [-Prod, I_Tx, o_bn, upd])
    · refine o_okS ?_
      refine ⟨fun h => absurd (show (1 : Nat) = 0 from h) (by decide), fun _ => ?_⟩
      trivial
theorem l_Tx_member_b10 {n : Nat} {x1 : Int32} {x3 : Int32} {a0 : STx} {a2 : STx} {z : Int32 × Int32} (hn : o_big ≤ n) (h_a0 : I_Tx a0) (h_a2 : I_Tx a2) (l0 : 0 ≤ z.2) : o_ok (o_lp n (m_Tx_member_b10 n x1 x3 a0 a2) z) (fun q => q.1 ≠ 0 ∧ True) := by
  exact o_lpR (fun z => 0 ≤ z.2) (fun z => o_mu z.2) hn (o_muB) l0
    (fun z hz => by have l0 := hz; exact o_okW (s_Tx_member_b10 hn h_a0 h_a2 l0) (fun q hq => ⟨fun h => by have := hq.1 h; grind, hq.2⟩))
theorem s_Tx_member {n : Nat} {x1 : Int32} {x3 : Int32} {a0 : STx} {a2 : STx} (hn : o_big ≤ n) (h_a0 : I_Tx a0) (h_a2 : I_Tx a2) : o_ok (m_Tx_member n x1 x3 a0 a2) (fun r => True) := by
  unfold m_Tx_member
  refine o_okB (s_Tx_firstChild  h_a0) ?_
  intro q1_1 _
  refine o_okB (l_Tx_member_b10  hn h_a0 h_a2 (by first | with_reducible exact True.intro | with_reducible assumption | grind [-Prod] | grind [-Prod, → sc_Tx] | grind [-Prod, I_Tx, o_bn, upd])) ?_
  intro q5_2 ⟨yq5_2, _⟩
  refine o_okI (fun c3 => ?_) (fun c3 => ?_)
  · refine o_okS ?_
    trivial
  · refine o_okS ?_
    trivial
theorem s_Tx_place {x1 : Int32} {a0 : STx} (h_a0 : I_Tx a0) : o_ok (m_Tx_place x1 a0) (fun r => True) := by
  unfold m_Tx_place
  refine o_okI (fun c1 => ?_) (fun c1 => ?_)
  · refine o_okS ?_
    trivial
  · refine o_okI (fun c2 => ?_) (fun c2 => ?_)
    · refine o_okS ?_
      trivial
    · refine o_okG (o_inM (m := 1000) rfl (by first | with_reducible exact True.intro | with_reducible assumption | grind [-Prod] | grind [-Prod, → sc_Tx] | grind [-Prod, I_Tx, o_bn, upd]) (by first | with_reducible exact True.intro | with_reducible assumption | grind [-Prod] | grind [-Prod, → sc_Tx] | grind [-Prod, I_Tx, o_bn, upd])) ?_
      refine o_okS ?_
      trivial
theorem s_Rd_endName {n : Nat} {x1 : Int32} {x2 : Int32} {tc : STx} {Rd : SRd} (hn : o_big ≤ n) (h_tc : I_Tx tc) (h_Rd : I_Rd Rd) : o_ok (m_Rd_endName n x1 x2 tc Rd) (fun r => (r.1 = 0 ∨ r.1 = 1) ∧ I_Rd r.2) := by
  unfold m_Rd_endName
  refine o_okB (s_Tx_member  hn h_tc h_tc) ?_
  intro q1_1 _
  refine o_okI (fun c2 => ?_) (fun c2 => ?_)
  · refine o_okB (s_Rd_skipBlanks  hn h_Rd) ?_
    intro q2_3 g4
    refine o_okB (s_Rd_peek  g4) ?_
    intro q3_5 g6
    refine o_okI (fun c7 => ?_) (fun c7 => ?_)
    · refine o_okS ?_
      refine ⟨?_, ?_⟩
      · first | with_reducible exact True.intro | with_reducible assumption | grind [-Prod] | grind [-Prod, → sc_Rd, → sc_Tx] | grind [-Prod, I_Rd, I_Tx, o_bn, upd]
      · exact ⟨g4.1, g4.2⟩
    · refine o_okB (s_Rd_refuse  g4) ?_
      intro q4_8 ⟨g9, g10⟩
      refine o_okG (o_zbM (by first | with_reducible exact True.intro | with_reducible assumption | grind [-Prod] | grind [-Prod, → sc_Rd, → sc_Tx] | grind [-Prod, I_Rd, I_Tx, o_bn, upd])) ?_
      refine o_okS ?_
      refine ⟨?_, ?_⟩
      · first | with_reducible exact True.intro | with_reducible assumption | grind [-Prod] | grind [-Prod, → sc_Rd, → sc_Tx] | grind [-Prod, I_Rd, I_Tx, o_bn, upd]
      · exact g10
  · refine o_okB (s_Tx_place  h_tc) ?_
    intro q5_11 _
    refine o_okB (s_Rd_refuse  h_Rd) ?_
    intro q6_12 ⟨g13, g14⟩
    refine o_okG (o_zbM (by first | with_reducible exact True.intro | with_reducible assumption | grind [-Prod] | grind [-Prod, → sc_Rd, → sc_Tx] | grind [-Prod, I_Rd, I_Tx, o_bn, upd])) ?_
    refine o_okS ?_
    refine ⟨?_, ?_⟩
    · first | with_reducible exact True.intro | with_reducible assumption | grind [-Prod] | grind [-Prod, → sc_Rd, → sc_Tx] | grind [-Prod, I_Rd, I_Tx, o_bn, upd]
    · exact g14
set_option maxHeartbeats 8000000 in
theorem s_Rd_readObject_b37 {n : Nat} {rec : Int32 → Int32 → Int32 → STx → SRd → Option (Int32 × STx × SRd)} {x1 : Int32} {x2 : Int32} {z : Int32 × STx × SRd} (hn : o_big ≤ n) (hrec : ∀ (v0 v1 : Int32) (T : STx) (R : SRd), I_Tx T → I_Rd R → o_ok (rec v0 v1 (x2 + 1) T R) (fun r => (r.1 = 0 ∨ r.1 = 1) ∧ I_Tx r.2.1 ∧ I_Rd r.2.2)) (l0 : z.1 ≤ 60) (l1 : 0 ≤ z.1) (l2 : I_Tx z.2.1) (l3 : I_Rd z.2.2) : o_ok (m_Rd_readObject_b37 n rec x1 x2 z) (fun q => (q.1 = 0 → q.2.1 ≤ 60 ∧ 0 ≤ q.2.1 ∧ I_Tx q.2.2.1 ∧ I_Rd q.2.2.2 ∧ o_mu q.2.1 < o_mu z.1) ∧ (q.1 ≠ 0 → 0 ≤ q.2.1 ∧ q.2.1 ≤ 60 ∧ I_Tx q.2.2.1 ∧ I_Rd q.2.2.2)) := by
  unfold m_Rd_readObject_b37
  refine o_okI (fun c1 => ?_) (fun c1 => ?_)
  · refine o_okS ?_
    refine ⟨fun h => absurd (show (4 : Nat) = 0 from h) (by decide), fun _ => ?_⟩
    refine ⟨?_, ?_, ?_, ?_⟩
    · first | with_reducible exact True.intro | with_reducible assumption | grind [-Prod] | grind [-Prod, → sc_Rd, → sc_Tx] | grind [-Prod, I_Rd, I_Tx, o_bn, upd]
    · first | with_reducible exact True.intro | with_reducible assumption | grind [-Prod] | grind [-Prod, → sc_Rd, → sc_Tx] | grind [-Prod, I_Rd, I_Tx, o_bn, upd]
    · exact l2
    · exact l3
  · refine o_okB (s_Rd_beginName  hn l2 l3) ?_
    intro q3_2 ⟨g3, g4⟩
    refine o_okI (fun c5 => ?_) (fun c5 => ?_)
    · refine o_okS ?_
      refine ⟨fun h => absurd (show (1 : Nat) = 0 from h) (by decide), fun _ => ?_⟩
      refine ⟨?_, ?_, ?_, ?_⟩
      · first | with_reducible exact True.intro | with_reducible assumption | grind [-Prod] | grind [-Prod, → sc_Rd, → sc_Tx] | grind [-Prod, I_Rd, I_Tx, o_bn, upd]
      · first | with_reducible exact True.intro | with_reducible assumption | grind [-Prod] | grind [-Prod, → sc_Rd, → sc_Tx] | grind [-Prod, I_Rd, I_Tx, o_bn, upd]
      · exact g3
      · exact g4
    · refine o_okB (s_Rd_readString  hn g3 g4) ?_
      intro q4_6 ⟨g7, g8, g9⟩
      refine o_okI (fun c10 => ?_) (fun c10 => ?_)
      · refine o_okS ?_
        refine ⟨fun h => absurd (show (1 : Nat) = 0 from h) (by decide), fun _ => ?_⟩
        refine ⟨?_, ?_, ?_, ?_⟩
        · first | with_reducible exact True.intro | with_reducible assumption | grind [-Prod] | grind [-Prod, → sc_Rd, → sc_Tx] | grind [-Prod, I_Rd, I_Tx, o_bn, upd]
        · first | with_reducible exact True.intro | with_reducible assumption | grind [-Prod] | grind [-Prod, → sc_Rd, → sc_Tx] | grind [-Prod, I_Rd, I_Tx, o_bn, upd]
        · exact g8
        · exact g9
      · refine o_okB (s_Rd_endName  hn g8 g9) ?_
        intro q5_11 ⟨g12, g13⟩
        refine o_okI (fun c14 => ?_) (fun c14 => ?_)
        · refine o_okS ?_
          refine ⟨fun h => absurd (show (1 : Nat) = 0 from h) (by decide), fun _ => ?_⟩
          refine ⟨?_, ?_, ?_, ?_⟩
          · first | with_reducible exact True.intro | with_reducible assumption | grind [-Prod] | grind [-Prod, → sc_Rd, → sc_Tx] | grind [-Prod, I_Rd, I_Tx, o_bn, upd]
          · first | with_reducible exact True.intro | with_reducible assumption | grind [-Prod] | grind [-Prod, → sc_Rd, → sc_Tx] | grind [-Prod, I_Rd, I_Tx, o_bn, upd]
          · exact g8
          · exact g13
        · refine o_okB (hrec _ _ _ _ g8 g13) ?_
          intro q6_15 ⟨g16, g17, g18⟩
          refine o_okI (fun c19 => ?_) (fun c19 => ?_)
          · refine o_okS ?_
            refine ⟨fun h => absurd (show (1 : Nat) = 0 from h) (by decide), fun _ => ?_⟩
            refine ⟨?_, ?_, ?_, ?_⟩
            · first | with_reducible exact True.intro | with_reducible assumption | grind [-Prod] | grind [-Prod, → sc_Rd, → sc_Tx] | grind [-Prod, I_Rd, I_Tx, o_bn, upd]
            · first | with_reducible exact True.intro | with_reducible assumption | grind [-Prod] | grind [-Prod, → sc_Rd, → sc_Tx] | grind [-Prod, I_Rd, I_Tx, o_bn, upd]
            · exact g17
            · exact g18
          · refine o_okB (s_Rd_skipBlanks  hn g18) ?_
            intro q7_20 g21
            refine o_okB (s_Rd_peek  g21) ?_
            intro q8_22 g23
            refine o_okI (fun c24 => ?_) (fun c24 => ?_)
            · unfold m_Rd_readObject_j123
              refine o_okB (s_Tx_endParent  g17 (by first | with_reducible exact True.intro | with_reducible assumption | grind [-Prod] | grind [-Prod, → sc_Rd, → sc_Tx] | grind [-Prod, I_Rd, I_Tx, o_bn, upd])) ?_
              intro q9_25 g26
              refine o_okI (fun c27 => ?_) (fun c27 => ?_)
              · refine o_okS ?_
                refine ⟨fun h => absurd (show (3 : Nat) = 0 from h) (by decide), fun _ => ?_⟩
                refine ⟨?_, ?_, ?_, ?_⟩
                · first | with_reducible exact True.intro | with_reducible assumption | grind [-Prod] | grind [-Prod, → sc_Rd, → sc_Tx] | grind [-Prod, I_Rd, I_Tx, o_bn, upd]
                · first | with_reducible exact True.intro | with_reducible assumption | grind [-Prod] | grind [-Prod, → sc_Rd, → sc_Tx] | grind [-Prod, I_Rd, I_Tx, o_bn, upd]
                · exact g26
                · exact ⟨g21.1, g21.2⟩
              · refine o_okN (fun x3_153_28 ex3_153_28 => ?_)
                refine o_okS ?_
                refine ⟨fun _ => ?_, fun h => absurd rfl h⟩
                refine ⟨?_, ?_, ?_, ?_, ?_⟩
                · first | with_reducible exact True.intro | with_reducible assumption | grind [-Prod] | grind [-Prod, → sc_Rd, → sc_Tx] | grind [-Prod, I_Rd, I_Tx, o_bn, upd]
                · first | with_reducible exact True.intro | with_reducible assumption | grind [-Prod] | grind [-Prod, → sc_Rd, → sc_Tx] | grind [-Prod, I_Rd, I_Tx, o_bn, upd]
                · exact g26
                · exact ⟨g21.1, g21.2⟩
                · first | exact o_muL (by first | with_reducible exact True.intro | with_reducible assumption | grind [-Prod] | grind [-Prod, → sc_Rd, → sc_Tx] | grind [-Prod, I_Rd, I_Tx, o_bn, upd]) | exact o_nuL (by first | with_reducible exact True.intro | with_reducible assumption | grind [-Prod] | grind [-Prod, → sc_Rd, → sc_Tx] | grind [-Prod, I_Rd, I_Tx, o_bn, upd]) | (first | with_reducible exact True.intro | with_reducible assumption | grind [-Prod] | grind [-Prod, → sc_Rd, → sc_Tx] | grind [-Prod, I_Rd, I_Tx, o_bn, upd])
            · refine o_okI (fun c29 => ?_) (fun c29 => ?_)
              · unfold m_Rd_readObject_j123
                refine o_okB (s_Tx_endParent  g17 (by first | with_reducible exact True.intro | with_reducible assumption | grind [-Prod] | grind [-Prod, → sc_Rd, → sc_Tx] | grind [-Prod, I_Rd, I_Tx, o_bn, upd])) ?_
                intro q9_30 g31
                refine o_okI (fun c32 => ?_) (fun c32 => ?_)
                · refine o_okS ?_
                  refine ⟨fun h => absurd (show (3 : Nat) = 0 from h) (by decide), fun _ => ?_⟩
                  refine ⟨?_, ?_, ?_, ?_⟩
                  · first | with_reducible exact True.intro | with_reducible assumption | grind [-Prod] | grind [-Prod, → sc_Rd, → sc_Tx] | grind [-Prod, I_Rd, I_Tx, o_bn, upd]
                  · first | with_reducible exact True.intro | with_reducible assumption | grind [-Prod] | grind [-Prod, → sc_Rd, → sc_Tx] | grind [-Prod, I_Rd, I_Tx, o_bn, upd]
                  · exact g31
                  · exact ⟨g21.1, g21.2⟩
                · refine o_okN (fun x3_153_33 ex3_153_33 => ?_)
                  refine o_okS ?_
                  refine ⟨fun _ => ?_, fun h => absurd rfl h⟩
                  refine ⟨?_, ?_, ?_, ?_, ?_⟩
                  · first | with_reducible exact True.intro | with_reducible assumption | grind [-Prod] | grind [-Prod, → sc_Rd, → sc_Tx] | grind [-Prod, I_Rd, I_Tx, o_bn, upd]
                  · first | with_reducible exact True.intro | with_reducible assumption | grind [-Prod] | grind [-Prod, → sc_Rd, → sc_Tx] | grind [-Prod, I_Rd, I_Tx, o_bn, upd]
                  · exact g31
                  · exact ⟨g21.1, g21.2⟩
                  · first | exact o_muL (by first | with_reducible exact True.intro | with_reducible assumption | grind [-Prod] | grind [-Prod, → sc_Rd, → sc_Tx] | grind [-Prod, I_Rd, I_Tx, o_bn, upd]) | exact o_nuL (by first | with_reducible exact True.intro | with_reducible assumption | grind [-Prod] | grind [-Prod, → sc_Rd, → sc_Tx] | grind [-Prod, I_Rd, I_Tx, o_bn, upd]) | (first | with_reducible exact True.intro | with_reducible assumption | grind [-Prod] | grind [-Prod, → sc_Rd, → sc_Tx] | grind [-Prod, I_Rd, I_Tx, o_bn, upd])
              · refine o_okS ?_
                refine ⟨fun h => absurd (show (2 : Nat) = 0 from h) (by decide), fun _ => ?_⟩
                refine ⟨?_, ?_, ?_, ?_⟩
                · first | with_reducible exact True.intro | with_reducible assumption | grind [-Prod] | grind [-Prod, → sc_Rd, → sc_Tx] | grind [-Prod, I_Rd, I_Tx, o_bn, upd]
                · first | with_reducible exact True.intro | with_reducible assumption | grind [-Prod] | grind [-Prod, → sc_Rd, → sc_Tx] | grind [-Prod, I_Rd, I_Tx, o_bn, upd]
                · exact g17
                · exact g21
theorem l_Rd_readObject_b37 {n : Nat} {rec : Int32 → Int32 → Int32 → STx → SRd → Option (Int32 × STx × SRd)} {x1 : Int32} {x2 : Int32} {z : Int32 × STx × SRd} (hn : o_big ≤ n) (hrec : ∀ (v0 v1 : Int32) (T : STx) (R : SRd), I_Tx T → I_Rd R → o_ok (rec v0 v1 (x2 + 1) T R) (fun r => (r.1 = 0 ∨ r.1 = 1) ∧ I_Tx r.2.1 ∧ I_Rd r.2.2)) (l0 : z.1 ≤ 60) (l1 : 0 ≤ z.1) (l2 : I_Tx z.2.1) (l3 : I_Rd z.2.2) : o_ok (o_lp n (m_Rd_readObject_b37 n rec x1 x2) z) (fun q => q.1 ≠ 0 ∧ 0 ≤ q.2.1 ∧ q.2.1 ≤ 60 ∧ I_Tx q.2.2.1 ∧ I_Rd q.2.2.2) := by
  exact o_lpR (fun z => z.1 ≤ 60 ∧ 0 ≤ z.1 ∧ I_Tx z.2.1 ∧ I_Rd z.2.2) (fun z => o_mu z.1) hn (o_muB) ⟨l0, l1, l2, l3⟩
    (fun z hz => by obtain ⟨l0, l1, l2, l3⟩ := hz; exact o_okW (s_Rd_readObject_b37 hn hrec l0 l1 l2 l3) (fun q hq => ⟨fun h => by have := hq.1 h; grind, hq.2⟩))
theorem s_Rd_readObject {n : Nat} {rec : Int32 → Int32 → Int32 → STx → SRd → Option (Int32 × STx × SRd)} {x1 : Int32} {x2 : Int32} {tc : STx} {Rd : SRd} (hn : o_big ≤ n) (h_tc : I_Tx tc) (h_Rd : I_Rd Rd) (hrec : ∀ (v0 v1 : Int32) (T : STx) (R : SRd), I_Tx T → I_Rd R → o_ok (rec v0 v1 (x2 + 1) T R) (fun r => (r.1 = 0 ∨ r.1 = 1) ∧ I_Tx r.2.1 ∧ I_Rd r.2.2)) : o_ok (m_Rd_readObject n rec x1 x2 tc Rd) (fun r => (r.1 = 0 ∨ r.1 = 1) ∧ I_Tx r.2.1 ∧ I_Rd r.2.2) := by
  unfold m_Rd_readObject
  refine o_okB (s_Rd_skipBlanks  hn ⟨h_Rd.1, h_Rd.2⟩) ?_
  intro q1_1 g2
  refine o_okB (s_Rd_peek  g2) ?_
  intro q2_3 g4
  refine o_okI (fun c5 => ?_) (fun c5 => ?_)
  · refine o_okS ?_
    refine ⟨?_, ?_, ?_⟩
    · first | with_reducible exact True.intro | with_reducible assumption | grind [-Prod] | grind [-Prod, → sc_Rd, → sc_Tx] | grind [-Prod, I_Rd, I_Tx, o_bn, upd]
    · exact h_tc
    · exact ⟨g2.1, g2.2⟩
  · refine o_okB (l_Rd_readObject_b37  hn hrec (by first | with_reducible exact True.intro | with_reducible assumption | grind [-Prod] | grind [-Prod, → sc_Rd, → sc_Tx] | grind [-Prod, I_Rd, I_Tx, o_bn, upd]) (by first | with_reducible exact True.intro | with_reducible assumption | grind [-Prod] | grind [-Prod, → sc_Rd, → sc_Tx] | grind [-Prod, I_Rd, I_Tx, o_bn, upd]) h_tc g2) ?_
    intro q10_6 ⟨yq10_6, g7, g8, g9, g10⟩
    refine o_okI (fun c11 => ?_) (fun c11 => ?_)
    · refine o_okS ?_
      refine ⟨?_, ?_, ?_⟩
      · first | with_reducible exact True.intro | with_reducible assumption | grind [-Prod] | grind [-Prod, → sc_Rd, → sc_Tx] | grind [-Prod, I_Rd, I_Tx, o_bn, upd]
      · exact g9
      · exact g10
    · refine o_okI (fun c12 => ?_) (fun c12 => ?_)
      · refine o_okB (s_Rd_refuse  g10) ?_
        intro q11_13 ⟨g14, g15⟩
        refine o_okG (o_zbM (by first | with_reducible exact True.intro | with_reducible assumption | grind [-Prod] | grind [-Prod, → sc_Rd, → sc_Tx] | grind [-Prod, I_Rd, I_Tx, o_bn, upd])) ?_
        refine o_okS ?_
        refine ⟨?_, ?_, ?_⟩
        · first | with_reducible exact True.intro | with_reducible assumption | grind [-Prod] | grind [-Prod, → sc_Rd, → sc_Tx] | grind [-Prod, I_Rd, I_Tx, o_bn, upd]
        · exact g9
        · exact g15
      · refine o_okI (fun c16 => ?_) (fun c16 => ?_)
        · refine o_okS ?_
          refine ⟨?_, ?_, ?_⟩
          · first | with_reducible exact True.intro | with_reducible assumption | grind [-Prod] | grind [-Prod, → sc_Rd, → sc_Tx] | grind [-Prod, I_Rd, I_Tx, o_bn, upd]
          · exact g9
          · exact g10
        · refine o_okB (s_Rd_skipBlanks  hn g10) ?_
          intro q12_17 g18
          refine o_okB (s_Rd_refuse  g18) ?_
          intro q13_19 ⟨g20, g21⟩
          refine o_okG (o_zbM (by first | with_reducible exact True.intro | with_reducible assumption | grind [-Prod] | grind [-Prod, → sc_Rd, → sc_Tx] | grind [-Prod, I_Rd, I_Tx, o_bn, upd])) ?_
          refine o_okS ?_
          refine ⟨?_, ?_, ?_⟩
          · first | with_reducible exact True.intro | with_reducible assumption | grind [-Prod] | grind [-Prod, → sc_Rd, → sc_Tx] | grind [-Prod, I_Rd, I_Tx, o_bn, upd]
          · exact g9
          · exact g21
set_option maxHeartbeats 8000000 in
theorem s_Rd_readArray_b37 {n : Nat} {rec : Int32 → Int32 → Int32 → STx → SRd → Option (Int32 × STx × SRd)} {x1 : Int32} {x2 : Int32} {z : Int32 × STx × SRd} (hn : o_big ≤ n) (hrec : ∀ (v0 v1 : Int32) (T : STx) (R : SRd), I_Tx T → I_Rd R → o_ok (rec v0 v1 (x2 + 1) T R) (fun r => (r.1 = 0 ∨ r.1 = 1) ∧ I_Tx r.2.1 ∧ I_Rd r.2.2)) (l0 : z.1 ≤ 60) (l1 : 0 ≤ z.1) (l2 : I_Tx z.2.1) (l3 : I_Rd z.2.2) : o_ok (m_Rd_readArray_b37 n rec x1 x2 z) (fun q => (q.1 = 0 → q.2.1 ≤ 60 ∧ 0 ≤ q.2.1 ∧ I_Tx q.2.2.1 ∧ I_Rd q.2.2.2 ∧ o_mu q.2.1 < o_mu z.1) ∧ (q.1 ≠ 0 → 0 ≤ q.2.1 ∧ q.2.1 ≤ 60 ∧ I_Tx q.2.2.1 ∧ I_Rd q.2.2.2)) := by
  unfold m_Rd_readArray_b37
  refine o_okI (fun c1 => ?_) (fun c1 => ?_)
  · refine o_okS ?_
    refine ⟨fun h => absurd (show (4 : Nat) = 0 from h) (by decide), fun _ => ?_⟩
    refine ⟨?_, ?_, ?_, ?_⟩
    · first | with_reducible exact True.intro | with_reducible assumption | grind [-Prod] | grind [-Prod, → sc_Rd, → sc_Tx] | grind [-Prod, I_Rd, I_Tx, o_bn, upd]
    · first | with_reducible exact True.intro | with_reducible assumption | grind [-Prod] | grind [-Prod, → sc_Rd, → sc_Tx] | grind [-Prod, I_Rd, I_Tx, o_bn, upd]
    · exact l2
    · exact l3
  · refine o_okB (hrec _ _ _ _ l2 l3) ?_
    intro q3_2 ⟨g3, g4, g5⟩
    refine o_okI (fun c6 => ?_) (fun c6 => ?_)
    · refine o_okS ?_
      refine ⟨fun h => absurd (show (1 : Nat) = 0 from h) (by decide), fun _ => ?_⟩
      refine ⟨?_, ?_, ?_, ?_⟩
      · first | with_reducible exact True.intro | with_reducible assumption | grind [-Prod] | grind [-Prod, → sc_Rd, → sc_Tx] | grind [-Prod, I_Rd, I_Tx, o_bn, upd]
      · first | with_reducible exact True.intro | with_reducible assumption | grind [-Prod] | grind [-Prod, → sc_Rd, → sc_Tx] | grind [-Prod, I_Rd, I_Tx, o_bn, upd]
      · exact g4
      · exact g5
    · refine o_okB (s_Rd_skipBlanks  hn g5) ?_
      intro q4_7 g8
      refine o_okB (s_Rd_peek  g8) ?_
      intro q5_9 g10
      refine o_okI (fun c11 => ?_) (fun c11 => ?_)
      · unfold m_Rd_readArray_j90
        refine o_okI (fun c12 => ?_) (fun c12 => ?_)
        · refine o_okS ?_
          refine ⟨fun h => absurd (show (3 : Nat) = 0 from h) (by decide), fun _ => ?_⟩
          refine ⟨?_, ?_, ?_, ?_⟩
          · first | with_reducible exact True.intro | with_reducible assumption | grind [-Prod] | grind [-Prod, → sc_Rd, → sc_Tx] | grind [-Prod, I_Rd, I_Tx, o_bn, upd]
          · first | with_reducible exact True.intro | with_reducible assumption | grind [-Prod] | grind [-Prod, → sc_Rd, → sc_Tx] | grind [-Prod, I_Rd, I_Tx, o_bn, upd]
          · exact g4
          · exact ⟨g8.1, g8.2⟩
        · refine o_okN (fun x3_120_13 ex3_120_13 => ?_)
          refine o_okS ?_
          refine ⟨fun _ => ?_, fun h => absurd rfl h⟩
          refine ⟨?_, ?_, ?_, ?_, ?_⟩
          · first | with_reducible exact True.intro | with_reducible assumption | grind [-Prod] | grind [-Prod, → sc_Rd, → sc_Tx] | grind [-Prod, I_Rd, I_Tx, o_bn, upd]
          · first | with_reducible exact True.intro | with_reducible assumption | grind [-Prod] | grind [-Prod, → sc_Rd, → sc_Tx] | grind [-Prod, I_Rd, I_Tx, o_bn, upd]
          · exact g4
          · exact ⟨g8.1, g8.2⟩
          · first | exact o_muL (by first | with_reducible exact True.intro | with_reducible assumption | grind [-Prod] | grind [-Prod, → sc_Rd, → sc_Tx] | grind [-Prod, I_Rd, I_Tx, o_bn, upd]) | exact o_nuL (by first | with_reducible exact True.intro | with_reducible assumption | grind [-Prod] | grind [-Prod, → sc_Rd, → sc_Tx] | grind [-Prod, I_Rd, I_Tx, o_bn, upd]) | (first | with_reducible exact True.intro | with_reducible assumption | grind [-Prod] | grind [-Prod, → sc_Rd, → sc_Tx] | grind [-Prod, I_Rd, I_Tx, o_bn, upd])
      · refine o_okI (fun c14 => ?_) (fun c14 => ?_)
        · unfold m_Rd_readArray_j90
          refine o_okI (fun c15 => ?_) (fun c15 => ?_)
          · refine o_okS ?_
            refine ⟨fun h => absurd (show (3 : Nat) = 0 from h) (by decide), fun _ => ?_⟩
            refine ⟨?_, ?_, ?_, ?_⟩
            · first | with_reducible exact True.intro | with_reducible assumption | grind [-Prod] | grind [-Prod, → sc_Rd, → sc_Tx] | grind [-Prod, I_Rd, I_Tx, o_bn, upd]
            · first | with_reducible exact True.intro | with_reducible assumption | grind [-Prod] | grind [-Prod, → sc_Rd, → sc_Tx] | grind [-Prod, I_Rd, I_Tx, o_bn, upd]
            · exact g4
            · exact ⟨g8.1, g8.2⟩
          · refine o_okN (fun x3_120_16 ex3_120_16 => ?_)
            refine o_okS ?_
            refine ⟨fun _ => ?_, fun h => absurd rfl h⟩
            refine ⟨?_, ?_, ?_, ?_, ?_⟩
            · first | with_reducible exact True.intro | with_reducible assumption | grind [-Prod] | grind [-Prod, → sc_Rd, → sc_Tx] | grind [-Prod, I_Rd, I_Tx, o_bn, upd]
            · first | with_reducible exact True.intro | with_reducible assumption | grind [-Prod] | grind [-Prod, → sc_Rd, → sc_Tx] | grind [-Prod, I_Rd, I_Tx, o_bn, upd]
            · exact g4
            · exact ⟨g8.1, g8.2⟩
            · first | exact o_muL (by first | with_reducible exact True.intro | with_reducible assumption | grind [-Prod] | grind [-Prod, → sc_Rd, → sc_Tx] | grind [-Prod, I_Rd, I_Tx, o_bn, upd]) | exact o_nuL (by first | with_reducible exact True.intro | with_reducible assumption | grind [-Prod] | grind [-Prod, → sc_Rd, → sc_Tx] | grind [-Prod, I_Rd, I_Tx, o_bn, upd]) | (first | with_reducible exact True.intro | with_reducible assumption | grind [-Prod] | grind [-Prod, → sc_Rd, → sc_Tx] | grind [-Prod, I_Rd, I_Tx, o_bn, upd])
        · refine o_okS ?_
          refine ⟨fun h => absurd (show (2 : Nat) = 0 from h) (by decide), fun _ => ?_⟩
          refine ⟨?_, ?_, ?_, ?_⟩
          · first | with_reducible exact True.intro | with_reducible assumption | grind [-Prod] | grind [-Prod, → sc_Rd, → sc_Tx] | grind [-Prod, I_Rd, I_Tx, o_bn, upd]
          · first | with_reducible exact True.intro | with_reducible assumption | grind [-Prod] | grind [-Prod, → sc_Rd, → sc_Tx] | grind [-Prod, I_Rd, I_Tx, o_bn, upd]
          · exact g4
          · exact g8
theorem l_Rd_readArray_b37 {n : Nat} {rec : Int32 → Int32 → Int32 → STx → SRd → Option (Int32 × STx × SRd)} {x1 : Int32} {x2 : Int32} {z : Int32 × STx × SRd} (hn : o_big ≤ n) (hrec : ∀ (v0 v1 : Int32) (T : STx) (R : SRd), I_Tx T → I_Rd R → o_ok (rec v0 v1 (x2 + 1) T R) (fun r => (r.1 = 0 ∨ r.1 = 1) ∧ I_Tx r.2.1 ∧ I_Rd r.2.2)) (l0 : z.1 ≤ 60) (l1 : 0 ≤ z.1) (l2 : I_Tx z.2.1) (l3 : I_Rd z.2.2) : o_ok (o_lp n (m_Rd_readArray_b37 n rec x1 x2) z) (fun q => q.1 ≠ 0 ∧ 0 ≤ q.2.1 ∧ q.2.1 ≤ 60 ∧ I_Tx q.2.2.1 ∧ I_Rd q.2.2.2) := by
  exact o_lpR (fun z => z.1 ≤ 60 ∧ 0 ≤ z.1 ∧ I_Tx z.2.1 ∧ I_Rd z.2.2) (fun z => o_mu z.1) hn (o_muB) ⟨l0, l1, l2, l3⟩
    (fun z hz => by obtain ⟨l0, l1, l2, l3⟩ := hz; exact o_okW (s_Rd_readArray_b37 hn hrec l0 l1 l2 l3) (fun q hq => ⟨fun h => by have := hq.1 h; grind, hq.2⟩))
theorem s_Rd_readArray {n : Nat} {rec : Int32 → Int32 → Int32 → STx → SRd → Option (Int32 × STx × SRd)} {x1 : Int32} {x2 : Int32} {tc : STx} {Rd : SRd} (hn : o_big ≤ n) (h_tc : I_Tx tc) (h_Rd : I_Rd Rd) (hrec : ∀ (v0 v1 : Int32) (T : STx) (R : SRd), I_Tx T → I_Rd R → o_ok (rec v0 v1 (x2 + 1) T R) (fun r => (r.1 = 0 ∨ r.1 = 1) ∧ I_Tx r.2.1 ∧ I_Rd r.2.2)) : o_ok (m_Rd_readArray n rec x1 x2 tc Rd) (fun r => (r.1 = 0 ∨ r.1 = 1) ∧ I_Tx r.2.1 ∧ I_Rd r.2.2) := by
  unfold m_Rd_readArray
  refine o_okB (s_Rd_skipBlanks  hn ⟨h_Rd.1, h_Rd.2⟩) ?_
  intro q1_1 g2
  refine o_okB (s_Rd_peek  g2) ?_
  intro q2_3 g4
  refine o_okI (fun c5 => ?_) (fun c5 => ?_)
  · refine o_okS ?_
    refine ⟨?_, ?_, ?_⟩
    · first | with_reducible exact True.intro | with_reducible assumption | grind [-Prod] | grind [-Prod, → sc_Rd, → sc_Tx] | grind [-Prod, I_Rd, I_Tx, o_bn, upd]
    · exact h_tc
    · exact ⟨g2.1, g2.2⟩
  · refine o_okB (l_Rd_readArray_b37  hn hrec (by first | with_reducible exact True.intro | with_reducible assumption | grind [-Prod] | grind [-Prod, → sc_Rd, → sc_Tx] | grind [-Prod, I_Rd, I_Tx, o_bn, upd]) (by first | with_reducible exact True.intro | with_reducible assumption | grind [-Prod] | grind [-Prod, → sc_Rd, → sc_Tx] | grind [-Prod, I_Rd, I_Tx, o_bn, upd]) h_tc g2) ?_
    intro q6_6 ⟨yq6_6, g7, g8, g9, g10⟩
    refine o_okI (fun c11 => ?_) (fun c11 => ?_)
    · refine o_okS ?_
      refine ⟨?_, ?_, ?_⟩
      · first | with_reducible exact True.intro | with_reducible assumption | grind [-Prod] | grind [-Prod, → sc_Rd, → sc_Tx] | grind [-Prod, I_Rd, I_Tx, o_bn, upd]
      · exact g9
      · exact g10
    · refine o_okI (fun c12 => ?_) (fun c12 => ?_)
      · refine o_okB (s_Rd_refuse  g10) ?_
        intro q7_13 ⟨g14, g15⟩
        refine o_okG (o_zbM (by first | with_reducible exact True.intro | with_reducible assumption | grind [-Prod] | grind [-Prod, → sc_Rd, → sc_Tx] | grind [-Prod, I_Rd, I_Tx, o_bn, upd])) ?_
        refine o_okS ?_
        refine ⟨?_, ?_, ?_⟩
        · first | with_reducible exact True.intro | with_reducible assumption | grind [-Prod] | grind [-Prod, → sc_Rd, → sc_Tx] | grind [-Prod, I_Rd, I_Tx, o_bn, upd]
        · exact g9
        · exact g15
      · refine o_okI (fun c16 => ?_) (fun c16 => ?_)
        · refine o_okB (s_Tx_endParent  g9 (by first | with_reducible exact True.intro | with_reducible assumption | grind [-Prod] | grind [-Prod, → sc_Rd, → sc_Tx] | grind [-Prod, I_Rd, I_Tx, o_bn, upd])) ?_
          intro q8_17 g18
          refine o_okS ?_
          refine ⟨?_, ?_, ?_⟩
          · first | with_reducible exact True.intro | with_reducible assumption | grind [-Prod] | grind [-Prod, → sc_Rd, → sc_Tx] | grind [-Prod, I_Rd, I_Tx, o_bn, upd]
          · exact g18
          · exact g10
        · refine o_okB (s_Rd_skipBlanks  hn g10) ?_
          intro q9_19 g20
          refine o_okB (s_Rd_refuse  g20) ?_
          intro q10_21 ⟨g22, g23⟩
          refine o_okG (o_zbM (by first | with_reducible exact True.intro | with_reducible assumption | grind [-Prod] | grind [-Prod, → sc_Rd, → sc_Tx] | grind [-Prod, I_Rd, I_Tx, o_bn, upd])) ?_
          refine o_okS ?_
          refine ⟨?_, ?_, ?_⟩
          · first | with_reducible exact True.intro | with_reducible assumption | grind [-Prod] | grind [-Prod, → sc_Rd, → sc_Tx] | grind [-Prod, I_Rd, I_Tx, o_bn, upd]
          · exact g9
          · exact g23
set_option maxHeartbeats 8000000 in
theorem s_Rd_readValue_F {n : Nat} {rec : Int32 → Int32 → Int32 → STx → SRd → Option (Int32 × STx × SRd)} {x1 : Int32} {x2 : Int32} {x3 : Int32} {tc : STx} {Rd : SRd} (hn : o_big ≤ n) (h_tc : I_Tx tc) (h_Rd : I_Rd Rd) (hrec : x3 ≤ 40 → ∀ (v0 v1 : Int32) (T : STx) (R : SRd), I_Tx T → I_Rd R → o_ok (rec v0 v1 (x3 + 1) T R) (fun r => (r.1 = 0 ∨ r.1 = 1) ∧ I_Tx r.2.1 ∧ I_Rd r.2.2)) : o_ok (m_Rd_readValue_F n rec x1 x2 x3 tc Rd) (fun r => (r.1 = 0 ∨ r.1 = 1) ∧ I_Tx r.2.1 ∧ I_Rd r.2.2) := by
  unfold m_Rd_readValue_F
  refine o_okB (s_Rd_skipBlanks  hn h_Rd) ?_
  intro q1_1 g2
  refine o_okB (s_Rd_peek  g2) ?_
  intro q2_3 g4
  refine o_okB (s_Rd_kindThatBegins ) ?_
  intro q3_5 g6
  refine o_okI (fun c7 => ?_) (fun c7 => ?_)
  · unfold m_Rd_readValue_j31
    refine o_okB (s_Rd_refuse  g2) ?_
    intro q4_8 ⟨g9, g10⟩
    refine o_okG (o_zbM (by first | with_reducible exact True.intro | with_reducible assumption | grind [-Prod] | grind [-Prod, → sc_Rd, → sc_Tx] | grind [-Prod, I_Rd, I_Tx, o_bn, upd])) ?_
    refine o_okS ?_
    refine ⟨?_, ?_, ?_⟩
    · first | with_reducible exact True.intro | with_reducible assumption | grind [-Prod] | grind [-Prod, → sc_Rd, → sc_Tx] | grind [-Prod, I_Rd, I_Tx, o_bn, upd]
    · exact h_tc
    · exact g10
  · refine o_okI (fun c11 => ?_) (fun c11 => ?_)
    · unfold m_Rd_readValue_j40
      refine o_okB (s_Tx_begin  h_tc) ?_
      intro q5_12 g13
      refine o_okI (fun c14 => ?_) (fun c14 => ?_)
      · refine o_okB (s_Rd_refuse  g2) ?_
        intro q13_15 ⟨g16, g17⟩
        refine o_okG (o_zbM (by first | with_reducible exact True.intro | with_reducible assumption | grind [-Prod] | grind [-Prod, → sc_Rd, → sc_Tx] | grind [-Prod, I_Rd, I_Tx, o_bn, upd])) ?_
        refine o_okS ?_
        refine ⟨?_, ?_, ?_⟩
        · first | with_reducible exact True.intro | with_reducible assumption | grind [-Prod] | grind [-Prod, → sc_Rd, → sc_Tx] | grind [-Prod, I_Rd, I_Tx, o_bn, upd]
        · exact g13
        · exact g17
      · refine o_okI (fun c18 => ?_) (fun c18 => ?_)
        · refine o_okB (s_Rd_readWord  hn g2) ?_
          intro q6_19 ⟨g20, g21⟩
          refine o_okG (o_zbM (by first | with_reducible exact True.intro | with_reducible assumption | grind [-Prod] | grind [-Prod, → sc_Rd, → sc_Tx] | grind [-Prod, I_Rd, I_Tx, o_bn, upd])) ?_
          refine o_okS ?_
          refine ⟨?_, ?_, ?_⟩
          · first | with_reducible exact True.intro | with_reducible assumption | grind [-Prod] | grind [-Prod, → sc_Rd, → sc_Tx] | grind [-Prod, I_Rd, I_Tx, o_bn, upd]
          · exact g13
          · exact g21
        · refine o_okI (fun c22 => ?_) (fun c22 => ?_)
          · refine o_okB (s_Rd_readWord  hn g2) ?_
            intro q7_23 ⟨g24, g25⟩
            refine o_okG (o_zbM (by first | with_reducible exact True.intro | with_reducible assumption | grind [-Prod] | grind [-Prod, → sc_Rd, → sc_Tx] | grind [-Prod, I_Rd, I_Tx, o_bn, upd])) ?_
            refine o_okS ?_
            refine ⟨?_, ?_, ?_⟩
            · first | with_reducible exact True.intro | with_reducible assumption | grind [-Prod] | grind [-Prod, → sc_Rd, → sc_Tx] | grind [-Prod, I_Rd, I_Tx, o_bn, upd]
            · exact g13
            · exact g25
          · refine o_okI (fun c26 => ?_) (fun c26 => ?_)
            · refine o_okB (s_Rd_readWord  hn g2) ?_
              intro q8_27 ⟨g28, g29⟩
              refine o_okG (o_zbM (by first | with_reducible exact True.intro | with_reducible assumption | grind [-Prod] | grind [-Prod, → sc_Rd, → sc_Tx] | grind [-Prod, I_Rd, I_Tx, o_bn, upd])) ?_
              refine o_okS ?_
              refine ⟨?_, ?_, ?_⟩
              · first | with_reducible exact True.intro | with_reducible assumption | grind [-Prod] | grind [-Prod, → sc_Rd, → sc_Tx] | grind [-Prod, I_Rd, I_Tx, o_bn, upd]
              · exact g13
              · exact g29
            · refine o_okI (fun c30 => ?_) (fun c30 => ?_)
              · refine o_okB (s_Rd_readNumber  hn g13 g2) ?_
                intro q9_31 ⟨g32, g33, g34⟩
                refine o_okG (o_zbM (by first | with_reducible exact True.intro | with_reducible assumption | grind [-Prod] | grind [-Prod, → sc_Rd, → sc_Tx] | grind [-Prod, I_Rd, I_Tx, o_bn, upd])) ?_
                refine o_okS ?_
                refine ⟨?_, ?_, ?_⟩
                · first | with_reducible exact True.intro | with_reducible assumption | grind [-Prod] | grind [-Prod, → sc_Rd, → sc_Tx] | grind [-Prod, I_Rd, I_Tx, o_bn, upd]
                · exact g33
                · exact g34
              · refine o_okI (fun c35 => ?_) (fun c35 => ?_)
                · refine o_okB (s_Rd_readString  hn g13 g2) ?_
                  intro q10_36 ⟨g37, g38, g39⟩
                  refine o_okG (o_zbM (by first | with_reducible exact True.intro | with_reducible assumption | grind [-Prod] | grind [-Prod, → sc_Rd, → sc_Tx] | grind [-Prod, I_Rd, I_Tx, o_bn, upd])) ?_
                  refine o_okS ?_
                  refine ⟨?_, ?_, ?_⟩
                  · first | with_reducible exact True.intro | with_reducible assumption | grind [-Prod] | grind [-Prod, → sc_Rd, → sc_Tx] | grind [-Prod, I_Rd, I_Tx, o_bn, upd]
                  · exact g38
                  · exact g39
                · refine o_okI (fun c40 => ?_) (fun c40 => ?_)
                  · refine o_okB (s_Rd_readArray  hn g13 g2 (hrec (by first | assumption | grind))) ?_
                    intro q11_41 ⟨g42, g43, g44⟩
                    refine o_okG (o_zbM (by first | with_reducible exact True.intro | with_reducible assumption | grind [-Prod] | grind [-Prod, → sc_Rd, → sc_Tx] | grind [-Prod, I_Rd, I_Tx, o_bn, upd])) ?_
                    refine o_okS ?_
                    refine ⟨?_, ?_, ?_⟩
                    · first | with_reducible exact True.intro | with_reducible assumption | grind [-Prod] | grind [-Prod, → sc_Rd, → sc_Tx] | grind [-Prod, I_Rd, I_Tx, o_bn, upd]
                    · exact g43
                    · exact g44
                  · refine o_okB (s_Rd_readObject  hn g13 g2 (hrec (by first | assumption | grind))) ?_
                    intro q12_45 ⟨g46, g47, g48⟩
                    refine o_okG (o_zbM (by first | with_reducible exact True.intro | with_reducible assumption | grind [-Prod] | grind [-Prod, → sc_Rd, → sc_Tx] | grind [-Prod, I_Rd, I_Tx, o_bn, upd])) ?_
                    refine o_okS ?_
                    refine ⟨?_, ?_, ?_⟩
                    · first | with_reducible exact True.intro | with_reducible assumption | grind [-Prod] | grind [-Prod, → sc_Rd, → sc_Tx] | grind [-Prod, I_Rd, I_Tx, o_bn, upd]
                    · exact g47
                    · exact g48
    · refine o_okI (fun c49 => ?_) (fun c49 => ?_)
      · unfold m_Rd_readValue_j40
        refine o_okB (s_Tx_begin  h_tc) ?_
        intro q5_50 g51
        refine o_okI (fun c52 => ?_) (fun c52 => ?_)
        · refine o_okB (s_Rd_refuse  g2) ?_
          intro q13_53 ⟨g54, g55⟩
          refine o_okG (o_zbM (by first | with_reducible exact True.intro | with_reducible assumption | grind [-Prod] | grind [-Prod, → sc_Rd, → sc_Tx] | grind [-Prod, I_Rd, I_Tx, o_bn, upd])) ?_
          refine o_okS ?_
          refine ⟨?_, ?_, ?_⟩
          · first | with_reducible exact True.intro | with_reducible assumption | grind [-Prod] | grind [-Prod, → sc_Rd, → sc_Tx] | grind [-Prod, I_Rd, I_Tx, o_bn, upd]
          · exact g51
          · exact g55
        · refine o_okI (fun c56 => ?_) (fun c56 => ?_)
          · refine o_okB (s_Rd_readWord  hn g2) ?_
            intro q6_57 ⟨g58, g59⟩
            refine o_okG (o_zbM (by first | with_reducible exact True.intro | with_reducible assumption | grind [-Prod] | grind [-Prod, → sc_Rd, → sc_Tx] | grind [-Prod, I_Rd, I_Tx, o_bn, upd])) ?_
            refine o_okS ?_
            refine ⟨?_, ?_, ?_⟩
            · first | with_reducible exact True.intro | with_reducible assumption | grind [-Prod] | grind [-Prod, → sc_Rd, → sc_Tx] | grind [-Prod, I_Rd, I_Tx, o_bn, upd]
            · exact g51
            · exact g59
          · refine o_okI (fun c60 => ?_) (fun c60 => ?_)
            · refine o_okB (s_Rd_readWord  hn g2) ?_
              intro q7_61 ⟨g62, g63⟩
              refine o_okG (o_zbM (by first | with_reducible exact True.intro | with_reducible assumption | grind [-Prod] | grind [-Prod, → sc_Rd, → sc_Tx] | grind [-Prod, I_Rd, I_Tx, o_bn, upd])) ?_
              refine o_okS ?_
              refine ⟨?_, ?_, ?_⟩
              · first | with_reducible exact True.intro | with_reducible assumption | grind [-Prod] | grind [-Prod, → sc_Rd, → sc_Tx] | grind [-Prod, I_Rd, I_Tx, o_bn, upd]
              · exact g51
              · exact g63
            · refine o_okI (fun c64 => ?_) (fun c64 => ?_)
              · refine o_okB (s_Rd_readWord  hn g2) ?_
                intro q8_65 ⟨g66, g67⟩
                refine o_okG (o_zbM (by first | with_reducible exact True.intro | with_reducible assumption | grind [-Prod] | grind [-Prod, → sc_Rd, → sc_Tx] | grind [-Prod, I_Rd, I_Tx, o_bn, upd])) ?_
                refine o_okS ?_
                refine ⟨?_, ?_, ?_⟩
                · first | with_reducible exact True.intro | with_reducible assumption | grind [-Prod] | grind [-Prod, → sc_Rd, → sc_Tx] | grind [-Prod, I_Rd, I_Tx, o_bn, upd]
                · exact g51
                · exact g67
              · refine o_okI (fun c68 => ?_) (fun c68 => ?_)
                · refine o_okB (s_Rd_readNumber  hn g51 g2) ?_
                  intro q9_69 ⟨g70, g71, g72⟩
                  refine o_okG (o_zbM (by first | with_reducible exact True.intro | with_reducible assumption | grind [-Prod] | grind [-Prod, → sc_Rd, → sc_Tx] | grind [-Prod, I_Rd, I_Tx, o_bn, upd])) ?_
                  refine o_okS ?_
                  refine ⟨?_, ?_, ?_⟩
                  · first | with_reducible exact True.intro | with_reducible assumption | grind [-Prod] | grind [-Prod, → sc_Rd, → sc_Tx] | grind [-Prod, I_Rd, I_Tx, o_bn, upd]
                  · exact g71
                  · exact g72
                · refine o_okI (fun c73 => ?_) (fun c73 => ?_)
                  · refine o_okB (s_Rd_readString  hn g51 g2) ?_
                    intro q10_74 ⟨g75, g76, g77⟩
                    refine o_okG (o_zbM (by first | with_reducible exact True.intro | with_reducible assumption | grind [-Prod] | grind [-Prod, → sc_Rd, → sc_Tx] | grind [-Prod, I_Rd, I_Tx, o_bn, upd])) ?_
                    refine o_okS ?_
                    refine ⟨?_, ?_, ?_⟩
                    · first | with_reducible exact True.intro | with_reducible assumption | grind [-Prod] | grind [-Prod, → sc_Rd, → sc_Tx] | grind [-Prod, I_Rd, I_Tx, o_bn, upd]
                    · exact g76
                    · exact g77
                  · refine o_okI (fun c78 => ?_) (fun c78 => ?_)
                    · refine o_okB (s_Rd_readArray  hn g51 g2 (hrec (by first | assumption | grind))) ?_
                      intro q11_79 ⟨g80, g81, g82⟩
                      refine o_okG (o_zbM (by first | with_reducible exact True.intro | with_reducible assumption | grind [-Prod] | grind [-Prod, → sc_Rd, → sc_Tx] | grind [-Prod, I_Rd, I_Tx, o_bn, upd])) ?_
                      refine o_okS ?_
                      refine ⟨?_, ?_, ?_⟩
                      · first | with_reducible exact True.intro | with_reducible assumption | grind [-Prod] | grind [-Prod, → sc_Rd, → sc_Tx] | grind [-Prod, I_Rd, I_Tx, o_bn, upd]
                      · exact g81
                      · exact g82
                    · refine o_okB (s_Rd_readObject  hn g51 g2 (hrec (by first | assumption | grind))) ?_
                      intro q12_83 ⟨g84, g85, g86⟩
                      refine o_okG (o_zbM (by first | with_reducible exact True.intro | with_reducible assumption | grind [-Prod] | grind [-Prod, → sc_Rd, → sc_Tx] | grind [-Prod, I_Rd, I_Tx, o_bn, upd])) ?_
                      refine o_okS ?_
                      refine ⟨?_, ?_, ?_⟩
                      · first | with_reducible exact True.intro | with_reducible assumption | grind [-Prod] | grind [-Prod, → sc_Rd, → sc_Tx] | grind [-Prod, I_Rd, I_Tx, o_bn, upd]
                      · exact g85
                      · exact g86
      · unfold m_Rd_readValue_j31
        refine o_okB (s_Rd_refuse  g2) ?_
        intro q4_87 ⟨g88, g89⟩
        refine o_okG (o_zbM (by first | with_reducible exact True.intro | with_reducible assumption | grind [-Prod] | grind [-Prod, → sc_Rd, → sc_Tx] | grind [-Prod, I_Rd, I_Tx, o_bn, upd])) ?_
        refine o_okS ?_
        refine ⟨?_, ?_, ?_⟩
        · first | with_reducible exact True.intro | with_reducible assumption | grind [-Prod] | grind [-Prod, → sc_Rd, → sc_Tx] | grind [-Prod, I_Rd, I_Tx, o_bn, upd]
        · exact h_tc
        · exact g89
theorem s_Rd_readValue {n d : Nat} {v0 v1 v2 : Int32} {T : STx} {R : SRd} (hn : o_big ≤ n) (hd : v2 ≤ 41 ∧ 42 ≤ v2.toInt + d) (h_T : I_Tx T) (h_R : I_Rd R) : o_ok (m_Rd_readValue n d v0 v1 v2 T R) (fun r => (r.1 = 0 ∨ r.1 = 1) ∧ I_Tx r.2.1 ∧ I_Rd r.2.2) := by
  induction d generalizing v0 v1 v2 T R with
  | zero =>
    have a := Int32.le_iff_toInt_le.mp hd.1
    have z : (41 : Int32).toInt = 41 := rfl
    rw [z] at a
    have b := hd.2
    exfalso; omega
  | succ d ih =>
    refine s_Rd_readValue_F hn h_T h_R ?_
    intro h v0 v1 T R hT hR
    refine ih ?_ hT hR
    have a := o_add1 (x := v2) (by grind)
    rw [a]
    have b := hd.2
    refine ⟨by grind, by omega⟩
theorem s_Rd_read {n : Nat} {x2 : Int32} {a1 : STx} {Rd : SRd} (hn : o_big ≤ n) (h_a1 : I_Tx a1) (h_Rd : I_Rd Rd) : o_ok (m_Rd_read n x2 a1 Rd) (fun r => I_Tx r.2.1 ∧ I_Rd r.2.2) := by
  unfold m_Rd_read
  refine o_okB (s_Tx_clear  h_a1) ?_
  intro q1_1 g2
  refine o_okB (s_Rd_readValue hn (by decide) g2 ⟨h_Rd.1, h_Rd.2⟩) ?_
  intro q2_3 ⟨g4, g5, g6⟩
  refine o_okI (fun c7 => ?_) (fun c7 => ?_)
  · unfold m_Rd_read_j63
    refine o_okI (fun c8 => ?_) (fun c8 => ?_)
    · refine o_okS ?_
      refine ⟨?_, ?_⟩
      · exact g5
      · exact ⟨(by first | with_reducible exact True.intro | with_reducible assumption | grind [-Prod] | grind [-Prod, → sc_Rd, → sc_Tx] | grind [-Prod, I_Rd, I_Tx, o_bn, upd]), (by first | with_reducible exact True.intro | with_reducible assumption | grind [-Prod] | grind [-Prod, → sc_Rd, → sc_Tx] | grind [-Prod, I_Rd, I_Tx, o_bn, upd])⟩
    · refine o_okB (s_Tx_clear  g5) ?_
      intro q3_9 g10
      refine o_okS ?_
      refine ⟨?_, ?_⟩
      · exact g10
      · exact ⟨(by first | with_reducible exact True.intro | with_reducible assumption | grind [-Prod] | grind [-Prod, → sc_Rd, → sc_Tx] | grind [-Prod, I_Rd, I_Tx, o_bn, upd]), (by first | with_reducible exact True.intro | with_reducible assumption | grind [-Prod] | grind [-Prod, → sc_Rd, → sc_Tx] | grind [-Prod, I_Rd, I_Tx, o_bn, upd])⟩
  · refine o_okB (s_Rd_skipBlanks  hn g6) ?_
    intro q4_11 g12
    refine o_okI (fun c13 => ?_) (fun c13 => ?_)
    · unfold m_Rd_read_j63
      refine o_okI (fun c14 => ?_) (fun c14 => ?_)
      · refine o_okS ?_
        refine ⟨?_, ?_⟩
        · exact g5
        · exact ⟨(by first | with_reducible exact True.intro | with_reducible assumption | grind [-Prod] | grind [-Prod, → sc_Rd, → sc_Tx] | grind [-Prod, I_Rd, I_Tx, o_bn, upd]), (by first | with_reducible exact True.intro | with_reducible assumption | grind [-Prod] | grind [-Prod, → sc_Rd, → sc_Tx] | grind [-Prod, I_Rd, I_Tx, o_bn, upd])⟩
      · refine o_okB (s_Tx_clear  g5) ?_
        intro q3_15 g16
        refine o_okS ?_
        refine ⟨?_, ?_⟩
        · exact g16
        · exact ⟨(by first | with_reducible exact True.intro | with_reducible assumption | grind [-Prod] | grind [-Prod, → sc_Rd, → sc_Tx] | grind [-Prod, I_Rd, I_Tx, o_bn, upd]), (by first | with_reducible exact True.intro | with_reducible assumption | grind [-Prod] | grind [-Prod, → sc_Rd, → sc_Tx] | grind [-Prod, I_Rd, I_Tx, o_bn, upd])⟩
    · refine o_okB (s_Rd_refuse  g12) ?_
      intro q5_17 ⟨g18, g19⟩
      unfold m_Rd_read_j63
      refine o_okI (fun c20 => ?_) (fun c20 => ?_)
      · refine o_okS ?_
        refine ⟨?_, ?_⟩
        · exact g5
        · exact ⟨(by first | with_reducible exact True.intro | with_reducible assumption | grind [-Prod] | grind [-Prod, → sc_Rd, → sc_Tx] | grind [-Prod, I_Rd, I_Tx, o_bn, upd]), (by first | with_reducible exact True.intro | with_reducible assumption | grind [-Prod] | grind [-Prod, → sc_Rd, → sc_Tx] | grind [-Prod, I_Rd, I_Tx, o_bn, upd])⟩
      · refine o_okB (s_Tx_clear  g5) ?_
        intro q3_21 g22
        refine o_okS ?_
        refine ⟨?_, ?_⟩
        · exact g22
        · exact ⟨(by first | with_reducible exact True.intro | with_reducible assumption | grind [-Prod] | grind [-Prod, → sc_Rd, → sc_Tx] | grind [-Prod, I_Rd, I_Tx, o_bn, upd]), (by first | with_reducible exact True.intro | with_reducible assumption | grind [-Prod] | grind [-Prod, → sc_Rd, → sc_Tx] | grind [-Prod, I_Rd, I_Tx, o_bn, upd])⟩
theorem s_Tx_total {a0 : STx} (h_a0 : I_Tx a0) : o_ok (m_Tx_total a0) (fun r => r = Tx_total a0) := by
  unfold m_Tx_total
  refine o_okS ?_
  first | with_reducible exact True.intro | with_reducible assumption | grind [-Prod] | grind [-Prod, → sc_Tx] | grind [-Prod, I_Tx, o_bn, upd]
theorem s_SJ_end_j58v4 {n : Nat} {rt : Nat} {x2 : Int32} {T0 : STx} {T1 : STx} {Rd : SRd} {Ck : SCk} {Sj : SSJ} (hn : o_big ≤ n) (h_T0 : I_Tx T0) (h_T1 : I_Tx T1) (h_Rd : I_Rd Rd) (h_Ck : I_Ck Ck) : o_ok (m_SJ_end_j58v4 n rt x2 T0 T1 Rd Ck Sj) (fun r => I_Tx r.2.2.1 ∧ I_Tx r.2.2.2.1 ∧ I_Rd r.2.2.2.2.1 ∧ I_Ck r.2.2.2.2.2.1) := by
  unfold m_SJ_end_j58v4
  refine o_okB (s_Rd_read  hn h_T0 h_Rd) ?_
  intro q5_1 ⟨g2, g3⟩
  refine o_okI (fun c4 => ?_) (fun c4 => ?_)
  · refine o_okB (s_Tx_total  g2) ?_
    intro q6_5 g6
    refine o_okS ?_
    refine ⟨?_, ?_, ?_, ?_⟩
    · exact g2
    · exact h_T1
    · exact g3
    · exact h_Ck
  · refine o_okS ?_
    refine ⟨?_, ?_, ?_, ?_⟩
    · exact g2
    · exact h_T1
    · exact g3
    · exact h_Ck
set_option maxHeartbeats 8000000 in
theorem s_SJ_end {n : Nat} {rt : Nat} {x1 : Int32} {x2 : Int32} {T0 : STx} {T1 : STx} {Rd : SRd} {Ck : SCk} {Sj : SSJ} (hn : o_big ≤ n) (h_T0 : I_Tx T0) (h_T1 : I_Tx T1) (h_Rd : I_Rd Rd) (h_Ck : I_Ck Ck) : o_ok (m_SJ_end n rt x1 x2 T0 T1 Rd Ck Sj) (fun r => I_Tx r.2.2.1 ∧ I_Tx r.2.2.2.1 ∧ I_Rd r.2.2.2.2.1 ∧ I_Ck r.2.2.2.2.2.1) := by
  unfold m_SJ_end
  refine o_okI (fun c1 => ?_) (fun c1 => ?_)
  · unfold m_SJ_end_j22
    refine o_okS ?_
    refine ⟨?_, ?_, ?_, ?_⟩
    · exact h_T0
    · exact h_T1
    · exact h_Rd
    · exact h_Ck
  · refine o_okI (fun c2 => ?_) (fun c2 => ?_)
    · unfold m_SJ_end_j22
      refine o_okS ?_
      refine ⟨?_, ?_, ?_, ?_⟩
      · exact h_T0
      · exact h_T1
      · exact h_Rd
      · exact h_Ck
    · refine o_okB (s_Rd_octets  h_Rd) ?_
      intro q1_3 _
      refine o_okI (fun c4 => ?_) (fun c4 => ?_)
      · refine o_okI (fun c5 => ?_) (fun c5 => ?_)
        · unfold m_SJ_end_j43
          refine o_okI (fun c6 => ?_) (fun c6 => ?_)
          · unfold m_SJ_end_j58
            refine o_okB (s_Rd_read  hn h_T1 h_Rd) ?_
            intro q2_7 ⟨g8, g9⟩
            refine o_okI (fun c10 => ?_) (fun c10 => ?_)
            · refine o_okB (s_Tx_total  g8) ?_
              intro q3_11 g12
              refine o_okS ?_
              refine ⟨?_, ?_, ?_, ?_⟩
              · exact h_T0
              · exact g8
              · exact g9
              · exact h_Ck
            · refine o_okS ?_
              refine ⟨?_, ?_, ?_, ?_⟩
              · exact h_T0
              · exact g8
              · exact g9
              · exact h_Ck
          · refine o_okW (s_SJ_end_j58v4  hn h_T0 h_T1 h_Rd h_Ck) (fun r hr => ?_)
            first | exact hr | (obtain ⟨g13, g14, g15, g16⟩ := hr; first | with_reducible exact True.intro | with_reducible assumption | grind [-Prod] | grind [-Prod, → sc_Ck, → sc_Rd, → sc_Tx] | grind [-Prod, I_Ck, I_Rd, I_Tx, o_bn, upd])
        · refine o_okB (s_Ck_forget  h_Ck) ?_
          intro q7_17 g18
          unfold m_SJ_end_j43
          refine o_okI (fun c19 => ?_) (fun c19 => ?_)
          · unfold m_SJ_end_j58
            refine o_okB (s_Rd_read  hn h_T1 h_Rd) ?_
            intro q2_20 ⟨g21, g22⟩
            refine o_okI (fun c23 => ?_) (fun c23 => ?_)
            · refine o_okB (s_Tx_total  g21) ?_
              intro q3_24 g25
              refine o_okS ?_
              refine ⟨?_, ?_, ?_, ?_⟩
              · exact h_T0
              · exact g21
              · exact g22
              · exact g18
            · refine o_okS ?_
              refine ⟨?_, ?_, ?_, ?_⟩
              · exact h_T0
              · exact g21
              · exact g22
              · exact g18
          · refine o_okW (s_SJ_end_j58v4  hn h_T0 h_T1 h_Rd g18) (fun r hr => ?_)
            first | exact hr | (obtain ⟨g26, g27, g28, g29⟩ := hr; first | with_reducible exact True.intro | with_reducible assumption | grind [-Prod] | grind [-Prod, → sc_Ck, → sc_Rd, → sc_Tx] | grind [-Prod, I_Ck, I_Rd, I_Tx, o_bn, upd])
      · unfold m_SJ_end_j22
        refine o_okS ?_
        refine ⟨?_, ?_, ?_, ?_⟩
        · exact h_T0
        · exact h_T1
        · exact h_Rd
        · exact h_Ck
theorem s_SJ_wrong {Sj : SSJ}  : o_ok (m_SJ_wrong Sj) (fun r => True) := by
  unfold m_SJ_wrong
  refine o_okS ?_
  trivial
theorem s_Mk_clear_b2 {n : Nat} {z : Int32 × SMk} (hn : o_big ≤ n) (l0 : 0 ≤ z.1) : o_ok (m_Mk_clear_b2 n z) (fun q => (q.1 = 0 → 0 ≤ q.2.1 ∧ o_mu q.2.1 < o_mu z.1) ∧ (q.1 ≠ 0 → True)) := by
  unfold m_Mk_clear_b2
  refine o_okI (fun c1 => ?_) (fun c1 => ?_)
  · refine o_okS ?_
    refine ⟨fun h => absurd (show (1 : Nat) = 0 from h) (by decide), fun _ => ?_⟩
    trivial
  · refine o_okG (o_inM (m := 1000) rfl (by first | with_reducible exact True.intro | with_reducible assumption | grind [-Prod] | grind [-Prod] | grind [-Prod, o_bn, upd]) (by first | with_reducible exact True.intro | with_reducible assumption | grind [-Prod] | grind [-Prod] | grind [-Prod, o_bn, upd])) ?_
    refine o_okG (o_inM (m := 1000) rfl (by first | with_reducible exact True.intro | with_reducible assumption | grind [-Prod] | grind [-Prod] | grind [-Prod, o_bn, upd]) (by first | with_reducible exact True.intro | with_reducible assumption | grind [-Prod] | grind [-Prod] | grind [-Prod, o_bn, upd])) ?_
    refine o_okG (o_inM (m := 1000) rfl (by first | with_reducible exact True.intro | with_reducible assumption | grind [-Prod] | grind [-Prod] | grind [-Prod, o_bn, upd]) (by first | with_reducible exact True.intro | with_reducible assumption | grind [-Prod] | grind [-Prod] | grind [-Prod, o_bn, upd])) ?_
    refine o_okN (fun x1_30_2 ex1_30_2 => ?_)
    refine o_okS ?_
    refine ⟨fun _ => ?_, fun h => absurd rfl h⟩
    refine ⟨?_, ?_⟩
    · first | with_reducible exact True.intro | with_reducible assumption | grind [-Prod] | grind [-Prod] | grind [-Prod, o_bn, upd]
    · first | exact o_muL (by first | with_reducible exact True.intro | with_reducible assumption | grind [-Prod] | grind [-Prod] | grind [-Prod, o_bn, upd]) | exact o_nuL (by first | with_reducible exact True.intro | with_reducible assumption | grind [-Prod] | grind [-Prod] | grind [-Prod, o_bn, upd]) | (first | with_reducible exact True.intro | with_reducible assumption | grind [-Prod] | grind [-Prod] | grind [-Prod, o_bn, upd])
theorem l_Mk_clear_b2 {n : Nat} {z : Int32 × SMk} (hn : o_big ≤ n) (l0 : 0 ≤ z.1) : o_ok (o_lp n (m_Mk_clear_b2 n) z) (fun q => q.1 ≠ 0 ∧ True) := by
  exact o_lpR (fun z => 0 ≤ z.1) (fun z => o_mu z.1) hn (o_muB) l0
    (fun z hz => by have l0 := hz; exact o_okW (s_Mk_clear_b2 hn l0) (fun q hq => ⟨fun h => by have := hq.1 h; grind, hq.2⟩))
theorem s_Mk_clear {n : Nat} {Mk : SMk} (hn : o_big ≤ n) : o_ok (m_Mk_clear n Mk) (fun r => True) := by
  unfold m_Mk_clear
  refine o_okB (l_Mk_clear_b2  hn (by first | with_reducible exact True.intro | with_reducible assumption | grind [-Prod] | grind [-Prod] | grind [-Prod, o_bn, upd])) ?_
  intro q1_1 ⟨yq1_1, _⟩
  refine o_okS ?_
  trivial
theorem s_Tx_kind {x1 : Int32} {a0 : STx} (h_a0 : I_Tx a0) : o_ok (m_Tx_kind x1 a0) (fun r => True) := by
  unfold m_Tx_kind
  refine o_okI (fun c1 => ?_) (fun c1 => ?_)
  · refine o_okS ?_
    trivial
  · refine o_okI (fun c2 => ?_) (fun c2 => ?_)
    · refine o_okS ?_
      trivial
    · refine o_okG (o_inM (m := 1000) rfl (by first | with_reducible exact True.intro | with_reducible assumption | grind [-Prod] | grind [-Prod, → sc_Tx] | grind [-Prod, I_Tx, o_bn, upd]) (by first | with_reducible exact True.intro | with_reducible assumption | grind [-Prod] | grind [-Prod, → sc_Tx] | grind [-Prod, I_Tx, o_bn, upd])) ?_
      refine o_okS ?_
      trivial
set_option maxHeartbeats 8000000 in
theorem s_Mk_markSchema {x1 : Int32} {T0 : STx} {Mk : SMk} (h_T0 : I_Tx T0) : o_ok (m_Mk_markSchema x1 T0 Mk) (fun r => (r.1 = 0 ∨ r.1 = 1)) := by
  unfold m_Mk_markSchema
  refine o_okB (s_Tx_kind  h_T0) ?_
  intro q1_1 _
  refine o_okI (fun c2 => ?_) (fun c2 => ?_)
  · unfold m_Mk_markSchema_j30
    refine o_okI (fun c3 => ?_) (fun c3 => ?_)
    · refine o_okG (o_zbM (by first | with_reducible exact True.intro | with_reducible assumption | grind [-Prod] | grind [-Prod, → sc_Tx] | grind [-Prod, I_Tx, o_bn, upd])) ?_
      refine o_okS ?_
      first | with_reducible exact True.intro | with_reducible assumption | grind [-Prod] | grind [-Prod, → sc_Tx] | grind [-Prod, I_Tx, o_bn, upd]
    · refine o_okI (fun c4 => ?_) (fun c4 => ?_)
      · refine o_okG (o_zbM (by first | with_reducible exact True.intro | with_reducible assumption | grind [-Prod] | grind [-Prod, → sc_Tx] | grind [-Prod, I_Tx, o_bn, upd])) ?_
        refine o_okS ?_
        first | with_reducible exact True.intro | with_reducible assumption | grind [-Prod] | grind [-Prod, → sc_Tx] | grind [-Prod, I_Tx, o_bn, upd]
      · refine o_okI (fun c5 => ?_) (fun c5 => ?_)
        · refine o_okG (o_zbM (by first | with_reducible exact True.intro | with_reducible assumption | grind [-Prod] | grind [-Prod, → sc_Tx] | grind [-Prod, I_Tx, o_bn, upd])) ?_
          refine o_okS ?_
          first | with_reducible exact True.intro | with_reducible assumption | grind [-Prod] | grind [-Prod, → sc_Tx] | grind [-Prod, I_Tx, o_bn, upd]
        · refine o_okG (o_inM (m := 1000) rfl (by first | with_reducible exact True.intro | with_reducible assumption | grind [-Prod] | grind [-Prod, → sc_Tx] | grind [-Prod, I_Tx, o_bn, upd]) (by first | with_reducible exact True.intro | with_reducible assumption | grind [-Prod] | grind [-Prod, → sc_Tx] | grind [-Prod, I_Tx, o_bn, upd])) ?_
          refine o_okG (o_zbM (by first | with_reducible exact True.intro | with_reducible assumption | grind [-Prod] | grind [-Prod, → sc_Tx] | grind [-Prod, I_Tx, o_bn, upd])) ?_
          refine o_okS ?_
          first | with_reducible exact True.intro | with_reducible assumption | grind [-Prod] | grind [-Prod, → sc_Tx] | grind [-Prod, I_Tx, o_bn, upd]
  · refine o_okI (fun c6 => ?_) (fun c6 => ?_)
    · unfold m_Mk_markSchema_j30
      refine o_okI (fun c7 => ?_) (fun c7 => ?_)
      · refine o_okG (o_zbM (by first | with_reducible exact True.intro | with_reducible assumption | grind [-Prod] | grind [-Prod, → sc_Tx] | grind [-Prod, I_Tx, o_bn, upd])) ?_
        refine o_okS ?_
        first | with_reducible exact True.intro | with_reducible assumption | grind [-Prod] | grind [-Prod, → sc_Tx] | grind [-Prod, I_Tx, o_bn, upd]
      · refine o_okI (fun c8 => ?_) (fun c8 => ?_)
        · refine o_okG (o_zbM (by first | with_reducible exact True.intro | with_reducible assumption | grind [-Prod] | grind [-Prod, → sc_Tx] | grind [-Prod, I_Tx, o_bn, upd])) ?_
          refine o_okS ?_
          first | with_reducible exact True.intro | with_reducible assumption | grind [-Prod] | grind [-Prod, → sc_Tx] | grind [-Prod, I_Tx, o_bn, upd]
        · refine o_okI (fun c9 => ?_) (fun c9 => ?_)
          · refine o_okG (o_zbM (by first | with_reducible exact True.intro | with_reducible assumption | grind [-Prod] | grind [-Prod, → sc_Tx] | grind [-Prod, I_Tx, o_bn, upd])) ?_
            refine o_okS ?_
            first | with_reducible exact True.intro | with_reducible assumption | grind [-Prod] | grind [-Prod, → sc_Tx] | grind [-Prod, I_Tx, o_bn, upd]
          · refine o_okG (o_inM (m := 1000) rfl (by first | with_reducible exact True.intro | with_reducible assumption | grind [-Prod] | grind [-Prod, → sc_Tx] | grind [-Prod, I_Tx, o_bn, upd]) (by first | with_reducible exact True.intro | with_reducible assumption | grind [-Prod] | grind [-Prod, → sc_Tx] | grind [-Prod, I_Tx, o_bn, upd])) ?_
            refine o_okG (o_zbM (by first | with_reducible exact True.intro | with_reducible assumption | grind [-Prod] | grind [-Prod, → sc_Tx] | grind [-Prod, I_Tx, o_bn, upd])) ?_
            refine o_okS ?_
            first | with_reducible exact True.intro | with_reducible assumption | grind [-Prod] | grind [-Prod, → sc_Tx] | grind [-Prod, I_Tx, o_bn, upd]
    · refine o_okI (fun c10 => ?_) (fun c10 => ?_)
      · unfold m_Mk_markSchema_j30
        refine o_okI (fun c11 => ?_) (fun c11 => ?_)
        · refine o_okG (o_zbM (by first | with_reducible exact True.intro | with_reducible assumption | grind [-Prod] | grind [-Prod, → sc_Tx] | grind [-Prod, I_Tx, o_bn, upd])) ?_
          refine o_okS ?_
          first | with_reducible exact True.intro | with_reducible assumption | grind [-Prod] | grind [-Prod, → sc_Tx] | grind [-Prod, I_Tx, o_bn, upd]
        · refine o_okI (fun c12 => ?_) (fun c12 => ?_)
          · refine o_okG (o_zbM (by first | with_reducible exact True.intro | with_reducible assumption | grind [-Prod] | grind [-Prod, → sc_Tx] | grind [-Prod, I_Tx, o_bn, upd])) ?_
            refine o_okS ?_
            first | with_reducible exact True.intro | with_reducible assumption | grind [-Prod] | grind [-Prod, → sc_Tx] | grind [-Prod, I_Tx, o_bn, upd]
          · refine o_okI (fun c13 => ?_) (fun c13 => ?_)
            · refine o_okG (o_zbM (by first | with_reducible exact True.intro | with_reducible assumption | grind [-Prod] | grind [-Prod, → sc_Tx] | grind [-Prod, I_Tx, o_bn, upd])) ?_
              refine o_okS ?_
              first | with_reducible exact True.intro | with_reducible assumption | grind [-Prod] | grind [-Prod, → sc_Tx] | grind [-Prod, I_Tx, o_bn, upd]
            · refine o_okG (o_inM (m := 1000) rfl (by first | with_reducible exact True.intro | with_reducible assumption | grind [-Prod] | grind [-Prod, → sc_Tx] | grind [-Prod, I_Tx, o_bn, upd]) (by first | with_reducible exact True.intro | with_reducible assumption | grind [-Prod] | grind [-Prod, → sc_Tx] | grind [-Prod, I_Tx, o_bn, upd])) ?_
              refine o_okG (o_zbM (by first | with_reducible exact True.intro | with_reducible assumption | grind [-Prod] | grind [-Prod, → sc_Tx] | grind [-Prod, I_Tx, o_bn, upd])) ?_
              refine o_okS ?_
              first | with_reducible exact True.intro | with_reducible assumption | grind [-Prod] | grind [-Prod, → sc_Tx] | grind [-Prod, I_Tx, o_bn, upd]
      · unfold m_Mk_markSchema_j30
        refine o_okI (fun c14 => ?_) (fun c14 => ?_)
        · refine o_okG (o_zbM (by first | with_reducible exact True.intro | with_reducible assumption | grind [-Prod] | grind [-Prod, → sc_Tx] | grind [-Prod, I_Tx, o_bn, upd])) ?_
          refine o_okS ?_
          first | with_reducible exact True.intro | with_reducible assumption | grind [-Prod] | grind [-Prod, → sc_Tx] | grind [-Prod, I_Tx, o_bn, upd]
        · refine o_okI (fun c15 => ?_) (fun c15 => ?_)
          · refine o_okG (o_zbM (by first | with_reducible exact True.intro | with_reducible assumption | grind [-Prod] | grind [-Prod, → sc_Tx] | grind [-Prod, I_Tx, o_bn, upd])) ?_
            refine o_okS ?_
            first | with_reducible exact True.intro | with_reducible assumption | grind [-Prod] | grind [-Prod, → sc_Tx] | grind [-Prod, I_Tx, o_bn, upd]
          · refine o_okI (fun c16 => ?_) (fun c16 => ?_)
            · refine o_okG (o_zbM (by first | with_reducible exact True.intro | with_reducible assumption | grind [-Prod] | grind [-Prod, → sc_Tx] | grind [-Prod, I_Tx, o_bn, upd])) ?_
              refine o_okS ?_
              first | with_reducible exact True.intro | with_reducible assumption | grind [-Prod] | grind [-Prod, → sc_Tx] | grind [-Prod, I_Tx, o_bn, upd]
            · refine o_okG (o_inM (m := 1000) rfl (by first | with_reducible exact True.intro | with_reducible assumption | grind [-Prod] | grind [-Prod, → sc_Tx] | grind [-Prod, I_Tx, o_bn, upd]) (by first | with_reducible exact True.intro | with_reducible assumption | grind [-Prod] | grind [-Prod, → sc_Tx] | grind [-Prod, I_Tx, o_bn, upd])) ?_
              refine o_okG (o_zbM (by first | with_reducible exact True.intro | with_reducible assumption | grind [-Prod] | grind [-Prod, → sc_Tx] | grind [-Prod, I_Tx, o_bn, upd])) ?_
              refine o_okS ?_
              first | with_reducible exact True.intro | with_reducible assumption | grind [-Prod] | grind [-Prod, → sc_Tx] | grind [-Prod, I_Tx, o_bn, upd]
theorem s_Ck_report {x1 : Int32} {x2 : Int32} {Ck : SCk} (h_Ck : I_Ck Ck) : o_ok (m_Ck_report x1 x2 Ck) (fun r => I_Ck r) := by
  unfold m_Ck_report
  refine o_okI (fun c1 => ?_) (fun c1 => ?_)
  · unfold m_Ck_report_j31
    refine o_okS ?_
    exact ⟨h_Ck.1, h_Ck.2⟩
  · refine o_okI (fun c2 => ?_) (fun c2 => ?_)
    · unfold m_Ck_report_j31
      refine o_okS ?_
      exact ⟨h_Ck.1, h_Ck.2⟩
    · refine o_okI (fun c3 => ?_) (fun c3 => ?_)
      · refine o_okI (fun c4 => ?_) (fun c4 => ?_)
        · refine o_okS ?_
          exact h_Ck
        · unfold m_Ck_report_j31
          refine o_okS ?_
          exact ⟨h_Ck.1, h_Ck.2⟩
      · refine o_okS ?_
        exact h_Ck
theorem s_Ck_require {x1 : Int32} {x2 : Int32} {Ck : SCk} (h_Ck : I_Ck Ck) : o_ok (m_Ck_require x1 x2 Ck) (fun r => I_Ck r) := by
  unfold m_Ck_require
  refine o_okI (fun c1 => ?_) (fun c1 => ?_)
  · refine o_okB (s_Ck_report  h_Ck) ?_
    intro q1_2 g3
    refine o_okS ?_
    exact g3
  · refine o_okS ?_
    exact h_Ck
theorem s_Ck_takeSchema {x1 : Int32} {T0 : STx} {Mk : SMk} {Ck : SCk} (h_T0 : I_Tx T0) (h_Ck : I_Ck Ck) : o_ok (m_Ck_takeSchema x1 T0 Mk Ck) (fun r => I_Ck r.2) := by
  unfold m_Ck_takeSchema
  refine o_okB (s_Mk_markSchema  h_T0) ?_
  intro q1_1 g2
  refine o_okB (s_Ck_require  h_Ck) ?_
  intro q2_3 g4
  refine o_okS ?_
  exact g4
theorem s_Mk_isSchema {x1 : Int32} {Mk : SMk}  : o_ok (m_Mk_isSchema x1 Mk) (fun r => (r = 0 ∨ r = 1) ∧ (r ≠ 0 → 0 ≤ x1 ∧ x1 < 1000)) := by
  unfold m_Mk_isSchema
  refine o_okI (fun c1 => ?_) (fun c1 => ?_)
  · refine o_okS ?_
    refine ⟨?_, ?_⟩
    · first | with_reducible exact True.intro | with_reducible assumption | grind [-Prod] | grind [-Prod] | grind [-Prod, o_bn, upd]
    · first | with_reducible exact True.intro | with_reducible assumption | grind [-Prod] | grind [-Prod] | grind [-Prod, o_bn, upd]
  · refine o_okI (fun c2 => ?_) (fun c2 => ?_)
    · refine o_okS ?_
      refine ⟨?_, ?_⟩
      · first | with_reducible exact True.intro | with_reducible assumption | grind [-Prod] | grind [-Prod] | grind [-Prod, o_bn, upd]
      · first | with_reducible exact True.intro | with_reducible assumption | grind [-Prod] | grind [-Prod] | grind [-Prod, o_bn, upd]
    · refine o_okG (o_inM (m := 1000) rfl (by first | with_reducible exact True.intro | with_reducible assumption | grind [-Prod] | grind [-Prod] | grind [-Prod, o_bn, upd]) (by first | with_reducible exact True.intro | with_reducible assumption | grind [-Prod] | grind [-Prod] | grind [-Prod, o_bn, upd])) ?_
      refine o_okI (fun c3 => ?_) (fun c3 => ?_)
      · refine o_okS ?_
        refine ⟨?_, ?_⟩
        · first | with_reducible exact True.intro | with_reducible assumption | grind [-Prod] | grind [-Prod] | grind [-Prod, o_bn, upd]
        · first | with_reducible exact True.intro | with_reducible assumption | grind [-Prod] | grind [-Prod] | grind [-Prod, o_bn, upd]
      · refine o_okS ?_
        refine ⟨?_, ?_⟩
        · first | with_reducible exact True.intro | with_reducible assumption | grind [-Prod] | grind [-Prod] | grind [-Prod, o_bn, upd]
        · first | with_reducible exact True.intro | with_reducible assumption | grind [-Prod] | grind [-Prod] | grind [-Prod, o_bn, upd]
theorem s_Tx_spells_b50 {n : Nat} {x1 : Int32} {x2 : Nat} {a0 : STx} {z : Int32} (hn : o_big ≤ n) (h_a0 : I_Tx a0) (p0 : 0 ≤ x1) (p1 : x1 < 1000) (p2 : Tx_starts a0 x1.toNatClampNeg + o_sl x2 ≤ 8192) (l0 : 0 ≤ z) : o_ok (m_Tx_spells_b50 n x1 x2 a0 z) (fun q => (q.1 = 0 → 0 ≤ q.2 ∧ o_mu q.2 < o_mu z) ∧ (q.1 ≠ 0 → True)) := by
  unfold m_Tx_spells_b50
  refine o_okB (s_JS_length ) ?_
  intro q2_1 g2
  refine o_okI (fun c3 => ?_) (fun c3 => ?_)
  · refine o_okS ?_
    refine ⟨fun h => absurd (show (2 : Nat) = 0 from h) (by decide), fun _ => ?_⟩
    trivial
  · refine o_okG (o_inM (m := 1000) rfl (by first | with_reducible exact True.intro | with_reducible assumption | grind [-Prod, o_slB] | grind [-Prod, → sc_Tx, o_slB] | grind [-Prod, I_Tx, o_bn, upd, o_slB]) (by first | with_reducible exact True.intro | with_reducible assumption | grind [-Prod, o_slB] | grind [-Prod, → sc_Tx, o_slB] | grind [-Prod, I_Tx, o_bn, upd, o_slB])) ?_
    refine o_okG (o_inM (m := 8192) rfl (by first | with_reducible exact True.intro | with_reducible assumption | grind [-Prod, o_slB] | grind [-Prod, → sc_Tx, o_slB] | grind [-Prod, I_Tx, o_bn, upd, o_slB]) (by first | with_reducible exact True.intro | with_reducible assumption | grind [-Prod, o_slB] | grind [-Prod, → sc_Tx, o_slB] | grind [-Prod, I_Tx, o_bn, upd, o_slB])) ?_
    refine o_okB (s_JS_charAt  (by first | with_reducible exact True.intro | with_reducible assumption | grind [-Prod, o_slB] | grind [-Prod, → sc_Tx, o_slB] | grind [-Prod, I_Tx, o_bn, upd, o_slB]) (by first | with_reducible exact True.intro | with_reducible assumption | grind [-Prod, o_slB] | grind [-Prod, → sc_Tx, o_slB] | grind [-Prod, I_Tx, o_bn, upd, o_slB])) ?_
    intro q3_4 _
    refine o_okI (fun c5 => ?_) (fun c5 => ?_)
    · refine o_okN (fun x3_81_6 ex3_81_6 => ?_)
      refine o_okS ?_
      refine ⟨fun _ => ?_, fun h => absurd rfl h⟩
      refine ⟨?_, ?_⟩
      · first | with_reducible exact True.intro | with_reducible assumption | grind [-Prod, o_slB] | grind [-Prod, → sc_Tx, o_slB] | grind [-Prod, I_Tx, o_bn, upd, o_slB]
      · first | exact o_muL (by first | with_reducible exact True.intro | with_reducible assumption | grind [-Prod, o_slB] | grind [-Prod, → sc_Tx, o_slB] | grind [-Prod, I_Tx, o_bn, upd, o_slB]) | exact o_nuL (by first | with_reducible exact True.intro | with_reducible assumption | grind [-Prod, o_slB] | grind [-Prod, → sc_Tx, o_slB] | grind [-Prod, I_Tx, o_bn, upd, o_slB]) | (first | with_reducible exact True.intro | with_reducible assumption | grind [-Prod, o_slB] | grind [-Prod, → sc_Tx, o_slB] | grind [-Prod, I_Tx, o_bn, upd, o_slB])
    · refine o_okS ?_
      refine ⟨fun h => absurd (show (1 : Nat) = 0 from h) (by decide), fun _ => ?_⟩
      trivial
theorem l_Tx_spells_b50 {n : Nat} {x1 : Int32} {x2 : Nat} {a0 : STx} {z : Int32} (hn : o_big ≤ n) (h_a0 : I_Tx a0) (p0 : 0 ≤ x1) (p1 : x1 < 1000) (p2 : Tx_starts a0 x1.toNatClampNeg + o_sl x2 ≤ 8192) (l0 : 0 ≤ z) : o_ok (o_lp n (m_Tx_spells_b50 n x1 x2 a0) z) (fun q => q.1 ≠ 0 ∧ True) := by
  exact o_lpR (fun z => 0 ≤ z) (fun z => o_mu z) hn (o_muB) l0
    (fun z hz => by have l0 := hz; exact o_okW (s_Tx_spells_b50 hn h_a0 p0 p1 p2 l0) (fun q hq => ⟨fun h => by have := hq.1 h; grind, hq.2⟩))
theorem s_Tx_spells {n : Nat} {x1 : Int32} {x2 : Nat} {a0 : STx} (hn : o_big ≤ n) (h_a0 : I_Tx a0) : o_ok (m_Tx_spells n x1 x2 a0) (fun r => (r = 0 ∨ r = 1)) := by
  unfold m_Tx_spells
  refine o_okI (fun c1 => ?_) (fun c1 => ?_)
  · refine o_okS ?_
    first | with_reducible exact True.intro | with_reducible assumption | grind [-Prod] | grind [-Prod, → sc_Tx] | grind [-Prod, I_Tx, o_bn, upd]
  · refine o_okI (fun c2 => ?_) (fun c2 => ?_)
    · refine o_okS ?_
      first | with_reducible exact True.intro | with_reducible assumption | grind [-Prod] | grind [-Prod, → sc_Tx] | grind [-Prod, I_Tx, o_bn, upd]
    · refine o_okG (o_inM (m := 1000) rfl (by first | with_reducible exact True.intro | with_reducible assumption | grind [-Prod] | grind [-Prod, → sc_Tx] | grind [-Prod, I_Tx, o_bn, upd]) (by first | with_reducible exact True.intro | with_reducible assumption | grind [-Prod] | grind [-Prod, → sc_Tx] | grind [-Prod, I_Tx, o_bn, upd])) ?_
      refine o_okB (s_JS_length ) ?_
      intro q1_3 g4
      refine o_okI (fun c5 => ?_) (fun c5 => ?_)
      · refine o_okG (o_inM (m := 1000) rfl (by first | with_reducible exact True.intro | with_reducible assumption | grind [-Prod] | grind [-Prod, → sc_Tx] | grind [-Prod, I_Tx, o_bn, upd]) (by first | with_reducible exact True.intro | with_reducible assumption | grind [-Prod] | grind [-Prod, → sc_Tx] | grind [-Prod, I_Tx, o_bn, upd])) ?_
        refine o_okG (o_inM (m := 1000) rfl (by first | with_reducible exact True.intro | with_reducible assumption | grind [-Prod] | grind [-Prod, → sc_Tx] | grind [-Prod, I_Tx, o_bn, upd]) (by first | with_reducible exact True.intro | with_reducible assumption | grind [-Prod] | grind [-Prod, → sc_Tx] | grind [-Prod, I_Tx, o_bn, upd])) ?_
        refine o_okI (fun c6 => ?_) (fun c6 => ?_)
        · refine o_okB (l_Tx_spells_b50  hn h_a0 (by first | with_reducible exact True.intro | with_reducible assumption | grind [-Prod] | grind [-Prod, → sc_Tx] | grind [-Prod, I_Tx, o_bn, upd]) (by first | with_reducible exact True.intro | with_reducible assumption | grind [-Prod] | grind [-Prod, → sc_Tx] | grind [-Prod, I_Tx, o_bn, upd]) (by first | with_reducible exact True.intro | with_reducible assumption | grind [-Prod] | grind [-Prod, → sc_Tx] | grind [-Prod, I_Tx, o_bn, upd]) (by first | with_reducible exact True.intro | with_reducible assumption | grind [-Prod] | grind [-Prod, → sc_Tx] | grind [-Prod, I_Tx, o_bn, upd])) ?_
          intro q4_7 ⟨yq4_7, _⟩
          refine o_okI (fun c8 => ?_) (fun c8 => ?_)
          · refine o_okS ?_
            first | with_reducible exact True.intro | with_reducible assumption | grind [-Prod] | grind [-Prod, → sc_Tx] | grind [-Prod, I_Tx, o_bn, upd]
          · refine o_okS ?_
            first | with_reducible exact True.intro | with_reducible assumption | grind [-Prod] | grind [-Prod, → sc_Tx] | grind [-Prod, I_Tx, o_bn, upd]
        · refine o_okS ?_
          first | with_reducible exact True.intro | with_reducible assumption | grind [-Prod] | grind [-Prod, → sc_Tx] | grind [-Prod, I_Tx, o_bn, upd]
      · refine o_okS ?_
        first | with_reducible exact True.intro | with_reducible assumption | grind [-Prod] | grind [-Prod, → sc_Tx] | grind [-Prod, I_Tx, o_bn, upd]
theorem s_Kw_placeOf_b2 {n : Nat} {x1 : Int32} {a0 : STx} {z : Int32} (hn : o_big ≤ n) (h_a0 : I_Tx a0) (l0 : 0 ≤ z) : o_ok (m_Kw_placeOf_b2 n x1 a0 z) (fun q => (q.1 = 0 → 0 ≤ q.2 ∧ o_mu q.2 < o_mu z) ∧ (q.1 ≠ 0 → True)) := by
  unfold m_Kw_placeOf_b2
  refine o_okI (fun c1 => ?_) (fun c1 => ?_)
  · refine o_okS ?_
    refine ⟨fun h => absurd (show (2 : Nat) = 0 from h) (by decide), fun _ => ?_⟩
    trivial
  · refine o_okG (o_inM (m := 45) rfl (by first | with_reducible exact True.intro | with_reducible assumption | grind [-Prod] | grind [-Prod, → sc_Tx] | grind [-Prod, I_Tx, o_bn, upd]) (by first | with_reducible exact True.intro | with_reducible assumption | grind [-Prod] | grind [-Prod, → sc_Tx] | grind [-Prod, I_Tx, o_bn, upd])) ?_
    refine o_okB (s_Tx_spells  hn h_a0) ?_
    intro q1_2 g3
    refine o_okI (fun c4 => ?_) (fun c4 => ?_)
    · refine o_okN (fun x2_28_5 ex2_28_5 => ?_)
      refine o_okS ?_
      refine ⟨fun _ => ?_, fun h => absurd rfl h⟩
      refine ⟨?_, ?_⟩
      · first | with_reducible exact True.intro | with_reducible assumption | grind [-Prod] | grind [-Prod, → sc_Tx] | grind [-Prod, I_Tx, o_bn, upd]
      · first | exact o_muL (by first | with_reducible exact True.intro | with_reducible assumption | grind [-Prod] | grind [-Prod, → sc_Tx] | grind [-Prod, I_Tx, o_bn, upd]) | exact o_nuL (by first | with_reducible exact True.intro | with_reducible assumption | grind [-Prod] | grind [-Prod, → sc_Tx] | grind [-Prod, I_Tx, o_bn, upd]) | (first | with_reducible exact True.intro | with_reducible assumption | grind [-Prod] | grind [-Prod, → sc_Tx] | grind [-Prod, I_Tx, o_bn, upd])
    · refine o_okS ?_
      refine ⟨fun h => absurd (show (1 : Nat) = 0 from h) (by decide), fun _ => ?_⟩
      trivial
theorem l_Kw_placeOf_b2 {n : Nat} {x1 : Int32} {a0 : STx} {z : Int32} (hn : o_big ≤ n) (h_a0 : I_Tx a0) (l0 : 0 ≤ z) : o_ok (o_lp n (m_Kw_placeOf_b2 n x1 a0) z) (fun q => q.1 ≠ 0 ∧ True) := by
  exact o_lpR (fun z => 0 ≤ z) (fun z => o_mu z) hn (o_muB) l0
    (fun z hz => by have l0 := hz; exact o_okW (s_Kw_placeOf_b2 hn h_a0 l0) (fun q hq => ⟨fun h => by have := hq.1 h; grind, hq.2⟩))
theorem s_Kw_placeOf {n : Nat} {x1 : Int32} {a0 : STx} (hn : o_big ≤ n) (h_a0 : I_Tx a0) : o_ok (m_Kw_placeOf n x1 a0) (fun r => True) := by
  unfold m_Kw_placeOf
  refine o_okB (l_Kw_placeOf_b2  hn h_a0 (by first | with_reducible exact True.intro | with_reducible assumption | grind [-Prod] | grind [-Prod, → sc_Tx] | grind [-Prod, I_Tx, o_bn, upd])) ?_
  intro q2_1 ⟨yq2_1, _⟩
  refine o_okI (fun c2 => ?_) (fun c2 => ?_)
  · refine o_okS ?_
    trivial
  · refine o_okS ?_
    trivial
theorem s_Kw_numbered {x0 : Int32}  : o_ok (m_Kw_numbered x0) (fun r => r < 45) := by
  unfold m_Kw_numbered
  refine o_okI (fun c1 => ?_) (fun c1 => ?_)
  · refine o_okS ?_
    first | with_reducible exact True.intro | with_reducible assumption | grind [-Prod, o_tnc45] | grind [-Prod, o_tnc45] | grind [-Prod, o_bn, upd, o_tnc45]
  · refine o_okI (fun c2 => ?_) (fun c2 => ?_)
    · refine o_okS ?_
      first | with_reducible exact True.intro | with_reducible assumption | grind [-Prod, o_tnc45] | grind [-Prod, o_tnc45] | grind [-Prod, o_bn, upd, o_tnc45]
    · refine o_okG (o_inM (m := 45) rfl (by first | with_reducible exact True.intro | with_reducible assumption | grind [-Prod, o_tnc45] | grind [-Prod, o_tnc45] | grind [-Prod, o_bn, upd, o_tnc45]) (by first | with_reducible exact True.intro | with_reducible assumption | grind [-Prod, o_tnc45] | grind [-Prod, o_tnc45] | grind [-Prod, o_bn, upd, o_tnc45])) ?_
      refine o_okS ?_
      first | with_reducible exact True.intro | with_reducible assumption | grind [-Prod, o_tnc45] | grind [-Prod, o_tnc45] | grind [-Prod, o_bn, upd, o_tnc45]
theorem s_Mk_markKeyword {n : Nat} {x1 : Int32} {T0 : STx} {Mk : SMk} (hn : o_big ≤ n) (h_T0 : I_Tx T0) : o_ok (m_Mk_markKeyword n x1 T0 Mk) (fun r => r.1 < 45) := by
  unfold m_Mk_markKeyword
  refine o_okB (s_Kw_placeOf  hn h_T0) ?_
  intro q1_1 _
  refine o_okI (fun c2 => ?_) (fun c2 => ?_)
  · unfold m_Mk_markKeyword_j29
    refine o_okB (s_Kw_numbered ) ?_
    intro q2_3 g4
    refine o_okG (o_kbM (by first | with_reducible exact True.intro | with_reducible assumption | grind [-Prod] | grind [-Prod, → sc_Tx] | grind [-Prod, I_Tx, o_bn, upd])) ?_
    refine o_okS ?_
    first | with_reducible exact True.intro | with_reducible assumption | grind [-Prod] | grind [-Prod, → sc_Tx] | grind [-Prod, I_Tx, o_bn, upd]
  · refine o_okI (fun c5 => ?_) (fun c5 => ?_)
    · unfold m_Mk_markKeyword_j29
      refine o_okB (s_Kw_numbered ) ?_
      intro q2_6 g7
      refine o_okG (o_kbM (by first | with_reducible exact True.intro | with_reducible assumption | grind [-Prod] | grind [-Prod, → sc_Tx] | grind [-Prod, I_Tx, o_bn, upd])) ?_
      refine o_okS ?_
      first | with_reducible exact True.intro | with_reducible assumption | grind [-Prod] | grind [-Prod, → sc_Tx] | grind [-Prod, I_Tx, o_bn, upd]
    · refine o_okG (o_inM (m := 1000) rfl (by first | with_reducible exact True.intro | with_reducible assumption | grind [-Prod] | grind [-Prod, → sc_Tx] | grind [-Prod, I_Tx, o_bn, upd]) (by first | with_reducible exact True.intro | with_reducible assumption | grind [-Prod] | grind [-Prod, → sc_Tx] | grind [-Prod, I_Tx, o_bn, upd])) ?_
      unfold m_Mk_markKeyword_j29
      refine o_okB (s_Kw_numbered ) ?_
      intro q2_8 g9
      refine o_okG (o_kbM (by first | with_reducible exact True.intro | with_reducible assumption | grind [-Prod] | grind [-Prod, → sc_Tx] | grind [-Prod, I_Tx, o_bn, upd])) ?_
      refine o_okS ?_
      first | with_reducible exact True.intro | with_reducible assumption | grind [-Prod] | grind [-Prod, → sc_Tx] | grind [-Prod, I_Tx, o_bn, upd]
theorem s_Ck_takeSchemas_b20 {n : Nat} {x1 : Int32} {T0 : STx} {z : Int32 × Int32 × SMk × SCk} (hn : o_big ≤ n) (h_T0 : I_Tx T0) (l0 : 0 ≤ z.2.1) (l1 : I_Ck z.2.2.2) : o_ok (m_Ck_takeSchemas_b20 n x1 T0 z) (fun q => (q.1 = 0 → 0 ≤ q.2.2.1 ∧ I_Ck q.2.2.2.2 ∧ o_mu q.2.2.1 < o_mu z.2.1) ∧ (q.1 ≠ 0 → I_Ck q.2.2.2.2)) := by
  unfold m_Ck_takeSchemas_b20
  refine o_okB (s_Tx_size  h_T0) ?_
  intro q1_1 g2
  refine o_okI (fun c3 => ?_) (fun c3 => ?_)
  · refine o_okS ?_
    refine ⟨fun h => absurd (show (1 : Nat) = 0 from h) (by decide), fun _ => ?_⟩
    exact l1
  · refine o_okI (fun c4 => ?_) (fun c4 => ?_)
    · refine o_okS ?_
      refine ⟨fun h => absurd (show (1 : Nat) = 0 from h) (by decide), fun _ => ?_⟩
      exact l1
    · refine o_okB (s_Ck_takeSchema  h_T0 l1) ?_
      intro q2_5 g6
      refine o_okB (s_Tx_nextChild  h_T0) ?_
      intro q3_7 _
      refine o_okN (fun x4_52_8 ex4_52_8 => ?_)
      refine o_okS ?_
      refine ⟨fun _ => ?_, fun h => absurd rfl h⟩
      refine ⟨?_, ?_, ?_⟩
      · first | with_reducible exact True.intro | with_reducible assumption | grind [-Prod] | grind [-Prod, → sc_Ck, → sc_Tx] | grind [-Prod, I_Ck, I_Tx, o_bn, upd]
      · exact g6
      · first | exact o_muL (by first | with_reducible exact True.intro | with_reducible assumption | grind [-Prod] | grind [-Prod, → sc_Ck, → sc_Tx] | grind [-Prod, I_Ck, I_Tx, o_bn, upd]) | exact o_nuL (by first | with_reducible exact True.intro | with_reducible assumption | grind [-Prod] | grind [-Prod, → sc_Ck, → sc_Tx] | grind [-Prod, I_Ck, I_Tx, o_bn, upd]) | (first | with_reducible exact True.intro | with_reducible assumption | grind [-Prod] | grind [-Prod, → sc_Ck, → sc_Tx] | grind [-Prod, I_Ck, I_Tx, o_bn, upd])
theorem l_Ck_takeSchemas_b20 {n : Nat} {x1 : Int32} {T0 : STx} {z : Int32 × Int32 × SMk × SCk} (hn : o_big ≤ n) (h_T0 : I_Tx T0) (l0 : 0 ≤ z.2.1) (l1 : I_Ck z.2.2.2) : o_ok (o_lp n (m_Ck_takeSchemas_b20 n x1 T0) z) (fun q => q.1 ≠ 0 ∧ I_Ck q.2.2.2.2) := by
  exact o_lpR (fun z => 0 ≤ z.2.1 ∧ I_Ck z.2.2.2) (fun z => o_mu z.2.1) hn (o_muB) ⟨l0, l1⟩
    (fun z hz => by obtain ⟨l0, l1⟩ := hz; exact o_okW (s_Ck_takeSchemas_b20 hn h_T0 l0 l1) (fun q hq => ⟨fun h => by have := hq.1 h; grind, hq.2⟩))
theorem s_Ck_takeSchemas {n : Nat} {x1 : Int32} {x2 : Int32} {T0 : STx} {Mk : SMk} {Ck : SCk} (hn : o_big ≤ n) (h_T0 : I_Tx T0) (h_Ck : I_Ck Ck) : o_ok (m_Ck_takeSchemas n x1 x2 T0 Mk Ck) (fun r => I_Ck r.2) := by
  unfold m_Ck_takeSchemas
  refine o_okI (fun c1 => ?_) (fun c1 => ?_)
  · refine o_okB (l_Ck_takeSchemas_b20  hn h_T0 (by first | with_reducible exact True.intro | with_reducible assumption | grind [-Prod] | grind [-Prod, → sc_Ck, → sc_Tx] | grind [-Prod, I_Ck, I_Tx, o_bn, upd]) h_Ck) ?_
    intro q4_2 ⟨yq4_2, g3⟩
    refine o_okS ?_
    exact g3
  · refine o_okB (s_Tx_firstChild  h_T0) ?_
    intro q5_4 _
    refine o_okB (l_Ck_takeSchemas_b20  hn h_T0 (by first | with_reducible exact True.intro | with_reducible assumption | grind [-Prod] | grind [-Prod, → sc_Ck, → sc_Tx] | grind [-Prod, I_Ck, I_Tx, o_bn, upd]) h_Ck) ?_
    intro q6_5 ⟨yq6_5, g6⟩
    refine o_okS ?_
    exact g6
theorem s_Tx_cell {x1 : Int32} {x2 : Int32} {a0 : STx} (h_a0 : I_Tx a0) : o_ok (m_Tx_cell x1 x2 a0) (fun r => (-1 ≤ r ∧ r ≤ 1114111)) := by
  unfold m_Tx_cell
  refine o_okI (fun c1 => ?_) (fun c1 => ?_)
  · refine o_okS ?_
    first | with_reducible exact True.intro | with_reducible assumption | grind [-Prod] | grind [-Prod, → sc_Tx] | grind [-Prod, I_Tx, o_bn, upd]
  · refine o_okI (fun c2 => ?_) (fun c2 => ?_)
    · refine o_okS ?_
      first | with_reducible exact True.intro | with_reducible assumption | grind [-Prod] | grind [-Prod, → sc_Tx] | grind [-Prod, I_Tx, o_bn, upd]
    · refine o_okI (fun c3 => ?_) (fun c3 => ?_)
      · refine o_okS ?_
        first | with_reducible exact True.intro | with_reducible assumption | grind [-Prod] | grind [-Prod, → sc_Tx] | grind [-Prod, I_Tx, o_bn, upd]
      · refine o_okG (o_inM (m := 1000) rfl (by first | with_reducible exact True.intro | with_reducible assumption | grind [-Prod] | grind [-Prod, → sc_Tx] | grind [-Prod, I_Tx, o_bn, upd]) (by first | with_reducible exact True.intro | with_reducible assumption | grind [-Prod] | grind [-Prod, → sc_Tx] | grind [-Prod, I_Tx, o_bn, upd])) ?_
        refine o_okI (fun c4 => ?_) (fun c4 => ?_)
        · refine o_okG (o_inM (m := 1000) rfl (by first | with_reducible exact True.intro | with_reducible assumption | grind [-Prod] | grind [-Prod, → sc_Tx] | grind [-Prod, I_Tx, o_bn, upd]) (by first | with_reducible exact True.intro | with_reducible assumption | grind [-Prod] | grind [-Prod, → sc_Tx] | grind [-Prod, I_Tx, o_bn, upd])) ?_
          refine o_okN (fun x3_36_5 ex3_36_5 => ?_)
          refine o_okI (fun c6 => ?_) (fun c6 => ?_)
          · refine o_okS ?_
            first | with_reducible exact True.intro | with_reducible assumption | grind [-Prod] | grind [-Prod, → sc_Tx] | grind [-Prod, I_Tx, o_bn, upd]
          · refine o_okI (fun c7 => ?_) (fun c7 => ?_)
            · refine o_okS ?_
              first | with_reducible exact True.intro | with_reducible assumption | grind [-Prod] | grind [-Prod, → sc_Tx] | grind [-Prod, I_Tx, o_bn, upd]
            · refine o_okG (o_inM (m := 8192) rfl (by first | with_reducible exact True.intro | with_reducible assumption | grind [-Prod] | grind [-Prod, → sc_Tx] | grind [-Prod, I_Tx, o_bn, upd]) (by first | with_reducible exact True.intro | with_reducible assumption | grind [-Prod] | grind [-Prod, → sc_Tx] | grind [-Prod, I_Tx, o_bn, upd])) ?_
              refine o_okS ?_
              first | with_reducible exact True.intro | with_reducible assumption | grind [-Prod] | grind [-Prod, → sc_Tx] | grind [-Prod, I_Tx, o_bn, upd]
        · refine o_okS ?_
          first | with_reducible exact True.intro | with_reducible assumption | grind [-Prod] | grind [-Prod, → sc_Tx] | grind [-Prod, I_Tx, o_bn, upd]
theorem s_JL_canEncode {x0 : Int32}  : o_ok (m_JL_canEncode x0) (fun r => True) := by
  unfold m_JL_canEncode
  refine o_okI (fun c1 => ?_) (fun c1 => ?_)
  · refine o_okS ?_
    trivial
  · refine o_okI (fun c2 => ?_) (fun c2 => ?_)
    · refine o_okS ?_
      trivial
    · refine o_okS ?_
      trivial
theorem s_JL_indexOfChar_b7 {n : Nat} {x0 : Nat} {x3 : Int32} {x4 : Int32} {z : Int32} (hn : o_big ≤ n) (p0 : x3 ≤ o_sl x0) (l0 : 0 ≤ z) : o_ok (m_JL_indexOfChar_b7 n x0 x3 x4 z) (fun q => (q.1 = 0 → 0 ≤ q.2 ∧ o_mu q.2 < o_mu z) ∧ (q.1 ≠ 0 → 0 ≤ q.2 ∧ (q.1 = 1 → q.2 < o_sl x0))) := by
  unfold m_JL_indexOfChar_b7
  refine o_okI (fun c1 => ?_) (fun c1 => ?_)
  · refine o_okS ?_
    refine ⟨fun h => absurd (show (2 : Nat) = 0 from h) (by decide), fun _ => ?_⟩
    refine ⟨?_, ?_⟩
    · first | with_reducible exact True.intro | with_reducible assumption | grind [-Prod] | grind [-Prod] | grind [-Prod, o_bn, upd]
    · first | with_reducible exact True.intro | with_reducible assumption | grind [-Prod] | grind [-Prod] | grind [-Prod, o_bn, upd]
  · refine o_okG (o_inS (by first | with_reducible exact True.intro | with_reducible assumption | grind [-Prod] | grind [-Prod] | grind [-Prod, o_bn, upd]) (by first | with_reducible exact True.intro | with_reducible assumption | grind [-Prod] | grind [-Prod] | grind [-Prod, o_bn, upd])) ?_
    refine o_okI (fun c2 => ?_) (fun c2 => ?_)
    · refine o_okS ?_
      refine ⟨fun h => absurd (show (1 : Nat) = 0 from h) (by decide), fun _ => ?_⟩
      refine ⟨?_, ?_⟩
      · first | with_reducible exact True.intro | with_reducible assumption | grind [-Prod] | grind [-Prod] | grind [-Prod, o_bn, upd]
      · first | with_reducible exact True.intro | with_reducible assumption | grind [-Prod] | grind [-Prod] | grind [-Prod, o_bn, upd]
    · refine o_okN (fun x5_25_3 ex5_25_3 => ?_)
      refine o_okS ?_
      refine ⟨fun _ => ?_, fun h => absurd rfl h⟩
      refine ⟨?_, ?_⟩
      · first | with_reducible exact True.intro | with_reducible assumption | grind [-Prod] | grind [-Prod] | grind [-Prod, o_bn, upd]
      · first | exact o_muL (by first | with_reducible exact True.intro | with_reducible assumption | grind [-Prod] | grind [-Prod] | grind [-Prod, o_bn, upd]) | exact o_nuL (by first | with_reducible exact True.intro | with_reducible assumption | grind [-Prod] | grind [-Prod] | grind [-Prod, o_bn, upd]) | (first | with_reducible exact True.intro | with_reducible assumption | grind [-Prod] | grind [-Prod] | grind [-Prod, o_bn, upd])
theorem l_JL_indexOfChar_b7 {n : Nat} {x0 : Nat} {x3 : Int32} {x4 : Int32} {z : Int32} (hn : o_big ≤ n) (p0 : x3 ≤ o_sl x0) (l0 : 0 ≤ z) : o_ok (o_lp n (m_JL_indexOfChar_b7 n x0 x3 x4) z) (fun q => q.1 ≠ 0 ∧ 0 ≤ q.2 ∧ (q.1 = 1 → q.2 < o_sl x0)) := by
  exact o_lpR (fun z => 0 ≤ z) (fun z => o_mu z) hn (o_muB) l0
    (fun z hz => by have l0 := hz; exact o_okW (s_JL_indexOfChar_b7 hn p0 l0) (fun q hq => ⟨fun h => by have := hq.1 h; grind, hq.2⟩))
theorem s_JL_indexOfChar {n : Nat} {x0 : Nat} {x1 : Int32} {x2 : Int32} {x3 : Int32} (hn : o_big ≤ n) (p0 : 0 ≤ x2) (p1 : x3 ≤ o_sl x0) : o_ok (m_JL_indexOfChar n x0 x1 x2 x3) (fun r => -1 ≤ r ∧ (r < o_sl x0 ∨ r = -1)) := by
  unfold m_JL_indexOfChar
  refine o_okN (fun x4_2_1 ex4_2_1 => ?_)
  refine o_okB (l_JL_indexOfChar_b7  hn (by first | with_reducible exact True.intro | with_reducible assumption | grind [-Prod] | grind [-Prod] | grind [-Prod, o_bn, upd]) (by first | with_reducible exact True.intro | with_reducible assumption | grind [-Prod] | grind [-Prod] | grind [-Prod, o_bn, upd])) ?_
  intro q1_2 ⟨yq1_2, g3, g4⟩
  refine o_okI (fun c5 => ?_) (fun c5 => ?_)
  · refine o_okS ?_
    refine ⟨?_, ?_⟩
    · first | with_reducible exact True.intro | with_reducible assumption | grind [-Prod] | grind [-Prod] | grind [-Prod, o_bn, upd]
    · first | with_reducible exact True.intro | with_reducible assumption | grind [-Prod] | grind [-Prod] | grind [-Prod, o_bn, upd]
  · refine o_okS ?_
    refine ⟨?_, ?_⟩
    · first | with_reducible exact True.intro | with_reducible assumption | grind [-Prod] | grind [-Prod] | grind [-Prod, o_bn, upd]
    · first | with_reducible exact True.intro | with_reducible assumption | grind [-Prod] | grind [-Prod] | grind [-Prod, o_bn, upd]
theorem s_JL_indexOf {n : Nat} {x0 : Nat} {x1 : Int32} {x2 : Int32} {x3 : Int32} (hn : o_big ≤ n) : o_ok (m_JL_indexOf n x0 x1 x2 x3) (fun r => -1 ≤ r ∧ (r < o_sl x0 ∨ r = -1)) := by
  unfold m_JL_indexOf
  refine o_okB (s_JL_canEncode ) ?_
  intro q1_1 _
  refine o_okI (fun c2 => ?_) (fun c2 => ?_)
  · refine o_okS ?_
    refine ⟨?_, ?_⟩
    · first | with_reducible exact True.intro | with_reducible assumption | grind [-Prod] | grind [-Prod] | grind [-Prod, o_bn, upd]
    · first | with_reducible exact True.intro | with_reducible assumption | grind [-Prod] | grind [-Prod] | grind [-Prod, o_bn, upd]
  · refine o_okN (fun x2_14_3 ex2_14_3 => ?_)
    refine o_okN (fun x3_21_4 ex3_21_4 => ?_)
    refine o_okI (fun c5 => ?_) (fun c5 => ?_)
    · refine o_okB (s_JL_indexOfChar  hn (by first | with_reducible exact True.intro | with_reducible assumption | grind [-Prod] | grind [-Prod] | grind [-Prod, o_bn, upd]) (by first | with_reducible exact True.intro | with_reducible assumption | grind [-Prod] | grind [-Prod] | grind [-Prod, o_bn, upd])) ?_
      intro q2_6 ⟨g7, g8⟩
      refine o_okS ?_
      refine ⟨?_, ?_⟩
      · first | with_reducible exact True.intro | with_reducible assumption | grind [-Prod] | grind [-Prod] | grind [-Prod, o_bn, upd]
      · first | with_reducible exact True.intro | with_reducible assumption | grind [-Prod] | grind [-Prod] | grind [-Prod, o_bn, upd]
    · refine o_okS ?_
      refine ⟨?_, ?_⟩
      · first | with_reducible exact True.intro | with_reducible assumption | grind [-Prod] | grind [-Prod] | grind [-Prod, o_bn, upd]
      · first | with_reducible exact True.intro | with_reducible assumption | grind [-Prod] | grind [-Prod] | grind [-Prod, o_bn, upd]
theorem s_JS_indexOf_1 {n : Nat} {x0 : Nat} {x1 : Int32} {x2 : Int32} (hn : o_big ≤ n) : o_ok (m_JS_indexOf_1 n x0 x1 x2) (fun r => -1 ≤ r ∧ (r < o_sl x0 ∨ r = -1)) := by
  unfold m_JS_indexOf_1
  refine o_okB (s_JS_isLatin1 ) ?_
  intro q1_1 g2
  refine o_okI (fun c3 => ?_) (fun c3 => ?_)
  · refine o_okB (s_JS_length ) ?_
    intro q2_4 g5
    exfalso; grind
  · refine o_okB (s_JS_length ) ?_
    intro q3_6 g7
    refine o_okB (s_JL_indexOf  hn) ?_
    intro q4_8 ⟨g9, g10⟩
    refine o_okS ?_
    refine ⟨?_, ?_⟩
    · first | with_reducible exact True.intro | with_reducible assumption | grind [-Prod] | grind [-Prod] | grind [-Prod, o_bn, upd]
    · first | with_reducible exact True.intro | with_reducible assumption | grind [-Prod] | grind [-Prod] | grind [-Prod, o_bn, upd]
theorem s_JS_indexOf {n : Nat} {x0 : Nat} {x1 : Int32} (hn : o_big ≤ n) : o_ok (m_JS_indexOf n x0 x1) (fun r => -1 ≤ r ∧ (r < o_sl x0 ∨ r = -1)) := by
  unfold m_JS_indexOf
  refine o_okB (s_JS_indexOf_1  hn) ?_
  intro q1_1 ⟨g2, g3⟩
  refine o_okS ?_
  refine ⟨?_, ?_⟩
  · first | with_reducible exact True.intro | with_reducible assumption | grind [-Prod] | grind [-Prod] | grind [-Prod, o_bn, upd]
  · first | with_reducible exact True.intro | with_reducible assumption | grind [-Prod] | grind [-Prod] | grind [-Prod, o_bn, upd]
set_option maxHeartbeats 8000000 in
theorem s_Pt_hexToken_j83 {n : Nat} {x1 : Int32} {x2 : Int32} {x3 : Int32} {x4 : Int32} {Pt : SPt} (hn : o_big ≤ n) (h_Pt : I_Pt Pt) (p0 : 0 ≤ x2) (p1 : x2 ≤ 1114111) (p2 : 0 ≤ x3) (p3 : x3 < 4000) (p4 : Pt_position Pt ≤ 8101 + x3) : o_ok (m_Pt_hexToken_j83 n x1 x2 x3 x4 Pt) (fun r => (r.1 = 0 → 0 ≤ r.2.1 ∧ r.2.1 ≤ 1114111 ∧ r.2.2.1 = x3 + 1) ∧ Pt_position r.2.2.2 = Pt_position Pt ∧ (r.1 = 0 ∨ r.1 = 3) ∧ Pt_tokenCount r.2.2.2 = Pt_tokenCount Pt ∧ I_Pt r.2.2.2) := by
  unfold m_Pt_hexToken_j83
  refine o_okI (fun c1 => ?_) (fun c1 => ?_)
  · unfold m_Pt_hexToken_j108
    refine o_okI (fun c2 => ?_) (fun c2 => ?_)
    · unfold m_Pt_hexToken_j131
      refine o_okN (fun x2_132_3 ex2_132_3 => ?_)
      refine o_okI (fun c4 => ?_) (fun c4 => ?_)
      · refine o_okS ?_
        refine ⟨?_, ?_, ?_, ?_, ?_⟩
        · first | with_reducible exact True.intro | with_reducible assumption | grind [-Prod, o_slB] | grind [-Prod, → sc_Pt, o_slB] | grind [-Prod, I_Pt, o_bn, upd, o_slB]
        · first | with_reducible exact True.intro | with_reducible assumption | grind [-Prod, o_slB] | grind [-Prod, → sc_Pt, o_slB] | grind [-Prod, I_Pt, o_bn, upd, o_slB]
        · first | with_reducible exact True.intro | with_reducible assumption | grind [-Prod, o_slB] | grind [-Prod, → sc_Pt, o_slB] | grind [-Prod, I_Pt, o_bn, upd, o_slB]
        · first | with_reducible exact True.intro | with_reducible assumption | grind [-Prod, o_slB] | grind [-Prod, → sc_Pt, o_slB] | grind [-Prod, I_Pt, o_bn, upd, o_slB]
        · exact h_Pt
      · refine o_okI (fun c5 => ?_) (fun c5 => ?_)
        · refine o_okN (fun x3_146_6 ex3_146_6 => ?_)
          refine o_okS ?_
          refine ⟨?_, ?_, ?_, ?_, ?_⟩
          · first | with_reducible exact True.intro | with_reducible assumption | grind [-Prod, o_slB] | grind [-Prod, → sc_Pt, o_slB] | grind [-Prod, I_Pt, o_bn, upd, o_slB]
          · first | with_reducible exact True.intro | with_reducible assumption | grind [-Prod, o_slB] | grind [-Prod, → sc_Pt, o_slB] | grind [-Prod, I_Pt, o_bn, upd, o_slB]
          · first | with_reducible exact True.intro | with_reducible assumption | grind [-Prod, o_slB] | grind [-Prod, → sc_Pt, o_slB] | grind [-Prod, I_Pt, o_bn, upd, o_slB]
          · first | with_reducible exact True.intro | with_reducible assumption | grind [-Prod, o_slB] | grind [-Prod, → sc_Pt, o_slB] | grind [-Prod, I_Pt, o_bn, upd, o_slB]
          · exact h_Pt
        · refine o_okS ?_
          refine ⟨?_, ?_, ?_, ?_, ?_⟩
          · first | with_reducible exact True.intro | with_reducible assumption | grind [-Prod, o_slB] | grind [-Prod, → sc_Pt, o_slB] | grind [-Prod, I_Pt, o_bn, upd, o_slB]
          · first | with_reducible exact True.intro | with_reducible assumption | grind [-Prod, o_slB] | grind [-Prod, → sc_Pt, o_slB] | grind [-Prod, I_Pt, o_bn, upd, o_slB]
          · first | with_reducible exact True.intro | with_reducible assumption | grind [-Prod, o_slB] | grind [-Prod, → sc_Pt, o_slB] | grind [-Prod, I_Pt, o_bn, upd, o_slB]
          · first | with_reducible exact True.intro | with_reducible assumption | grind [-Prod, o_slB] | grind [-Prod, → sc_Pt, o_slB] | grind [-Prod, I_Pt, o_bn, upd, o_slB]
          · exact h_Pt
    · unfold m_Pt_hexToken_j131
      refine o_okN (fun x2_132_7 ex2_132_7 => ?_)
      refine o_okI (fun c8 => ?_) (fun c8 => ?_)
      · refine o_okS ?_
        refine ⟨?_, ?_, ?_, ?_, ?_⟩
        · first | with_reducible exact True.intro | with_reducible assumption | grind [-Prod, o_slB] | grind [-Prod, → sc_Pt, o_slB] | grind [-Prod, I_Pt, o_bn, upd, o_slB]
        · first | with_reducible exact True.intro | with_reducible assumption | grind [-Prod, o_slB] | grind [-Prod, → sc_Pt, o_slB] | grind [-Prod, I_Pt, o_bn, upd, o_slB]
        · first | with_reducible exact True.intro | with_reducible assumption | grind [-Prod, o_slB] | grind [-Prod, → sc_Pt, o_slB] | grind [-Prod, I_Pt, o_bn, upd, o_slB]
        · first | with_reducible exact True.intro | with_reducible assumption | grind [-Prod, o_slB] | grind [-Prod, → sc_Pt, o_slB] | grind [-Prod, I_Pt, o_bn, upd, o_slB]
        · exact h_Pt
      · refine o_okI (fun c9 => ?_) (fun c9 => ?_)
        · refine o_okN (fun x3_146_10 ex3_146_10 => ?_)
          refine o_okS ?_
          refine ⟨?_, ?_, ?_, ?_, ?_⟩
          · first | with_reducible exact True.intro | with_reducible assumption | grind [-Prod, o_slB] | grind [-Prod, → sc_Pt, o_slB] | grind [-Prod, I_Pt, o_bn, upd, o_slB]
          · first | with_reducible exact True.intro | with_reducible assumption | grind [-Prod, o_slB] | grind [-Prod, → sc_Pt, o_slB] | grind [-Prod, I_Pt, o_bn, upd, o_slB]
          · first | with_reducible exact True.intro | with_reducible assumption | grind [-Prod, o_slB] | grind [-Prod, → sc_Pt, o_slB] | grind [-Prod, I_Pt, o_bn, upd, o_slB]
          · first | with_reducible exact True.intro | with_reducible assumption | grind [-Prod, o_slB] | grind [-Prod, → sc_Pt, o_slB] | grind [-Prod, I_Pt, o_bn, upd, o_slB]
          · exact h_Pt
        · refine o_okS ?_
          refine ⟨?_, ?_, ?_, ?_, ?_⟩
          · first | with_reducible exact True.intro | with_reducible assumption | grind [-Prod, o_slB] | grind [-Prod, → sc_Pt, o_slB] | grind [-Prod, I_Pt, o_bn, upd, o_slB]
          · first | with_reducible exact True.intro | with_reducible assumption | grind [-Prod, o_slB] | grind [-Prod, → sc_Pt, o_slB] | grind [-Prod, I_Pt, o_bn, upd, o_slB]
          · first | with_reducible exact True.intro | with_reducible assumption | grind [-Prod, o_slB] | grind [-Prod, → sc_Pt, o_slB] | grind [-Prod, I_Pt, o_bn, upd, o_slB]
          · first | with_reducible exact True.intro | with_reducible assumption | grind [-Prod, o_slB] | grind [-Prod, → sc_Pt, o_slB] | grind [-Prod, I_Pt, o_bn, upd, o_slB]
          · exact h_Pt
  · refine o_okI (fun c11 => ?_) (fun c11 => ?_)
    · unfold m_Pt_hexToken_j108
      refine o_okI (fun c12 => ?_) (fun c12 => ?_)
      · unfold m_Pt_hexToken_j131
        refine o_okN (fun x2_132_13 ex2_132_13 => ?_)
        refine o_okI (fun c14 => ?_) (fun c14 => ?_)
        · refine o_okS ?_
          refine ⟨?_, ?_, ?_, ?_, ?_⟩
          · first | with_reducible exact True.intro | with_reducible assumption | grind [-Prod, o_slB] | grind [-Prod, → sc_Pt, o_slB] | grind [-Prod, I_Pt, o_bn, upd, o_slB]
          · first | with_reducible exact True.intro | with_reducible assumption | grind [-Prod, o_slB] | grind [-Prod, → sc_Pt, o_slB] | grind [-Prod, I_Pt, o_bn, upd, o_slB]
          · first | with_reducible exact True.intro | with_reducible assumption | grind [-Prod, o_slB] | grind [-Prod, → sc_Pt, o_slB] | grind [-Prod, I_Pt, o_bn, upd, o_slB]
          · first | with_reducible exact True.intro | with_reducible assumption | grind [-Prod, o_slB] | grind [-Prod, → sc_Pt, o_slB] | grind [-Prod, I_Pt, o_bn, upd, o_slB]
          · exact h_Pt
        · refine o_okI (fun c15 => ?_) (fun c15 => ?_)
          · refine o_okN (fun x3_146_16 ex3_146_16 => ?_)
            refine o_okS ?_
            refine ⟨?_, ?_, ?_, ?_, ?_⟩
            · first | with_reducible exact True.intro | with_reducible assumption | grind [-Prod, o_slB] | grind [-Prod, → sc_Pt, o_slB] | grind [-Prod, I_Pt, o_bn, upd, o_slB]
            · first | with_reducible exact True.intro | with_reducible assumption | grind [-Prod, o_slB] | grind [-Prod, → sc_Pt, o_slB] | grind [-Prod, I_Pt, o_bn, upd, o_slB]
            · first | with_reducible exact True.intro | with_reducible assumption | grind [-Prod, o_slB] | grind [-Prod, → sc_Pt, o_slB] | grind [-Prod, I_Pt, o_bn, upd, o_slB]
            · first | with_reducible exact True.intro | with_reducible assumption | grind [-Prod, o_slB] | grind [-Prod, → sc_Pt, o_slB] | grind [-Prod, I_Pt, o_bn, upd, o_slB]
            · exact h_Pt
          · refine o_okS ?_
            refine ⟨?_, ?_, ?_, ?_, ?_⟩
            · first | with_reducible exact True.intro | with_reducible assumption | grind [-Prod, o_slB] | grind [-Prod, → sc_Pt, o_slB] | grind [-Prod, I_Pt, o_bn, upd, o_slB]
            · first | with_reducible exact True.intro | with_reducible assumption | grind [-Prod, o_slB] | grind [-Prod, → sc_Pt, o_slB] | grind [-Prod, I_Pt, o_bn, upd, o_slB]
            · first | with_reducible exact True.intro | with_reducible assumption | grind [-Prod, o_slB] | grind [-Prod, → sc_Pt, o_slB] | grind [-Prod, I_Pt, o_bn, upd, o_slB]
            · first | with_reducible exact True.intro | with_reducible assumption | grind [-Prod, o_slB] | grind [-Prod, → sc_Pt, o_slB] | grind [-Prod, I_Pt, o_bn, upd, o_slB]
            · exact h_Pt
      · unfold m_Pt_hexToken_j131
        refine o_okN (fun x2_132_17 ex2_132_17 => ?_)
        refine o_okI (fun c18 => ?_) (fun c18 => ?_)
        · refine o_okS ?_
          refine ⟨?_, ?_, ?_, ?_, ?_⟩
          · first | with_reducible exact True.intro | with_reducible assumption | grind [-Prod, o_slB] | grind [-Prod, → sc_Pt, o_slB] | grind [-Prod, I_Pt, o_bn, upd, o_slB]
          · first | with_reducible exact True.intro | with_reducible assumption | grind [-Prod, o_slB] | grind [-Prod, → sc_Pt, o_slB] | grind [-Prod, I_Pt, o_bn, upd, o_slB]
          · first | with_reducible exact True.intro | with_reducible assumption | grind [-Prod, o_slB] | grind [-Prod, → sc_Pt, o_slB] | grind [-Prod, I_Pt, o_bn, upd, o_slB]
          · first | with_reducible exact True.intro | with_reducible assumption | grind [-Prod, o_slB] | grind [-Prod, → sc_Pt, o_slB] | grind [-Prod, I_Pt, o_bn, upd, o_slB]
          · exact h_Pt
        · refine o_okI (fun c19 => ?_) (fun c19 => ?_)
          · refine o_okN (fun x3_146_20 ex3_146_20 => ?_)
            refine o_okS ?_
            refine ⟨?_, ?_, ?_, ?_, ?_⟩
            · first | with_reducible exact True.intro | with_reducible assumption | grind [-Prod, o_slB] | grind [-Prod, → sc_Pt, o_slB] | grind [-Prod, I_Pt, o_bn, upd, o_slB]
            · first | with_reducible exact True.intro | with_reducible assumption | grind [-Prod, o_slB] | grind [-Prod, → sc_Pt, o_slB] | grind [-Prod, I_Pt, o_bn, upd, o_slB]
            · first | with_reducible exact True.intro | with_reducible assumption | grind [-Prod, o_slB] | grind [-Prod, → sc_Pt, o_slB] | grind [-Prod, I_Pt, o_bn, upd, o_slB]
            · first | with_reducible exact True.intro | with_reducible assumption | grind [-Prod, o_slB] | grind [-Prod, → sc_Pt, o_slB] | grind [-Prod, I_Pt, o_bn, upd, o_slB]
            · exact h_Pt
          · refine o_okS ?_
            refine ⟨?_, ?_, ?_, ?_, ?_⟩
            · first | with_reducible exact True.intro | with_reducible assumption | grind [-Prod, o_slB] | grind [-Prod, → sc_Pt, o_slB] | grind [-Prod, I_Pt, o_bn, upd, o_slB]
            · first | with_reducible exact True.intro | with_reducible assumption | grind [-Prod, o_slB] | grind [-Prod, → sc_Pt, o_slB] | grind [-Prod, I_Pt, o_bn, upd, o_slB]
            · first | with_reducible exact True.intro | with_reducible assumption | grind [-Prod, o_slB] | grind [-Prod, → sc_Pt, o_slB] | grind [-Prod, I_Pt, o_bn, upd, o_slB]
            · first | with_reducible exact True.intro | with_reducible assumption | grind [-Prod, o_slB] | grind [-Prod, → sc_Pt, o_slB] | grind [-Prod, I_Pt, o_bn, upd, o_slB]
            · exact h_Pt
    · refine o_okB (s_JS_indexOf  hn) ?_
      intro q1_21 ⟨g22, g23⟩
      unfold m_Pt_hexToken_j108
      refine o_okI (fun c24 => ?_) (fun c24 => ?_)
      · unfold m_Pt_hexToken_j131
        refine o_okN (fun x2_132_25 ex2_132_25 => ?_)
        refine o_okI (fun c26 => ?_) (fun c26 => ?_)
        · refine o_okS ?_
          refine ⟨?_, ?_, ?_, ?_, ?_⟩
          · first | with_reducible exact True.intro | with_reducible assumption | grind [-Prod, o_slB] | grind [-Prod, → sc_Pt, o_slB] | grind [-Prod, I_Pt, o_bn, upd, o_slB]
          · first | with_reducible exact True.intro | with_reducible assumption | grind [-Prod, o_slB] | grind [-Prod, → sc_Pt, o_slB] | grind [-Prod, I_Pt, o_bn, upd, o_slB]
          · first | with_reducible exact True.intro | with_reducible assumption | grind [-Prod, o_slB] | grind [-Prod, → sc_Pt, o_slB] | grind [-Prod, I_Pt, o_bn, upd, o_slB]
          · first | with_reducible exact True.intro | with_reducible assumption | grind [-Prod, o_slB] | grind [-Prod, → sc_Pt, o_slB] | grind [-Prod, I_Pt, o_bn, upd, o_slB]
          · exact h_Pt
        · refine o_okI (fun c27 => ?_) (fun c27 => ?_)
          · refine o_okN (fun x3_146_28 ex3_146_28 => ?_)
            refine o_okS ?_
            refine ⟨?_, ?_, ?_, ?_, ?_⟩
            · first | with_reducible exact True.intro | with_reducible assumption | grind [-Prod, o_slB] | grind [-Prod, → sc_Pt, o_slB] | grind [-Prod, I_Pt, o_bn, upd, o_slB]
            · first | with_reducible exact True.intro | with_reducible assumption | grind [-Prod, o_slB] | grind [-Prod, → sc_Pt, o_slB] | grind [-Prod, I_Pt, o_bn, upd, o_slB]
            · first | with_reducible exact True.intro | with_reducible assumption | grind [-Prod, o_slB] | grind [-Prod, → sc_Pt, o_slB] | grind [-Prod, I_Pt, o_bn, upd, o_slB]
            · first | with_reducible exact True.intro | with_reducible assumption | grind [-Prod, o_slB] | grind [-Prod, → sc_Pt, o_slB] | grind [-Prod, I_Pt, o_bn, upd, o_slB]
            · exact h_Pt
          · refine o_okS ?_
            refine ⟨?_, ?_, ?_, ?_, ?_⟩
            · first | with_reducible exact True.intro | with_reducible assumption | grind [-Prod, o_slB] | grind [-Prod, → sc_Pt, o_slB] | grind [-Prod, I_Pt, o_bn, upd, o_slB]
            · first | with_reducible exact True.intro | with_reducible assumption | grind [-Prod, o_slB] | grind [-Prod, → sc_Pt, o_slB] | grind [-Prod, I_Pt, o_bn, upd, o_slB]
            · first | with_reducible exact True.intro | with_reducible assumption | grind [-Prod, o_slB] | grind [-Prod, → sc_Pt, o_slB] | grind [-Prod, I_Pt, o_bn, upd, o_slB]
            · first | with_reducible exact True.intro | with_reducible assumption | grind [-Prod, o_slB] | grind [-Prod, → sc_Pt, o_slB] | grind [-Prod, I_Pt, o_bn, upd, o_slB]
            · exact h_Pt
      · unfold m_Pt_hexToken_j131
        refine o_okN (fun x2_132_29 ex2_132_29 => ?_)
        refine o_okI (fun c30 => ?_) (fun c30 => ?_)
        · refine o_okS ?_
          refine ⟨?_, ?_, ?_, ?_, ?_⟩
          · first | with_reducible exact True.intro | with_reducible assumption | grind [-Prod, o_slB] | grind [-Prod, → sc_Pt, o_slB] | grind [-Prod, I_Pt, o_bn, upd, o_slB]
          · first | with_reducible exact True.intro | with_reducible assumption | grind [-Prod, o_slB] | grind [-Prod, → sc_Pt, o_slB] | grind [-Prod, I_Pt, o_bn, upd, o_slB]
          · first | with_reducible exact True.intro | with_reducible assumption | grind [-Prod, o_slB] | grind [-Prod, → sc_Pt, o_slB] | grind [-Prod, I_Pt, o_bn, upd, o_slB]
          · first | with_reducible exact True.intro | with_reducible assumption | grind [-Prod, o_slB] | grind [-Prod, → sc_Pt, o_slB] | grind [-Prod, I_Pt, o_bn, upd, o_slB]
          · exact h_Pt
        · refine o_okI (fun c31 => ?_) (fun c31 => ?_)
          · refine o_okN (fun x3_146_32 ex3_146_32 => ?_)
            refine o_okS ?_
            refine ⟨?_, ?_, ?_, ?_, ?_⟩
            · first | with_reducible exact True.intro | with_reducible assumption | grind [-Prod, o_slB] | grind [-Prod, → sc_Pt, o_slB] | grind [-Prod, I_Pt, o_bn, upd, o_slB]
            · first | with_reducible exact True.intro | with_reducible assumption | grind [-Prod, o_slB] | grind [-Prod, → sc_Pt, o_slB] | grind [-Prod, I_Pt, o_bn, upd, o_slB]
            · first | with_reducible exact True.intro | with_reducible assumption | grind [-Prod, o_slB] | grind [-Prod, → sc_Pt, o_slB] | grind [-Prod, I_Pt, o_bn, upd, o_slB]
            · first | with_reducible exact True.intro | with_reducible assumption | grind [-Prod, o_slB] | grind [-Prod, → sc_Pt, o_slB] | grind [-Prod, I_Pt, o_bn, upd, o_slB]
            · exact h_Pt
          · refine o_okS ?_
            refine ⟨?_, ?_, ?_, ?_, ?_⟩
            · first | with_reducible exact True.intro | with_reducible assumption | grind [-Prod, o_slB] | grind [-Prod, → sc_Pt, o_slB] | grind [-Prod, I_Pt, o_bn, upd, o_slB]
            · first | with_reducible exact True.intro | with_reducible assumption | grind [-Prod, o_slB] | grind [-Prod, → sc_Pt, o_slB] | grind [-Prod, I_Pt, o_bn, upd, o_slB]
            · first | with_reducible exact True.intro | with_reducible assumption | grind [-Prod, o_slB] | grind [-Prod, → sc_Pt, o_slB] | grind [-Prod, I_Pt, o_bn, upd, o_slB]
            · first | with_reducible exact True.intro | with_reducible assumption | grind [-Prod, o_slB] | grind [-Prod, → sc_Pt, o_slB] | grind [-Prod, I_Pt, o_bn, upd, o_slB]
            · exact h_Pt
set_option maxHeartbeats 8000000 in
theorem s_Pt_hexToken_b4 {n : Nat} {x1 : Int32} {z : Int32 × Int32 × SPt} {tc0 : Int32} (hn : o_big ≤ n) (l0 : 0 ≤ z.1) (l1 : z.1 ≤ 1114111) (l2 : Pt_position z.2.2 ≤ 8100 + z.2.1) (l3 : z.2.1 ≤ 4000) (l4 : Pt_tokenCount z.2.2 = tc0) (l5 : 0 ≤ z.2.1) (l6 : I_Pt z.2.2) : o_ok (m_Pt_hexToken_b4 n x1 z) (fun q => (q.1 = 0 → 0 ≤ q.2.1 ∧ q.2.1 ≤ 1114111 ∧ Pt_position q.2.2.2 ≤ 8100 + q.2.2.1 ∧ q.2.2.1 ≤ 4000 ∧ Pt_tokenCount q.2.2.2 = tc0 ∧ 0 ≤ q.2.2.1 ∧ I_Pt q.2.2.2 ∧ o_mu q.2.2.1 < o_mu z.2.1) ∧ (q.1 ≠ 0 → 0 ≤ Pt_position q.2.2.2 ∧ Pt_position q.2.2.2 ≤ 12200 ∧ (q.1 = 1 ∨ q.1 = 2 → 0 ≤ q.2.1 ∧ q.2.1 ≤ 1114111) ∧ Pt_tokenCount q.2.2.2 = tc0 ∧ I_Pt q.2.2.2)) := by
  unfold m_Pt_hexToken_b4
  refine o_okI (fun c1 => ?_) (fun c1 => ?_)
  · refine o_okS ?_
    refine ⟨fun h => absurd (show (4 : Nat) = 0 from h) (by decide), fun _ => ?_⟩
    refine ⟨?_, ?_, ?_, ?_, ?_⟩
    · first | with_reducible exact True.intro | with_reducible assumption | grind [-Prod, o_slB, o_muL] | grind [-Prod, → sc_Pt, o_slB, o_muL] | grind [-Prod, I_Pt, o_bn, upd, o_slB, o_muL]
    · first | with_reducible exact True.intro | with_reducible assumption | grind [-Prod, o_slB, o_muL] | grind [-Prod, → sc_Pt, o_slB, o_muL] | grind [-Prod, I_Pt, o_bn, upd, o_slB, o_muL]
    · first | with_reducible exact True.intro | with_reducible assumption | grind [-Prod, o_slB, o_muL] | grind [-Prod, → sc_Pt, o_slB, o_muL] | grind [-Prod, I_Pt, o_bn, upd, o_slB, o_muL]
    · first | with_reducible exact True.intro | with_reducible assumption | grind [-Prod, o_slB, o_muL] | grind [-Prod, → sc_Pt, o_slB, o_muL] | grind [-Prod, I_Pt, o_bn, upd, o_slB, o_muL]
    · exact l6
  · refine o_okI (fun c2 => ?_) (fun c2 => ?_)
    · unfold m_Pt_hexToken_j27
      refine o_okI (fun c3 => ?_) (fun c3 => ?_)
      · unfold m_Pt_hexToken_j51
        refine o_okI (fun c4 => ?_) (fun c4 => ?_)
        · refine o_okI (fun c5 => ?_) (fun c5 => ?_)
          · refine o_okW (s_Pt_hexToken_j83  hn ⟨l6.1, l6.2.1, l6.2.2.1, (by first | with_reducible exact True.intro | with_reducible assumption | grind [-Prod, o_slB, o_muL] | grind [-Prod, → sc_Pt, o_slB, o_muL] | grind [-Prod, I_Pt, o_bn, upd, o_slB, o_muL]), (by first | with_reducible exact True.intro | with_reducible assumption | grind [-Prod, o_slB, o_muL] | grind [-Prod, → sc_Pt, o_slB, o_muL] | grind [-Prod, I_Pt, o_bn, upd, o_slB, o_muL]), l6.2.2.2.2.2.1, l6.2.2.2.2.2.2.1, l6.2.2.2.2.2.2.2.1, l6.2.2.2.2.2.2.2.2.1, l6.2.2.2.2.2.2.2.2.2.1, l6.2.2.2.2.2.2.2.2.2.2⟩ (by first | with_reducible exact True.intro | with_reducible assumption | grind [-Prod, o_slB, o_muL] | grind [-Prod, → sc_Pt, o_slB, o_muL] | grind [-Prod, I_Pt, o_bn, upd, o_slB, o_muL]) (by first | with_reducible exact True.intro | with_reducible assumption | grind [-Prod, o_slB, o_muL] | grind [-Prod, → sc_Pt, o_slB, o_muL] | grind [-Prod, I_Pt, o_bn, upd, o_slB, o_muL]) (by first | with_reducible exact True.intro | with_reducible assumption | grind [-Prod, o_slB, o_muL] | grind [-Prod, → sc_Pt, o_slB, o_muL] | grind [-Prod, I_Pt, o_bn, upd, o_slB, o_muL]) (by first | with_reducible exact True.intro | with_reducible assumption | grind [-Prod, o_slB, o_muL] | grind [-Prod, → sc_Pt, o_slB, o_muL] | grind [-Prod, I_Pt, o_bn, upd, o_slB, o_muL]) (by first | with_reducible exact True.intro | with_reducible assumption | grind [-Prod, o_slB, o_muL] | grind [-Prod, → sc_Pt, o_slB, o_muL] | grind [-Prod, I_Pt, o_bn, upd, o_slB, o_muL])) (fun r hr => ?_)
            first | exact hr | (obtain ⟨g6, g7, g8, g9, g10⟩ := hr; refine ⟨fun h0 => ⟨?_, ?_, ?_, ?_, ?_, ?_, ?_, ?_⟩, fun h0 => ⟨?_, ?_, ?_, ?_, ?_⟩⟩ <;> (first | with_reducible exact True.intro | with_reducible assumption | (exact o_muL (by first | with_reducible exact True.intro | with_reducible assumption | grind [-Prod, o_slB, o_muL] | grind [-Prod, → sc_Pt, o_slB, o_muL] | grind [-Prod, I_Pt, o_bn, upd, o_slB, o_muL])) | (first | with_reducible exact True.intro | with_reducible assumption | grind [-Prod, o_slB, o_muL] | grind [-Prod, → sc_Pt, o_slB, o_muL] | grind [-Prod, I_Pt, o_bn, upd, o_slB, o_muL])))
          · refine o_okI (fun c11 => ?_) (fun c11 => ?_)
            · refine o_okS ?_
              refine ⟨fun h => absurd (show (2 : Nat) = 0 from h) (by decide), fun _ => ?_⟩
              refine ⟨?_, ?_, ?_, ?_, ?_⟩
              · first | with_reducible exact True.intro | with_reducible assumption | grind [-Prod, o_slB, o_muL] | grind [-Prod, → sc_Pt, o_slB, o_muL] | grind [-Prod, I_Pt, o_bn, upd, o_slB, o_muL]
              · first | with_reducible exact True.intro | with_reducible assumption | grind [-Prod, o_slB, o_muL] | grind [-Prod, → sc_Pt, o_slB, o_muL] | grind [-Prod, I_Pt, o_bn, upd, o_slB, o_muL]
              · first | with_reducible exact True.intro | with_reducible assumption | grind [-Prod, o_slB, o_muL] | grind [-Prod, → sc_Pt, o_slB, o_muL] | grind [-Prod, I_Pt, o_bn, upd, o_slB, o_muL]
              · first | with_reducible exact True.intro | with_reducible assumption | grind [-Prod, o_slB, o_muL] | grind [-Prod, → sc_Pt, o_slB, o_muL] | grind [-Prod, I_Pt, o_bn, upd, o_slB, o_muL]
              · exact ⟨l6.1, l6.2.1, l6.2.2.1, (by first | with_reducible exact True.intro | with_reducible assumption | grind [-Prod, o_slB, o_muL] | grind [-Prod, → sc_Pt, o_slB, o_muL] | grind [-Prod, I_Pt, o_bn, upd, o_slB, o_muL]), (by first | with_reducible exact True.intro | with_reducible assumption | grind [-Prod, o_slB, o_muL] | grind [-Prod, → sc_Pt, o_slB, o_muL] | grind [-Prod, I_Pt, o_bn, upd, o_slB, o_muL]), l6.2.2.2.2.2.1, l6.2.2.2.2.2.2.1, l6.2.2.2.2.2.2.2.1, l6.2.2.2.2.2.2.2.2.1, l6.2.2.2.2.2.2.2.2.2.1, l6.2.2.2.2.2.2.2.2.2.2⟩
            · refine o_okW (s_Pt_hexToken_j83  hn ⟨l6.1, l6.2.1, l6.2.2.1, (by first | with_reducible exact True.intro | with_reducible assumption | grind [-Prod, o_slB, o_muL] | grind [-Prod, → sc_Pt, o_slB, o_muL] | grind [-Prod, I_Pt, o_bn, upd, o_slB, o_muL]), (by first | with_reducible exact True.intro | with_reducible assumption | grind [-Prod, o_slB, o_muL] | grind [-Prod, → sc_Pt, o_slB, o_muL] | grind [-Prod, I_Pt, o_bn, upd, o_slB, o_muL]), l6.2.2.2.2.2.1, l6.2.2.2.2.2.2.1, l6.2.2.2.2.2.2.2.1, l6.2.2.2.2.2.2.2.2.1, l6.2.2.2.2.2.2.2.2.2.1, l6.2.2.2.2.2.2.2.2.2.2⟩ (by first | with_reducible exact True.intro | with_reducible assumption | grind [-Prod, o_slB, o_muL] | grind [-Prod, → sc_Pt, o_slB, o_muL] | grind [-Prod, I_Pt, o_bn, upd, o_slB, o_muL]) (by first | with_reducible exact True.intro | with_reducible assumption | grind [-Prod, o_slB, o_muL] | grind [-Prod, → sc_Pt, o_slB, o_muL] | grind [-Prod, I_Pt, o_bn, upd, o_slB, o_muL]) (by first | with_reducible exact True.intro | with_reducible assumption | grind [-Prod, o_slB, o_muL] | grind [-Prod, → sc_Pt, o_slB, o_muL] | grind [-Prod, I_Pt, o_bn, upd, o_slB, o_muL]) (by first | with_reducible exact True.intro | with_reducible assumption | grind [-Prod, o_slB, o_muL] | grind [-Prod, → sc_Pt, o_slB, o_muL] | grind [-Prod, I_Pt, o_bn, upd, o_slB, o_muL]) (by first | with_reducible exact True.intro | with_reducible assumption | grind [-Prod, o_slB, o_muL] | grind [-Prod, → sc_Pt, o_slB, o_muL] | grind [-Prod, I_Pt, o_bn, upd, o_slB, o_muL])) (fun r hr => ?_)
              first | exact hr | (obtain ⟨g12, g13, g14, g15, g16⟩ := hr; refine ⟨fun h0 => ⟨?_, ?_, ?_, ?_, ?_, ?_, ?_, ?_⟩, fun h0 => ⟨?_, ?_, ?_, ?_, ?_⟩⟩ <;> (first | with_reducible exact True.intro | with_reducible assumption | (exact o_muL (by first | with_reducible exact True.intro | with_reducible assumption | grind [-Prod, o_slB, o_muL] | grind [-Prod, → sc_Pt, o_slB, o_muL] | grind [-Prod, I_Pt, o_bn, upd, o_slB, o_muL])) | (first | with_reducible exact True.intro | with_reducible assumption | grind [-Prod, o_slB, o_muL] | grind [-Prod, → sc_Pt, o_slB, o_muL] | grind [-Prod, I_Pt, o_bn, upd, o_slB, o_muL])))
        · refine o_okW (s_Pt_hexToken_j83  hn ⟨l6.1, l6.2.1, l6.2.2.1, (by first | with_reducible exact True.intro | with_reducible assumption | grind [-Prod, o_slB, o_muL] | grind [-Prod, → sc_Pt, o_slB, o_muL] | grind [-Prod, I_Pt, o_bn, upd, o_slB, o_muL]), (by first | with_reducible exact True.intro | with_reducible assumption | grind [-Prod, o_slB, o_muL] | grind [-Prod, → sc_Pt, o_slB, o_muL] | grind [-Prod, I_Pt, o_bn, upd, o_slB, o_muL]), l6.2.2.2.2.2.1, l6.2.2.2.2.2.2.1, l6.2.2.2.2.2.2.2.1, l6.2.2.2.2.2.2.2.2.1, l6.2.2.2.2.2.2.2.2.2.1, l6.2.2.2.2.2.2.2.2.2.2⟩ (by first | with_reducible exact True.intro | with_reducible assumption | grind [-Prod, o_slB, o_muL] | grind [-Prod, → sc_Pt, o_slB, o_muL] | grind [-Prod, I_Pt, o_bn, upd, o_slB, o_muL]) (by first | with_reducible exact True.intro | with_reducible assumption | grind [-Prod, o_slB, o_muL] | grind [-Prod, → sc_Pt, o_slB, o_muL] | grind [-Prod, I_Pt, o_bn, upd, o_slB, o_muL]) (by first | with_reducible exact True.intro | with_reducible assumption | grind [-Prod, o_slB, o_muL] | grind [-Prod, → sc_Pt, o_slB, o_muL] | grind [-Prod, I_Pt, o_bn, upd, o_slB, o_muL]) (by first | with_reducible exact True.intro | with_reducible assumption | grind [-Prod, o_slB, o_muL] | grind [-Prod, → sc_Pt, o_slB, o_muL] | grind [-Prod, I_Pt, o_bn, upd, o_slB, o_muL]) (by first | with_reducible exact True.intro | with_reducible assumption | grind [-Prod, o_slB, o_muL] | grind [-Prod, → sc_Pt, o_slB, o_muL] | grind [-Prod, I_Pt, o_bn, upd, o_slB, o_muL])) (fun r hr => ?_)
          first | exact hr | (obtain ⟨g17, g18, g19, g20, g21⟩ := hr; refine ⟨fun h0 => ⟨?_, ?_, ?_, ?_, ?_, ?_, ?_, ?_⟩, fun h0 => ⟨?_, ?_, ?_, ?_, ?_⟩⟩ <;> (first | with_reducible exact True.intro | with_reducible assumption | (exact o_muL (by first | with_reducible exact True.intro | with_reducible assumption | grind [-Prod, o_slB, o_muL] | grind [-Prod, → sc_Pt, o_slB, o_muL] | grind [-Prod, I_Pt, o_bn, upd, o_slB, o_muL])) | (first | with_reducible exact True.intro | with_reducible assumption | grind [-Prod, o_slB, o_muL] | grind [-Prod, → sc_Pt, o_slB, o_muL] | grind [-Prod, I_Pt, o_bn, upd, o_slB, o_muL])))
      · refine o_okG (o_inM (m := 4000) rfl (by first | with_reducible exact True.intro | with_reducible assumption | grind [-Prod, o_slB, o_muL] | grind [-Prod, → sc_Pt, o_slB, o_muL] | grind [-Prod, I_Pt, o_bn, upd, o_slB, o_muL]) (by first | with_reducible exact True.intro | with_reducible assumption | grind [-Prod, o_slB, o_muL] | grind [-Prod, → sc_Pt, o_slB, o_muL] | grind [-Prod, I_Pt, o_bn, upd, o_slB, o_muL])) ?_
        unfold m_Pt_hexToken_j51
        refine o_okI (fun c22 => ?_) (fun c22 => ?_)
        · refine o_okI (fun c23 => ?_) (fun c23 => ?_)
          · refine o_okW (s_Pt_hexToken_j83  hn ⟨l6.1, l6.2.1, l6.2.2.1, (by first | with_reducible exact True.intro | with_reducible assumption | grind [-Prod, o_slB, o_muL] | grind [-Prod, → sc_Pt, o_slB, o_muL] | grind [-Prod, I_Pt, o_bn, upd, o_slB, o_muL]), (by first | with_reducible exact True.intro | with_reducible assumption | grind [-Prod, o_slB, o_muL] | grind [-Prod, → sc_Pt, o_slB, o_muL] | grind [-Prod, I_Pt, o_bn, upd, o_slB, o_muL]), l6.2.2.2.2.2.1, l6.2.2.2.2.2.2.1, l6.2.2.2.2.2.2.2.1, l6.2.2.2.2.2.2.2.2.1, l6.2.2.2.2.2.2.2.2.2.1, l6.2.2.2.2.2.2.2.2.2.2⟩ (by first | with_reducible exact True.intro | with_reducible assumption | grind [-Prod, o_slB, o_muL] | grind [-Prod, → sc_Pt, o_slB, o_muL] | grind [-Prod, I_Pt, o_bn, upd, o_slB, o_muL]) (by first | with_reducible exact True.intro | with_reducible assumption | grind [-Prod, o_slB, o_muL] | grind [-Prod, → sc_Pt, o_slB, o_muL] | grind [-Prod, I_Pt, o_bn, upd, o_slB, o_muL]) (by first | with_reducible exact True.intro | with_reducible assumption | grind [-Prod, o_slB, o_muL] | grind [-Prod, → sc_Pt, o_slB, o_muL] | grind [-Prod, I_Pt, o_bn, upd, o_slB, o_muL]) (by first | with_reducible exact True.intro | with_reducible assumption | grind [-Prod, o_slB, o_muL] | grind [-Prod, → sc_Pt, o_slB, o_muL] | grind [-Prod, I_Pt, o_bn, upd, o_slB, o_muL]) (by first | with_reducible exact True.intro | with_reducible assumption | grind [-Prod, o_slB, o_muL] | grind [-Prod, → sc_Pt, o_slB, o_muL] | grind [-Prod, I_Pt, o_bn, upd, o_slB, o_muL])) (fun r hr => ?_)
            first | exact hr | (obtain ⟨g24, g25, g26, g27, g28⟩ := hr; refine ⟨fun h0 => ⟨?_, ?_, ?_, ?_, ?_, ?_, ?_, ?_⟩, fun h0 => ⟨?_, ?_, ?_, ?_, ?_⟩⟩ <;> (first | with_reducible exact True.intro | with_reducible assumption | (exact o_muL (by first | with_reducible exact True.intro | with_reducible assumption | grind [-Prod, o_slB, o_muL] | grind [-Prod, → sc_Pt, o_slB, o_muL] | grind [-Prod, I_Pt, o_bn, upd, o_slB, o_muL])) | (first | with_reducible exact True.intro | with_reducible assumption | grind [-Prod, o_slB, o_muL] | grind [-Prod, → sc_Pt, o_slB, o_muL] | grind [-Prod, I_Pt, o_bn, upd, o_slB, o_muL])))
          · refine o_okI (fun c29 => ?_) (fun c29 => ?_)
            · refine o_okS ?_
              refine ⟨fun h => absurd (show (2 : Nat) = 0 from h) (by decide), fun _ => ?_⟩
              refine ⟨?_, ?_, ?_, ?_, ?_⟩
              · first | with_reducible exact True.intro | with_reducible assumption | grind [-Prod, o_slB, o_muL] | grind [-Prod, → sc_Pt, o_slB, o_muL] | grind [-Prod, I_Pt, o_bn, upd, o_slB, o_muL]
              · first | with_reducible exact True.intro | with_reducible assumption | grind [-Prod, o_slB, o_muL] | grind [-Prod, → sc_Pt, o_slB, o_muL] | grind [-Prod, I_Pt, o_bn, upd, o_slB, o_muL]
              · first | with_reducible exact True.intro | with_reducible assumption | grind [-Prod, o_slB, o_muL] | grind [-Prod, → sc_Pt, o_slB, o_muL] | grind [-Prod, I_Pt, o_bn, upd, o_slB, o_muL]
              · first | with_reducible exact True.intro | with_reducible assumption | grind [-Prod, o_slB, o_muL] | grind [-Prod, → sc_Pt, o_slB, o_muL] | grind [-Prod, I_Pt, o_bn, upd, o_slB, o_muL]
              · exact ⟨l6.1, l6.2.1, l6.2.2.1, (by first | with_reducible exact True.intro | with_reducible assumption | grind [-Prod, o_slB, o_muL] | grind [-Prod, → sc_Pt, o_slB, o_muL] | grind [-Prod, I_Pt, o_bn, upd, o_slB, o_muL]), (by first | with_reducible exact True.intro | with_reducible assumption | grind [-Prod, o_slB, o_muL] | grind [-Prod, → sc_Pt, o_slB, o_muL] | grind [-Prod, I_Pt, o_bn, upd, o_slB, o_muL]), l6.2.2.2.2.2.1, l6.2.2.2.2.2.2.1, l6.2.2.2.2.2.2.2.1, l6.2.2.2.2.2.2.2.2.1, l6.2.2.2.2.2.2.2.2.2.1, l6.2.2.2.2.2.2.2.2.2.2⟩
            · refine o_okW (s_Pt_hexToken_j83  hn ⟨l6.1, l6.2.1, l6.2.2.1, (by first | with_reducible exact True.intro | with_reducible assumption | grind [-Prod, o_slB, o_muL] | grind [-Prod, → sc_Pt, o_slB, o_muL] | grind [-Prod, I_Pt, o_bn, upd, o_slB, o_muL]), (by first | with_reducible exact True.intro | with_reducible assumption | grind [-Prod, o_slB, o_muL] | grind [-Prod, → sc_Pt, o_slB, o_muL] | grind [-Prod, I_Pt, o_bn, upd, o_slB, o_muL]), l6.2.2.2.2.2.1, l6.2.2.2.2.2.2.1, l6.2.2.2.2.2.2.2.1, l6.2.2.2.2.2.2.2.2.1, l6.2.2.2.2.2.2.2.2.2.1, l6.2.2.2.2.2.2.2.2.2.2⟩ (by first | with_reducible exact True.intro | with_reducible assumption | grind [-Prod, o_slB, o_muL] | grind [-Prod, → sc_Pt, o_slB, o_muL] | grind [-Prod, I_Pt, o_bn, upd, o_slB, o_muL]) (by first | with_reducible exact True.intro | with_reducible assumption | grind [-Prod, o_slB, o_muL] | grind [-Prod, → sc_Pt, o_slB, o_muL] | grind [-Prod, I_Pt, o_bn, upd, o_slB, o_muL]) (by first | with_reducible exact True.intro | with_reducible assumption | grind [-Prod, o_slB, o_muL] | grind [-Prod, → sc_Pt, o_slB, o_muL] | grind [-Prod, I_Pt, o_bn, upd, o_slB, o_muL]) (by first | with_reducible exact True.intro | with_reducible assumption | grind [-Prod, o_slB, o_muL] | grind [-Prod, → sc_Pt, o_slB, o_muL] | grind [-Prod, I_Pt, o_bn, upd, o_slB, o_muL]) (by first | with_reducible exact True.intro | with_reducible assumption | grind [-Prod, o_slB, o_muL] | grind [-Prod, → sc_Pt, o_slB, o_muL] | grind [-Prod, I_Pt, o_bn, upd, o_slB, o_muL])) (fun r hr => ?_)
              first | exact hr | (obtain ⟨g30, g31, g32, g33, g34⟩ := hr; refine ⟨fun h0 => ⟨?_, ?_, ?_, ?_, ?_, ?_, ?_, ?_⟩, fun h0 => ⟨?_, ?_, ?_, ?_, ?_⟩⟩ <;> (first | with_reducible exact True.intro | with_reducible assumption | (exact o_muL (by first | with_reducible exact True.intro | with_reducible assumption | grind [-Prod, o_slB, o_muL] | grind [-Prod, → sc_Pt, o_slB, o_muL] | grind [-Prod, I_Pt, o_bn, upd, o_slB, o_muL])) | (first | with_reducible exact True.intro | with_reducible assumption | grind [-Prod, o_slB, o_muL] | grind [-Prod, → sc_Pt, o_slB, o_muL] | grind [-Prod, I_Pt, o_bn, upd, o_slB, o_muL])))
        · refine o_okW (s_Pt_hexToken_j83  hn ⟨l6.1, l6.2.1, l6.2.2.1, (by first | with_reducible exact True.intro | with_reducible assumption | grind [-Prod, o_slB, o_muL] | grind [-Prod, → sc_Pt, o_slB, o_muL] | grind [-Prod, I_Pt, o_bn, upd, o_slB, o_muL]), (by first | with_reducible exact True.intro | with_reducible assumption | grind [-Prod, o_slB, o_muL] | grind [-Prod, → sc_Pt, o_slB, o_muL] | grind [-Prod, I_Pt, o_bn, upd, o_slB, o_muL]), l6.2.2.2.2.2.1, l6.2.2.2.2.2.2.1, l6.2.2.2.2.2.2.2.1, l6.2.2.2.2.2.2.2.2.1, l6.2.2.2.2.2.2.2.2.2.1, l6.2.2.2.2.2.2.2.2.2.2⟩ (by first | with_reducible exact True.intro | with_reducible assumption | grind [-Prod, o_slB, o_muL] | grind [-Prod, → sc_Pt, o_slB, o_muL] | grind [-Prod, I_Pt, o_bn, upd, o_slB, o_muL]) (by first | with_reducible exact True.intro | with_reducible assumption | grind [-Prod, o_slB, o_muL] | grind [-Prod, → sc_Pt, o_slB, o_muL] | grind [-Prod, I_Pt, o_bn, upd, o_slB, o_muL]) (by first | with_reducible exact True.intro | with_reducible assumption | grind [-Prod, o_slB, o_muL] | grind [-Prod, → sc_Pt, o_slB, o_muL] | grind [-Prod, I_Pt, o_bn, upd, o_slB, o_muL]) (by first | with_reducible exact True.intro | with_reducible assumption | grind [-Prod, o_slB, o_muL] | grind [-Prod, → sc_Pt, o_slB, o_muL] | grind [-Prod, I_Pt, o_bn, upd, o_slB, o_muL]) (by first | with_reducible exact True.intro | with_reducible assumption | grind [-Prod, o_slB, o_muL] | grind [-Prod, → sc_Pt, o_slB, o_muL] | grind [-Prod, I_Pt, o_bn, upd, o_slB, o_muL])) (fun r hr => ?_)
          first | exact hr | (obtain ⟨g35, g36, g37, g38, g39⟩ := hr; refine ⟨fun h0 => ⟨?_, ?_, ?_, ?_, ?_, ?_, ?_, ?_⟩, fun h0 => ⟨?_, ?_, ?_, ?_, ?_⟩⟩ <;> (first | with_reducible exact True.intro | with_reducible assumption | (exact o_muL (by first | with_reducible exact True.intro | with_reducible assumption | grind [-Prod, o_slB, o_muL] | grind [-Prod, → sc_Pt, o_slB, o_muL] | grind [-Prod, I_Pt, o_bn, upd, o_slB, o_muL])) | (first | with_reducible exact True.intro | with_reducible assumption | grind [-Prod, o_slB, o_muL] | grind [-Prod, → sc_Pt, o_slB, o_muL] | grind [-Prod, I_Pt, o_bn, upd, o_slB, o_muL])))
    · refine o_okI (fun c40 => ?_) (fun c40 => ?_)
      · refine o_okS ?_
        refine ⟨fun h => absurd (show (1 : Nat) = 0 from h) (by decide), fun _ => ?_⟩
        refine ⟨?_, ?_, ?_, ?_, ?_⟩
        · first | with_reducible exact True.intro | with_reducible assumption | grind [-Prod, o_slB, o_muL] | grind [-Prod, → sc_Pt, o_slB, o_muL] | grind [-Prod, I_Pt, o_bn, upd, o_slB, o_muL]
        · first | with_reducible exact True.intro | with_reducible assumption | grind [-Prod, o_slB, o_muL] | grind [-Prod, → sc_Pt, o_slB, o_muL] | grind [-Prod, I_Pt, o_bn, upd, o_slB, o_muL]
        · first | with_reducible exact True.intro | with_reducible assumption | grind [-Prod, o_slB, o_muL] | grind [-Prod, → sc_Pt, o_slB, o_muL] | grind [-Prod, I_Pt, o_bn, upd, o_slB, o_muL]
        · first | with_reducible exact True.intro | with_reducible assumption | grind [-Prod, o_slB, o_muL] | grind [-Prod, → sc_Pt, o_slB, o_muL] | grind [-Prod, I_Pt, o_bn, upd, o_slB, o_muL]
        · exact l6
      · unfold m_Pt_hexToken_j27
        refine o_okI (fun c41 => ?_) (fun c41 => ?_)
        · unfold m_Pt_hexToken_j51
          refine o_okI (fun c42 => ?_) (fun c42 => ?_)
          · refine o_okI (fun c43 => ?_) (fun c43 => ?_)
            · refine o_okW (s_Pt_hexToken_j83  hn ⟨l6.1, l6.2.1, l6.2.2.1, (by first | with_reducible exact True.intro | with_reducible assumption | grind [-Prod, o_slB, o_muL] | grind [-Prod, → sc_Pt, o_slB, o_muL] | grind [-Prod, I_Pt, o_bn, upd, o_slB, o_muL]), (by first | with_reducible exact True.intro | with_reducible assumption | grind [-Prod, o_slB, o_muL] | grind [-Prod, → sc_Pt, o_slB, o_muL] | grind [-Prod, I_Pt, o_bn, upd, o_slB, o_muL]), l6.2.2.2.2.2.1, l6.2.2.2.2.2.2.1, l6.2.2.2.2.2.2.2.1, l6.2.2.2.2.2.2.2.2.1, l6.2.2.2.2.2.2.2.2.2.1, l6.2.2.2.2.2.2.2.2.2.2⟩ (by first | with_reducible exact True.intro | with_reducible assumption | grind [-Prod, o_slB, o_muL] | grind [-Prod, → sc_Pt, o_slB, o_muL] | grind [-Prod, I_Pt, o_bn, upd, o_slB, o_muL]) (by first | with_reducible exact True.intro | with_reducible assumption | grind [-Prod, o_slB, o_muL] | grind [-Prod, → sc_Pt, o_slB, o_muL] | grind [-Prod, I_Pt, o_bn, upd, o_slB, o_muL]) (by first | with_reducible exact True.intro | with_reducible assumption | grind [-Prod, o_slB, o_muL] | grind [-Prod, → sc_Pt, o_slB, o_muL] | grind [-Prod, I_Pt, o_bn, upd, o_slB, o_muL]) (by first | with_reducible exact True.intro | with_reducible assumption | grind [-Prod, o_slB, o_muL] | grind [-Prod, → sc_Pt, o_slB, o_muL] | grind [-Prod, I_Pt, o_bn, upd, o_slB, o_muL]) (by first | with_reducible exact True.intro | with_reducible assumption | grind [-Prod, o_slB, o_muL] | grind [-Prod, → sc_Pt, o_slB, o_muL] | grind [-Prod, I_Pt, o_bn, upd, o_slB, o_muL])) (fun r hr => ?_)
              first | exact hr | (obtain ⟨g44, g45, g46, g47, g48⟩ := hr; refine ⟨fun h0 => ⟨?_, ?_, ?_, ?_, ?_, ?_, ?_, ?_⟩, fun h0 => ⟨?_, ?_, ?_, ?_, ?_⟩⟩ <;> (first | with_reducible exact True.intro | with_reducible assumption | (exact o_muL (by first | with_reducible exact True.intro | with_reducible assumption | grind [-Prod, o_slB, o_muL] | grind [-Prod, → sc_Pt, o_slB, o_muL] | grind [-Prod, I_Pt, o_bn, upd, o_slB, o_muL])) | (first | with_reducible exact True.intro | with_reducible assumption | grind [-Prod, o_slB, o_muL] | grind [-Prod, → sc_Pt, o_slB, o_muL] | grind [-Prod, I_Pt, o_bn, upd, o_slB, o_muL])))
            · refine o_okI (fun c49 => ?_) (fun c49 => ?_)
              · refine o_okS ?_
                refine ⟨fun h => absurd (show (2 : Nat) = 0 from h) (by decide), fun _ => ?_⟩
                refine ⟨?_, ?_, ?_, ?_, ?_⟩
                · first | with_reducible exact True.intro | with_reducible assumption | grind [-Prod, o_slB, o_muL] | grind [-Prod, → sc_Pt, o_slB, o_muL] | grind [-Prod, I_Pt, o_bn, upd, o_slB, o_muL]
                · first | with_reducible exact True.intro | with_reducible assumption | grind [-Prod, o_slB, o_muL] | grind [-Prod, → sc_Pt, o_slB, o_muL] | grind [-Prod, I_Pt, o_bn, upd, o_slB, o_muL]
                · first | with_reducible exact True.intro | with_reducible assumption | grind [-Prod, o_slB, o_muL] | grind [-Prod, → sc_Pt, o_slB, o_muL] | grind [-Prod, I_Pt, o_bn, upd, o_slB, o_muL]
                · first | with_reducible exact True.intro | with_reducible assumption | grind [-Prod, o_slB, o_muL] | grind [-Prod, → sc_Pt, o_slB, o_muL] | grind [-Prod, I_Pt, o_bn, upd, o_slB, o_muL]
                · exact ⟨l6.1, l6.2.1, l6.2.2.1, (by first | with_reducible exact True.intro | with_reducible assumption | grind [-Prod, o_slB, o_muL] | grind [-Prod, → sc_Pt, o_slB, o_muL] | grind [-Prod, I_Pt, o_bn, upd, o_slB, o_muL]), (by first | with_reducible exact True.intro | with_reducible assumption | grind [-Prod, o_slB, o_muL] | grind [-Prod, → sc_Pt, o_slB, o_muL] | grind [-Prod, I_Pt, o_bn, upd, o_slB, o_muL]), l6.2.2.2.2.2.1, l6.2.2.2.2.2.2.1, l6.2.2.2.2.2.2.2.1, l6.2.2.2.2.2.2.2.2.1, l6.2.2.2.2.2.2.2.2.2.1, l6.2.2.2.2.2.2.2.2.2.2⟩
              · refine o_okW (s_Pt_hexToken_j83  hn ⟨l6.1, l6.2.1, l6.2.2.1, (by first | with_reducible exact True.intro | with_reducible assumption | grind [-Prod, o_slB, o_muL] | grind [-Prod, → sc_Pt, o_slB, o_muL] | grind [-Prod, I_Pt, o_bn, upd, o_slB, o_muL]), (by first | with_reducible exact True.intro | with_reducible assumption | grind [-Prod, o_slB, o_muL] | grind [-Prod, → sc_Pt, o_slB, o_muL] | grind [-Prod, I_Pt, o_bn, upd, o_slB, o_muL]), l6.2.2.2.2.2.1, l6.2.2.2.2.2.2.1, l6.2.2.2.2.2.2.2.1, l6.2.2.2.2.2.2.2.2.1, l6.2.2.2.2.2.2.2.2.2.1, l6.2.2.2.2.2.2.2.2.2.2⟩ (by first | with_reducible exact True.intro | with_reducible assumption | grind [-Prod, o_slB, o_muL] | grind [-Prod, → sc_Pt, o_slB, o_muL] | grind [-Prod, I_Pt, o_bn, upd, o_slB, o_muL]) (by first | with_reducible exact True.intro | with_reducible assumption | grind [-Prod, o_slB, o_muL] | grind [-Prod, → sc_Pt, o_slB, o_muL] | grind [-Prod, I_Pt, o_bn, upd, o_slB, o_muL]) (by first | with_reducible exact True.intro | with_reducible assumption | grind [-Prod, o_slB, o_muL] | grind [-Prod, → sc_Pt, o_slB, o_muL] | grind [-Prod, I_Pt, o_bn, upd, o_slB, o_muL]) (by first | with_reducible exact True.intro | with_reducible assumption | grind [-Prod, o_slB, o_muL] | grind [-Prod, → sc_Pt, o_slB, o_muL] | grind [-Prod, I_Pt, o_bn, upd, o_slB, o_muL]) (by first | with_reducible exact True.intro | with_reducible assumption | grind [-Prod, o_slB, o_muL] | grind [-Prod, → sc_Pt, o_slB, o_muL] | grind [-Prod, I_Pt, o_bn, upd, o_slB, o_muL])) (fun r hr => ?_)
                first | exact hr | (obtain ⟨g50, g51, g52, g53, g54⟩ := hr; refine ⟨fun h0 => ⟨?_, ?_, ?_, ?_, ?_, ?_, ?_, ?_⟩, fun h0 => ⟨?_, ?_, ?_, ?_, ?_⟩⟩ <;> (first | with_reducible exact True.intro | with_reducible assumption | (exact o_muL (by first | with_reducible exact True.intro | with_reducible assumption | grind [-Prod, o_slB, o_muL] | grind [-Prod, → sc_Pt, o_slB, o_muL] | grind [-Prod, I_Pt, o_bn, upd, o_slB, o_muL])) | (first | with_reducible exact True.intro | with_reducible assumption | grind [-Prod, o_slB, o_muL] | grind [-Prod, → sc_Pt, o_slB, o_muL] | grind [-Prod, I_Pt, o_bn, upd, o_slB, o_muL])))
          · refine o_okW (s_Pt_hexToken_j83  hn ⟨l6.1, l6.2.1, l6.2.2.1, (by first | with_reducible exact True.intro | with_reducible assumption | grind [-Prod, o_slB, o_muL] | grind [-Prod, → sc_Pt, o_slB, o_muL] | grind [-Prod, I_Pt, o_bn, upd, o_slB, o_muL]), (by first | with_reducible exact True.intro | with_reducible assumption | grind [-Prod, o_slB, o_muL] | grind [-Prod, → sc_Pt, o_slB, o_muL] | grind [-Prod, I_Pt, o_bn, upd, o_slB, o_muL]), l6.2.2.2.2.2.1, l6.2.2.2.2.2.2.1, l6.2.2.2.2.2.2.2.1, l6.2.2.2.2.2.2.2.2.1, l6.2.2.2.2.2.2.2.2.2.1, l6.2.2.2.2.2.2.2.2.2.2⟩ (by first | with_reducible exact True.intro | with_reducible assumption | grind [-Prod, o_slB, o_muL] | grind [-Prod, → sc_Pt, o_slB, o_muL] | grind [-Prod, I_Pt, o_bn, upd, o_slB, o_muL]) (by first | with_reducible exact True.intro | with_reducible assumption | grind [-Prod, o_slB, o_muL] | grind [-Prod, → sc_Pt, o_slB, o_muL] | grind [-Prod, I_Pt, o_bn, upd, o_slB, o_muL]) (by first | with_reducible exact True.intro | with_reducible assumption | grind [-Prod, o_slB, o_muL] | grind [-Prod, → sc_Pt, o_slB, o_muL] | grind [-Prod, I_Pt, o_bn, upd, o_slB, o_muL]) (by first | with_reducible exact True.intro | with_reducible assumption | grind [-Prod, o_slB, o_muL] | grind [-Prod, → sc_Pt, o_slB, o_muL] | grind [-Prod, I_Pt, o_bn, upd, o_slB, o_muL]) (by first | with_reducible exact True.intro | with_reducible assumption | grind [-Prod, o_slB, o_muL] | grind [-Prod, → sc_Pt, o_slB, o_muL] | grind [-Prod, I_Pt, o_bn, upd, o_slB, o_muL])) (fun r hr => ?_)
            first | exact hr | (obtain ⟨g55, g56, g57, g58, g59⟩ := hr; refine ⟨fun h0 => ⟨?_, ?_, ?_, ?_, ?_, ?_, ?_, ?_⟩, fun h0 => ⟨?_, ?_, ?_, ?_, ?_⟩⟩ <;> (first | with_reducible exact True.intro | with_reducible assumption | (exact o_muL (by first | with_reducible exact True.intro | with_reducible assumption | grind [-Prod, o_slB, o_muL] | grind [-Prod, → sc_Pt, o_slB, o_muL] | grind [-Prod, I_Pt, o_bn, upd, o_slB, o_muL])) | (first | with_reducible exact True.intro | with_reducible assumption | grind [-Prod, o_slB, o_muL] | grind [-Prod, → sc_Pt, o_slB, o_muL] | grind [-Prod, I_Pt, o_bn, upd, o_slB, o_muL])))
        · refine o_okG (o_inM (m := 4000) rfl (by first | with_reducible exact True.intro | with_reducible assumption | grind [-Prod, o_slB, o_muL] | grind [-Prod, → sc_Pt, o_slB, o_muL] | grind [-Prod, I_Pt, o_bn, upd, o_slB, o_muL]) (by first | with_reducible exact True.intro | with_reducible assumption | grind [-Prod, o_slB, o_muL] | grind [-Prod, → sc_Pt, o_slB, o_muL] | grind [-Prod, I_Pt, o_bn, upd, o_slB, o_muL])) ?_
          unfold m_Pt_hexToken_j51
          refine o_okI (fun c60 => ?_) (fun c60 => ?_)
          · refine o_okI (fun c61 => ?_) (fun c61 => ?_)
            · refine o_okW (s_Pt_hexToken_j83  hn ⟨l6.1, l6.2.1, l6.2.2.1, (by first | with_reducible exact True.intro | with_reducible assumption | grind [-Prod, o_slB, o_muL] | grind [-Prod, → sc_Pt, o_slB, o_muL] | grind [-Prod, I_Pt, o_bn, upd, o_slB, o_muL]), (by first | with_reducible exact True.intro | with_reducible assumption | grind [-Prod, o_slB, o_muL] | grind [-Prod, → sc_Pt, o_slB, o_muL] | grind [-Prod, I_Pt, o_bn, upd, o_slB, o_muL]), l6.2.2.2.2.2.1, l6.2.2.2.2.2.2.1, l6.2.2.2.2.2.2.2.1, l6.2.2.2.2.2.2.2.2.1, l6.2.2.2.2.2.2.2.2.2.1, l6.2.2.2.2.2.2.2.2.2.2⟩ (by first | with_reducible exact True.intro | with_reducible assumption | grind [-Prod, o_slB, o_muL] | grind [-Prod, → sc_Pt, o_slB, o_muL] | grind [-Prod, I_Pt, o_bn, upd, o_slB, o_muL]) (by first | with_reducible exact True.intro | with_reducible assumption | grind [-Prod, o_slB, o_muL] | grind [-Prod, → sc_Pt, o_slB, o_muL] | grind [-Prod, I_Pt, o_bn, upd, o_slB, o_muL]) (by first | with_reducible exact True.intro | with_reducible assumption | grind [-Prod, o_slB, o_muL] | grind [-Prod, → sc_Pt, o_slB, o_muL] | grind [-Prod, I_Pt, o_bn, upd, o_slB, o_muL]) (by first | with_reducible exact True.intro | with_reducible assumption | grind [-Prod, o_slB, o_muL] | grind [-Prod, → sc_Pt, o_slB, o_muL] | grind [-Prod, I_Pt, o_bn, upd, o_slB, o_muL]) (by first | with_reducible exact True.intro | with_reducible assumption | grind [-Prod, o_slB, o_muL] | grind [-Prod, → sc_Pt, o_slB, o_muL] | grind [-Prod, I_Pt, o_bn, upd, o_slB, o_muL])) (fun r hr => ?_)
              first | exact hr | (obtain ⟨g62, g63, g64, g65, g66⟩ := hr; refine ⟨fun h0 => ⟨?_, ?_, ?_, ?_, ?_, ?_, ?_, ?_⟩, fun h0 => ⟨?_, ?_, ?_, ?_, ?_⟩⟩ <;> (first | with_reducible exact True.intro | with_reducible assumption | (exact o_muL (by first | with_reducible exact True.intro | with_reducible assumption | grind [-Prod, o_slB, o_muL] | grind [-Prod, → sc_Pt, o_slB, o_muL] | grind [-Prod, I_Pt, o_bn, upd, o_slB, o_muL])) | (first | with_reducible exact True.intro | with_reducible assumption | grind [-Prod, o_slB, o_muL] | grind [-Prod, → sc_Pt, o_slB, o_muL] | grind [-Prod, I_Pt, o_bn, upd, o_slB, o_muL])))
            · refine o_okI (fun c67 => ?_) (fun c67 => ?_)
              · refine o_okS ?_
                refine ⟨fun h => absurd (show (2 : Nat) = 0 from h) (by decide), fun _ => ?_⟩
                refine ⟨?_, ?_, ?_, ?_, ?_⟩
                · first | with_reducible exact True.intro | with_reducible assumption | grind [-Prod, o_slB, o_muL] | grind [-Prod, → sc_Pt, o_slB, o_muL] | grind [-Prod, I_Pt, o_bn, upd, o_slB, o_muL]
                · first | with_reducible exact True.intro | with_reducible assumption | grind [-Prod, o_slB, o_muL] | grind [-Prod, → sc_Pt, o_slB, o_muL] | grind [-Prod, I_Pt, o_bn, upd, o_slB, o_muL]
                · first | with_reducible exact True.intro | with_reducible assumption | grind [-Prod, o_slB, o_muL] | grind [-Prod, → sc_Pt, o_slB, o_muL] | grind [-Prod, I_Pt, o_bn, upd, o_slB, o_muL]
                · first | with_reducible exact True.intro | with_reducible assumption | grind [-Prod, o_slB, o_muL] | grind [-Prod, → sc_Pt, o_slB, o_muL] | grind [-Prod, I_Pt, o_bn, upd, o_slB, o_muL]
                · exact ⟨l6.1, l6.2.1, l6.2.2.1, (by first | with_reducible exact True.intro | with_reducible assumption | grind [-Prod, o_slB, o_muL] | grind [-Prod, → sc_Pt, o_slB, o_muL] | grind [-Prod, I_Pt, o_bn, upd, o_slB, o_muL]), (by first | with_reducible exact True.intro | with_reducible assumption | grind [-Prod, o_slB, o_muL] | grind [-Prod, → sc_Pt, o_slB, o_muL] | grind [-Prod, I_Pt, o_bn, upd, o_slB, o_muL]), l6.2.2.2.2.2.1, l6.2.2.2.2.2.2.1, l6.2.2.2.2.2.2.2.1, l6.2.2.2.2.2.2.2.2.1, l6.2.2.2.2.2.2.2.2.2.1, l6.2.2.2.2.2.2.2.2.2.2⟩
              · refine o_okW (s_Pt_hexToken_j83  hn ⟨l6.1, l6.2.1, l6.2.2.1, (by first | with_reducible exact True.intro | with_reducible assumption | grind [-Prod, o_slB, o_muL] | grind [-Prod, → sc_Pt, o_slB, o_muL] | grind [-Prod, I_Pt, o_bn, upd, o_slB, o_muL]), (by first | with_reducible exact True.intro | with_reducible assumption | grind [-Prod, o_slB, o_muL] | grind [-Prod, → sc_Pt, o_slB, o_muL] | grind [-Prod, I_Pt, o_bn, upd, o_slB, o_muL]), l6.2.2.2.2.2.1, l6.2.2.2.2.2.2.1, l6.2.2.2.2.2.2.2.1, l6.2.2.2.2.2.2.2.2.1, l6.2.2.2.2.2.2.2.2.2.1, l6.2.2.2.2.2.2.2.2.2.2⟩ (by first | with_reducible exact True.intro | with_reducible assumption | grind [-Prod, o_slB, o_muL] | grind [-Prod, → sc_Pt, o_slB, o_muL] | grind [-Prod, I_Pt, o_bn, upd, o_slB, o_muL]) (by first | with_reducible exact True.intro | with_reducible assumption | grind [-Prod, o_slB, o_muL] | grind [-Prod, → sc_Pt, o_slB, o_muL] | grind [-Prod, I_Pt, o_bn, upd, o_slB, o_muL]) (by first | with_reducible exact True.intro | with_reducible assumption | grind [-Prod, o_slB, o_muL] | grind [-Prod, → sc_Pt, o_slB, o_muL] | grind [-Prod, I_Pt, o_bn, upd, o_slB, o_muL]) (by first | with_reducible exact True.intro | with_reducible assumption | grind [-Prod, o_slB, o_muL] | grind [-Prod, → sc_Pt, o_slB, o_muL] | grind [-Prod, I_Pt, o_bn, upd, o_slB, o_muL]) (by first | with_reducible exact True.intro | with_reducible assumption | grind [-Prod, o_slB, o_muL] | grind [-Prod, → sc_Pt, o_slB, o_muL] | grind [-Prod, I_Pt, o_bn, upd, o_slB, o_muL])) (fun r hr => ?_)
                first | exact hr | (obtain ⟨g68, g69, g70, g71, g72⟩ := hr; refine ⟨fun h0 => ⟨?_, ?_, ?_, ?_, ?_, ?_, ?_, ?_⟩, fun h0 => ⟨?_, ?_, ?_, ?_, ?_⟩⟩ <;> (first | with_reducible exact True.intro | with_reducible assumption | (exact o_muL (by first | with_reducible exact True.intro | with_reducible assumption | grind [-Prod, o_slB, o_muL] | grind [-Prod, → sc_Pt, o_slB, o_muL] | grind [-Prod, I_Pt, o_bn, upd, o_slB, o_muL])) | (first | with_reducible exact True.intro | with_reducible assumption | grind [-Prod, o_slB, o_muL] | grind [-Prod, → sc_Pt, o_slB, o_muL] | grind [-Prod, I_Pt, o_bn, upd, o_slB, o_muL])))
          · refine o_okW (s_Pt_hexToken_j83  hn ⟨l6.1, l6.2.1, l6.2.2.1, (by first | with_reducible exact True.intro | with_reducible assumption | grind [-Prod, o_slB, o_muL] | grind [-Prod, → sc_Pt, o_slB, o_muL] | grind [-Prod, I_Pt, o_bn, upd, o_slB, o_muL]), (by first | with_reducible exact True.intro | with_reducible assumption | grind [-Prod, o_slB, o_muL] | grind [-Prod, → sc_Pt, o_slB, o_muL] | grind [-Prod, I_Pt, o_bn, upd, o_slB, o_muL]), l6.2.2.2.2.2.1, l6.2.2.2.2.2.2.1, l6.2.2.2.2.2.2.2.1, l6.2.2.2.2.2.2.2.2.1, l6.2.2.2.2.2.2.2.2.2.1, l6.2.2.2.2.2.2.2.2.2.2⟩ (by first | with_reducible exact True.intro | with_reducible assumption | grind [-Prod, o_slB, o_muL] | grind [-Prod, → sc_Pt, o_slB, o_muL] | grind [-Prod, I_Pt, o_bn, upd, o_slB, o_muL]) (by first | with_reducible exact True.intro | with_reducible assumption | grind [-Prod, o_slB, o_muL] | grind [-Prod, → sc_Pt, o_slB, o_muL] | grind [-Prod, I_Pt, o_bn, upd, o_slB, o_muL]) (by first | with_reducible exact True.intro | with_reducible assumption | grind [-Prod, o_slB, o_muL] | grind [-Prod, → sc_Pt, o_slB, o_muL] | grind [-Prod, I_Pt, o_bn, upd, o_slB, o_muL]) (by first | with_reducible exact True.intro | with_reducible assumption | grind [-Prod, o_slB, o_muL] | grind [-Prod, → sc_Pt, o_slB, o_muL] | grind [-Prod, I_Pt, o_bn, upd, o_slB, o_muL]) (by first | with_reducible exact True.intro | with_reducible assumption | grind [-Prod, o_slB, o_muL] | grind [-Prod, → sc_Pt, o_slB, o_muL] | grind [-Prod, I_Pt, o_bn, upd, o_slB, o_muL])) (fun r hr => ?_)
            first | exact hr | (obtain ⟨g73, g74, g75, g76, g77⟩ := hr; refine ⟨fun h0 => ⟨?_, ?_, ?_, ?_, ?_, ?_, ?_, ?_⟩, fun h0 => ⟨?_, ?_, ?_, ?_, ?_⟩⟩ <;> (first | with_reducible exact True.intro | with_reducible assumption | (exact o_muL (by first | with_reducible exact True.intro | with_reducible assumption | grind [-Prod, o_slB, o_muL] | grind [-Prod, → sc_Pt, o_slB, o_muL] | grind [-Prod, I_Pt, o_bn, upd, o_slB, o_muL])) | (first | with_reducible exact True.intro | with_reducible assumption | grind [-Prod, o_slB, o_muL] | grind [-Prod, → sc_Pt, o_slB, o_muL] | grind [-Prod, I_Pt, o_bn, upd, o_slB, o_muL])))
theorem l_Pt_hexToken_b4 {n : Nat} {x1 : Int32} {z : Int32 × Int32 × SPt} {tc0 : Int32} (hn : o_big ≤ n) (l0 : 0 ≤ z.1) (l1 : z.1 ≤ 1114111) (l2 : Pt_position z.2.2 ≤ 8100 + z.2.1) (l3 : z.2.1 ≤ 4000) (l4 : Pt_tokenCount z.2.2 = tc0) (l5 : 0 ≤ z.2.1) (l6 : I_Pt z.2.2) : o_ok (o_lp n (m_Pt_hexToken_b4 n x1) z) (fun q => q.1 ≠ 0 ∧ 0 ≤ Pt_position q.2.2.2 ∧ Pt_position q.2.2.2 ≤ 12200 ∧ (q.1 = 1 ∨ q.1 = 2 → 0 ≤ q.2.1 ∧ q.2.1 ≤ 1114111) ∧ Pt_tokenCount q.2.2.2 = tc0 ∧ I_Pt q.2.2.2) := by
  exact o_lpR (fun z => 0 ≤ z.1 ∧ z.1 ≤ 1114111 ∧ Pt_position z.2.2 ≤ 8100 + z.2.1 ∧ z.2.1 ≤ 4000 ∧ Pt_tokenCount z.2.2 = tc0 ∧ 0 ≤ z.2.1 ∧ I_Pt z.2.2) (fun z => o_mu z.2.1) hn (o_muB) ⟨l0, l1, l2, l3, l4, l5, l6⟩
    (fun z hz => by obtain ⟨l0, l1, l2, l3, l4, l5, l6⟩ := hz; exact o_okW (s_Pt_hexToken_b4 (tc0 := tc0) hn l0 l1 l2 l3 l4 l5 l6) (fun q hq => ⟨fun h => by have := hq.1 h; grind, hq.2⟩))
