theorem s_Lk_decode {n : Nat} {x1 : Int32} {T0 : STx} {Lk : SLk} (hn : o_big ≤ n) (h_T0 : I_Tx T0) (h_Lk : I_Lk Lk) : o_ok (m_Lk_decode n x1 T0 Lk) (fun r => (r.1 = 0 ∨ r.1 = 1) ∧ I_Lk r.2) := by
  unfold m_Lk_decode
  refine o_okB (s_Tx_size  h_T0) ?_
  intro q1_1 g2
  refine o_okB (l_Lk_decode_b21  hn h_T0 (by first | with_reducible exact True.intro | with_reducible assumption | grind [-Prod] | grind [-Prod, → sc_Lk, → sc_Tx] | grind [-Prod, I_Lk, I_Tx, o_bn, upd]) ⟨(by first | with_reducible exact True.intro | with_reducible assumption | grind [-Prod] | grind [-Prod, → sc_Lk, → sc_Tx] | grind [-Prod, I_Lk, I_Tx, o_bn, upd]), (by first | with_reducible exact True.intro | with_reducible assumption | grind [-Prod] | grind [-Prod, → sc_Lk, → sc_Tx] | grind [-Prod, I_Lk, I_Tx, o_bn, upd])⟩) ?_
  intro q5_3 ⟨yq5_3, g4⟩
  refine o_okI (fun c5 => ?_) (fun c5 => ?_)
  · refine o_okS ?_
    refine ⟨?_, ?_⟩
    · first | with_reducible exact True.intro | with_reducible assumption | grind [-Prod] | grind [-Prod, → sc_Lk, → sc_Tx] | grind [-Prod, I_Lk, I_Tx, o_bn, upd]
    · exact g4
  · refine o_okS ?_
    refine ⟨?_, ?_⟩
    · first | with_reducible exact True.intro | with_reducible assumption | grind [-Prod] | grind [-Prod, → sc_Lk, → sc_Tx] | grind [-Prod, I_Lk, I_Tx, o_bn, upd]
    · exact g4
theorem s_Lk_placeNumber_b38 {n : Nat} {x2 : Int32} {Lk : SLk} {z : Int32 × Int32} (hn : o_big ≤ n) (h_Lk : I_Lk Lk) (p0 : x2 ≤ 4000) (l0 : 0 ≤ z.2) : o_ok (m_Lk_placeNumber_b38 n x2 Lk z) (fun q => (q.1 = 0 → 0 ≤ q.2.2 ∧ o_mu q.2.2 < o_mu z.2) ∧ (q.1 ≠ 0 → True)) := by
  unfold m_Lk_placeNumber_b38
  refine o_okI (fun c1 => ?_) (fun c1 => ?_)
  · refine o_okS ?_
    refine ⟨fun h => absurd (show (2 : Nat) = 0 from h) (by decide), fun _ => ?_⟩
    trivial
  · refine o_okG (o_inM (m := 4000) rfl (by first | with_reducible exact True.intro | with_reducible assumption | grind [-Prod] | grind [-Prod, → sc_Lk] | grind [-Prod, I_Lk, o_bn, upd]) (by first | with_reducible exact True.intro | with_reducible assumption | grind [-Prod] | grind [-Prod, → sc_Lk] | grind [-Prod, I_Lk, o_bn, upd])) ?_
    refine o_okB (s_SJ_isDigit ) ?_
    intro q1_2 ⟨g3, g4⟩
    refine o_okI (fun c5 => ?_) (fun c5 => ?_)
    · refine o_okS ?_
      refine ⟨fun h => absurd (show (1 : Nat) = 0 from h) (by decide), fun _ => ?_⟩
      trivial
    · refine o_okG (o_inM (m := 4000) rfl (by first | with_reducible exact True.intro | with_reducible assumption | grind [-Prod] | grind [-Prod, → sc_Lk] | grind [-Prod, I_Lk, o_bn, upd]) (by first | with_reducible exact True.intro | with_reducible assumption | grind [-Prod] | grind [-Prod, → sc_Lk] | grind [-Prod, I_Lk, o_bn, upd])) ?_
      refine o_okN (fun x4_75_6 ex4_75_6 => ?_)
      refine o_okN (fun x5_77_7 ex5_77_7 => ?_)
      refine o_okS ?_
      refine ⟨fun _ => ?_, fun h => absurd rfl h⟩
      refine ⟨?_, ?_⟩
      · first | with_reducible exact True.intro | with_reducible assumption | grind [-Prod] | grind [-Prod, → sc_Lk] | grind [-Prod, I_Lk, o_bn, upd]
      · first | exact o_muL (by first | with_reducible exact True.intro | with_reducible assumption | grind [-Prod] | grind [-Prod, → sc_Lk] | grind [-Prod, I_Lk, o_bn, upd]) | exact o_nuL (by first | with_reducible exact True.intro | with_reducible assumption | grind [-Prod] | grind [-Prod, → sc_Lk] | grind [-Prod, I_Lk, o_bn, upd]) | (first | with_reducible exact True.intro | with_reducible assumption | grind [-Prod] | grind [-Prod, → sc_Lk] | grind [-Prod, I_Lk, o_bn, upd])
theorem l_Lk_placeNumber_b38 {n : Nat} {x2 : Int32} {Lk : SLk} {z : Int32 × Int32} (hn : o_big ≤ n) (h_Lk : I_Lk Lk) (p0 : x2 ≤ 4000) (l0 : 0 ≤ z.2) : o_ok (o_lp n (m_Lk_placeNumber_b38 n x2 Lk) z) (fun q => q.1 ≠ 0 ∧ True) := by
  exact o_lpR (fun z => 0 ≤ z.2) (fun z => o_mu z.2) hn (o_muB) l0
    (fun z hz => by have l0 := hz; exact o_okW (s_Lk_placeNumber_b38 hn h_Lk p0 l0) (fun q hq => ⟨fun h => by have := hq.1 h; grind, hq.2⟩))
theorem s_Lk_placeNumber {n : Nat} {x1 : Int32} {x2 : Int32} {Lk : SLk} (hn : o_big ≤ n) (h_Lk : I_Lk Lk) (p0 : 0 ≤ x1) (p1 : 0 ≤ x2) (p2 : x2 ≤ 4000) : o_ok (m_Lk_placeNumber n x1 x2 Lk) (fun r => True) := by
  unfold m_Lk_placeNumber
  refine o_okN (fun x3_3_1 ex3_3_1 => ?_)
  refine o_okI (fun c2 => ?_) (fun c2 => ?_)
  · refine o_okS ?_
    trivial
  · refine o_okI (fun c3 => ?_) (fun c3 => ?_)
    · refine o_okS ?_
      trivial
    · refine o_okI (fun c4 => ?_) (fun c4 => ?_)
      · refine o_okG (o_inM (m := 4000) rfl (by first | with_reducible exact True.intro | with_reducible assumption | grind [-Prod] | grind [-Prod, → sc_Lk] | grind [-Prod, I_Lk, o_bn, upd]) (by first | with_reducible exact True.intro | with_reducible assumption | grind [-Prod] | grind [-Prod, → sc_Lk] | grind [-Prod, I_Lk, o_bn, upd])) ?_
        refine o_okI (fun c5 => ?_) (fun c5 => ?_)
        · refine o_okS ?_
          trivial
        · unfold m_Lk_placeNumber_j32
          refine o_okB (l_Lk_placeNumber_b38  hn h_Lk (by first | with_reducible exact True.intro | with_reducible assumption | grind [-Prod] | grind [-Prod, → sc_Lk] | grind [-Prod, I_Lk, o_bn, upd]) (by first | with_reducible exact True.intro | with_reducible assumption | grind [-Prod] | grind [-Prod, → sc_Lk] | grind [-Prod, I_Lk, o_bn, upd])) ?_
          intro q2_6 ⟨yq2_6, _⟩
          refine o_okI (fun c7 => ?_) (fun c7 => ?_)
          · refine o_okS ?_
            trivial
          · refine o_okS ?_
            trivial
      · unfold m_Lk_placeNumber_j32
        refine o_okB (l_Lk_placeNumber_b38  hn h_Lk (by first | with_reducible exact True.intro | with_reducible assumption | grind [-Prod] | grind [-Prod, → sc_Lk] | grind [-Prod, I_Lk, o_bn, upd]) (by first | with_reducible exact True.intro | with_reducible assumption | grind [-Prod] | grind [-Prod, → sc_Lk] | grind [-Prod, I_Lk, o_bn, upd])) ?_
        intro q2_8 ⟨yq2_8, _⟩
        refine o_okI (fun c9 => ?_) (fun c9 => ?_)
        · refine o_okS ?_
          trivial
        · refine o_okS ?_
          trivial
theorem s_Tx_element_b9 {n : Nat} {x2 : Int32} {a0 : STx} {z : Int32 × Int32} (hn : o_big ≤ n) (h_a0 : I_Tx a0) (l0 : 0 ≤ z.2) : o_ok (m_Tx_element_b9 n x2 a0 z) (fun q => (q.1 = 0 → 0 ≤ q.2.2 ∧ o_mu q.2.2 < o_mu z.2) ∧ (q.1 ≠ 0 → True)) := by
  unfold m_Tx_element_b9
  refine o_okI (fun c1 => ?_) (fun c1 => ?_)
  · refine o_okS ?_
    refine ⟨fun h => absurd (show (1 : Nat) = 0 from h) (by decide), fun _ => ?_⟩
    trivial
  · refine o_okI (fun c2 => ?_) (fun c2 => ?_)
    · refine o_okS ?_
      refine ⟨fun h => absurd (show (1 : Nat) = 0 from h) (by decide), fun _ => ?_⟩
      trivial
    · refine o_okB (s_Tx_nextChild  h_a0) ?_
      intro q2_3 _
      refine o_okN (fun x4_26_4 ex4_26_4 => ?_)
      refine o_okS ?_
      refine ⟨fun _ => ?_, fun h => absurd rfl h⟩
      refine ⟨?_, ?_⟩
      · first | with_reducible exact True.intro | with_reducible assumption | grind [-Prod] | grind [-Prod, → sc_Tx] | grind [-Prod, I_Tx, o_bn, upd]
      · first | exact o_muL (by first | with_reducible exact True.intro | with_reducible assumption | grind [-Prod] | grind [-Prod, → sc_Tx] | grind [-Prod, I_Tx, o_bn, upd]) | exact o_nuL (by first | with_reducible exact True.intro | with_reducible assumption | grind [-Prod] | grind [-Prod, → sc_Tx] | grind [-Prod, I_Tx, o_bn, upd]) | (first | with_reducible exact True.intro | with_reducible assumption | grind [-Prod] | grind [-Prod, → sc_Tx] | grind [-Prod, I_Tx, o_bn, upd])
theorem l_Tx_element_b9 {n : Nat} {x2 : Int32} {a0 : STx} {z : Int32 × Int32} (hn : o_big ≤ n) (h_a0 : I_Tx a0) (l0 : 0 ≤ z.2) : o_ok (o_lp n (m_Tx_element_b9 n x2 a0) z) (fun q => q.1 ≠ 0 ∧ True) := by
  exact o_lpR (fun z => 0 ≤ z.2) (fun z => o_mu z.2) hn (o_muB) l0
    (fun z hz => by have l0 := hz; exact o_okW (s_Tx_element_b9 hn h_a0 l0) (fun q hq => ⟨fun h => by have := hq.1 h; grind, hq.2⟩))
theorem s_Tx_element {n : Nat} {x1 : Int32} {x2 : Int32} {a0 : STx} (hn : o_big ≤ n) (h_a0 : I_Tx a0) : o_ok (m_Tx_element n x1 x2 a0) (fun r => True) := by
  unfold m_Tx_element
  refine o_okB (s_Tx_firstChild  h_a0) ?_
  intro q1_1 _
  refine o_okB (l_Tx_element_b9  hn h_a0 (by first | with_reducible exact True.intro | with_reducible assumption | grind [-Prod] | grind [-Prod, → sc_Tx] | grind [-Prod, I_Tx, o_bn, upd])) ?_
  intro q3_2 ⟨yq3_2, _⟩
  refine o_okS ?_
  trivial
set_option maxHeartbeats 8000000 in
theorem s_Lk_isNamed_b6 {n : Nat} {x1 : Int32} {x3 : Int32} {T0 : STx} {Lk : SLk} {z : Int32 × Int32} (hn : o_big ≤ n) (h_T0 : I_Tx T0) (h_Lk : I_Lk Lk) (p0 : x3 ≤ 4000) (l0 : 0 ≤ z.2) : o_ok (m_Lk_isNamed_b6 n x1 x3 T0 Lk z) (fun q => (q.1 = 0 → 0 ≤ q.2.2 ∧ o_mu q.2.2 < o_mu z.2) ∧ (q.1 ≠ 0 → True)) := by
  unfold m_Lk_isNamed_b6
  refine o_okI (fun c1 => ?_) (fun c1 => ?_)
  · refine o_okS ?_
    refine ⟨fun h => absurd (show (3 : Nat) = 0 from h) (by decide), fun _ => ?_⟩
    trivial
  · refine o_okG (o_inM (m := 4000) rfl (by first | with_reducible exact True.intro | with_reducible assumption | grind [-Prod] | grind [-Prod, → sc_Lk, → sc_Tx] | grind [-Prod, I_Lk, I_Tx, o_bn, upd]) (by first | with_reducible exact True.intro | with_reducible assumption | grind [-Prod] | grind [-Prod, → sc_Lk, → sc_Tx] | grind [-Prod, I_Lk, I_Tx, o_bn, upd])) ?_
    refine o_okN (fun x6_19_2 ex6_19_2 => ?_)
    refine o_okI (fun c3 => ?_) (fun c3 => ?_)
    · refine o_okN (fun x5_28_4 ex5_28_4 => ?_)
      refine o_okI (fun c5 => ?_) (fun c5 => ?_)
      · unfold m_Lk_isNamed_j48
        refine o_okI (fun c6 => ?_) (fun c6 => ?_)
        · unfold m_Lk_isNamed_j66
          refine o_okI (fun c7 => ?_) (fun c7 => ?_)
          · unfold m_Lk_isNamed_j82
            refine o_okB (s_Tx_size  h_T0) ?_
            intro q1_8 g9
            refine o_okI (fun c10 => ?_) (fun c10 => ?_)
            · refine o_okS ?_
              refine ⟨fun h => absurd (show (2 : Nat) = 0 from h) (by decide), fun _ => ?_⟩
              trivial
            · refine o_okB (s_Tx_cell  h_T0) ?_
              intro q2_11 g12
              refine o_okI (fun c13 => ?_) (fun c13 => ?_)
              · refine o_okN (fun x4_112_14 ex4_112_14 => ?_)
                refine o_okN (fun x5_115_15 ex5_115_15 => ?_)
                refine o_okS ?_
                refine ⟨fun _ => ?_, fun h => absurd rfl h⟩
                refine ⟨?_, ?_⟩
                · first | with_reducible exact True.intro | with_reducible assumption | grind [-Prod] | grind [-Prod, → sc_Lk, → sc_Tx] | grind [-Prod, I_Lk, I_Tx, o_bn, upd]
                · first | exact o_muL (by first | with_reducible exact True.intro | with_reducible assumption | grind [-Prod] | grind [-Prod, → sc_Lk, → sc_Tx] | grind [-Prod, I_Lk, I_Tx, o_bn, upd]) | exact o_nuL (by first | with_reducible exact True.intro | with_reducible assumption | grind [-Prod] | grind [-Prod, → sc_Lk, → sc_Tx] | grind [-Prod, I_Lk, I_Tx, o_bn, upd]) | (first | with_reducible exact True.intro | with_reducible assumption | grind [-Prod] | grind [-Prod, → sc_Lk, → sc_Tx] | grind [-Prod, I_Lk, I_Tx, o_bn, upd])
              · refine o_okS ?_
                refine ⟨fun h => absurd (show (2 : Nat) = 0 from h) (by decide), fun _ => ?_⟩
                trivial
          · unfold m_Lk_isNamed_j82
            refine o_okB (s_Tx_size  h_T0) ?_
            intro q1_16 g17
            refine o_okI (fun c18 => ?_) (fun c18 => ?_)
            · refine o_okS ?_
              refine ⟨fun h => absurd (show (2 : Nat) = 0 from h) (by decide), fun _ => ?_⟩
              trivial
            · refine o_okB (s_Tx_cell  h_T0) ?_
              intro q2_19 g20
              refine o_okI (fun c21 => ?_) (fun c21 => ?_)
              · refine o_okN (fun x4_112_22 ex4_112_22 => ?_)
                refine o_okN (fun x5_115_23 ex5_115_23 => ?_)
                refine o_okS ?_
                refine ⟨fun _ => ?_, fun h => absurd rfl h⟩
                refine ⟨?_, ?_⟩
                · first | with_reducible exact True.intro | with_reducible assumption | grind [-Prod] | grind [-Prod, → sc_Lk, → sc_Tx] | grind [-Prod, I_Lk, I_Tx, o_bn, upd]
                · first | exact o_muL (by first | with_reducible exact True.intro | with_reducible assumption | grind [-Prod] | grind [-Prod, → sc_Lk, → sc_Tx] | grind [-Prod, I_Lk, I_Tx, o_bn, upd]) | exact o_nuL (by first | with_reducible exact True.intro | with_reducible assumption | grind [-Prod] | grind [-Prod, → sc_Lk, → sc_Tx] | grind [-Prod, I_Lk, I_Tx, o_bn, upd]) | (first | with_reducible exact True.intro | with_reducible assumption | grind [-Prod] | grind [-Prod, → sc_Lk, → sc_Tx] | grind [-Prod, I_Lk, I_Tx, o_bn, upd])
              · refine o_okS ?_
                refine ⟨fun h => absurd (show (2 : Nat) = 0 from h) (by decide), fun _ => ?_⟩
                trivial
        · refine o_okI (fun c24 => ?_) (fun c24 => ?_)
          · unfold m_Lk_isNamed_j66
            refine o_okI (fun c25 => ?_) (fun c25 => ?_)
            · unfold m_Lk_isNamed_j82
              refine o_okB (s_Tx_size  h_T0) ?_
              intro q1_26 g27
              refine o_okI (fun c28 => ?_) (fun c28 => ?_)
              · refine o_okS ?_
                refine ⟨fun h => absurd (show (2 : Nat) = 0 from h) (by decide), fun _ => ?_⟩
                trivial
              · refine o_okB (s_Tx_cell  h_T0) ?_
                intro q2_29 g30
                refine o_okI (fun c31 => ?_) (fun c31 => ?_)
                · refine o_okN (fun x4_112_32 ex4_112_32 => ?_)
                  refine o_okN (fun x5_115_33 ex5_115_33 => ?_)
                  refine o_okS ?_
                  refine ⟨fun _ => ?_, fun h => absurd rfl h⟩
                  refine ⟨?_, ?_⟩
                  · first | with_reducible exact True.intro | with_reducible assumption | grind [-Prod] | grind [-Prod, → sc_Lk, → sc_Tx] | grind [-Prod, I_Lk, I_Tx, o_bn, upd]
                  · first | exact o_muL (by first | with_reducible exact True.intro | with_reducible assumption | grind [-Prod] | grind [-Prod, → sc_Lk, → sc_Tx] | grind [-Prod, I_Lk, I_Tx, o_bn, upd]) | exact o_nuL (by first | with_reducible exact True.intro | with_reducible assumption | grind [-Prod] | grind [-Prod, → sc_Lk, → sc_Tx] | grind [-Prod, I_Lk, I_Tx, o_bn, upd]) | (first | with_reducible exact True.intro | with_reducible assumption | grind [-Prod] | grind [-Prod, → sc_Lk, → sc_Tx] | grind [-Prod, I_Lk, I_Tx, o_bn, upd])
                · refine o_okS ?_
                  refine ⟨fun h => absurd (show (2 : Nat) = 0 from h) (by decide), fun _ => ?_⟩
                  trivial
            · unfold m_Lk_isNamed_j82
              refine o_okB (s_Tx_size  h_T0) ?_
              intro q1_34 g35
              refine o_okI (fun c36 => ?_) (fun c36 => ?_)
              · refine o_okS ?_
                refine ⟨fun h => absurd (show (2 : Nat) = 0 from h) (by decide), fun _ => ?_⟩
                trivial
              · refine o_okB (s_Tx_cell  h_T0) ?_
                intro q2_37 g38
                refine o_okI (fun c39 => ?_) (fun c39 => ?_)
                · refine o_okN (fun x4_112_40 ex4_112_40 => ?_)
                  refine o_okN (fun x5_115_41 ex5_115_41 => ?_)
                  refine o_okS ?_
                  refine ⟨fun _ => ?_, fun h => absurd rfl h⟩
                  refine ⟨?_, ?_⟩
                  · first | with_reducible exact True.intro | with_reducible assumption | grind [-Prod] | grind [-Prod, → sc_Lk, → sc_Tx] | grind [-Prod, I_Lk, I_Tx, o_bn, upd]
                  · first | exact o_muL (by first | with_reducible exact True.intro | with_reducible assumption | grind [-Prod] | grind [-Prod, → sc_Lk, → sc_Tx] | grind [-Prod, I_Lk, I_Tx, o_bn, upd]) | exact o_nuL (by first | with_reducible exact True.intro | with_reducible assumption | grind [-Prod] | grind [-Prod, → sc_Lk, → sc_Tx] | grind [-Prod, I_Lk, I_Tx, o_bn, upd]) | (first | with_reducible exact True.intro | with_reducible assumption | grind [-Prod] | grind [-Prod, → sc_Lk, → sc_Tx] | grind [-Prod, I_Lk, I_Tx, o_bn, upd])
                · refine o_okS ?_
                  refine ⟨fun h => absurd (show (2 : Nat) = 0 from h) (by decide), fun _ => ?_⟩
                  trivial
          · refine o_okS ?_
            refine ⟨fun h => absurd (show (1 : Nat) = 0 from h) (by decide), fun _ => ?_⟩
            trivial
      · refine o_okG (o_inM (m := 4000) rfl (by first | with_reducible exact True.intro | with_reducible assumption | grind [-Prod] | grind [-Prod, → sc_Lk, → sc_Tx] | grind [-Prod, I_Lk, I_Tx, o_bn, upd]) (by first | with_reducible exact True.intro | with_reducible assumption | grind [-Prod] | grind [-Prod, → sc_Lk, → sc_Tx] | grind [-Prod, I_Lk, I_Tx, o_bn, upd])) ?_
        unfold m_Lk_isNamed_j48
        refine o_okI (fun c42 => ?_) (fun c42 => ?_)
        · unfold m_Lk_isNamed_j66
          refine o_okI (fun c43 => ?_) (fun c43 => ?_)
          · unfold m_Lk_isNamed_j82
            refine o_okB (s_Tx_size  h_T0) ?_
            intro q1_44 g45
            refine o_okI (fun c46 => ?_) (fun c46 => ?_)
            · refine o_okS ?_
              refine ⟨fun h => absurd (show (2 : Nat) = 0 from h) (by decide), fun _ => ?_⟩
              trivial
            · refine o_okB (s_Tx_cell  h_T0) ?_
              intro q2_47 g48
              refine o_okI (fun c49 => ?_) (fun c49 => ?_)
              · refine o_okN (fun x4_112_50 ex4_112_50 => ?_)
                refine o_okN (fun x5_115_51 ex5_115_51 => ?_)
                refine o_okS ?_
                refine ⟨fun _ => ?_, fun h => absurd rfl h⟩
                refine ⟨?_, ?_⟩
                · first | with_reducible exact True.intro | with_reducible assumption | grind [-Prod] | grind [-Prod, → sc_Lk, → sc_Tx] | grind [-Prod, I_Lk, I_Tx, o_bn, upd]
                · first | exact o_muL (by first | with_reducible exact True.intro | with_reducible assumption | grind [-Prod] | grind [-Prod, → sc_Lk, → sc_Tx] | grind [-Prod, I_Lk, I_Tx, o_bn, upd]) | exact o_nuL (by first | with_reducible exact True.intro | with_reducible assumption | grind [-Prod] | grind [-Prod, → sc_Lk, → sc_Tx] | grind [-Prod, I_Lk, I_Tx, o_bn, upd]) | (first | with_reducible exact True.intro | with_reducible assumption | grind [-Prod] | grind [-Prod, → sc_Lk, → sc_Tx] | grind [-Prod, I_Lk, I_Tx, o_bn, upd])
              · refine o_okS ?_
                refine ⟨fun h => absurd (show (2 : Nat) = 0 from h) (by decide), fun _ => ?_⟩
                trivial
          · unfold m_Lk_isNamed_j82
            refine o_okB (s_Tx_size  h_T0) ?_
            intro q1_52 g53
            refine o_okI (fun c54 => ?_) (fun c54 => ?_)
            · refine o_okS ?_
              refine ⟨fun h => absurd (show (2 : Nat) = 0 from h) (by decide), fun _ => ?_⟩
              trivial
            · refine o_okB (s_Tx_cell  h_T0) ?_
              intro q2_55 g56
              refine o_okI (fun c57 => ?_) (fun c57 => ?_)
              · refine o_okN (fun x4_112_58 ex4_112_58 => ?_)
                refine o_okN (fun x5_115_59 ex5_115_59 => ?_)
                refine o_okS ?_
                refine ⟨fun _ => ?_, fun h => absurd rfl h⟩
                refine ⟨?_, ?_⟩
                · first | with_reducible exact True.intro | with_reducible assumption | grind [-Prod] | grind [-Prod, → sc_Lk, → sc_Tx] | grind [-Prod, I_Lk, I_Tx, o_bn, upd]
                · first | exact o_muL (by first | with_reducible exact True.intro | with_reducible assumption | grind [-Prod] | grind [-Prod, → sc_Lk, → sc_Tx] | grind [-Prod, I_Lk, I_Tx, o_bn, upd]) | exact o_nuL (by first | with_reducible exact True.intro | with_reducible assumption | grind [-Prod] | grind [-Prod, → sc_Lk, → sc_Tx] | grind [-Prod, I_Lk, I_Tx, o_bn, upd]) | (first | with_reducible exact True.intro | with_reducible assumption | grind [-Prod] | grind [-Prod, → sc_Lk, → sc_Tx] | grind [-Prod, I_Lk, I_Tx, o_bn, upd])
              · refine o_okS ?_
                refine ⟨fun h => absurd (show (2 : Nat) = 0 from h) (by decide), fun _ => ?_⟩
                trivial
        · refine o_okI (fun c60 => ?_) (fun c60 => ?_)
          · unfold m_Lk_isNamed_j66
            refine o_okI (fun c61 => ?_) (fun c61 => ?_)
            · unfold m_Lk_isNamed_j82
              refine o_okB (s_Tx_size  h_T0) ?_
              intro q1_62 g63
              refine o_okI (fun c64 => ?_) (fun c64 => ?_)
              · refine o_okS ?_
                refine ⟨fun h => absurd (show (2 : Nat) = 0 from h) (by decide), fun _ => ?_⟩
                trivial
              · refine o_okB (s_Tx_cell  h_T0) ?_
                intro q2_65 g66
                refine o_okI (fun c67 => ?_) (fun c67 => ?_)
                · refine o_okN (fun x4_112_68 ex4_112_68 => ?_)
                  refine o_okN (fun x5_115_69 ex5_115_69 => ?_)
                  refine o_okS ?_
                  refine ⟨fun _ => ?_, fun h => absurd rfl h⟩
                  refine ⟨?_, ?_⟩
                  · first | with_reducible exact True.intro | with_reducible assumption | grind [-Prod] | grind [-Prod, → sc_Lk, → sc_Tx] | grind [-Prod, I_Lk, I_Tx, o_bn, upd]
                  · first | exact o_muL (by first | with_reducible exact True.intro | with_reducible assumption | grind [-Prod] | grind [-Prod, → sc_Lk, → sc_Tx] | grind [-Prod, I_Lk, I_Tx, o_bn, upd]) | exact o_nuL (by first | with_reducible exact True.intro | with_reducible assumption | grind [-Prod] | grind [-Prod, → sc_Lk, → sc_Tx] | grind [-Prod, I_Lk, I_Tx, o_bn, upd]) | (first | with_reducible exact True.intro | with_reducible assumption | grind [-Prod] | grind [-Prod, → sc_Lk, → sc_Tx] | grind [-Prod, I_Lk, I_Tx, o_bn, upd])
                · refine o_okS ?_
                  refine ⟨fun h => absurd (show (2 : Nat) = 0 from h) (by decide), fun _ => ?_⟩
                  trivial
            · unfold m_Lk_isNamed_j82
              refine o_okB (s_Tx_size  h_T0) ?_
              intro q1_70 g71
              refine o_okI (fun c72 => ?_) (fun c72 => ?_)
              · refine o_okS ?_
                refine ⟨fun h => absurd (show (2 : Nat) = 0 from h) (by decide), fun _ => ?_⟩
                trivial
              · refine o_okB (s_Tx_cell  h_T0) ?_
                intro q2_73 g74
                refine o_okI (fun c75 => ?_) (fun c75 => ?_)
                · refine o_okN (fun x4_112_76 ex4_112_76 => ?_)
                  refine o_okN (fun x5_115_77 ex5_115_77 => ?_)
                  refine o_okS ?_
                  refine ⟨fun _ => ?_, fun h => absurd rfl h⟩
                  refine ⟨?_, ?_⟩
                  · first | with_reducible exact True.intro | with_reducible assumption | grind [-Prod] | grind [-Prod, → sc_Lk, → sc_Tx] | grind [-Prod, I_Lk, I_Tx, o_bn, upd]
                  · first | exact o_muL (by first | with_reducible exact True.intro | with_reducible assumption | grind [-Prod] | grind [-Prod, → sc_Lk, → sc_Tx] | grind [-Prod, I_Lk, I_Tx, o_bn, upd]) | exact o_nuL (by first | with_reducible exact True.intro | with_reducible assumption | grind [-Prod] | grind [-Prod, → sc_Lk, → sc_Tx] | grind [-Prod, I_Lk, I_Tx, o_bn, upd]) | (first | with_reducible exact True.intro | with_reducible assumption | grind [-Prod] | grind [-Prod, → sc_Lk, → sc_Tx] | grind [-Prod, I_Lk, I_Tx, o_bn, upd])
                · refine o_okS ?_
                  refine ⟨fun h => absurd (show (2 : Nat) = 0 from h) (by decide), fun _ => ?_⟩
                  trivial
          · refine o_okS ?_
            refine ⟨fun h => absurd (show (1 : Nat) = 0 from h) (by decide), fun _ => ?_⟩
            trivial
    · unfold m_Lk_isNamed_j82
      refine o_okB (s_Tx_size  h_T0) ?_
      intro q1_78 g79
      refine o_okI (fun c80 => ?_) (fun c80 => ?_)
      · refine o_okS ?_
        refine ⟨fun h => absurd (show (2 : Nat) = 0 from h) (by decide), fun _ => ?_⟩
        trivial
      · refine o_okB (s_Tx_cell  h_T0) ?_
        intro q2_81 g82
        refine o_okI (fun c83 => ?_) (fun c83 => ?_)
        · refine o_okN (fun x4_112_84 ex4_112_84 => ?_)
          refine o_okN (fun x5_115_85 ex5_115_85 => ?_)
          refine o_okS ?_
          refine ⟨fun _ => ?_, fun h => absurd rfl h⟩
          refine ⟨?_, ?_⟩
          · first | with_reducible exact True.intro | with_reducible assumption | grind [-Prod] | grind [-Prod, → sc_Lk, → sc_Tx] | grind [-Prod, I_Lk, I_Tx, o_bn, upd]
          · first | exact o_muL (by first | with_reducible exact True.intro | with_reducible assumption | grind [-Prod] | grind [-Prod, → sc_Lk, → sc_Tx] | grind [-Prod, I_Lk, I_Tx, o_bn, upd]) | exact o_nuL (by first | with_reducible exact True.intro | with_reducible assumption | grind [-Prod] | grind [-Prod, → sc_Lk, → sc_Tx] | grind [-Prod, I_Lk, I_Tx, o_bn, upd]) | (first | with_reducible exact True.intro | with_reducible assumption | grind [-Prod] | grind [-Prod, → sc_Lk, → sc_Tx] | grind [-Prod, I_Lk, I_Tx, o_bn, upd])
        · refine o_okS ?_
          refine ⟨fun h => absurd (show (2 : Nat) = 0 from h) (by decide), fun _ => ?_⟩
          trivial
theorem l_Lk_isNamed_b6 {n : Nat} {x1 : Int32} {x3 : Int32} {T0 : STx} {Lk : SLk} {z : Int32 × Int32} (hn : o_big ≤ n) (h_T0 : I_Tx T0) (h_Lk : I_Lk Lk) (p0 : x3 ≤ 4000) (l0 : 0 ≤ z.2) : o_ok (o_lp n (m_Lk_isNamed_b6 n x1 x3 T0 Lk) z) (fun q => q.1 ≠ 0 ∧ True) := by
  exact o_lpR (fun z => 0 ≤ z.2) (fun z => o_mu z.2) hn (o_muB) l0
    (fun z hz => by have l0 := hz; exact o_okW (s_Lk_isNamed_b6 hn h_T0 h_Lk p0 l0) (fun q hq => ⟨fun h => by have := hq.1 h; grind, hq.2⟩))
theorem s_Lk_isNamed {n : Nat} {x1 : Int32} {x2 : Int32} {x3 : Int32} {T0 : STx} {Lk : SLk} (hn : o_big ≤ n) (h_T0 : I_Tx T0) (h_Lk : I_Lk Lk) (p0 : 0 ≤ x2) (p1 : x3 ≤ 4000) : o_ok (m_Lk_isNamed n x1 x2 x3 T0 Lk) (fun r => (r = 0 ∨ r = 1)) := by
  unfold m_Lk_isNamed
  refine o_okB (l_Lk_isNamed_b6  hn h_T0 h_Lk (by first | with_reducible exact True.intro | with_reducible assumption | grind [-Prod] | grind [-Prod, → sc_Lk, → sc_Tx] | grind [-Prod, I_Lk, I_Tx, o_bn, upd]) (by first | with_reducible exact True.intro | with_reducible assumption | grind [-Prod] | grind [-Prod, → sc_Lk, → sc_Tx] | grind [-Prod, I_Lk, I_Tx, o_bn, upd])) ?_
  intro q3_1 ⟨yq3_1, _⟩
  refine o_okI (fun c2 => ?_) (fun c2 => ?_)
  · refine o_okS ?_
    first | with_reducible exact True.intro | with_reducible assumption | grind [-Prod] | grind [-Prod, → sc_Lk, → sc_Tx] | grind [-Prod, I_Lk, I_Tx, o_bn, upd]
  · refine o_okI (fun c3 => ?_) (fun c3 => ?_)
    · refine o_okS ?_
      first | with_reducible exact True.intro | with_reducible assumption | grind [-Prod] | grind [-Prod, → sc_Lk, → sc_Tx] | grind [-Prod, I_Lk, I_Tx, o_bn, upd]
    · refine o_okB (s_Tx_size  h_T0) ?_
      intro q4_4 g5
      refine o_okI (fun c6 => ?_) (fun c6 => ?_)
      · refine o_okS ?_
        first | with_reducible exact True.intro | with_reducible assumption | grind [-Prod] | grind [-Prod, → sc_Lk, → sc_Tx] | grind [-Prod, I_Lk, I_Tx, o_bn, upd]
      · refine o_okS ?_
        first | with_reducible exact True.intro | with_reducible assumption | grind [-Prod] | grind [-Prod, → sc_Lk, → sc_Tx] | grind [-Prod, I_Lk, I_Tx, o_bn, upd]
theorem s_Lk_step_b69 {n : Nat} {x1 : Int32} {x2 : Int32} {x3 : Int32} {T0 : STx} {Lk : SLk} {z : Int32 × Int32} (hn : o_big ≤ n) (h_T0 : I_Tx T0) (h_Lk : I_Lk Lk) (p0 : 0 ≤ x2) (p1 : x3 ≤ 4000) (l0 : 0 ≤ z.2) : o_ok (m_Lk_step_b69 n x1 x2 x3 T0 Lk z) (fun q => (q.1 = 0 → 0 ≤ q.2.2 ∧ o_mu q.2.2 < o_mu z.2) ∧ (q.1 ≠ 0 → True)) := by
  unfold m_Lk_step_b69
  refine o_okB (s_Tx_size  h_T0) ?_
  intro q4_1 g2
  refine o_okI (fun c3 => ?_) (fun c3 => ?_)
  · refine o_okS ?_
    refine ⟨fun h => absurd (show (2 : Nat) = 0 from h) (by decide), fun _ => ?_⟩
    trivial
  · refine o_okB (s_Lk_isNamed  hn h_T0 h_Lk (by first | with_reducible exact True.intro | with_reducible assumption | grind [-Prod] | grind [-Prod, → sc_Lk, → sc_Tx] | grind [-Prod, I_Lk, I_Tx, o_bn, upd]) (by first | with_reducible exact True.intro | with_reducible assumption | grind [-Prod] | grind [-Prod, → sc_Lk, → sc_Tx] | grind [-Prod, I_Lk, I_Tx, o_bn, upd])) ?_
    intro q5_4 g5
    refine o_okI (fun c6 => ?_) (fun c6 => ?_)
    · refine o_okB (s_Tx_nextChild  h_T0) ?_
      intro q6_7 _
      refine o_okN (fun x5_109_8 ex5_109_8 => ?_)
      refine o_okS ?_
      refine ⟨fun _ => ?_, fun h => absurd rfl h⟩
      refine ⟨?_, ?_⟩
      · first | with_reducible exact True.intro | with_reducible assumption | grind [-Prod] | grind [-Prod, → sc_Lk, → sc_Tx] | grind [-Prod, I_Lk, I_Tx, o_bn, upd]
      · first | exact o_muL (by first | with_reducible exact True.intro | with_reducible assumption | grind [-Prod] | grind [-Prod, → sc_Lk, → sc_Tx] | grind [-Prod, I_Lk, I_Tx, o_bn, upd]) | exact o_nuL (by first | with_reducible exact True.intro | with_reducible assumption | grind [-Prod] | grind [-Prod, → sc_Lk, → sc_Tx] | grind [-Prod, I_Lk, I_Tx, o_bn, upd]) | (first | with_reducible exact True.intro | with_reducible assumption | grind [-Prod] | grind [-Prod, → sc_Lk, → sc_Tx] | grind [-Prod, I_Lk, I_Tx, o_bn, upd])
    · refine o_okS ?_
      refine ⟨fun h => absurd (show (1 : Nat) = 0 from h) (by decide), fun _ => ?_⟩
      trivial
theorem l_Lk_step_b69 {n : Nat} {x1 : Int32} {x2 : Int32} {x3 : Int32} {T0 : STx} {Lk : SLk} {z : Int32 × Int32} (hn : o_big ≤ n) (h_T0 : I_Tx T0) (h_Lk : I_Lk Lk) (p0 : 0 ≤ x2) (p1 : x3 ≤ 4000) (l0 : 0 ≤ z.2) : o_ok (o_lp n (m_Lk_step_b69 n x1 x2 x3 T0 Lk) z) (fun q => q.1 ≠ 0 ∧ True) := by
  exact o_lpR (fun z => 0 ≤ z.2) (fun z => o_mu z.2) hn (o_muB) l0
    (fun z hz => by have l0 := hz; exact o_okW (s_Lk_step_b69 hn h_T0 h_Lk p0 p1 l0) (fun q hq => ⟨fun h => by have := hq.1 h; grind, hq.2⟩))
theorem s_Lk_step {n : Nat} {x1 : Int32} {x2 : Int32} {x3 : Int32} {T0 : STx} {Lk : SLk} (hn : o_big ≤ n) (h_T0 : I_Tx T0) (h_Lk : I_Lk Lk) (p0 : 0 ≤ x2) (p1 : 0 ≤ x3) (p2 : x3 ≤ 4000) : o_ok (m_Lk_step n x1 x2 x3 T0 Lk) (fun r => True) := by
  unfold m_Lk_step
  refine o_okB (s_Tx_kind  h_T0) ?_
  intro q1_1 _
  refine o_okI (fun c2 => ?_) (fun c2 => ?_)
  · refine o_okB (s_Lk_placeNumber  hn h_Lk (by first | with_reducible exact True.intro | with_reducible assumption | grind [-Prod] | grind [-Prod, → sc_Lk, → sc_Tx] | grind [-Prod, I_Lk, I_Tx, o_bn, upd]) (by first | with_reducible exact True.intro | with_reducible assumption | grind [-Prod] | grind [-Prod, → sc_Lk, → sc_Tx] | grind [-Prod, I_Lk, I_Tx, o_bn, upd]) (by first | with_reducible exact True.intro | with_reducible assumption | grind [-Prod] | grind [-Prod, → sc_Lk, → sc_Tx] | grind [-Prod, I_Lk, I_Tx, o_bn, upd])) ?_
    intro q8_3 _
    refine o_okI (fun c4 => ?_) (fun c4 => ?_)
    · refine o_okS ?_
      trivial
    · refine o_okB (s_Tx_element  hn h_T0) ?_
      intro q9_5 _
      refine o_okS ?_
      trivial
  · refine o_okB (s_Tx_kind  h_T0) ?_
    intro q2_6 _
    refine o_okI (fun c7 => ?_) (fun c7 => ?_)
    · refine o_okB (s_Tx_firstChild  h_T0) ?_
      intro q3_8 _
      refine o_okB (l_Lk_step_b69  hn h_T0 h_Lk (by first | with_reducible exact True.intro | with_reducible assumption | grind [-Prod] | grind [-Prod, → sc_Lk, → sc_Tx] | grind [-Prod, I_Lk, I_Tx, o_bn, upd]) (by first | with_reducible exact True.intro | with_reducible assumption | grind [-Prod] | grind [-Prod, → sc_Lk, → sc_Tx] | grind [-Prod, I_Lk, I_Tx, o_bn, upd]) (by first | with_reducible exact True.intro | with_reducible assumption | grind [-Prod] | grind [-Prod, → sc_Lk, → sc_Tx] | grind [-Prod, I_Lk, I_Tx, o_bn, upd])) ?_
      intro q7_9 ⟨yq7_9, _⟩
      refine o_okI (fun c10 => ?_) (fun c10 => ?_)
      · refine o_okS ?_
        trivial
      · refine o_okS ?_
        trivial
    · refine o_okS ?_
      trivial
theorem s_Lk_walk_b6 {n : Nat} {T0 : STx} {Lk : SLk} {z : Int32 × Int32 × Int32} (hn : o_big ≤ n) (h_T0 : I_Tx T0) (h_Lk : I_Lk Lk) (l0 : 0 ≤ z.2.1) (l1 : 0 ≤ z.2.2) : o_ok (m_Lk_walk_b6 n T0 Lk z) (fun q => (q.1 = 0 → 0 ≤ q.2.2.1 ∧ 0 ≤ q.2.2.2 ∧ o_mu q.2.2.2 < o_mu z.2.2) ∧ (q.1 ≠ 0 → True)) := by
  unfold m_Lk_walk_b6
  refine o_okI (fun c1 => ?_) (fun c1 => ?_)
  · refine o_okS ?_
    refine ⟨fun h => absurd (show (1 : Nat) = 0 from h) (by decide), fun _ => ?_⟩
    trivial
  · refine o_okI (fun c2 => ?_) (fun c2 => ?_)
    · unfold m_Lk_walk_j33
      refine o_okB (s_Lk_step  hn h_T0 h_Lk (by first | with_reducible exact True.intro | with_reducible assumption | grind [-Prod] | grind [-Prod, → sc_Lk, → sc_Tx] | grind [-Prod, I_Lk, I_Tx, o_bn, upd]) (by first | with_reducible exact True.intro | with_reducible assumption | grind [-Prod] | grind [-Prod, → sc_Lk, → sc_Tx] | grind [-Prod, I_Lk, I_Tx, o_bn, upd]) (by first | with_reducible exact True.intro | with_reducible assumption | grind [-Prod] | grind [-Prod, → sc_Lk, → sc_Tx] | grind [-Prod, I_Lk, I_Tx, o_bn, upd])) ?_
      intro q1_3 _
      refine o_okN (fun x2_44_4 ex2_44_4 => ?_)
      refine o_okN (fun x3_45_5 ex3_45_5 => ?_)
      refine o_okS ?_
      refine ⟨fun _ => ?_, fun h => absurd rfl h⟩
      refine ⟨?_, ?_, ?_⟩
      · first | with_reducible exact True.intro | with_reducible assumption | grind [-Prod] | grind [-Prod, → sc_Lk, → sc_Tx] | grind [-Prod, I_Lk, I_Tx, o_bn, upd]
      · first | with_reducible exact True.intro | with_reducible assumption | grind [-Prod] | grind [-Prod, → sc_Lk, → sc_Tx] | grind [-Prod, I_Lk, I_Tx, o_bn, upd]
      · first | exact o_muL (by first | with_reducible exact True.intro | with_reducible assumption | grind [-Prod] | grind [-Prod, → sc_Lk, → sc_Tx] | grind [-Prod, I_Lk, I_Tx, o_bn, upd]) | exact o_nuL (by first | with_reducible exact True.intro | with_reducible assumption | grind [-Prod] | grind [-Prod, → sc_Lk, → sc_Tx] | grind [-Prod, I_Lk, I_Tx, o_bn, upd]) | (first | with_reducible exact True.intro | with_reducible assumption | grind [-Prod] | grind [-Prod, → sc_Lk, → sc_Tx] | grind [-Prod, I_Lk, I_Tx, o_bn, upd])
    · refine o_okG (o_inM (m := 4000) rfl (by first | with_reducible exact True.intro | with_reducible assumption | grind [-Prod] | grind [-Prod, → sc_Lk, → sc_Tx] | grind [-Prod, I_Lk, I_Tx, o_bn, upd]) (by first | with_reducible exact True.intro | with_reducible assumption | grind [-Prod] | grind [-Prod, → sc_Lk, → sc_Tx] | grind [-Prod, I_Lk, I_Tx, o_bn, upd])) ?_
      refine o_okI (fun c6 => ?_) (fun c6 => ?_)
      · unfold m_Lk_walk_j33
        refine o_okB (s_Lk_step  hn h_T0 h_Lk (by first | with_reducible exact True.intro | with_reducible assumption | grind [-Prod] | grind [-Prod, → sc_Lk, → sc_Tx] | grind [-Prod, I_Lk, I_Tx, o_bn, upd]) (by first | with_reducible exact True.intro | with_reducible assumption | grind [-Prod] | grind [-Prod, → sc_Lk, → sc_Tx] | grind [-Prod, I_Lk, I_Tx, o_bn, upd]) (by first | with_reducible exact True.intro | with_reducible assumption | grind [-Prod] | grind [-Prod, → sc_Lk, → sc_Tx] | grind [-Prod, I_Lk, I_Tx, o_bn, upd])) ?_
        intro q1_7 _
        refine o_okN (fun x2_44_8 ex2_44_8 => ?_)
        refine o_okN (fun x3_45_9 ex3_45_9 => ?_)
        refine o_okS ?_
        refine ⟨fun _ => ?_, fun h => absurd rfl h⟩
        refine ⟨?_, ?_, ?_⟩
        · first | with_reducible exact True.intro | with_reducible assumption | grind [-Prod] | grind [-Prod, → sc_Lk, → sc_Tx] | grind [-Prod, I_Lk, I_Tx, o_bn, upd]
        · first | with_reducible exact True.intro | with_reducible assumption | grind [-Prod] | grind [-Prod, → sc_Lk, → sc_Tx] | grind [-Prod, I_Lk, I_Tx, o_bn, upd]
        · first | exact o_muL (by first | with_reducible exact True.intro | with_reducible assumption | grind [-Prod] | grind [-Prod, → sc_Lk, → sc_Tx] | grind [-Prod, I_Lk, I_Tx, o_bn, upd]) | exact o_nuL (by first | with_reducible exact True.intro | with_reducible assumption | grind [-Prod] | grind [-Prod, → sc_Lk, → sc_Tx] | grind [-Prod, I_Lk, I_Tx, o_bn, upd]) | (first | with_reducible exact True.intro | with_reducible assumption | grind [-Prod] | grind [-Prod, → sc_Lk, → sc_Tx] | grind [-Prod, I_Lk, I_Tx, o_bn, upd])
      · refine o_okN (fun x3_45_10 ex3_45_10 => ?_)
        refine o_okS ?_
        refine ⟨fun _ => ?_, fun h => absurd rfl h⟩
        refine ⟨?_, ?_, ?_⟩
        · first | with_reducible exact True.intro | with_reducible assumption | grind [-Prod] | grind [-Prod, → sc_Lk, → sc_Tx] | grind [-Prod, I_Lk, I_Tx, o_bn, upd]
        · first | with_reducible exact True.intro | with_reducible assumption | grind [-Prod] | grind [-Prod, → sc_Lk, → sc_Tx] | grind [-Prod, I_Lk, I_Tx, o_bn, upd]
        · first | exact o_muL (by first | with_reducible exact True.intro | with_reducible assumption | grind [-Prod] | grind [-Prod, → sc_Lk, → sc_Tx] | grind [-Prod, I_Lk, I_Tx, o_bn, upd]) | exact o_nuL (by first | with_reducible exact True.intro | with_reducible assumption | grind [-Prod] | grind [-Prod, → sc_Lk, → sc_Tx] | grind [-Prod, I_Lk, I_Tx, o_bn, upd]) | (first | with_reducible exact True.intro | with_reducible assumption | grind [-Prod] | grind [-Prod, → sc_Lk, → sc_Tx] | grind [-Prod, I_Lk, I_Tx, o_bn, upd])
theorem l_Lk_walk_b6 {n : Nat} {T0 : STx} {Lk : SLk} {z : Int32 × Int32 × Int32} (hn : o_big ≤ n) (h_T0 : I_Tx T0) (h_Lk : I_Lk Lk) (l0 : 0 ≤ z.2.1) (l1 : 0 ≤ z.2.2) : o_ok (o_lp n (m_Lk_walk_b6 n T0 Lk) z) (fun q => q.1 ≠ 0 ∧ True) := by
  exact o_lpR (fun z => 0 ≤ z.2.1 ∧ 0 ≤ z.2.2) (fun z => o_mu z.2.2) hn (o_muB) ⟨l0, l1⟩
    (fun z hz => by obtain ⟨l0, l1⟩ := hz; exact o_okW (s_Lk_walk_b6 hn h_T0 h_Lk l0 l1) (fun q hq => ⟨fun h => by have := hq.1 h; grind, hq.2⟩))
theorem s_Lk_walk {n : Nat} {T0 : STx} {Lk : SLk} (hn : o_big ≤ n) (h_T0 : I_Tx T0) (h_Lk : I_Lk Lk) : o_ok (m_Lk_walk n T0 Lk) (fun r => True) := by
  unfold m_Lk_walk
  refine o_okB (l_Lk_walk_b6  hn h_T0 h_Lk (by first | with_reducible exact True.intro | with_reducible assumption | grind [-Prod] | grind [-Prod, → sc_Lk, → sc_Tx] | grind [-Prod, I_Lk, I_Tx, o_bn, upd]) (by first | with_reducible exact True.intro | with_reducible assumption | grind [-Prod] | grind [-Prod, → sc_Lk, → sc_Tx] | grind [-Prod, I_Lk, I_Tx, o_bn, upd])) ?_
  intro q2_1 ⟨yq2_1, _⟩
  refine o_okS ?_
  trivial
theorem s_Tx_parent {x1 : Int32} {a0 : STx} (h_a0 : I_Tx a0) : o_ok (m_Tx_parent x1 a0) (fun r => True) := by
  unfold m_Tx_parent
  refine o_okI (fun c1 => ?_) (fun c1 => ?_)
  · refine o_okS ?_
    trivial
  · refine o_okI (fun c2 => ?_) (fun c2 => ?_)
    · refine o_okS ?_
      trivial
    · refine o_okG (o_inM (m := 1000) rfl (by first | with_reducible exact True.intro | with_reducible assumption | grind [-Prod] | grind [-Prod, → sc_Tx] | grind [-Prod, I_Tx, o_bn, upd]) (by first | with_reducible exact True.intro | with_reducible assumption | grind [-Prod] | grind [-Prod, → sc_Tx] | grind [-Prod, I_Tx, o_bn, upd])) ?_
      refine o_okS ?_
      trivial
theorem s_Lk_anchored_b2 {n : Nat} {T0 : STx} {Mk : SMk} {Lk : SLk} {z : Int32} (hn : o_big ≤ n) (h_T0 : I_Tx T0) (h_Lk : I_Lk Lk) (l0 : 0 ≤ z) : o_ok (m_Lk_anchored_b2 n T0 Mk Lk z) (fun q => (q.1 = 0 → 0 ≤ q.2 ∧ o_mu q.2 < o_mu z) ∧ (q.1 ≠ 0 → True)) := by
  unfold m_Lk_anchored_b2
  refine o_okB (s_Tx_total  h_T0) ?_
  intro q1_1 g2
  refine o_okI (fun c3 => ?_) (fun c3 => ?_)
  · refine o_okS ?_
    refine ⟨fun h => absurd (show (2 : Nat) = 0 from h) (by decide), fun _ => ?_⟩
    trivial
  · refine o_okB (s_Mk_keyword ) ?_
    intro q2_4 g5
    refine o_okG (o_kbM (by first | with_reducible exact True.intro | with_reducible assumption | grind [-Prod] | grind [-Prod, → sc_Lk, → sc_Tx] | grind [-Prod, I_Lk, I_Tx, o_bn, upd])) ?_
    refine o_okI (fun c6 => ?_) (fun c6 => ?_)
    · refine o_okB (s_Lk_isNamed  hn h_T0 h_Lk (by first | with_reducible exact True.intro | with_reducible assumption | grind [-Prod] | grind [-Prod, → sc_Lk, → sc_Tx] | grind [-Prod, I_Lk, I_Tx, o_bn, upd]) (by first | with_reducible exact True.intro | with_reducible assumption | grind [-Prod] | grind [-Prod, → sc_Lk, → sc_Tx] | grind [-Prod, I_Lk, I_Tx, o_bn, upd])) ?_
      intro q3_7 g8
      refine o_okI (fun c9 => ?_) (fun c9 => ?_)
      · refine o_okN (fun x1_49_10 ex1_49_10 => ?_)
        refine o_okS ?_
        refine ⟨fun _ => ?_, fun h => absurd rfl h⟩
        refine ⟨?_, ?_⟩
        · first | with_reducible exact True.intro | with_reducible assumption | grind [-Prod] | grind [-Prod, → sc_Lk, → sc_Tx] | grind [-Prod, I_Lk, I_Tx, o_bn, upd]
        · first | exact o_muL (by first | with_reducible exact True.intro | with_reducible assumption | grind [-Prod] | grind [-Prod, → sc_Lk, → sc_Tx] | grind [-Prod, I_Lk, I_Tx, o_bn, upd]) | exact o_nuL (by first | with_reducible exact True.intro | with_reducible assumption | grind [-Prod] | grind [-Prod, → sc_Lk, → sc_Tx] | grind [-Prod, I_Lk, I_Tx, o_bn, upd]) | (first | with_reducible exact True.intro | with_reducible assumption | grind [-Prod] | grind [-Prod, → sc_Lk, → sc_Tx] | grind [-Prod, I_Lk, I_Tx, o_bn, upd])
      · refine o_okS ?_
        refine ⟨fun h => absurd (show (1 : Nat) = 0 from h) (by decide), fun _ => ?_⟩
        trivial
    · refine o_okN (fun x1_49_11 ex1_49_11 => ?_)
      refine o_okS ?_
      refine ⟨fun _ => ?_, fun h => absurd rfl h⟩
      refine ⟨?_, ?_⟩
      · first | with_reducible exact True.intro | with_reducible assumption | grind [-Prod] | grind [-Prod, → sc_Lk, → sc_Tx] | grind [-Prod, I_Lk, I_Tx, o_bn, upd]
      · first | exact o_muL (by first | with_reducible exact True.intro | with_reducible assumption | grind [-Prod] | grind [-Prod, → sc_Lk, → sc_Tx] | grind [-Prod, I_Lk, I_Tx, o_bn, upd]) | exact o_nuL (by first | with_reducible exact True.intro | with_reducible assumption | grind [-Prod] | grind [-Prod, → sc_Lk, → sc_Tx] | grind [-Prod, I_Lk, I_Tx, o_bn, upd]) | (first | with_reducible exact True.intro | with_reducible assumption | grind [-Prod] | grind [-Prod, → sc_Lk, → sc_Tx] | grind [-Prod, I_Lk, I_Tx, o_bn, upd])
theorem l_Lk_anchored_b2 {n : Nat} {T0 : STx} {Mk : SMk} {Lk : SLk} {z : Int32} (hn : o_big ≤ n) (h_T0 : I_Tx T0) (h_Lk : I_Lk Lk) (l0 : 0 ≤ z) : o_ok (o_lp n (m_Lk_anchored_b2 n T0 Mk Lk) z) (fun q => q.1 ≠ 0 ∧ True) := by
  exact o_lpR (fun z => 0 ≤ z) (fun z => o_mu z) hn (o_muB) l0
    (fun z hz => by have l0 := hz; exact o_okW (s_Lk_anchored_b2 hn h_T0 h_Lk l0) (fun q hq => ⟨fun h => by have := hq.1 h; grind, hq.2⟩))
theorem s_Lk_anchored {n : Nat} {T0 : STx} {Mk : SMk} {Lk : SLk} (hn : o_big ≤ n) (h_T0 : I_Tx T0) (h_Lk : I_Lk Lk) : o_ok (m_Lk_anchored n T0 Mk Lk) (fun r => True) := by
  unfold m_Lk_anchored
  refine o_okB (l_Lk_anchored_b2  hn h_T0 h_Lk (by first | with_reducible exact True.intro | with_reducible assumption | grind [-Prod] | grind [-Prod, → sc_Lk, → sc_Tx] | grind [-Prod, I_Lk, I_Tx, o_bn, upd])) ?_
  intro q4_1 ⟨yq4_1, _⟩
  refine o_okI (fun c2 => ?_) (fun c2 => ?_)
  · refine o_okB (s_Tx_parent  h_T0) ?_
    intro q5_3 _
    refine o_okS ?_
    trivial
  · refine o_okS ?_
    trivial
theorem s_Lk_resolve {n : Nat} {x1 : Int32} {T0 : STx} {Mk : SMk} {Lk : SLk} (hn : o_big ≤ n) (h_T0 : I_Tx T0) (h_Lk : I_Lk Lk) : o_ok (m_Lk_resolve n x1 T0 Mk Lk) (fun r => (r.1 = -1 ∨ (0 ≤ r.1 ∧ r.1 < 1000)) ∧ I_Lk r.2) := by
  unfold m_Lk_resolve
  refine o_okB (s_Lk_decode  hn h_T0 h_Lk) ?_
  intro q1_1 ⟨g2, g3⟩
  refine o_okI (fun c4 => ?_) (fun c4 => ?_)
  · refine o_okS ?_
    refine ⟨?_, ?_⟩
    · first | with_reducible exact True.intro | with_reducible assumption | grind [-Prod] | grind [-Prod, → sc_Lk, → sc_Tx] | grind [-Prod, I_Lk, I_Tx, o_bn, upd]
    · exact g3
  · refine o_okI (fun c5 => ?_) (fun c5 => ?_)
    · refine o_okS ?_
      refine ⟨?_, ?_⟩
      · first | with_reducible exact True.intro | with_reducible assumption | grind [-Prod] | grind [-Prod, → sc_Lk, → sc_Tx] | grind [-Prod, I_Lk, I_Tx, o_bn, upd]
      · exact g3
    · refine o_okG (o_inM (m := 4000) rfl (by first | with_reducible exact True.intro | with_reducible assumption | grind [-Prod] | grind [-Prod, → sc_Lk, → sc_Tx] | grind [-Prod, I_Lk, I_Tx, o_bn, upd]) (by first | with_reducible exact True.intro | with_reducible assumption | grind [-Prod] | grind [-Prod, → sc_Lk, → sc_Tx] | grind [-Prod, I_Lk, I_Tx, o_bn, upd])) ?_
      refine o_okI (fun c6 => ?_) (fun c6 => ?_)
      · refine o_okI (fun c7 => ?_) (fun c7 => ?_)
        · refine o_okS ?_
          refine ⟨?_, ?_⟩
          · first | with_reducible exact True.intro | with_reducible assumption | grind [-Prod] | grind [-Prod, → sc_Lk, → sc_Tx] | grind [-Prod, I_Lk, I_Tx, o_bn, upd]
          · exact g3
        · refine o_okG (o_inM (m := 4000) rfl (by first | with_reducible exact True.intro | with_reducible assumption | grind [-Prod] | grind [-Prod, → sc_Lk, → sc_Tx] | grind [-Prod, I_Lk, I_Tx, o_bn, upd]) (by first | with_reducible exact True.intro | with_reducible assumption | grind [-Prod] | grind [-Prod, → sc_Lk, → sc_Tx] | grind [-Prod, I_Lk, I_Tx, o_bn, upd])) ?_
          refine o_okI (fun c8 => ?_) (fun c8 => ?_)
          · refine o_okB (s_Lk_walk  hn h_T0 g3) ?_
            intro q4_9 _
            unfold m_Lk_resolve_j60
            refine o_okB (s_Mk_isSchema ) ?_
            intro q3_10 ⟨g11, g12⟩
            refine o_okI (fun c13 => ?_) (fun c13 => ?_)
            · refine o_okS ?_
              refine ⟨?_, ?_⟩
              · first | with_reducible exact True.intro | with_reducible assumption | grind [-Prod] | grind [-Prod, → sc_Lk, → sc_Tx] | grind [-Prod, I_Lk, I_Tx, o_bn, upd]
              · exact g3
            · refine o_okS ?_
              refine ⟨?_, ?_⟩
              · first | with_reducible exact True.intro | with_reducible assumption | grind [-Prod] | grind [-Prod, → sc_Lk, → sc_Tx] | grind [-Prod, I_Lk, I_Tx, o_bn, upd]
              · exact g3
          · refine o_okB (s_Lk_anchored  hn h_T0 g3) ?_
            intro q2_14 _
            unfold m_Lk_resolve_j60
            refine o_okB (s_Mk_isSchema ) ?_
            intro q3_15 ⟨g16, g17⟩
            refine o_okI (fun c18 => ?_) (fun c18 => ?_)
            · refine o_okS ?_
              refine ⟨?_, ?_⟩
              · first | with_reducible exact True.intro | with_reducible assumption | grind [-Prod] | grind [-Prod, → sc_Lk, → sc_Tx] | grind [-Prod, I_Lk, I_Tx, o_bn, upd]
              · exact g3
            · refine o_okS ?_
              refine ⟨?_, ?_⟩
              · first | with_reducible exact True.intro | with_reducible assumption | grind [-Prod] | grind [-Prod, → sc_Lk, → sc_Tx] | grind [-Prod, I_Lk, I_Tx, o_bn, upd]
              · exact g3
      · refine o_okS ?_
        refine ⟨?_, ?_⟩
        · first | with_reducible exact True.intro | with_reducible assumption | grind [-Prod] | grind [-Prod, → sc_Lk, → sc_Tx] | grind [-Prod, I_Lk, I_Tx, o_bn, upd]
        · exact g3
theorem s_Mk_setTarget {x1 : Int32} {x2 : Int32} {Mk : SMk}  : o_ok (m_Mk_setTarget x1 x2 Mk) (fun r => True) := by
  unfold m_Mk_setTarget
  refine o_okI (fun c1 => ?_) (fun c1 => ?_)
  · refine o_okS ?_
    trivial
  · refine o_okI (fun c2 => ?_) (fun c2 => ?_)
    · refine o_okS ?_
      trivial
    · refine o_okG (o_inM (m := 1000) rfl (by first | with_reducible exact True.intro | with_reducible assumption | grind [-Prod] | grind [-Prod] | grind [-Prod, o_bn, upd]) (by first | with_reducible exact True.intro | with_reducible assumption | grind [-Prod] | grind [-Prod] | grind [-Prod, o_bn, upd])) ?_
      refine o_okS ?_
      trivial
theorem s_Ck_followReferences_b10 {n : Nat} {T0 : STx} {Mk : SMk} {Lk : SLk} {z : Int32 × SCk} (hn : o_big ≤ n) (h_T0 : I_Tx T0) (h_Lk : I_Lk Lk) (l0 : 0 ≤ z.1) (l1 : I_Ck z.2) : o_ok (m_Ck_followReferences_b10 n T0 Mk Lk z) (fun q => (q.1 = 0 → 0 ≤ q.2.1 ∧ I_Ck q.2.2 ∧ o_mu q.2.1 < o_mu z.1) ∧ (q.1 ≠ 0 → I_Ck q.2.2)) := by
  unfold m_Ck_followReferences_b10
  refine o_okI (fun c1 => ?_) (fun c1 => ?_)
  · refine o_okS ?_
    refine ⟨fun h => absurd (show (1 : Nat) = 0 from h) (by decide), fun _ => ?_⟩
    exact l1
  · refine o_okG (o_inM (m := 1000) rfl (by first | with_reducible exact True.intro | with_reducible assumption | grind [-Prod] | grind [-Prod, → sc_Ck, → sc_Lk, → sc_Tx] | grind [-Prod, I_Ck, I_Lk, I_Tx, o_bn, upd]) (by first | with_reducible exact True.intro | with_reducible assumption | grind [-Prod] | grind [-Prod, → sc_Ck, → sc_Lk, → sc_Tx] | grind [-Prod, I_Ck, I_Lk, I_Tx, o_bn, upd])) ?_
    refine o_okN (fun x1_24_2 ex1_24_2 => ?_)
    refine o_okS ?_
    refine ⟨fun _ => ?_, fun h => absurd rfl h⟩
    refine ⟨?_, ?_, ?_⟩
    · first | with_reducible exact True.intro | with_reducible assumption | grind [-Prod] | grind [-Prod, → sc_Ck, → sc_Lk, → sc_Tx] | grind [-Prod, I_Ck, I_Lk, I_Tx, o_bn, upd]
    · exact ⟨l1.1, l1.2⟩
    · first | exact o_muL (by first | with_reducible exact True.intro | with_reducible assumption | grind [-Prod] | grind [-Prod, → sc_Ck, → sc_Lk, → sc_Tx] | grind [-Prod, I_Ck, I_Lk, I_Tx, o_bn, upd]) | exact o_nuL (by first | with_reducible exact True.intro | with_reducible assumption | grind [-Prod] | grind [-Prod, → sc_Ck, → sc_Lk, → sc_Tx] | grind [-Prod, I_Ck, I_Lk, I_Tx, o_bn, upd]) | (first | with_reducible exact True.intro | with_reducible assumption | grind [-Prod] | grind [-Prod, → sc_Ck, → sc_Lk, → sc_Tx] | grind [-Prod, I_Ck, I_Lk, I_Tx, o_bn, upd])
theorem l_Ck_followReferences_b10 {n : Nat} {T0 : STx} {Mk : SMk} {Lk : SLk} {z : Int32 × SCk} (hn : o_big ≤ n) (h_T0 : I_Tx T0) (h_Lk : I_Lk Lk) (l0 : 0 ≤ z.1) (l1 : I_Ck z.2) : o_ok (o_lp n (m_Ck_followReferences_b10 n T0 Mk Lk) z) (fun q => q.1 ≠ 0 ∧ I_Ck q.2.2) := by
  exact o_lpR (fun z => 0 ≤ z.1 ∧ I_Ck z.2) (fun z => o_mu z.1) hn (o_muB) ⟨l0, l1⟩
    (fun z hz => by obtain ⟨l0, l1⟩ := hz; exact o_okW (s_Ck_followReferences_b10 hn h_T0 h_Lk l0 l1) (fun q hq => ⟨fun h => by have := hq.1 h; grind, hq.2⟩))
theorem s_Ck_followReferences_b32 {n : Nat} {T0 : STx} {z : Int32 × SMk × SLk × SCk} (hn : o_big ≤ n) (h_T0 : I_Tx T0) (l0 : 0 ≤ z.1) (l1 : I_Lk z.2.2.1) (l2 : I_Ck z.2.2.2) : o_ok (m_Ck_followReferences_b32 n T0 z) (fun q => (q.1 = 0 → 0 ≤ q.2.1 ∧ I_Lk q.2.2.2.1 ∧ I_Ck q.2.2.2.2 ∧ o_mu q.2.1 < o_mu z.1) ∧ (q.1 ≠ 0 → I_Lk q.2.2.2.1 ∧ I_Ck q.2.2.2.2)) := by
  unfold m_Ck_followReferences_b32
  refine o_okB (s_Tx_total  h_T0) ?_
  intro q3_1 g2
  refine o_okI (fun c3 => ?_) (fun c3 => ?_)
  · refine o_okS ?_
    refine ⟨fun h => absurd (show (1 : Nat) = 0 from h) (by decide), fun _ => ?_⟩
    refine ⟨?_, ?_⟩
    · exact l1
    · exact l2
  · refine o_okB (s_Mk_keyword ) ?_
    intro q4_4 g5
    refine o_okG (o_kbM (by first | with_reducible exact True.intro | with_reducible assumption | grind [-Prod] | grind [-Prod, → sc_Ck, → sc_Lk, → sc_Tx] | grind [-Prod, I_Ck, I_Lk, I_Tx, o_bn, upd])) ?_
    refine o_okI (fun c6 => ?_) (fun c6 => ?_)
    · refine o_okB (s_Lk_resolve  hn h_T0 l1) ?_
      intro q5_7 ⟨g8, g9⟩
      refine o_okB (s_Mk_setTarget ) ?_
      intro q6_10 _
      refine o_okI (fun c11 => ?_) (fun c11 => ?_)
      · refine o_okB (s_Ck_report  l2) ?_
        intro q7_12 g13
        refine o_okN (fun x1_103_14 ex1_103_14 => ?_)
        refine o_okS ?_
        refine ⟨fun _ => ?_, fun h => absurd rfl h⟩
        refine ⟨?_, ?_, ?_, ?_⟩
        · first | with_reducible exact True.intro | with_reducible assumption | grind [-Prod] | grind [-Prod, → sc_Ck, → sc_Lk, → sc_Tx] | grind [-Prod, I_Ck, I_Lk, I_Tx, o_bn, upd]
        · exact g9
        · exact g13
        · first | exact o_muL (by first | with_reducible exact True.intro | with_reducible assumption | grind [-Prod] | grind [-Prod, → sc_Ck, → sc_Lk, → sc_Tx] | grind [-Prod, I_Ck, I_Lk, I_Tx, o_bn, upd]) | exact o_nuL (by first | with_reducible exact True.intro | with_reducible assumption | grind [-Prod] | grind [-Prod, → sc_Ck, → sc_Lk, → sc_Tx] | grind [-Prod, I_Ck, I_Lk, I_Tx, o_bn, upd]) | (first | with_reducible exact True.intro | with_reducible assumption | grind [-Prod] | grind [-Prod, → sc_Ck, → sc_Lk, → sc_Tx] | grind [-Prod, I_Ck, I_Lk, I_Tx, o_bn, upd])
      · refine o_okI (fun c15 => ?_) (fun c15 => ?_)
        · refine o_okN (fun x1_103_16 ex1_103_16 => ?_)
          refine o_okS ?_
          refine ⟨fun _ => ?_, fun h => absurd rfl h⟩
          refine ⟨?_, ?_, ?_, ?_⟩
          · first | with_reducible exact True.intro | with_reducible assumption | grind [-Prod] | grind [-Prod, → sc_Ck, → sc_Lk, → sc_Tx] | grind [-Prod, I_Ck, I_Lk, I_Tx, o_bn, upd]
          · exact g9
          · exact l2
          · first | exact o_muL (by first | with_reducible exact True.intro | with_reducible assumption | grind [-Prod] | grind [-Prod, → sc_Ck, → sc_Lk, → sc_Tx] | grind [-Prod, I_Ck, I_Lk, I_Tx, o_bn, upd]) | exact o_nuL (by first | with_reducible exact True.intro | with_reducible assumption | grind [-Prod] | grind [-Prod, → sc_Ck, → sc_Lk, → sc_Tx] | grind [-Prod, I_Ck, I_Lk, I_Tx, o_bn, upd]) | (first | with_reducible exact True.intro | with_reducible assumption | grind [-Prod] | grind [-Prod, → sc_Ck, → sc_Lk, → sc_Tx] | grind [-Prod, I_Ck, I_Lk, I_Tx, o_bn, upd])
        · refine o_okG (o_inM (m := 1000) rfl (by first | with_reducible exact True.intro | with_reducible assumption | grind [-Prod] | grind [-Prod, → sc_Ck, → sc_Lk, → sc_Tx] | grind [-Prod, I_Ck, I_Lk, I_Tx, o_bn, upd]) (by first | with_reducible exact True.intro | with_reducible assumption | grind [-Prod] | grind [-Prod, → sc_Ck, → sc_Lk, → sc_Tx] | grind [-Prod, I_Ck, I_Lk, I_Tx, o_bn, upd])) ?_
          refine o_okN (fun x1_103_17 ex1_103_17 => ?_)
          refine o_okS ?_
          refine ⟨fun _ => ?_, fun h => absurd rfl h⟩
          refine ⟨?_, ?_, ?_, ?_⟩
          · first | with_reducible exact True.intro | with_reducible assumption | grind [-Prod] | grind [-Prod, → sc_Ck, → sc_Lk, → sc_Tx] | grind [-Prod, I_Ck, I_Lk, I_Tx, o_bn, upd]
          · exact g9
          · exact ⟨l2.1, l2.2⟩
          · first | exact o_muL (by first | with_reducible exact True.intro | with_reducible assumption | grind [-Prod] | grind [-Prod, → sc_Ck, → sc_Lk, → sc_Tx] | grind [-Prod, I_Ck, I_Lk, I_Tx, o_bn, upd]) | exact o_nuL (by first | with_reducible exact True.intro | with_reducible assumption | grind [-Prod] | grind [-Prod, → sc_Ck, → sc_Lk, → sc_Tx] | grind [-Prod, I_Ck, I_Lk, I_Tx, o_bn, upd]) | (first | with_reducible exact True.intro | with_reducible assumption | grind [-Prod] | grind [-Prod, → sc_Ck, → sc_Lk, → sc_Tx] | grind [-Prod, I_Ck, I_Lk, I_Tx, o_bn, upd])
    · refine o_okN (fun x1_103_18 ex1_103_18 => ?_)
      refine o_okS ?_
      refine ⟨fun _ => ?_, fun h => absurd rfl h⟩
      refine ⟨?_, ?_, ?_, ?_⟩
      · first | with_reducible exact True.intro | with_reducible assumption | grind [-Prod] | grind [-Prod, → sc_Ck, → sc_Lk, → sc_Tx] | grind [-Prod, I_Ck, I_Lk, I_Tx, o_bn, upd]
      · exact l1
      · exact l2
      · first | exact o_muL (by first | with_reducible exact True.intro | with_reducible assumption | grind [-Prod] | grind [-Prod, → sc_Ck, → sc_Lk, → sc_Tx] | grind [-Prod, I_Ck, I_Lk, I_Tx, o_bn, upd]) | exact o_nuL (by first | with_reducible exact True.intro | with_reducible assumption | grind [-Prod] | grind [-Prod, → sc_Ck, → sc_Lk, → sc_Tx] | grind [-Prod, I_Ck, I_Lk, I_Tx, o_bn, upd]) | (first | with_reducible exact True.intro | with_reducible assumption | grind [-Prod] | grind [-Prod, → sc_Ck, → sc_Lk, → sc_Tx] | grind [-Prod, I_Ck, I_Lk, I_Tx, o_bn, upd])
theorem l_Ck_followReferences_b32 {n : Nat} {T0 : STx} {z : Int32 × SMk × SLk × SCk} (hn : o_big ≤ n) (h_T0 : I_Tx T0) (l0 : 0 ≤ z.1) (l1 : I_Lk z.2.2.1) (l2 : I_Ck z.2.2.2) : o_ok (o_lp n (m_Ck_followReferences_b32 n T0) z) (fun q => q.1 ≠ 0 ∧ I_Lk q.2.2.2.1 ∧ I_Ck q.2.2.2.2) := by
  exact o_lpR (fun z => 0 ≤ z.1 ∧ I_Lk z.2.2.1 ∧ I_Ck z.2.2.2) (fun z => o_mu z.1) hn (o_muB) ⟨l0, l1, l2⟩
    (fun z hz => by obtain ⟨l0, l1, l2⟩ := hz; exact o_okW (s_Ck_followReferences_b32 hn h_T0 l0 l1 l2) (fun q hq => ⟨fun h => by have := hq.1 h; grind, hq.2⟩))
theorem s_Ck_followReferences {n : Nat} {T0 : STx} {Mk : SMk} {Lk : SLk} {Ck : SCk} (hn : o_big ≤ n) (h_T0 : I_Tx T0) (h_Lk : I_Lk Lk) (h_Ck : I_Ck Ck) : o_ok (m_Ck_followReferences n T0 Mk Lk Ck) (fun r => I_Lk r.2.1 ∧ I_Ck r.2.2) := by
  unfold m_Ck_followReferences
  refine o_okB (s_JA_fill  hn) ?_
  intro q1_1 _
  refine o_okB (l_Ck_followReferences_b10  hn h_T0 h_Lk (by first | with_reducible exact True.intro | with_reducible assumption | grind [-Prod] | grind [-Prod, → sc_Ck, → sc_Lk, → sc_Tx] | grind [-Prod, I_Ck, I_Lk, I_Tx, o_bn, upd]) ⟨h_Ck.1, h_Ck.2⟩) ?_
  intro q2_2 ⟨yq2_2, g3⟩
  refine o_okB (l_Ck_followReferences_b32  hn h_T0 (by first | with_reducible exact True.intro | with_reducible assumption | grind [-Prod] | grind [-Prod, → sc_Ck, → sc_Lk, → sc_Tx] | grind [-Prod, I_Ck, I_Lk, I_Tx, o_bn, upd]) h_Lk g3) ?_
  intro q8_4 ⟨yq8_4, g5, g6⟩
  refine o_okS ?_
  refine ⟨?_, ?_⟩
  · exact g5
  · exact g6
theorem s_Mk_schemaCount {x1 : Nat} {x2 : Int32} {T0 : STx} (h_T0 : I_Tx T0) : o_ok (m_Mk_schemaCount x1 x2 T0) (fun r => True) := by
  unfold m_Mk_schemaCount
  refine o_okI (fun c1 => ?_) (fun c1 => ?_)
  · unfold m_Mk_schemaCount_j16
    refine o_okB (s_Tx_size  h_T0) ?_
    intro q1_2 g3
    refine o_okS ?_
    trivial
  · refine o_okI (fun c4 => ?_) (fun c4 => ?_)
    · unfold m_Mk_schemaCount_j16
      refine o_okB (s_Tx_size  h_T0) ?_
      intro q1_5 g6
      refine o_okS ?_
      trivial
    · refine o_okS ?_
      trivial
theorem s_Mk_firstSchema {x1 : Nat} {x2 : Int32} {T0 : STx} {Mk : SMk} (h_T0 : I_Tx T0) : o_ok (m_Mk_firstSchema x1 x2 T0 Mk) (fun r => True) := by
  unfold m_Mk_firstSchema
  refine o_okI (fun c1 => ?_) (fun c1 => ?_)
  · unfold m_Mk_firstSchema_j16
    refine o_okB (s_Tx_firstChild  h_T0) ?_
    intro q1_2 _
    refine o_okS ?_
    trivial
  · refine o_okI (fun c3 => ?_) (fun c3 => ?_)
    · unfold m_Mk_firstSchema_j16
      refine o_okB (s_Tx_firstChild  h_T0) ?_
      intro q1_4 _
      refine o_okS ?_
      trivial
    · refine o_okI (fun c5 => ?_) (fun c5 => ?_)
      · refine o_okI (fun c6 => ?_) (fun c6 => ?_)
        · refine o_okS ?_
          trivial
        · refine o_okI (fun c7 => ?_) (fun c7 => ?_)
          · refine o_okS ?_
            trivial
          · refine o_okG (o_inM (m := 1000) rfl (by first | with_reducible exact True.intro | with_reducible assumption | grind [-Prod] | grind [-Prod, → sc_Tx] | grind [-Prod, I_Tx, o_bn, upd]) (by first | with_reducible exact True.intro | with_reducible assumption | grind [-Prod] | grind [-Prod, → sc_Tx] | grind [-Prod, I_Tx, o_bn, upd])) ?_
            refine o_okS ?_
            trivial
      · refine o_okS ?_
        trivial
set_option maxHeartbeats 8000000 in
theorem s_Ck_spread_b75 {n : Nat} {x1 : Int32} {x2 : Int32} {x3 : Int32} {x4 : Int32} {x6 : Int32} {T0 : STx} {Mk : SMk} {z : Int32 × Int32 × SCk} (hn : o_big ≤ n) (h_T0 : I_Tx T0) (l0 : 0 ≤ z.2.1) (l1 : I_Ck z.2.2) : o_ok (m_Ck_spread_b75 n x1 x2 x3 x4 x6 T0 Mk z) (fun q => (q.1 = 0 → 0 ≤ q.2.2.1 ∧ I_Ck q.2.2.2 ∧ o_mu q.2.2.1 < o_mu z.2.1) ∧ (q.1 ≠ 0 → I_Ck q.2.2.2)) := by
  unfold m_Ck_spread_b75
  refine o_okI (fun c1 => ?_) (fun c1 => ?_)
  · refine o_okS ?_
    refine ⟨fun h => absurd (show (1 : Nat) = 0 from h) (by decide), fun _ => ?_⟩
    exact l1
  · refine o_okI (fun c2 => ?_) (fun c2 => ?_)
    · unfold m_Ck_spread_j145
      refine o_okB (s_Tx_nextChild  h_T0) ?_
      intro q5_3 _
      refine o_okN (fun x8_156_4 ex8_156_4 => ?_)
      refine o_okS ?_
      refine ⟨fun _ => ?_, fun h => absurd rfl h⟩
      refine ⟨?_, ?_, ?_⟩
      · first | with_reducible exact True.intro | with_reducible assumption | grind [-Prod] | grind [-Prod, → sc_Ck, → sc_Tx] | grind [-Prod, I_Ck, I_Tx, o_bn, upd]
      · exact l1
      · first | exact o_muL (by first | with_reducible exact True.intro | with_reducible assumption | grind [-Prod] | grind [-Prod, → sc_Ck, → sc_Tx] | grind [-Prod, I_Ck, I_Tx, o_bn, upd]) | exact o_nuL (by first | with_reducible exact True.intro | with_reducible assumption | grind [-Prod] | grind [-Prod, → sc_Ck, → sc_Tx] | grind [-Prod, I_Ck, I_Tx, o_bn, upd]) | (first | with_reducible exact True.intro | with_reducible assumption | grind [-Prod] | grind [-Prod, → sc_Ck, → sc_Tx] | grind [-Prod, I_Ck, I_Tx, o_bn, upd])
    · refine o_okI (fun c5 => ?_) (fun c5 => ?_)
      · unfold m_Ck_spread_j145
        refine o_okB (s_Tx_nextChild  h_T0) ?_
        intro q5_6 _
        refine o_okN (fun x8_156_7 ex8_156_7 => ?_)
        refine o_okS ?_
        refine ⟨fun _ => ?_, fun h => absurd rfl h⟩
        refine ⟨?_, ?_, ?_⟩
        · first | with_reducible exact True.intro | with_reducible assumption | grind [-Prod] | grind [-Prod, → sc_Ck, → sc_Tx] | grind [-Prod, I_Ck, I_Tx, o_bn, upd]
        · exact l1
        · first | exact o_muL (by first | with_reducible exact True.intro | with_reducible assumption | grind [-Prod] | grind [-Prod, → sc_Ck, → sc_Tx] | grind [-Prod, I_Ck, I_Tx, o_bn, upd]) | exact o_nuL (by first | with_reducible exact True.intro | with_reducible assumption | grind [-Prod] | grind [-Prod, → sc_Ck, → sc_Tx] | grind [-Prod, I_Ck, I_Tx, o_bn, upd]) | (first | with_reducible exact True.intro | with_reducible assumption | grind [-Prod] | grind [-Prod, → sc_Ck, → sc_Tx] | grind [-Prod, I_Ck, I_Tx, o_bn, upd])
      · refine o_okG (o_inM (m := 1000) rfl (by first | with_reducible exact True.intro | with_reducible assumption | grind [-Prod] | grind [-Prod, → sc_Ck, → sc_Tx] | grind [-Prod, I_Ck, I_Tx, o_bn, upd]) (by first | with_reducible exact True.intro | with_reducible assumption | grind [-Prod] | grind [-Prod, → sc_Ck, → sc_Tx] | grind [-Prod, I_Ck, I_Tx, o_bn, upd])) ?_
        refine o_okI (fun c8 => ?_) (fun c8 => ?_)
        · unfold m_Ck_spread_j145
          refine o_okB (s_Tx_nextChild  h_T0) ?_
          intro q5_9 _
          refine o_okN (fun x8_156_10 ex8_156_10 => ?_)
          refine o_okS ?_
          refine ⟨fun _ => ?_, fun h => absurd rfl h⟩
          refine ⟨?_, ?_, ?_⟩
          · first | with_reducible exact True.intro | with_reducible assumption | grind [-Prod] | grind [-Prod, → sc_Ck, → sc_Tx] | grind [-Prod, I_Ck, I_Tx, o_bn, upd]
          · exact l1
          · first | exact o_muL (by first | with_reducible exact True.intro | with_reducible assumption | grind [-Prod] | grind [-Prod, → sc_Ck, → sc_Tx] | grind [-Prod, I_Ck, I_Tx, o_bn, upd]) | exact o_nuL (by first | with_reducible exact True.intro | with_reducible assumption | grind [-Prod] | grind [-Prod, → sc_Ck, → sc_Tx] | grind [-Prod, I_Ck, I_Tx, o_bn, upd]) | (first | with_reducible exact True.intro | with_reducible assumption | grind [-Prod] | grind [-Prod, → sc_Ck, → sc_Tx] | grind [-Prod, I_Ck, I_Tx, o_bn, upd])
        · refine o_okI (fun c11 => ?_) (fun c11 => ?_)
          · unfold m_Ck_spread_j145
            refine o_okB (s_Tx_nextChild  h_T0) ?_
            intro q5_12 _
            refine o_okN (fun x8_156_13 ex8_156_13 => ?_)
            refine o_okS ?_
            refine ⟨fun _ => ?_, fun h => absurd rfl h⟩
            refine ⟨?_, ?_, ?_⟩
            · first | with_reducible exact True.intro | with_reducible assumption | grind [-Prod] | grind [-Prod, → sc_Ck, → sc_Tx] | grind [-Prod, I_Ck, I_Tx, o_bn, upd]
            · exact l1
            · first | exact o_muL (by first | with_reducible exact True.intro | with_reducible assumption | grind [-Prod] | grind [-Prod, → sc_Ck, → sc_Tx] | grind [-Prod, I_Ck, I_Tx, o_bn, upd]) | exact o_nuL (by first | with_reducible exact True.intro | with_reducible assumption | grind [-Prod] | grind [-Prod, → sc_Ck, → sc_Tx] | grind [-Prod, I_Ck, I_Tx, o_bn, upd]) | (first | with_reducible exact True.intro | with_reducible assumption | grind [-Prod] | grind [-Prod, → sc_Ck, → sc_Tx] | grind [-Prod, I_Ck, I_Tx, o_bn, upd])
          · refine o_okG (o_inM (m := 1000) rfl (by first | with_reducible exact True.intro | with_reducible assumption | grind [-Prod] | grind [-Prod, → sc_Ck, → sc_Tx] | grind [-Prod, I_Ck, I_Tx, o_bn, upd]) (by first | with_reducible exact True.intro | with_reducible assumption | grind [-Prod] | grind [-Prod, → sc_Ck, → sc_Tx] | grind [-Prod, I_Ck, I_Tx, o_bn, upd])) ?_
            refine o_okG (o_inM (m := 1000) rfl (by first | with_reducible exact True.intro | with_reducible assumption | grind [-Prod] | grind [-Prod, → sc_Ck, → sc_Tx] | grind [-Prod, I_Ck, I_Tx, o_bn, upd]) (by first | with_reducible exact True.intro | with_reducible assumption | grind [-Prod] | grind [-Prod, → sc_Ck, → sc_Tx] | grind [-Prod, I_Ck, I_Tx, o_bn, upd])) ?_
            unfold m_Ck_spread_j145
            refine o_okB (s_Tx_nextChild  h_T0) ?_
            intro q5_14 _
            refine o_okN (fun x8_156_15 ex8_156_15 => ?_)
            refine o_okS ?_
            refine ⟨fun _ => ?_, fun h => absurd rfl h⟩
            refine ⟨?_, ?_, ?_⟩
            · first | with_reducible exact True.intro | with_reducible assumption | grind [-Prod] | grind [-Prod, → sc_Ck, → sc_Tx] | grind [-Prod, I_Ck, I_Tx, o_bn, upd]
            · exact ⟨(by first | with_reducible exact True.intro | with_reducible assumption | grind [-Prod] | grind [-Prod, → sc_Ck, → sc_Tx] | grind [-Prod, I_Ck, I_Tx, o_bn, upd]), (by first | with_reducible exact True.intro | with_reducible assumption | grind [-Prod] | grind [-Prod, → sc_Ck, → sc_Tx] | grind [-Prod, I_Ck, I_Tx, o_bn, upd])⟩
            · first | exact o_muL (by first | with_reducible exact True.intro | with_reducible assumption | grind [-Prod] | grind [-Prod, → sc_Ck, → sc_Tx] | grind [-Prod, I_Ck, I_Tx, o_bn, upd]) | exact o_nuL (by first | with_reducible exact True.intro | with_reducible assumption | grind [-Prod] | grind [-Prod, → sc_Ck, → sc_Tx] | grind [-Prod, I_Ck, I_Tx, o_bn, upd]) | (first | with_reducible exact True.intro | with_reducible assumption | grind [-Prod] | grind [-Prod, → sc_Ck, → sc_Tx] | grind [-Prod, I_Ck, I_Tx, o_bn, upd])
theorem l_Ck_spread_b75 {n : Nat} {x1 : Int32} {x2 : Int32} {x3 : Int32} {x4 : Int32} {x6 : Int32} {T0 : STx} {Mk : SMk} {z : Int32 × Int32 × SCk} (hn : o_big ≤ n) (h_T0 : I_Tx T0) (l0 : 0 ≤ z.2.1) (l1 : I_Ck z.2.2) : o_ok (o_lp n (m_Ck_spread_b75 n x1 x2 x3 x4 x6 T0 Mk) z) (fun q => q.1 ≠ 0 ∧ I_Ck q.2.2.2) := by
  exact o_lpR (fun z => 0 ≤ z.2.1 ∧ I_Ck z.2.2) (fun z => o_mu z.2.1) hn (o_muB) ⟨l0, l1⟩
    (fun z hz => by obtain ⟨l0, l1⟩ := hz; exact o_okW (s_Ck_spread_b75 hn h_T0 l0 l1) (fun q hq => ⟨fun h => by have := hq.1 h; grind, hq.2⟩))
theorem s_Ck_spread_b12 {n : Nat} {x1 : Int32} {x2 : Int32} {T0 : STx} {Mk : SMk} {z : Int32 × Int32 × SCk} (hn : o_big ≤ n) (h_T0 : I_Tx T0) (l0 : 0 ≤ z.2.1) (l1 : I_Ck z.2.2) : o_ok (m_Ck_spread_b12 n x1 x2 T0 Mk z) (fun q => (q.1 = 0 → 0 ≤ q.2.2.1 ∧ I_Ck q.2.2.2 ∧ o_mu q.2.2.1 < o_mu z.2.1) ∧ (q.1 ≠ 0 → I_Ck q.2.2.2)) := by
  unfold m_Ck_spread_b12
  refine o_okB (s_Tx_size  h_T0) ?_
  intro q2_1 g2
  refine o_okI (fun c3 => ?_) (fun c3 => ?_)
  · refine o_okS ?_
    refine ⟨fun h => absurd (show (1 : Nat) = 0 from h) (by decide), fun _ => ?_⟩
    exact l1
  · refine o_okB (s_Mk_keyword ) ?_
    intro q3_4 g5
    refine o_okG (o_kbM (by first | with_reducible exact True.intro | with_reducible assumption | grind [-Prod] | grind [-Prod, → sc_Ck, → sc_Tx] | grind [-Prod, I_Ck, I_Tx, o_bn, upd])) ?_
    refine o_okI (fun c6 => ?_) (fun c6 => ?_)
    · refine o_okB (s_Mk_schemaCount  h_T0) ?_
      intro q8_7 _
      unfold m_Ck_spread_j58
      refine o_okB (s_Mk_firstSchema  h_T0) ?_
      intro q4_8 _
      refine o_okB (l_Ck_spread_b75  hn h_T0 (by first | with_reducible exact True.intro | with_reducible assumption | grind [-Prod] | grind [-Prod, → sc_Ck, → sc_Tx] | grind [-Prod, I_Ck, I_Tx, o_bn, upd]) l1) ?_
      intro q6_9 ⟨yq6_9, g10⟩
      refine o_okB (s_Tx_nextChild  h_T0) ?_
      intro q7_11 _
      refine o_okN (fun x4_171_12 ex4_171_12 => ?_)
      refine o_okS ?_
      refine ⟨fun _ => ?_, fun h => absurd rfl h⟩
      refine ⟨?_, ?_, ?_⟩
      · first | with_reducible exact True.intro | with_reducible assumption | grind [-Prod] | grind [-Prod, → sc_Ck, → sc_Tx] | grind [-Prod, I_Ck, I_Tx, o_bn, upd]
      · exact g10
      · first | exact o_muL (by first | with_reducible exact True.intro | with_reducible assumption | grind [-Prod] | grind [-Prod, → sc_Ck, → sc_Tx] | grind [-Prod, I_Ck, I_Tx, o_bn, upd]) | exact o_nuL (by first | with_reducible exact True.intro | with_reducible assumption | grind [-Prod] | grind [-Prod, → sc_Ck, → sc_Tx] | grind [-Prod, I_Ck, I_Tx, o_bn, upd]) | (first | with_reducible exact True.intro | with_reducible assumption | grind [-Prod] | grind [-Prod, → sc_Ck, → sc_Tx] | grind [-Prod, I_Ck, I_Tx, o_bn, upd])
    · unfold m_Ck_spread_j58
      refine o_okB (s_Mk_firstSchema  h_T0) ?_
      intro q4_13 _
      refine o_okB (l_Ck_spread_b75  hn h_T0 (by first | with_reducible exact True.intro | with_reducible assumption | grind [-Prod] | grind [-Prod, → sc_Ck, → sc_Tx] | grind [-Prod, I_Ck, I_Tx, o_bn, upd]) l1) ?_
      intro q6_14 ⟨yq6_14, g15⟩
      refine o_okB (s_Tx_nextChild  h_T0) ?_
      intro q7_16 _
      refine o_okN (fun x4_171_17 ex4_171_17 => ?_)
      refine o_okS ?_
      refine ⟨fun _ => ?_, fun h => absurd rfl h⟩
      refine ⟨?_, ?_, ?_⟩
      · first | with_reducible exact True.intro | with_reducible assumption | grind [-Prod] | grind [-Prod, → sc_Ck, → sc_Tx] | grind [-Prod, I_Ck, I_Tx, o_bn, upd]
      · exact g15
      · first | exact o_muL (by first | with_reducible exact True.intro | with_reducible assumption | grind [-Prod] | grind [-Prod, → sc_Ck, → sc_Tx] | grind [-Prod, I_Ck, I_Tx, o_bn, upd]) | exact o_nuL (by first | with_reducible exact True.intro | with_reducible assumption | grind [-Prod] | grind [-Prod, → sc_Ck, → sc_Tx] | grind [-Prod, I_Ck, I_Tx, o_bn, upd]) | (first | with_reducible exact True.intro | with_reducible assumption | grind [-Prod] | grind [-Prod, → sc_Ck, → sc_Tx] | grind [-Prod, I_Ck, I_Tx, o_bn, upd])
theorem l_Ck_spread_b12 {n : Nat} {x1 : Int32} {x2 : Int32} {T0 : STx} {Mk : SMk} {z : Int32 × Int32 × SCk} (hn : o_big ≤ n) (h_T0 : I_Tx T0) (l0 : 0 ≤ z.2.1) (l1 : I_Ck z.2.2) : o_ok (o_lp n (m_Ck_spread_b12 n x1 x2 T0 Mk) z) (fun q => q.1 ≠ 0 ∧ I_Ck q.2.2.2) := by
  exact o_lpR (fun z => 0 ≤ z.2.1 ∧ I_Ck z.2.2) (fun z => o_mu z.2.1) hn (o_muB) ⟨l0, l1⟩
    (fun z hz => by obtain ⟨l0, l1⟩ := hz; exact o_okW (s_Ck_spread_b12 hn h_T0 l0 l1) (fun q hq => ⟨fun h => by have := hq.1 h; grind, hq.2⟩))
theorem s_Ck_spread {n : Nat} {x1 : Int32} {x2 : Int32} {T0 : STx} {Mk : SMk} {Ck : SCk} (hn : o_big ≤ n) (h_T0 : I_Tx T0) (h_Ck : I_Ck Ck) : o_ok (m_Ck_spread n x1 x2 T0 Mk Ck) (fun r => I_Ck r) := by
  unfold m_Ck_spread
  refine o_okB (s_Tx_firstChild  h_T0) ?_
  intro q1_1 _
  refine o_okB (l_Ck_spread_b12  hn h_T0 (by first | with_reducible exact True.intro | with_reducible assumption | grind [-Prod] | grind [-Prod, → sc_Ck, → sc_Tx] | grind [-Prod, I_Ck, I_Tx, o_bn, upd]) h_Ck) ?_
  intro q9_2 ⟨yq9_2, g3⟩
  refine o_okS ?_
  exact g3
theorem s_Ck_leadsBack_b13 {n : Nat} {x1 : Int32} {T0 : STx} {Mk : SMk} {z : Int32 × SCk} (hn : o_big ≤ n) (h_T0 : I_Tx T0) (l0 : 0 ≤ z.1) (l1 : I_Ck z.2) : o_ok (m_Ck_leadsBack_b13 n x1 T0 Mk z) (fun q => (q.1 = 0 → 0 ≤ q.2.1 ∧ I_Ck q.2.2 ∧ o_mu q.2.1 < o_mu z.1) ∧ (q.1 ≠ 0 → I_Ck q.2.2)) := by
  unfold m_Ck_leadsBack_b13
  refine o_okI (fun c1 => ?_) (fun c1 => ?_)
  · refine o_okS ?_
    refine ⟨fun h => absurd (show (2 : Nat) = 0 from h) (by decide), fun _ => ?_⟩
    exact l1
  · refine o_okG (o_inM (m := 1000) rfl (by first | with_reducible exact True.intro | with_reducible assumption | grind [-Prod] | grind [-Prod, → sc_Ck, → sc_Tx] | grind [-Prod, I_Ck, I_Tx, o_bn, upd]) (by first | with_reducible exact True.intro | with_reducible assumption | grind [-Prod] | grind [-Prod, → sc_Ck, → sc_Tx] | grind [-Prod, I_Ck, I_Tx, o_bn, upd])) ?_
    refine o_okI (fun c2 => ?_) (fun c2 => ?_)
    · refine o_okS ?_
      refine ⟨fun h => absurd (show (1 : Nat) = 0 from h) (by decide), fun _ => ?_⟩
      exact l1
    · refine o_okG (o_inM (m := 1000) rfl (by first | with_reducible exact True.intro | with_reducible assumption | grind [-Prod] | grind [-Prod, → sc_Ck, → sc_Tx] | grind [-Prod, I_Ck, I_Tx, o_bn, upd]) (by first | with_reducible exact True.intro | with_reducible assumption | grind [-Prod] | grind [-Prod, → sc_Ck, → sc_Tx] | grind [-Prod, I_Ck, I_Tx, o_bn, upd])) ?_
      refine o_okB (s_Ck_spread  hn h_T0 l1) ?_
      intro q2_3 g4
      refine o_okN (fun x2_44_5 ex2_44_5 => ?_)
      refine o_okS ?_
      refine ⟨fun _ => ?_, fun h => absurd rfl h⟩
      refine ⟨?_, ?_, ?_⟩
      · first | with_reducible exact True.intro | with_reducible assumption | grind [-Prod] | grind [-Prod, → sc_Ck, → sc_Tx] | grind [-Prod, I_Ck, I_Tx, o_bn, upd]
      · exact g4
      · first | exact o_muL (by first | with_reducible exact True.intro | with_reducible assumption | grind [-Prod] | grind [-Prod, → sc_Ck, → sc_Tx] | grind [-Prod, I_Ck, I_Tx, o_bn, upd]) | exact o_nuL (by first | with_reducible exact True.intro | with_reducible assumption | grind [-Prod] | grind [-Prod, → sc_Ck, → sc_Tx] | grind [-Prod, I_Ck, I_Tx, o_bn, upd]) | (first | with_reducible exact True.intro | with_reducible assumption | grind [-Prod] | grind [-Prod, → sc_Ck, → sc_Tx] | grind [-Prod, I_Ck, I_Tx, o_bn, upd])
theorem l_Ck_leadsBack_b13 {n : Nat} {x1 : Int32} {T0 : STx} {Mk : SMk} {z : Int32 × SCk} (hn : o_big ≤ n) (h_T0 : I_Tx T0) (l0 : 0 ≤ z.1) (l1 : I_Ck z.2) : o_ok (o_lp n (m_Ck_leadsBack_b13 n x1 T0 Mk) z) (fun q => q.1 ≠ 0 ∧ I_Ck q.2.2) := by
  exact o_lpR (fun z => 0 ≤ z.1 ∧ I_Ck z.2) (fun z => o_mu z.1) hn (o_muB) ⟨l0, l1⟩
    (fun z hz => by obtain ⟨l0, l1⟩ := hz; exact o_okW (s_Ck_leadsBack_b13 hn h_T0 l0 l1) (fun q hq => ⟨fun h => by have := hq.1 h; grind, hq.2⟩))
theorem s_Ck_leadsBack {n : Nat} {x1 : Int32} {T0 : STx} {Mk : SMk} {Ck : SCk} (hn : o_big ≤ n) (h_T0 : I_Tx T0) (h_Ck : I_Ck Ck) : o_ok (m_Ck_leadsBack n x1 T0 Mk Ck) (fun r => (r.1 = 0 ∨ r.1 = 1) ∧ I_Ck r.2) := by
  unfold m_Ck_leadsBack
  refine o_okB (s_Ck_spread  hn h_T0 ⟨(by first | with_reducible exact True.intro | with_reducible assumption | grind [-Prod] | grind [-Prod, → sc_Ck, → sc_Tx] | grind [-Prod, I_Ck, I_Tx, o_bn, upd]), (by first | with_reducible exact True.intro | with_reducible assumption | grind [-Prod] | grind [-Prod, → sc_Ck, → sc_Tx] | grind [-Prod, I_Ck, I_Tx, o_bn, upd])⟩) ?_
  intro q1_1 g2
  refine o_okB (l_Ck_leadsBack_b13  hn h_T0 (by first | with_reducible exact True.intro | with_reducible assumption | grind [-Prod] | grind [-Prod, → sc_Ck, → sc_Tx] | grind [-Prod, I_Ck, I_Tx, o_bn, upd]) g2) ?_
  intro q3_3 ⟨yq3_3, g4⟩
  refine o_okI (fun c5 => ?_) (fun c5 => ?_)
  · refine o_okS ?_
    refine ⟨?_, ?_⟩
    · first | with_reducible exact True.intro | with_reducible assumption | grind [-Prod] | grind [-Prod, → sc_Ck, → sc_Tx] | grind [-Prod, I_Ck, I_Tx, o_bn, upd]
    · exact g4
  · refine o_okS ?_
    refine ⟨?_, ?_⟩
    · first | with_reducible exact True.intro | with_reducible assumption | grind [-Prod] | grind [-Prod, → sc_Ck, → sc_Tx] | grind [-Prod, I_Ck, I_Tx, o_bn, upd]
    · exact g4
theorem s_Ck_findCircle_b2 {n : Nat} {T0 : STx} {Mk : SMk} {z : Int32 × SCk} (hn : o_big ≤ n) (h_T0 : I_Tx T0) (l0 : 0 ≤ z.1) (l1 : I_Ck z.2) : o_ok (m_Ck_findCircle_b2 n T0 Mk z) (fun q => (q.1 = 0 → 0 ≤ q.2.1 ∧ I_Ck q.2.2 ∧ o_mu q.2.1 < o_mu z.1) ∧ (q.1 ≠ 0 → I_Ck q.2.2)) := by
  unfold m_Ck_findCircle_b2
  refine o_okB (s_Tx_total  h_T0) ?_
  intro q1_1 g2
  refine o_okI (fun c3 => ?_) (fun c3 => ?_)
  · refine o_okS ?_
    refine ⟨fun h => absurd (show (1 : Nat) = 0 from h) (by decide), fun _ => ?_⟩
    exact l1
  · refine o_okI (fun c4 => ?_) (fun c4 => ?_)
    · refine o_okG (o_inM (m := 1000) rfl (by first | with_reducible exact True.intro | with_reducible assumption | grind [-Prod] | grind [-Prod, → sc_Ck, → sc_Tx] | grind [-Prod, I_Ck, I_Tx, o_bn, upd]) (by first | with_reducible exact True.intro | with_reducible assumption | grind [-Prod] | grind [-Prod, → sc_Ck, → sc_Tx] | grind [-Prod, I_Ck, I_Tx, o_bn, upd])) ?_
      refine o_okI (fun c5 => ?_) (fun c5 => ?_)
      · refine o_okN (fun x1_44_6 ex1_44_6 => ?_)
        refine o_okS ?_
        refine ⟨fun _ => ?_, fun h => absurd rfl h⟩
        refine ⟨?_, ?_, ?_⟩
        · first | with_reducible exact True.intro | with_reducible assumption | grind [-Prod] | grind [-Prod, → sc_Ck, → sc_Tx] | grind [-Prod, I_Ck, I_Tx, o_bn, upd]
        · exact l1
        · first | exact o_muL (by first | with_reducible exact True.intro | with_reducible assumption | grind [-Prod] | grind [-Prod, → sc_Ck, → sc_Tx] | grind [-Prod, I_Ck, I_Tx, o_bn, upd]) | exact o_nuL (by first | with_reducible exact True.intro | with_reducible assumption | grind [-Prod] | grind [-Prod, → sc_Ck, → sc_Tx] | grind [-Prod, I_Ck, I_Tx, o_bn, upd]) | (first | with_reducible exact True.intro | with_reducible assumption | grind [-Prod] | grind [-Prod, → sc_Ck, → sc_Tx] | grind [-Prod, I_Ck, I_Tx, o_bn, upd])
      · refine o_okB (s_Ck_leadsBack  hn h_T0 l1) ?_
        intro q2_7 ⟨g8, g9⟩
        refine o_okI (fun c10 => ?_) (fun c10 => ?_)
        · refine o_okN (fun x1_44_11 ex1_44_11 => ?_)
          refine o_okS ?_
          refine ⟨fun _ => ?_, fun h => absurd rfl h⟩
          refine ⟨?_, ?_, ?_⟩
          · first | with_reducible exact True.intro | with_reducible assumption | grind [-Prod] | grind [-Prod, → sc_Ck, → sc_Tx] | grind [-Prod, I_Ck, I_Tx, o_bn, upd]
          · exact g9
          · first | exact o_muL (by first | with_reducible exact True.intro | with_reducible assumption | grind [-Prod] | grind [-Prod, → sc_Ck, → sc_Tx] | grind [-Prod, I_Ck, I_Tx, o_bn, upd]) | exact o_nuL (by first | with_reducible exact True.intro | with_reducible assumption | grind [-Prod] | grind [-Prod, → sc_Ck, → sc_Tx] | grind [-Prod, I_Ck, I_Tx, o_bn, upd]) | (first | with_reducible exact True.intro | with_reducible assumption | grind [-Prod] | grind [-Prod, → sc_Ck, → sc_Tx] | grind [-Prod, I_Ck, I_Tx, o_bn, upd])
        · refine o_okB (s_Ck_report  g9) ?_
          intro q3_12 g13
          refine o_okN (fun x1_44_14 ex1_44_14 => ?_)
          refine o_okS ?_
          refine ⟨fun _ => ?_, fun h => absurd rfl h⟩
          refine ⟨?_, ?_, ?_⟩
          · first | with_reducible exact True.intro | with_reducible assumption | grind [-Prod] | grind [-Prod, → sc_Ck, → sc_Tx] | grind [-Prod, I_Ck, I_Tx, o_bn, upd]
          · exact g13
          · first | exact o_muL (by first | with_reducible exact True.intro | with_reducible assumption | grind [-Prod] | grind [-Prod, → sc_Ck, → sc_Tx] | grind [-Prod, I_Ck, I_Tx, o_bn, upd]) | exact o_nuL (by first | with_reducible exact True.intro | with_reducible assumption | grind [-Prod] | grind [-Prod, → sc_Ck, → sc_Tx] | grind [-Prod, I_Ck, I_Tx, o_bn, upd]) | (first | with_reducible exact True.intro | with_reducible assumption | grind [-Prod] | grind [-Prod, → sc_Ck, → sc_Tx] | grind [-Prod, I_Ck, I_Tx, o_bn, upd])
    · refine o_okS ?_
      refine ⟨fun h => absurd (show (1 : Nat) = 0 from h) (by decide), fun _ => ?_⟩
      exact l1
theorem l_Ck_findCircle_b2 {n : Nat} {T0 : STx} {Mk : SMk} {z : Int32 × SCk} (hn : o_big ≤ n) (h_T0 : I_Tx T0) (l0 : 0 ≤ z.1) (l1 : I_Ck z.2) : o_ok (o_lp n (m_Ck_findCircle_b2 n T0 Mk) z) (fun q => q.1 ≠ 0 ∧ I_Ck q.2.2) := by
  exact o_lpR (fun z => 0 ≤ z.1 ∧ I_Ck z.2) (fun z => o_mu z.1) hn (o_muB) ⟨l0, l1⟩
    (fun z hz => by obtain ⟨l0, l1⟩ := hz; exact o_okW (s_Ck_findCircle_b2 hn h_T0 l0 l1) (fun q hq => ⟨fun h => by have := hq.1 h; grind, hq.2⟩))
theorem s_Ck_findCircle {n : Nat} {T0 : STx} {Mk : SMk} {Ck : SCk} (hn : o_big ≤ n) (h_T0 : I_Tx T0) (h_Ck : I_Ck Ck) : o_ok (m_Ck_findCircle n T0 Mk Ck) (fun r => I_Ck r) := by
  unfold m_Ck_findCircle
  refine o_okB (l_Ck_findCircle_b2  hn h_T0 (by first | with_reducible exact True.intro | with_reducible assumption | grind [-Prod] | grind [-Prod, → sc_Ck, → sc_Tx] | grind [-Prod, I_Ck, I_Tx, o_bn, upd]) h_Ck) ?_
  intro q4_1 ⟨yq4_1, g2⟩
  refine o_okS ?_
  exact g2
theorem s_Ck_inspect_b24 {n : Nat} {T0 : STx} {Lk : SLk} {z : Int32 × SPg × SPt × SMk × SCk} (hn : o_big ≤ n) (h_T0 : I_Tx T0) (h_Lk : I_Lk Lk) (l0 : 0 ≤ z.1) (l1 : I_Pg z.2.1) (l2 : I_Pt z.2.2.1) (l3 : I_Ck z.2.2.2.2) : o_ok (m_Ck_inspect_b24 n T0 Lk z) (fun q => (q.1 = 0 → 0 ≤ q.2.1 ∧ I_Pg q.2.2.1 ∧ I_Pt q.2.2.2.1 ∧ I_Ck q.2.2.2.2.2 ∧ o_mu q.2.1 < o_mu z.1) ∧ (q.1 ≠ 0 → I_Pg q.2.2.1 ∧ I_Pt q.2.2.2.1 ∧ I_Ck q.2.2.2.2.2)) := by
  unfold m_Ck_inspect_b24
  refine o_okB (s_Tx_total  h_T0) ?_
  intro q3_1 g2
  refine o_okI (fun c3 => ?_) (fun c3 => ?_)
  · refine o_okS ?_
    refine ⟨fun h => absurd (show (1 : Nat) = 0 from h) (by decide), fun _ => ?_⟩
    refine ⟨?_, ?_, ?_⟩
    · exact l1
    · exact l2
    · exact l3
  · refine o_okB (s_Mk_isSchema ) ?_
    intro q4_4 ⟨g5, g6⟩
    refine o_okI (fun c7 => ?_) (fun c7 => ?_)
    · refine o_okN (fun x1_51_8 ex1_51_8 => ?_)
      refine o_okS ?_
      refine ⟨fun _ => ?_, fun h => absurd rfl h⟩
      refine ⟨?_, ?_, ?_, ?_, ?_⟩
      · first | with_reducible exact True.intro | with_reducible assumption | grind [-Prod] | grind [-Prod, → sc_Ck, → sc_Lk, → sc_Pg, → sc_Pt, → sc_Tx] | grind [-Prod, I_Ck, I_Lk, I_Pg, I_Pt, I_Tx, o_bn, upd]
      · exact l1
      · exact l2
      · exact l3
      · first | exact o_muL (by first | with_reducible exact True.intro | with_reducible assumption | grind [-Prod] | grind [-Prod, → sc_Ck, → sc_Lk, → sc_Pg, → sc_Pt, → sc_Tx] | grind [-Prod, I_Ck, I_Lk, I_Pg, I_Pt, I_Tx, o_bn, upd]) | exact o_nuL (by first | with_reducible exact True.intro | with_reducible assumption | grind [-Prod] | grind [-Prod, → sc_Ck, → sc_Lk, → sc_Pg, → sc_Pt, → sc_Tx] | grind [-Prod, I_Ck, I_Lk, I_Pg, I_Pt, I_Tx, o_bn, upd]) | (first | with_reducible exact True.intro | with_reducible assumption | grind [-Prod] | grind [-Prod, → sc_Ck, → sc_Lk, → sc_Pg, → sc_Pt, → sc_Tx] | grind [-Prod, I_Ck, I_Lk, I_Pg, I_Pt, I_Tx, o_bn, upd])
    · refine o_okB (s_Ck_inspectSchema  hn h_T0 l1 l2 l3) ?_
      intro q5_9 ⟨g10, g11, g12⟩
      refine o_okN (fun x1_51_13 ex1_51_13 => ?_)
      refine o_okS ?_
      refine ⟨fun _ => ?_, fun h => absurd rfl h⟩
      refine ⟨?_, ?_, ?_, ?_, ?_⟩
      · first | with_reducible exact True.intro | with_reducible assumption | grind [-Prod] | grind [-Prod, → sc_Ck, → sc_Lk, → sc_Pg, → sc_Pt, → sc_Tx] | grind [-Prod, I_Ck, I_Lk, I_Pg, I_Pt, I_Tx, o_bn, upd]
      · exact g10
      · exact g11
      · exact g12
      · first | exact o_muL (by first | with_reducible exact True.intro | with_reducible assumption | grind [-Prod] | grind [-Prod, → sc_Ck, → sc_Lk, → sc_Pg, → sc_Pt, → sc_Tx] | grind [-Prod, I_Ck, I_Lk, I_Pg, I_Pt, I_Tx, o_bn, upd]) | exact o_nuL (by first | with_reducible exact True.intro | with_reducible assumption | grind [-Prod] | grind [-Prod, → sc_Ck, → sc_Lk, → sc_Pg, → sc_Pt, → sc_Tx] | grind [-Prod, I_Ck, I_Lk, I_Pg, I_Pt, I_Tx, o_bn, upd]) | (first | with_reducible exact True.intro | with_reducible assumption | grind [-Prod] | grind [-Prod, → sc_Ck, → sc_Lk, → sc_Pg, → sc_Pt, → sc_Tx] | grind [-Prod, I_Ck, I_Lk, I_Pg, I_Pt, I_Tx, o_bn, upd])
theorem l_Ck_inspect_b24 {n : Nat} {T0 : STx} {Lk : SLk} {z : Int32 × SPg × SPt × SMk × SCk} (hn : o_big ≤ n) (h_T0 : I_Tx T0) (h_Lk : I_Lk Lk) (l0 : 0 ≤ z.1) (l1 : I_Pg z.2.1) (l2 : I_Pt z.2.2.1) (l3 : I_Ck z.2.2.2.2) : o_ok (o_lp n (m_Ck_inspect_b24 n T0 Lk) z) (fun q => q.1 ≠ 0 ∧ I_Pg q.2.2.1 ∧ I_Pt q.2.2.2.1 ∧ I_Ck q.2.2.2.2.2) := by
  exact o_lpR (fun z => 0 ≤ z.1 ∧ I_Pg z.2.1 ∧ I_Pt z.2.2.1 ∧ I_Ck z.2.2.2.2) (fun z => o_mu z.1) hn (o_muB) ⟨l0, l1, l2, l3⟩
    (fun z hz => by obtain ⟨l0, l1, l2, l3⟩ := hz; exact o_okW (s_Ck_inspect_b24 hn h_T0 h_Lk l0 l1 l2 l3) (fun q hq => ⟨fun h => by have := hq.1 h; grind, hq.2⟩))
theorem s_Ck_inspect {n : Nat} {T0 : STx} {Pg : SPg} {Pt : SPt} {Mk : SMk} {Lk : SLk} {Ck : SCk} (hn : o_big ≤ n) (h_T0 : I_Tx T0) (h_Pg : I_Pg Pg) (h_Pt : I_Pt Pt) (h_Lk : I_Lk Lk) (h_Ck : I_Ck Ck) : o_ok (m_Ck_inspect n T0 Pg Pt Mk Lk Ck) (fun r => I_Pg r.2.1 ∧ I_Pt r.2.2.1 ∧ I_Lk r.2.2.2.2.1 ∧ I_Ck r.2.2.2.2.2) := by
  unfold m_Ck_inspect
  refine o_okB (s_Mk_clear  hn) ?_
  intro q1_1 _
  refine o_okB (s_Ck_takeSchema  h_T0 ⟨h_Ck.1, h_Ck.2⟩) ?_
  intro q2_2 g3
  refine o_okB (l_Ck_inspect_b24  hn h_T0 h_Lk (by first | with_reducible exact True.intro | with_reducible assumption | grind [-Prod] | grind [-Prod, → sc_Ck, → sc_Lk, → sc_Pg, → sc_Pt, → sc_Tx] | grind [-Prod, I_Ck, I_Lk, I_Pg, I_Pt, I_Tx, o_bn, upd]) h_Pg h_Pt g3) ?_
  intro q6_4 ⟨yq6_4, g5, g6, g7⟩
  refine o_okB (s_Ck_compareAnchors  hn h_T0 g7) ?_
  intro q7_8 g9
  refine o_okI (fun c10 => ?_) (fun c10 => ?_)
  · refine o_okB (s_Ck_followReferences  hn h_T0 h_Lk g9) ?_
    intro q9_11 ⟨g12, g13⟩
    unfold m_Ck_inspect_j72
    refine o_okI (fun c14 => ?_) (fun c14 => ?_)
    · refine o_okB (s_Ck_findCircle  hn h_T0 g13) ?_
      intro q8_15 g16
      refine o_okS ?_
      refine ⟨?_, ?_, ?_, ?_⟩
      · exact g5
      · exact g6
      · exact g12
      · exact g16
    · refine o_okS ?_
      refine ⟨?_, ?_, ?_, ?_⟩
      · exact g5
      · exact g6
      · exact g12
      · exact g13
  · unfold m_Ck_inspect_j72
    refine o_okI (fun c17 => ?_) (fun c17 => ?_)
    · refine o_okB (s_Ck_findCircle  hn h_T0 g9) ?_
      intro q8_18 g19
      refine o_okS ?_
      refine ⟨?_, ?_, ?_, ?_⟩
      · exact g5
      · exact g6
      · exact h_Lk
      · exact g19
    · refine o_okS ?_
      refine ⟨?_, ?_, ?_, ?_⟩
      · exact g5
      · exact g6
      · exact h_Lk
      · exact g9
theorem s_SJ_check {n : Nat} {T0 : STx} {Pg : SPg} {Pt : SPt} {Mk : SMk} {Lk : SLk} {Ck : SCk} (hn : o_big ≤ n) (h_T0 : I_Tx T0) (h_Pg : I_Pg Pg) (h_Pt : I_Pt Pt) (h_Lk : I_Lk Lk) (h_Ck : I_Ck Ck) : o_ok (m_SJ_check n T0 Pg Pt Mk Lk Ck) (fun r => I_Pg r.2.2.1 ∧ I_Pt r.2.2.2.1 ∧ I_Lk r.2.2.2.2.2.1 ∧ I_Ck r.2.2.2.2.2.2) := by
  unfold m_SJ_check
  refine o_okB (s_Tx_total  h_T0) ?_
  intro q1_1 g2
  refine o_okI (fun c3 => ?_) (fun c3 => ?_)
  · refine o_okS ?_
    refine ⟨?_, ?_, ?_, ?_⟩
    · exact h_Pg
    · exact h_Pt
    · exact h_Lk
    · exact h_Ck
  · refine o_okB (s_Ck_inspect  hn h_T0 h_Pg h_Pt h_Lk h_Ck) ?_
    intro q2_4 ⟨g5, g6, g7, g8⟩
    refine o_okS ?_
    refine ⟨?_, ?_, ?_, ?_⟩
    · exact g5
    · exact g6
    · exact g7
    · exact g8
theorem s_Ck_faultyValue {Ck : SCk} (h_Ck : I_Ck Ck) : o_ok (m_Ck_faultyValue Ck) (fun r => True) := by
  unfold m_Ck_faultyValue
  refine o_okS ?_
  trivial
theorem s_SJ_fault {Ck : SCk} (h_Ck : I_Ck Ck) : o_ok (m_SJ_fault Ck) (fun r => True) := by
  unfold m_SJ_fault
  refine o_okB (s_Ck_faultyValue  h_Ck) ?_
  intro q1_1 _
  refine o_okS ?_
  trivial
theorem s_Ck_passed {Ck : SCk} (h_Ck : I_Ck Ck) : o_ok (m_Ck_passed Ck) (fun r => (r = 0 ∨ r = 1)) := by
  unfold m_Ck_passed
  refine o_okI (fun c1 => ?_) (fun c1 => ?_)
  · refine o_okS ?_
    first | with_reducible exact True.intro | with_reducible assumption | grind [-Prod] | grind [-Prod, → sc_Ck] | grind [-Prod, I_Ck, o_bn, upd]
  · refine o_okS ?_
    first | with_reducible exact True.intro | with_reducible assumption | grind [-Prod] | grind [-Prod, → sc_Ck] | grind [-Prod, I_Ck, o_bn, upd]
theorem s_Pr_cut {x1 : Int32} {Pr : SPr} (h_Pr : I_Pr Pr) : o_ok (m_Pr_cut x1 Pr) (fun r => I_Pr r) := by
  unfold m_Pr_cut
  refine o_okI (fun c1 => ?_) (fun c1 => ?_)
  · refine o_okS ?_
    exact h_Pr
  · refine o_okI (fun c2 => ?_) (fun c2 => ?_)
    · refine o_okS ?_
      exact h_Pr
    · refine o_okS ?_
      exact ⟨(by first | with_reducible exact True.intro | with_reducible assumption | grind [-Prod] | grind [-Prod, → sc_Pr] | grind [-Prod, I_Pr, o_bn, upd]), (by first | with_reducible exact True.intro | with_reducible assumption | grind [-Prod] | grind [-Prod, → sc_Pr] | grind [-Prod, I_Pr, o_bn, upd])⟩
theorem s_Jd_begin {Pr : SPr} {Jd : SJd} (h_Pr : I_Pr Pr) (h_Jd : I_Jd Jd) : o_ok (m_Jd_begin Pr Jd) (fun r => I_Pr r.1 ∧ I_Jd r.2) := by
  unfold m_Jd_begin
  refine o_okB (s_Pr_cut  h_Pr) ?_
  intro q1_1 g2
  refine o_okS ?_
  refine ⟨?_, ?_⟩
  · exact g2
  · exact (by first | with_reducible exact True.intro | with_reducible assumption | grind [-Prod] | grind [-Prod, → sc_Jd, → sc_Pr] | grind [-Prod, I_Jd, I_Pr, o_bn, upd])
theorem s_Jd_enter {x1 : Int32} {Jd : SJd} (h_Jd : I_Jd Jd) : o_ok (m_Jd_enter x1 Jd) (fun r => (r.1 = 0 ∨ r.1 = 1) ∧ (r.1 ≠ 0 → 1 ≤ x1 ∧ x1 ≤ 100) ∧ I_Jd r.2) := by
  unfold m_Jd_enter
  refine o_okI (fun c1 => ?_) (fun c1 => ?_)
  · refine o_okS ?_
    refine ⟨?_, ?_, ?_⟩
    · first | with_reducible exact True.intro | with_reducible assumption | grind [-Prod] | grind [-Prod, → sc_Jd] | grind [-Prod, I_Jd, o_bn, upd]
    · first | with_reducible exact True.intro | with_reducible assumption | grind [-Prod] | grind [-Prod, → sc_Jd] | grind [-Prod, I_Jd, o_bn, upd]
    · exact (by first | with_reducible exact True.intro | with_reducible assumption | grind [-Prod] | grind [-Prod, → sc_Jd] | grind [-Prod, I_Jd, o_bn, upd])
  · refine o_okI (fun c2 => ?_) (fun c2 => ?_)
    · refine o_okS ?_
      refine ⟨?_, ?_, ?_⟩
      · first | with_reducible exact True.intro | with_reducible assumption | grind [-Prod] | grind [-Prod, → sc_Jd] | grind [-Prod, I_Jd, o_bn, upd]
      · first | with_reducible exact True.intro | with_reducible assumption | grind [-Prod] | grind [-Prod, → sc_Jd] | grind [-Prod, I_Jd, o_bn, upd]
      · exact (by first | with_reducible exact True.intro | with_reducible assumption | grind [-Prod] | grind [-Prod, → sc_Jd] | grind [-Prod, I_Jd, o_bn, upd])
    · refine o_okI (fun c3 => ?_) (fun c3 => ?_)
      · refine o_okG (o_inM (m := 102) rfl (by first | with_reducible exact True.intro | with_reducible assumption | grind [-Prod] | grind [-Prod, → sc_Jd] | grind [-Prod, I_Jd, o_bn, upd]) (by first | with_reducible exact True.intro | with_reducible assumption | grind [-Prod] | grind [-Prod, → sc_Jd] | grind [-Prod, I_Jd, o_bn, upd])) ?_
        refine o_okS ?_
        refine ⟨?_, ?_, ?_⟩
        · first | with_reducible exact True.intro | with_reducible assumption | grind [-Prod] | grind [-Prod, → sc_Jd] | grind [-Prod, I_Jd, o_bn, upd]
        · first | with_reducible exact True.intro | with_reducible assumption | grind [-Prod] | grind [-Prod, → sc_Jd] | grind [-Prod, I_Jd, o_bn, upd]
        · exact h_Jd
      · refine o_okS ?_
        refine ⟨?_, ?_, ?_⟩
        · first | with_reducible exact True.intro | with_reducible assumption | grind [-Prod] | grind [-Prod, → sc_Jd] | grind [-Prod, I_Jd, o_bn, upd]
        · first | with_reducible exact True.intro | with_reducible assumption | grind [-Prod] | grind [-Prod, → sc_Jd] | grind [-Prod, I_Jd, o_bn, upd]
        · exact (by first | with_reducible exact True.intro | with_reducible assumption | grind [-Prod] | grind [-Prod, → sc_Jd] | grind [-Prod, I_Jd, o_bn, upd])
theorem s_Pr_add_b13 {n : Nat} {x1 : Int32} {x2 : Int32} {Pr : SPr} {z : Int32} (hn : o_big ≤ n) (h_Pr : I_Pr Pr) (l0 : 0 ≤ z) : o_ok (m_Pr_add_b13 n x1 x2 Pr z) (fun q => (q.1 = 0 → 0 ≤ q.2 ∧ o_mu q.2 < o_mu z) ∧ (q.1 ≠ 0 → True)) := by
  unfold m_Pr_add_b13
  refine o_okI (fun c1 => ?_) (fun c1 => ?_)
  · refine o_okS ?_
    refine ⟨fun h => absurd (show (2 : Nat) = 0 from h) (by decide), fun _ => ?_⟩
    trivial
  · refine o_okG (o_inM (m := 300) rfl (by first | with_reducible exact True.intro | with_reducible assumption | grind [-Prod] | grind [-Prod, → sc_Pr] | grind [-Prod, I_Pr, o_bn, upd]) (by first | with_reducible exact True.intro | with_reducible assumption | grind [-Prod] | grind [-Prod, → sc_Pr] | grind [-Prod, I_Pr, o_bn, upd])) ?_
    refine o_okI (fun c2 => ?_) (fun c2 => ?_)
    · refine o_okG (o_inM (m := 300) rfl (by first | with_reducible exact True.intro | with_reducible assumption | grind [-Prod] | grind [-Prod, → sc_Pr] | grind [-Prod, I_Pr, o_bn, upd]) (by first | with_reducible exact True.intro | with_reducible assumption | grind [-Prod] | grind [-Prod, → sc_Pr] | grind [-Prod, I_Pr, o_bn, upd])) ?_
      refine o_okI (fun c3 => ?_) (fun c3 => ?_)
      · refine o_okS ?_
        refine ⟨fun h => absurd (show (1 : Nat) = 0 from h) (by decide), fun _ => ?_⟩
        trivial
      · refine o_okN (fun x3_42_4 ex3_42_4 => ?_)
        refine o_okS ?_
        refine ⟨fun _ => ?_, fun h => absurd rfl h⟩
        refine ⟨?_, ?_⟩
        · first | with_reducible exact True.intro | with_reducible assumption | grind [-Prod] | grind [-Prod, → sc_Pr] | grind [-Prod, I_Pr, o_bn, upd]
        · first | exact o_muL (by first | with_reducible exact True.intro | with_reducible assumption | grind [-Prod] | grind [-Prod, → sc_Pr] | grind [-Prod, I_Pr, o_bn, upd]) | exact o_nuL (by first | with_reducible exact True.intro | with_reducible assumption | grind [-Prod] | grind [-Prod, → sc_Pr] | grind [-Prod, I_Pr, o_bn, upd]) | (first | with_reducible exact True.intro | with_reducible assumption | grind [-Prod] | grind [-Prod, → sc_Pr] | grind [-Prod, I_Pr, o_bn, upd])
    · refine o_okN (fun x3_42_5 ex3_42_5 => ?_)
      refine o_okS ?_
      refine ⟨fun _ => ?_, fun h => absurd rfl h⟩
      refine ⟨?_, ?_⟩
      · first | with_reducible exact True.intro | with_reducible assumption | grind [-Prod] | grind [-Prod, → sc_Pr] | grind [-Prod, I_Pr, o_bn, upd]
      · first | exact o_muL (by first | with_reducible exact True.intro | with_reducible assumption | grind [-Prod] | grind [-Prod, → sc_Pr] | grind [-Prod, I_Pr, o_bn, upd]) | exact o_nuL (by first | with_reducible exact True.intro | with_reducible assumption | grind [-Prod] | grind [-Prod, → sc_Pr] | grind [-Prod, I_Pr, o_bn, upd]) | (first | with_reducible exact True.intro | with_reducible assumption | grind [-Prod] | grind [-Prod, → sc_Pr] | grind [-Prod, I_Pr, o_bn, upd])
theorem l_Pr_add_b13 {n : Nat} {x1 : Int32} {x2 : Int32} {Pr : SPr} {z : Int32} (hn : o_big ≤ n) (h_Pr : I_Pr Pr) (l0 : 0 ≤ z) : o_ok (o_lp n (m_Pr_add_b13 n x1 x2 Pr) z) (fun q => q.1 ≠ 0 ∧ True) := by
  exact o_lpR (fun z => 0 ≤ z) (fun z => o_mu z) hn (o_muB) l0
    (fun z hz => by have l0 := hz; exact o_okW (s_Pr_add_b13 hn h_Pr l0) (fun q hq => ⟨fun h => by have := hq.1 h; grind, hq.2⟩))
theorem s_Pr_add {n : Nat} {x1 : Int32} {x2 : Int32} {Pr : SPr} (hn : o_big ≤ n) (h_Pr : I_Pr Pr) : o_ok (m_Pr_add n x1 x2 Pr) (fun r => I_Pr r) := by
  unfold m_Pr_add
  refine o_okI (fun c1 => ?_) (fun c1 => ?_)
  · refine o_okB (l_Pr_add_b13  hn h_Pr (by first | with_reducible exact True.intro | with_reducible assumption | grind [-Prod] | grind [-Prod, → sc_Pr] | grind [-Prod, I_Pr, o_bn, upd])) ?_
    intro q1_2 ⟨yq1_2, _⟩
    refine o_okI (fun c3 => ?_) (fun c3 => ?_)
    · refine o_okS ?_
      exact h_Pr
    · refine o_okG (o_inM (m := 300) rfl (by first | with_reducible exact True.intro | with_reducible assumption | grind [-Prod] | grind [-Prod, → sc_Pr] | grind [-Prod, I_Pr, o_bn, upd]) (by first | with_reducible exact True.intro | with_reducible assumption | grind [-Prod] | grind [-Prod, → sc_Pr] | grind [-Prod, I_Pr, o_bn, upd])) ?_
      refine o_okG (o_inM (m := 300) rfl (by first | with_reducible exact True.intro | with_reducible assumption | grind [-Prod] | grind [-Prod, → sc_Pr] | grind [-Prod, I_Pr, o_bn, upd]) (by first | with_reducible exact True.intro | with_reducible assumption | grind [-Prod] | grind [-Prod, → sc_Pr] | grind [-Prod, I_Pr, o_bn, upd])) ?_
      refine o_okS ?_
      exact ⟨(by first | with_reducible exact True.intro | with_reducible assumption | grind [-Prod] | grind [-Prod, → sc_Pr] | grind [-Prod, I_Pr, o_bn, upd]), (by first | with_reducible exact True.intro | with_reducible assumption | grind [-Prod] | grind [-Prod, → sc_Pr] | grind [-Prod, I_Pr, o_bn, upd])⟩
  · refine o_okS ?_
    exact h_Pr
theorem s_Jd_tell {n : Nat} {x1 : Int32} {x2 : Int32} {Pr : SPr} {Jd : SJd} (hn : o_big ≤ n) (h_Pr : I_Pr Pr) (h_Jd : I_Jd Jd) : o_ok (m_Jd_tell n x1 x2 Pr Jd) (fun r => I_Pr r) := by
  unfold m_Jd_tell
  refine o_okI (fun c1 => ?_) (fun c1 => ?_)
  · refine o_okB (s_Pr_add  hn h_Pr) ?_
    intro q1_2 g3
    refine o_okS ?_
    exact g3
  · refine o_okS ?_
    exact h_Pr
theorem s_Kw_comesLast {x0 : Nat}  : o_ok (m_Kw_comesLast x0) (fun r => (r = 0 ∨ r = 1)) := by
  unfold m_Kw_comesLast
  refine o_okI (fun c1 => ?_) (fun c1 => ?_)
  · refine o_okS ?_
    first | with_reducible exact True.intro | with_reducible assumption | grind [-Prod] | grind [-Prod] | grind [-Prod, o_bn, upd]
  · refine o_okI (fun c2 => ?_) (fun c2 => ?_)
    · refine o_okS ?_
      first | with_reducible exact True.intro | with_reducible assumption | grind [-Prod] | grind [-Prod] | grind [-Prod, o_bn, upd]
    · refine o_okS ?_
      first | with_reducible exact True.intro | with_reducible assumption | grind [-Prod] | grind [-Prod] | grind [-Prod, o_bn, upd]
theorem s_Pr_size {Pr : SPr} (h_Pr : I_Pr Pr) : o_ok (m_Pr_size Pr) (fun r => True) := by
  unfold m_Pr_size
  refine o_okS ?_
  trivial
theorem s_Kw_isSilent {x0 : Nat}  : o_ok (m_Kw_isSilent x0) (fun r => (r = 0 ∨ r = 1)) := by
  unfold m_Kw_isSilent
  refine o_okI (fun c1 => ?_) (fun c1 => ?_)
  · refine o_okS ?_
    first | with_reducible exact True.intro | with_reducible assumption | grind [-Prod] | grind [-Prod] | grind [-Prod, o_bn, upd]
  · refine o_okI (fun c2 => ?_) (fun c2 => ?_)
    · refine o_okS ?_
      first | with_reducible exact True.intro | with_reducible assumption | grind [-Prod] | grind [-Prod] | grind [-Prod, o_bn, upd]
    · refine o_okI (fun c3 => ?_) (fun c3 => ?_)
      · refine o_okS ?_
        first | with_reducible exact True.intro | with_reducible assumption | grind [-Prod] | grind [-Prod] | grind [-Prod, o_bn, upd]
      · refine o_okS ?_
        first | with_reducible exact True.intro | with_reducible assumption | grind [-Prod] | grind [-Prod] | grind [-Prod, o_bn, upd]
theorem s_Mk_find_b12 {n : Nat} {x1 : Int32} {x2 : Nat} {T0 : STx} {Mk : SMk} {z : Int32 × Int32} (hn : o_big ≤ n) (h_T0 : I_Tx T0) (l0 : 0 ≤ z.2) : o_ok (m_Mk_find_b12 n x1 x2 T0 Mk z) (fun q => (q.1 = 0 → 0 ≤ q.2.2 ∧ o_mu q.2.2 < o_mu z.2) ∧ (q.1 ≠ 0 → True)) := by
  unfold m_Mk_find_b12
  refine o_okB (s_Tx_size  h_T0) ?_
  intro q2_1 g2
  refine o_okI (fun c3 => ?_) (fun c3 => ?_)
  · refine o_okS ?_
    refine ⟨fun h => absurd (show (2 : Nat) = 0 from h) (by decide), fun _ => ?_⟩
    trivial
  · refine o_okB (s_Mk_keyword ) ?_
    intro q3_4 g5
    refine o_okG (o_kbM (by first | with_reducible exact True.intro | with_reducible assumption | grind [-Prod] | grind [-Prod, → sc_Tx] | grind [-Prod, I_Tx, o_bn, upd])) ?_
    refine o_okI (fun c6 => ?_) (fun c6 => ?_)
    · refine o_okS ?_
      refine ⟨fun h => absurd (show (1 : Nat) = 0 from h) (by decide), fun _ => ?_⟩
      trivial
    · refine o_okB (s_Tx_nextChild  h_T0) ?_
      intro q4_7 _
      refine o_okN (fun x4_45_8 ex4_45_8 => ?_)
      refine o_okS ?_
      refine ⟨fun _ => ?_, fun h => absurd rfl h⟩
      refine ⟨?_, ?_⟩
      · first | with_reducible exact True.intro | with_reducible assumption | grind [-Prod] | grind [-Prod, → sc_Tx] | grind [-Prod, I_Tx, o_bn, upd]
      · first | exact o_muL (by first | with_reducible exact True.intro | with_reducible assumption | grind [-Prod] | grind [-Prod, → sc_Tx] | grind [-Prod, I_Tx, o_bn, upd]) | exact o_nuL (by first | with_reducible exact True.intro | with_reducible assumption | grind [-Prod] | grind [-Prod, → sc_Tx] | grind [-Prod, I_Tx, o_bn, upd]) | (first | with_reducible exact True.intro | with_reducible assumption | grind [-Prod] | grind [-Prod, → sc_Tx] | grind [-Prod, I_Tx, o_bn, upd])
theorem l_Mk_find_b12 {n : Nat} {x1 : Int32} {x2 : Nat} {T0 : STx} {Mk : SMk} {z : Int32 × Int32} (hn : o_big ≤ n) (h_T0 : I_Tx T0) (l0 : 0 ≤ z.2) : o_ok (o_lp n (m_Mk_find_b12 n x1 x2 T0 Mk) z) (fun q => q.1 ≠ 0 ∧ True) := by
  exact o_lpR (fun z => 0 ≤ z.2) (fun z => o_mu z.2) hn (o_muB) l0
    (fun z hz => by have l0 := hz; exact o_okW (s_Mk_find_b12 hn h_T0 l0) (fun q hq => ⟨fun h => by have := hq.1 h; grind, hq.2⟩))
theorem s_Mk_find {n : Nat} {x1 : Int32} {x2 : Nat} {T0 : STx} {Mk : SMk} (hn : o_big ≤ n) (h_T0 : I_Tx T0) : o_ok (m_Mk_find n x1 x2 T0 Mk) (fun r => True) := by
  unfold m_Mk_find
  refine o_okB (s_Tx_firstChild  h_T0) ?_
  intro q1_1 _
  refine o_okB (l_Mk_find_b12  hn h_T0 (by first | with_reducible exact True.intro | with_reducible assumption | grind [-Prod] | grind [-Prod, → sc_Tx] | grind [-Prod, I_Tx, o_bn, upd])) ?_
  intro q5_2 ⟨yq5_2, _⟩
  refine o_okI (fun c3 => ?_) (fun c3 => ?_)
  · refine o_okS ?_
    trivial
  · refine o_okS ?_
    trivial
theorem s_Pg_push {x1 : Int32} {x2 : Int32} {Pg : SPg} (h_Pg : I_Pg Pg) : o_ok (m_Pg_push x1 x2 Pg) (fun r => I_Pg r) := by
  unfold m_Pg_push
  refine o_okI (fun c1 => ?_) (fun c1 => ?_)
  · refine o_okS ?_
    exact h_Pg
  · refine o_okI (fun c2 => ?_) (fun c2 => ?_)
    · refine o_okS ?_
      exact h_Pg
    · refine o_okG (o_inM (m := 1300) rfl (by first | with_reducible exact True.intro | with_reducible assumption | grind [-Prod] | grind [-Prod, → sc_Pg] | grind [-Prod, I_Pg, o_bn, upd]) (by first | with_reducible exact True.intro | with_reducible assumption | grind [-Prod] | grind [-Prod, → sc_Pg] | grind [-Prod, I_Pg, o_bn, upd])) ?_
      refine o_okI (fun c3 => ?_) (fun c3 => ?_)
      · refine o_okS ?_
        exact h_Pg
      · refine o_okI (fun c4 => ?_) (fun c4 => ?_)
        · refine o_okS ?_
          exact h_Pg
        · refine o_okG (o_inM (m := 1300) rfl (by first | with_reducible exact True.intro | with_reducible assumption | grind [-Prod] | grind [-Prod, → sc_Pg] | grind [-Prod, I_Pg, o_bn, upd]) (by first | with_reducible exact True.intro | with_reducible assumption | grind [-Prod] | grind [-Prod, → sc_Pg] | grind [-Prod, I_Pg, o_bn, upd])) ?_
          refine o_okG (o_inM (m := 1300) rfl (by first | with_reducible exact True.intro | with_reducible assumption | grind [-Prod] | grind [-Prod, → sc_Pg] | grind [-Prod, I_Pg, o_bn, upd]) (by first | with_reducible exact True.intro | with_reducible assumption | grind [-Prod] | grind [-Prod, → sc_Pg] | grind [-Prod, I_Pg, o_bn, upd])) ?_
          refine o_okS ?_
          exact ⟨h_Pg.1, h_Pg.2.1, h_Pg.2.2.1, h_Pg.2.2.2.1, (by first | with_reducible exact True.intro | with_reducible assumption | grind [-Prod] | grind [-Prod, → sc_Pg] | grind [-Prod, I_Pg, o_bn, upd]), (by first | with_reducible exact True.intro | with_reducible assumption | grind [-Prod] | grind [-Prod, → sc_Pg] | grind [-Prod, I_Pg, o_bn, upd]), h_Pg.2.2.2.2.2.2.1, h_Pg.2.2.2.2.2.2.2.1, (o_bnU h_Pg.2.2.2.2.2.2.2.2.1 (by first | with_reducible exact True.intro | with_reducible assumption | grind [-Prod] | grind [-Prod, → sc_Pg] | grind [-Prod, I_Pg, o_bn, upd]) (by first | with_reducible exact True.intro | with_reducible assumption | grind [-Prod] | grind [-Prod, → sc_Pg] | grind [-Prod, I_Pg, o_bn, upd])), h_Pg.2.2.2.2.2.2.2.2.2.1, h_Pg.2.2.2.2.2.2.2.2.2.2⟩
set_option maxHeartbeats 8000000 in
theorem s_Pg_follow_b7 {n : Nat} {x1 : Int32} {x2 : Int32} {x3 : Int32} {z : Int32 × SPg} (hn : o_big ≤ n) (l0 : 0 ≤ z.1) (l1 : I_Pg z.2) : o_ok (m_Pg_follow_b7 n x1 x2 x3 z) (fun q => (q.1 = 0 → 0 ≤ q.2.1 ∧ I_Pg q.2.2 ∧ o_mu q.2.1 < o_mu z.1) ∧ (q.1 ≠ 0 → I_Pg q.2.2)) := by
  unfold m_Pg_follow_b7
  refine o_okI (fun c1 => ?_) (fun c1 => ?_)
  · refine o_okS ?_
    refine ⟨fun h => absurd (show (2 : Nat) = 0 from h) (by decide), fun _ => ?_⟩
    exact l1
  · refine o_okI (fun c2 => ?_) (fun c2 => ?_)
    · refine o_okS ?_
      refine ⟨fun h => absurd (show (2 : Nat) = 0 from h) (by decide), fun _ => ?_⟩
      exact l1
    · refine o_okG (o_inM (m := 1300) rfl (by first | with_reducible exact True.intro | with_reducible assumption | grind [-Prod] | grind [-Prod, → sc_Pg] | grind [-Prod, I_Pg, o_bn, upd]) (by first | with_reducible exact True.intro | with_reducible assumption | grind [-Prod] | grind [-Prod, → sc_Pg] | grind [-Prod, I_Pg, o_bn, upd])) ?_
      refine o_okN (fun x5_41_3 ex5_41_3 => ?_)
      refine o_okG (o_inM (m := 1300) rfl (by first | with_reducible exact True.intro | with_reducible assumption | grind [-Prod] | grind [-Prod, → sc_Pg] | grind [-Prod, I_Pg, o_bn, upd]) (by first | with_reducible exact True.intro | with_reducible assumption | grind [-Prod] | grind [-Prod, → sc_Pg] | grind [-Prod, I_Pg, o_bn, upd])) ?_
      refine o_okN (fun w50_4 ew50_4 => ?_)
      refine o_okI (fun c5 => ?_) (fun c5 => ?_)
      · refine o_okI (fun c6 => ?_) (fun c6 => ?_)
        · unfold m_Pg_follow_j144
          refine o_okB (s_Pg_push  ⟨l1.1, l1.2.1, l1.2.2.1, l1.2.2.2.1, (by first | with_reducible exact True.intro | with_reducible assumption | grind [-Prod] | grind [-Prod, → sc_Pg] | grind [-Prod, I_Pg, o_bn, upd]), (by first | with_reducible exact True.intro | with_reducible assumption | grind [-Prod] | grind [-Prod, → sc_Pg] | grind [-Prod, I_Pg, o_bn, upd]), l1.2.2.2.2.2.2.1, l1.2.2.2.2.2.2.2.1, l1.2.2.2.2.2.2.2.2.1, l1.2.2.2.2.2.2.2.2.2.1, l1.2.2.2.2.2.2.2.2.2.2⟩) ?_
          intro q1_7 g8
          refine o_okN (fun x4_205_9 ex4_205_9 => ?_)
          refine o_okS ?_
          refine ⟨fun _ => ?_, fun h => absurd rfl h⟩
          refine ⟨?_, ?_, ?_⟩
          · first | with_reducible exact True.intro | with_reducible assumption | grind [-Prod] | grind [-Prod, → sc_Pg] | grind [-Prod, I_Pg, o_bn, upd]
          · exact g8
          · first | exact o_muL (by first | with_reducible exact True.intro | with_reducible assumption | grind [-Prod] | grind [-Prod, → sc_Pg] | grind [-Prod, I_Pg, o_bn, upd]) | exact o_nuL (by first | with_reducible exact True.intro | with_reducible assumption | grind [-Prod] | grind [-Prod, → sc_Pg] | grind [-Prod, I_Pg, o_bn, upd]) | (first | with_reducible exact True.intro | with_reducible assumption | grind [-Prod] | grind [-Prod, → sc_Pg] | grind [-Prod, I_Pg, o_bn, upd])
        · unfold m_Pg_follow_j144
          refine o_okB (s_Pg_push  ⟨l1.1, l1.2.1, l1.2.2.1, l1.2.2.2.1, (by first | with_reducible exact True.intro | with_reducible assumption | grind [-Prod] | grind [-Prod, → sc_Pg] | grind [-Prod, I_Pg, o_bn, upd]), (by first | with_reducible exact True.intro | with_reducible assumption | grind [-Prod] | grind [-Prod, → sc_Pg] | grind [-Prod, I_Pg, o_bn, upd]), l1.2.2.2.2.2.2.1, l1.2.2.2.2.2.2.2.1, l1.2.2.2.2.2.2.2.2.1, l1.2.2.2.2.2.2.2.2.2.1, l1.2.2.2.2.2.2.2.2.2.2⟩) ?_
          intro q1_10 g11
          refine o_okN (fun x4_205_12 ex4_205_12 => ?_)
          refine o_okS ?_
          refine ⟨fun _ => ?_, fun h => absurd rfl h⟩
          refine ⟨?_, ?_, ?_⟩
          · first | with_reducible exact True.intro | with_reducible assumption | grind [-Prod] | grind [-Prod, → sc_Pg] | grind [-Prod, I_Pg, o_bn, upd]
          · exact g11
          · first | exact o_muL (by first | with_reducible exact True.intro | with_reducible assumption | grind [-Prod] | grind [-Prod, → sc_Pg] | grind [-Prod, I_Pg, o_bn, upd]) | exact o_nuL (by first | with_reducible exact True.intro | with_reducible assumption | grind [-Prod] | grind [-Prod, → sc_Pg] | grind [-Prod, I_Pg, o_bn, upd]) | (first | with_reducible exact True.intro | with_reducible assumption | grind [-Prod] | grind [-Prod, → sc_Pg] | grind [-Prod, I_Pg, o_bn, upd])
      · refine o_okI (fun c13 => ?_) (fun c13 => ?_)
        · refine o_okI (fun c14 => ?_) (fun c14 => ?_)
          · unfold m_Pg_follow_j165
            refine o_okB (s_Pg_push  ⟨l1.1, l1.2.1, l1.2.2.1, l1.2.2.2.1, (by first | with_reducible exact True.intro | with_reducible assumption | grind [-Prod] | grind [-Prod, → sc_Pg] | grind [-Prod, I_Pg, o_bn, upd]), (by first | with_reducible exact True.intro | with_reducible assumption | grind [-Prod] | grind [-Prod, → sc_Pg] | grind [-Prod, I_Pg, o_bn, upd]), l1.2.2.2.2.2.2.1, l1.2.2.2.2.2.2.2.1, l1.2.2.2.2.2.2.2.2.1, l1.2.2.2.2.2.2.2.2.2.1, l1.2.2.2.2.2.2.2.2.2.2⟩) ?_
            intro q2_15 g16
            refine o_okN (fun x4_205_17 ex4_205_17 => ?_)
            refine o_okS ?_
            refine ⟨fun _ => ?_, fun h => absurd rfl h⟩
            refine ⟨?_, ?_, ?_⟩
            · first | with_reducible exact True.intro | with_reducible assumption | grind [-Prod] | grind [-Prod, → sc_Pg] | grind [-Prod, I_Pg, o_bn, upd]
            · exact g16
            · first | exact o_muL (by first | with_reducible exact True.intro | with_reducible assumption | grind [-Prod] | grind [-Prod, → sc_Pg] | grind [-Prod, I_Pg, o_bn, upd]) | exact o_nuL (by first | with_reducible exact True.intro | with_reducible assumption | grind [-Prod] | grind [-Prod, → sc_Pg] | grind [-Prod, I_Pg, o_bn, upd]) | (first | with_reducible exact True.intro | with_reducible assumption | grind [-Prod] | grind [-Prod, → sc_Pg] | grind [-Prod, I_Pg, o_bn, upd])
          · unfold m_Pg_follow_j165
            refine o_okB (s_Pg_push  ⟨l1.1, l1.2.1, l1.2.2.1, l1.2.2.2.1, (by first | with_reducible exact True.intro | with_reducible assumption | grind [-Prod] | grind [-Prod, → sc_Pg] | grind [-Prod, I_Pg, o_bn, upd]), (by first | with_reducible exact True.intro | with_reducible assumption | grind [-Prod] | grind [-Prod, → sc_Pg] | grind [-Prod, I_Pg, o_bn, upd]), l1.2.2.2.2.2.2.1, l1.2.2.2.2.2.2.2.1, l1.2.2.2.2.2.2.2.2.1, l1.2.2.2.2.2.2.2.2.2.1, l1.2.2.2.2.2.2.2.2.2.2⟩) ?_
            intro q2_18 g19
            refine o_okN (fun x4_205_20 ex4_205_20 => ?_)
            refine o_okS ?_
            refine ⟨fun _ => ?_, fun h => absurd rfl h⟩
            refine ⟨?_, ?_, ?_⟩
            · first | with_reducible exact True.intro | with_reducible assumption | grind [-Prod] | grind [-Prod, → sc_Pg] | grind [-Prod, I_Pg, o_bn, upd]
            · exact g19
            · first | exact o_muL (by first | with_reducible exact True.intro | with_reducible assumption | grind [-Prod] | grind [-Prod, → sc_Pg] | grind [-Prod, I_Pg, o_bn, upd]) | exact o_nuL (by first | with_reducible exact True.intro | with_reducible assumption | grind [-Prod] | grind [-Prod, → sc_Pg] | grind [-Prod, I_Pg, o_bn, upd]) | (first | with_reducible exact True.intro | with_reducible assumption | grind [-Prod] | grind [-Prod, → sc_Pg] | grind [-Prod, I_Pg, o_bn, upd])
        · refine o_okI (fun c21 => ?_) (fun c21 => ?_)
          · refine o_okB (s_Pg_push  ⟨l1.1, l1.2.1, l1.2.2.1, l1.2.2.2.1, (by first | with_reducible exact True.intro | with_reducible assumption | grind [-Prod] | grind [-Prod, → sc_Pg] | grind [-Prod, I_Pg, o_bn, upd]), (by first | with_reducible exact True.intro | with_reducible assumption | grind [-Prod] | grind [-Prod, → sc_Pg] | grind [-Prod, I_Pg, o_bn, upd]), l1.2.2.2.2.2.2.1, l1.2.2.2.2.2.2.2.1, l1.2.2.2.2.2.2.2.2.1, l1.2.2.2.2.2.2.2.2.2.1, l1.2.2.2.2.2.2.2.2.2.2⟩) ?_
            intro q3_22 g23
            refine o_okG (o_inM (m := 1300) rfl (by first | with_reducible exact True.intro | with_reducible assumption | grind [-Prod] | grind [-Prod, → sc_Pg] | grind [-Prod, I_Pg, o_bn, upd]) (by first | with_reducible exact True.intro | with_reducible assumption | grind [-Prod] | grind [-Prod, → sc_Pg] | grind [-Prod, I_Pg, o_bn, upd])) ?_
            refine o_okB (s_Pg_push  g23) ?_
            intro q4_24 g25
            refine o_okN (fun x4_205_26 ex4_205_26 => ?_)
            refine o_okS ?_
            refine ⟨fun _ => ?_, fun h => absurd rfl h⟩
            refine ⟨?_, ?_, ?_⟩
            · first | with_reducible exact True.intro | with_reducible assumption | grind [-Prod] | grind [-Prod, → sc_Pg] | grind [-Prod, I_Pg, o_bn, upd]
            · exact g25
            · first | exact o_muL (by first | with_reducible exact True.intro | with_reducible assumption | grind [-Prod] | grind [-Prod, → sc_Pg] | grind [-Prod, I_Pg, o_bn, upd]) | exact o_nuL (by first | with_reducible exact True.intro | with_reducible assumption | grind [-Prod] | grind [-Prod, → sc_Pg] | grind [-Prod, I_Pg, o_bn, upd]) | (first | with_reducible exact True.intro | with_reducible assumption | grind [-Prod] | grind [-Prod, → sc_Pg] | grind [-Prod, I_Pg, o_bn, upd])
          · refine o_okI (fun c27 => ?_) (fun c27 => ?_)
            · refine o_okG (o_inM (m := 1300) rfl (by first | with_reducible exact True.intro | with_reducible assumption | grind [-Prod] | grind [-Prod, → sc_Pg] | grind [-Prod, I_Pg, o_bn, upd]) (by first | with_reducible exact True.intro | with_reducible assumption | grind [-Prod] | grind [-Prod, → sc_Pg] | grind [-Prod, I_Pg, o_bn, upd])) ?_
              refine o_okB (s_Pg_push  ⟨l1.1, l1.2.1, l1.2.2.1, l1.2.2.2.1, (by first | with_reducible exact True.intro | with_reducible assumption | grind [-Prod] | grind [-Prod, → sc_Pg] | grind [-Prod, I_Pg, o_bn, upd]), (by first | with_reducible exact True.intro | with_reducible assumption | grind [-Prod] | grind [-Prod, → sc_Pg] | grind [-Prod, I_Pg, o_bn, upd]), l1.2.2.2.2.2.2.1, l1.2.2.2.2.2.2.2.1, l1.2.2.2.2.2.2.2.2.1, l1.2.2.2.2.2.2.2.2.2.1, l1.2.2.2.2.2.2.2.2.2.2⟩) ?_
              intro q5_28 g29
              refine o_okN (fun x4_205_30 ex4_205_30 => ?_)
              refine o_okS ?_
              refine ⟨fun _ => ?_, fun h => absurd rfl h⟩
              refine ⟨?_, ?_, ?_⟩
              · first | with_reducible exact True.intro | with_reducible assumption | grind [-Prod] | grind [-Prod, → sc_Pg] | grind [-Prod, I_Pg, o_bn, upd]
              · exact g29
              · first | exact o_muL (by first | with_reducible exact True.intro | with_reducible assumption | grind [-Prod] | grind [-Prod, → sc_Pg] | grind [-Prod, I_Pg, o_bn, upd]) | exact o_nuL (by first | with_reducible exact True.intro | with_reducible assumption | grind [-Prod] | grind [-Prod, → sc_Pg] | grind [-Prod, I_Pg, o_bn, upd]) | (first | with_reducible exact True.intro | with_reducible assumption | grind [-Prod] | grind [-Prod, → sc_Pg] | grind [-Prod, I_Pg, o_bn, upd])
            · refine o_okI (fun c31 => ?_) (fun c31 => ?_)
              · refine o_okS ?_
                refine ⟨fun h => absurd (show (1 : Nat) = 0 from h) (by decide), fun _ => ?_⟩
                exact ⟨l1.1, l1.2.1, l1.2.2.1, l1.2.2.2.1, (by first | with_reducible exact True.intro | with_reducible assumption | grind [-Prod] | grind [-Prod, → sc_Pg] | grind [-Prod, I_Pg, o_bn, upd]), (by first | with_reducible exact True.intro | with_reducible assumption | grind [-Prod] | grind [-Prod, → sc_Pg] | grind [-Prod, I_Pg, o_bn, upd]), l1.2.2.2.2.2.2.1, l1.2.2.2.2.2.2.2.1, l1.2.2.2.2.2.2.2.2.1, l1.2.2.2.2.2.2.2.2.2.1, l1.2.2.2.2.2.2.2.2.2.2⟩
              · refine o_okI (fun c32 => ?_) (fun c32 => ?_)
                · refine o_okN (fun x4_205_33 ex4_205_33 => ?_)
                  refine o_okS ?_
                  refine ⟨fun _ => ?_, fun h => absurd rfl h⟩
                  refine ⟨?_, ?_, ?_⟩
                  · first | with_reducible exact True.intro | with_reducible assumption | grind [-Prod] | grind [-Prod, → sc_Pg] | grind [-Prod, I_Pg, o_bn, upd]
                  · exact ⟨l1.1, l1.2.1, l1.2.2.1, l1.2.2.2.1, (by first | with_reducible exact True.intro | with_reducible assumption | grind [-Prod] | grind [-Prod, → sc_Pg] | grind [-Prod, I_Pg, o_bn, upd]), (by first | with_reducible exact True.intro | with_reducible assumption | grind [-Prod] | grind [-Prod, → sc_Pg] | grind [-Prod, I_Pg, o_bn, upd]), l1.2.2.2.2.2.2.1, l1.2.2.2.2.2.2.2.1, l1.2.2.2.2.2.2.2.2.1, l1.2.2.2.2.2.2.2.2.2.1, l1.2.2.2.2.2.2.2.2.2.2⟩
                  · first | exact o_muL (by first | with_reducible exact True.intro | with_reducible assumption | grind [-Prod] | grind [-Prod, → sc_Pg] | grind [-Prod, I_Pg, o_bn, upd]) | exact o_nuL (by first | with_reducible exact True.intro | with_reducible assumption | grind [-Prod] | grind [-Prod, → sc_Pg] | grind [-Prod, I_Pg, o_bn, upd]) | (first | with_reducible exact True.intro | with_reducible assumption | grind [-Prod] | grind [-Prod, → sc_Pg] | grind [-Prod, I_Pg, o_bn, upd])
                · refine o_okG (o_inM (m := 1300) rfl (by first | with_reducible exact True.intro | with_reducible assumption | grind [-Prod] | grind [-Prod, → sc_Pg] | grind [-Prod, I_Pg, o_bn, upd]) (by first | with_reducible exact True.intro | with_reducible assumption | grind [-Prod] | grind [-Prod, → sc_Pg] | grind [-Prod, I_Pg, o_bn, upd])) ?_
                  refine o_okN (fun x4_205_34 ex4_205_34 => ?_)
                  refine o_okS ?_
                  refine ⟨fun _ => ?_, fun h => absurd rfl h⟩
                  refine ⟨?_, ?_, ?_⟩
                  · first | with_reducible exact True.intro | with_reducible assumption | grind [-Prod] | grind [-Prod, → sc_Pg] | grind [-Prod, I_Pg, o_bn, upd]
                  · exact ⟨l1.1, l1.2.1, l1.2.2.1, l1.2.2.2.1, (by first | with_reducible exact True.intro | with_reducible assumption | grind [-Prod] | grind [-Prod, → sc_Pg] | grind [-Prod, I_Pg, o_bn, upd]), (by first | with_reducible exact True.intro | with_reducible assumption | grind [-Prod] | grind [-Prod, → sc_Pg] | grind [-Prod, I_Pg, o_bn, upd]), (by first | with_reducible exact True.intro | with_reducible assumption | grind [-Prod] | grind [-Prod, → sc_Pg] | grind [-Prod, I_Pg, o_bn, upd]), (by first | with_reducible exact True.intro | with_reducible assumption | grind [-Prod] | grind [-Prod, → sc_Pg] | grind [-Prod, I_Pg, o_bn, upd]), l1.2.2.2.2.2.2.2.2.1, l1.2.2.2.2.2.2.2.2.2.1, l1.2.2.2.2.2.2.2.2.2.2⟩
                  · first | exact o_muL (by first | with_reducible exact True.intro | with_reducible assumption | grind [-Prod] | grind [-Prod, → sc_Pg] | grind [-Prod, I_Pg, o_bn, upd]) | exact o_nuL (by first | with_reducible exact True.intro | with_reducible assumption | grind [-Prod] | grind [-Prod, → sc_Pg] | grind [-Prod, I_Pg, o_bn, upd]) | (first | with_reducible exact True.intro | with_reducible assumption | grind [-Prod] | grind [-Prod, → sc_Pg] | grind [-Prod, I_Pg, o_bn, upd])
theorem l_Pg_follow_b7 {n : Nat} {x1 : Int32} {x2 : Int32} {x3 : Int32} {z : Int32 × SPg} (hn : o_big ≤ n) (l0 : 0 ≤ z.1) (l1 : I_Pg z.2) : o_ok (o_lp n (m_Pg_follow_b7 n x1 x2 x3) z) (fun q => q.1 ≠ 0 ∧ I_Pg q.2.2) := by
  exact o_lpR (fun z => 0 ≤ z.1 ∧ I_Pg z.2) (fun z => o_mu z.1) hn (o_muB) ⟨l0, l1⟩
    (fun z hz => by obtain ⟨l0, l1⟩ := hz; exact o_okW (s_Pg_follow_b7 hn l0 l1) (fun q hq => ⟨fun h => by have := hq.1 h; grind, hq.2⟩))
theorem s_Pg_follow {n : Nat} {x1 : Int32} {x2 : Int32} {Pg : SPg} (hn : o_big ≤ n) (h_Pg : I_Pg Pg) : o_ok (m_Pg_follow n x1 x2 Pg) (fun r => (r.1 = 0 ∨ r.1 = 1) ∧ I_Pg r.2) := by
  unfold m_Pg_follow
  refine o_okN (fun x3_3_1 ex3_3_1 => ?_)
  refine o_okB (l_Pg_follow_b7  hn (by first | with_reducible exact True.intro | with_reducible assumption | grind [-Prod] | grind [-Prod, → sc_Pg] | grind [-Prod, I_Pg, o_bn, upd]) h_Pg) ?_
  intro q6_2 ⟨yq6_2, g3⟩
  refine o_okI (fun c4 => ?_) (fun c4 => ?_)
  · refine o_okS ?_
    refine ⟨?_, ?_⟩
    · first | with_reducible exact True.intro | with_reducible assumption | grind [-Prod] | grind [-Prod, → sc_Pg] | grind [-Prod, I_Pg, o_bn, upd]
    · exact g3
  · refine o_okS ?_
    refine ⟨?_, ?_⟩
    · first | with_reducible exact True.intro | with_reducible assumption | grind [-Prod] | grind [-Prod, → sc_Pg] | grind [-Prod, I_Pg, o_bn, upd]
    · exact g3
set_option maxHeartbeats 8000000 in
theorem s_Pg_inClasses_j150 {x0 : Int32} {x2 : Int32} {x3 : Int32} {y0 : Int32}  : o_ok (m_Pg_inClasses_j150 x0 x2 x3 y0) (fun r => (r = 0 ∨ r = 1)) := by
  unfold m_Pg_inClasses_j150
  refine o_okI (fun c1 => ?_) (fun c1 => ?_)
  · unfold m_Pg_inClasses_j162
    refine o_okI (fun c2 => ?_) (fun c2 => ?_)
    · refine o_okI (fun c3 => ?_) (fun c3 => ?_)
      · unfold m_Pg_inClasses_j177
        refine o_okI (fun c4 => ?_) (fun c4 => ?_)
        · refine o_okI (fun c5 => ?_) (fun c5 => ?_)
          · unfold m_Pg_inClasses_j194
            refine o_okI (fun c6 => ?_) (fun c6 => ?_)
            · refine o_okS ?_
              first | with_reducible exact True.intro | with_reducible assumption | grind [-Prod] | grind [-Prod] | grind [-Prod, o_bn, upd]
            · refine o_okS ?_
              first | with_reducible exact True.intro | with_reducible assumption | grind [-Prod] | grind [-Prod] | grind [-Prod, o_bn, upd]
          · unfold m_Pg_inClasses_j194
            refine o_okI (fun c7 => ?_) (fun c7 => ?_)
            · refine o_okS ?_
              first | with_reducible exact True.intro | with_reducible assumption | grind [-Prod] | grind [-Prod] | grind [-Prod, o_bn, upd]
            · refine o_okS ?_
              first | with_reducible exact True.intro | with_reducible assumption | grind [-Prod] | grind [-Prod] | grind [-Prod, o_bn, upd]
        · refine o_okS ?_
          first | with_reducible exact True.intro | with_reducible assumption | grind [-Prod] | grind [-Prod] | grind [-Prod, o_bn, upd]
      · unfold m_Pg_inClasses_j177
        refine o_okI (fun c8 => ?_) (fun c8 => ?_)
        · refine o_okI (fun c9 => ?_) (fun c9 => ?_)
          · unfold m_Pg_inClasses_j194
            refine o_okI (fun c10 => ?_) (fun c10 => ?_)
            · refine o_okS ?_
              first | with_reducible exact True.intro | with_reducible assumption | grind [-Prod] | grind [-Prod] | grind [-Prod, o_bn, upd]
            · refine o_okS ?_
              first | with_reducible exact True.intro | with_reducible assumption | grind [-Prod] | grind [-Prod] | grind [-Prod, o_bn, upd]
          · unfold m_Pg_inClasses_j194
            refine o_okI (fun c11 => ?_) (fun c11 => ?_)
            · refine o_okS ?_
              first | with_reducible exact True.intro | with_reducible assumption | grind [-Prod] | grind [-Prod] | grind [-Prod, o_bn, upd]
            · refine o_okS ?_
              first | with_reducible exact True.intro | with_reducible assumption | grind [-Prod] | grind [-Prod] | grind [-Prod, o_bn, upd]
        · refine o_okS ?_
          first | with_reducible exact True.intro | with_reducible assumption | grind [-Prod] | grind [-Prod] | grind [-Prod, o_bn, upd]
    · refine o_okS ?_
      first | with_reducible exact True.intro | with_reducible assumption | grind [-Prod] | grind [-Prod] | grind [-Prod, o_bn, upd]
  · unfold m_Pg_inClasses_j162
    refine o_okI (fun c12 => ?_) (fun c12 => ?_)
    · refine o_okI (fun c13 => ?_) (fun c13 => ?_)
      · unfold m_Pg_inClasses_j177
        refine o_okI (fun c14 => ?_) (fun c14 => ?_)
        · refine o_okI (fun c15 => ?_) (fun c15 => ?_)
          · unfold m_Pg_inClasses_j194
            refine o_okI (fun c16 => ?_) (fun c16 => ?_)
            · refine o_okS ?_
              first | with_reducible exact True.intro | with_reducible assumption | grind [-Prod] | grind [-Prod] | grind [-Prod, o_bn, upd]
            · refine o_okS ?_
              first | with_reducible exact True.intro | with_reducible assumption | grind [-Prod] | grind [-Prod] | grind [-Prod, o_bn, upd]
          · unfold m_Pg_inClasses_j194
            refine o_okI (fun c17 => ?_) (fun c17 => ?_)
            · refine o_okS ?_
              first | with_reducible exact True.intro | with_reducible assumption | grind [-Prod] | grind [-Prod] | grind [-Prod, o_bn, upd]
            · refine o_okS ?_
              first | with_reducible exact True.intro | with_reducible assumption | grind [-Prod] | grind [-Prod] | grind [-Prod, o_bn, upd]
        · refine o_okS ?_
          first | with_reducible exact True.intro | with_reducible assumption | grind [-Prod] | grind [-Prod] | grind [-Prod, o_bn, upd]
      · unfold m_Pg_inClasses_j177
        refine o_okI (fun c18 => ?_) (fun c18 => ?_)
        · refine o_okI (fun c19 => ?_) (fun c19 => ?_)
          · unfold m_Pg_inClasses_j194
            refine o_okI (fun c20 => ?_) (fun c20 => ?_)
            · refine o_okS ?_
              first | with_reducible exact True.intro | with_reducible assumption | grind [-Prod] | grind [-Prod] | grind [-Prod, o_bn, upd]
            · refine o_okS ?_
              first | with_reducible exact True.intro | with_reducible assumption | grind [-Prod] | grind [-Prod] | grind [-Prod, o_bn, upd]
          · unfold m_Pg_inClasses_j194
            refine o_okI (fun c21 => ?_) (fun c21 => ?_)
            · refine o_okS ?_
              first | with_reducible exact True.intro | with_reducible assumption | grind [-Prod] | grind [-Prod] | grind [-Prod, o_bn, upd]
            · refine o_okS ?_
              first | with_reducible exact True.intro | with_reducible assumption | grind [-Prod] | grind [-Prod] | grind [-Prod, o_bn, upd]
        · refine o_okS ?_
          first | with_reducible exact True.intro | with_reducible assumption | grind [-Prod] | grind [-Prod] | grind [-Prod, o_bn, upd]
    · refine o_okS ?_
      first | with_reducible exact True.intro | with_reducible assumption | grind [-Prod] | grind [-Prod] | grind [-Prod, o_bn, upd]
theorem s_Pg_inClasses_j70 {x0 : Int32} {x1 : Int32} {x2 : Int32} {x3 : Int32}  : o_ok (m_Pg_inClasses_j70 x0 x1 x2 x3) (fun r => (r = 0 ∨ r = 1)) := by
  unfold m_Pg_inClasses_j70
  refine o_okI (fun c1 => ?_) (fun c1 => ?_)
  · refine o_okW (s_Pg_inClasses_j150 ) (fun r hr => ?_)
    first | exact hr | (first | with_reducible exact True.intro | with_reducible assumption | grind [-Prod] | grind [-Prod] | grind [-Prod, o_bn, upd])
  · refine o_okI (fun c2 => ?_) (fun c2 => ?_)
    · refine o_okW (s_Pg_inClasses_j150 ) (fun r hr => ?_)
      first | exact hr | (first | with_reducible exact True.intro | with_reducible assumption | grind [-Prod] | grind [-Prod] | grind [-Prod, o_bn, upd])
    · refine o_okI (fun c3 => ?_) (fun c3 => ?_)
      · refine o_okW (s_Pg_inClasses_j150 ) (fun r hr => ?_)
        first | exact hr | (first | with_reducible exact True.intro | with_reducible assumption | grind [-Prod] | grind [-Prod] | grind [-Prod, o_bn, upd])
      · refine o_okI (fun c4 => ?_) (fun c4 => ?_)
        · unfold m_Pg_inClasses_j104
          refine o_okI (fun c5 => ?_) (fun c5 => ?_)
          · refine o_okW (s_Pg_inClasses_j150 ) (fun r hr => ?_)
            first | exact hr | (first | with_reducible exact True.intro | with_reducible assumption | grind [-Prod] | grind [-Prod] | grind [-Prod, o_bn, upd])
          · refine o_okI (fun c6 => ?_) (fun c6 => ?_)
            · refine o_okW (s_Pg_inClasses_j150 ) (fun r hr => ?_)
              first | exact hr | (first | with_reducible exact True.intro | with_reducible assumption | grind [-Prod] | grind [-Prod] | grind [-Prod, o_bn, upd])
            · refine o_okI (fun c7 => ?_) (fun c7 => ?_)
              · refine o_okW (s_Pg_inClasses_j150 ) (fun r hr => ?_)
                first | exact hr | (first | with_reducible exact True.intro | with_reducible assumption | grind [-Prod] | grind [-Prod] | grind [-Prod, o_bn, upd])
              · refine o_okI (fun c8 => ?_) (fun c8 => ?_)
                · refine o_okW (s_Pg_inClasses_j150 ) (fun r hr => ?_)
                  first | exact hr | (first | with_reducible exact True.intro | with_reducible assumption | grind [-Prod] | grind [-Prod] | grind [-Prod, o_bn, upd])
                · refine o_okI (fun c9 => ?_) (fun c9 => ?_)
                  · refine o_okW (s_Pg_inClasses_j150 ) (fun r hr => ?_)
                    first | exact hr | (first | with_reducible exact True.intro | with_reducible assumption | grind [-Prod] | grind [-Prod] | grind [-Prod, o_bn, upd])
                  · refine o_okI (fun c10 => ?_) (fun c10 => ?_)
                    · refine o_okW (s_Pg_inClasses_j150 ) (fun r hr => ?_)
                      first | exact hr | (first | with_reducible exact True.intro | with_reducible assumption | grind [-Prod] | grind [-Prod] | grind [-Prod, o_bn, upd])
                    · refine o_okW (s_Pg_inClasses_j150 ) (fun r hr => ?_)
                      first | exact hr | (first | with_reducible exact True.intro | with_reducible assumption | grind [-Prod] | grind [-Prod] | grind [-Prod, o_bn, upd])
        · refine o_okI (fun c11 => ?_) (fun c11 => ?_)
          · refine o_okW (s_Pg_inClasses_j150 ) (fun r hr => ?_)
            first | exact hr | (first | with_reducible exact True.intro | with_reducible assumption | grind [-Prod] | grind [-Prod] | grind [-Prod, o_bn, upd])
          · unfold m_Pg_inClasses_j104
            refine o_okI (fun c12 => ?_) (fun c12 => ?_)
            · refine o_okW (s_Pg_inClasses_j150 ) (fun r hr => ?_)
              first | exact hr | (first | with_reducible exact True.intro | with_reducible assumption | grind [-Prod] | grind [-Prod] | grind [-Prod, o_bn, upd])
            · refine o_okI (fun c13 => ?_) (fun c13 => ?_)
              · refine o_okW (s_Pg_inClasses_j150 ) (fun r hr => ?_)
                first | exact hr | (first | with_reducible exact True.intro | with_reducible assumption | grind [-Prod] | grind [-Prod] | grind [-Prod, o_bn, upd])
              · refine o_okI (fun c14 => ?_) (fun c14 => ?_)
                · refine o_okW (s_Pg_inClasses_j150 ) (fun r hr => ?_)
                  first | exact hr | (first | with_reducible exact True.intro | with_reducible assumption | grind [-Prod] | grind [-Prod] | grind [-Prod, o_bn, upd])
                · refine o_okI (fun c15 => ?_) (fun c15 => ?_)
                  · refine o_okW (s_Pg_inClasses_j150 ) (fun r hr => ?_)
                    first | exact hr | (first | with_reducible exact True.intro | with_reducible assumption | grind [-Prod] | grind [-Prod] | grind [-Prod, o_bn, upd])
                  · refine o_okI (fun c16 => ?_) (fun c16 => ?_)
                    · refine o_okW (s_Pg_inClasses_j150 ) (fun r hr => ?_)
                      first | exact hr | (first | with_reducible exact True.intro | with_reducible assumption | grind [-Prod] | grind [-Prod] | grind [-Prod, o_bn, upd])
                    · refine o_okI (fun c17 => ?_) (fun c17 => ?_)
                      · refine o_okW (s_Pg_inClasses_j150 ) (fun r hr => ?_)
                        first | exact hr | (first | with_reducible exact True.intro | with_reducible assumption | grind [-Prod] | grind [-Prod] | grind [-Prod, o_bn, upd])
                      · refine o_okW (s_Pg_inClasses_j150 ) (fun r hr => ?_)
                        first | exact hr | (first | with_reducible exact True.intro | with_reducible assumption | grind [-Prod] | grind [-Prod] | grind [-Prod, o_bn, upd])
theorem s_Pg_inClasses_j34 {x0 : Int32} {x1 : Int32} {x2 : Int32}  : o_ok (m_Pg_inClasses_j34 x0 x1 x2) (fun r => (r = 0 ∨ r = 1)) := by
  unfold m_Pg_inClasses_j34
  refine o_okI (fun c1 => ?_) (fun c1 => ?_)
  · unfold m_Pg_inClasses_j46
    refine o_okI (fun c2 => ?_) (fun c2 => ?_)
    · unfold m_Pg_inClasses_j57
      refine o_okI (fun c3 => ?_) (fun c3 => ?_)
      · refine o_okW (s_Pg_inClasses_j70 ) (fun r hr => ?_)
        first | exact hr | (first | with_reducible exact True.intro | with_reducible assumption | grind [-Prod] | grind [-Prod] | grind [-Prod, o_bn, upd])
      · refine o_okI (fun c4 => ?_) (fun c4 => ?_)
        · refine o_okW (s_Pg_inClasses_j150 ) (fun r hr => ?_)
          first | exact hr | (first | with_reducible exact True.intro | with_reducible assumption | grind [-Prod] | grind [-Prod] | grind [-Prod, o_bn, upd])
        · refine o_okW (s_Pg_inClasses_j70 ) (fun r hr => ?_)
          first | exact hr | (first | with_reducible exact True.intro | with_reducible assumption | grind [-Prod] | grind [-Prod] | grind [-Prod, o_bn, upd])
    · unfold m_Pg_inClasses_j57
      refine o_okI (fun c5 => ?_) (fun c5 => ?_)
      · refine o_okW (s_Pg_inClasses_j70 ) (fun r hr => ?_)
        first | exact hr | (first | with_reducible exact True.intro | with_reducible assumption | grind [-Prod] | grind [-Prod] | grind [-Prod, o_bn, upd])
      · refine o_okI (fun c6 => ?_) (fun c6 => ?_)
        · refine o_okW (s_Pg_inClasses_j150 ) (fun r hr => ?_)
          first | exact hr | (first | with_reducible exact True.intro | with_reducible assumption | grind [-Prod] | grind [-Prod] | grind [-Prod, o_bn, upd])
        · refine o_okW (s_Pg_inClasses_j70 ) (fun r hr => ?_)
          first | exact hr | (first | with_reducible exact True.intro | with_reducible assumption | grind [-Prod] | grind [-Prod] | grind [-Prod, o_bn, upd])
  · refine o_okI (fun c7 => ?_) (fun c7 => ?_)
    · unfold m_Pg_inClasses_j57
      refine o_okI (fun c8 => ?_) (fun c8 => ?_)
      · refine o_okW (s_Pg_inClasses_j70 ) (fun r hr => ?_)
        first | exact hr | (first | with_reducible exact True.intro | with_reducible assumption | grind [-Prod] | grind [-Prod] | grind [-Prod, o_bn, upd])
      · refine o_okI (fun c9 => ?_) (fun c9 => ?_)
        · refine o_okW (s_Pg_inClasses_j150 ) (fun r hr => ?_)
          first | exact hr | (first | with_reducible exact True.intro | with_reducible assumption | grind [-Prod] | grind [-Prod] | grind [-Prod, o_bn, upd])
        · refine o_okW (s_Pg_inClasses_j70 ) (fun r hr => ?_)
          first | exact hr | (first | with_reducible exact True.intro | with_reducible assumption | grind [-Prod] | grind [-Prod] | grind [-Prod, o_bn, upd])
    · unfold m_Pg_inClasses_j46
      refine o_okI (fun c10 => ?_) (fun c10 => ?_)
      · unfold m_Pg_inClasses_j57
        refine o_okI (fun c11 => ?_) (fun c11 => ?_)
        · refine o_okW (s_Pg_inClasses_j70 ) (fun r hr => ?_)
          first | exact hr | (first | with_reducible exact True.intro | with_reducible assumption | grind [-Prod] | grind [-Prod] | grind [-Prod, o_bn, upd])
        · refine o_okI (fun c12 => ?_) (fun c12 => ?_)
          · refine o_okW (s_Pg_inClasses_j150 ) (fun r hr => ?_)
            first | exact hr | (first | with_reducible exact True.intro | with_reducible assumption | grind [-Prod] | grind [-Prod] | grind [-Prod, o_bn, upd])
          · refine o_okW (s_Pg_inClasses_j70 ) (fun r hr => ?_)
            first | exact hr | (first | with_reducible exact True.intro | with_reducible assumption | grind [-Prod] | grind [-Prod] | grind [-Prod, o_bn, upd])
      · unfold m_Pg_inClasses_j57
        refine o_okI (fun c13 => ?_) (fun c13 => ?_)
        · refine o_okW (s_Pg_inClasses_j70 ) (fun r hr => ?_)
          first | exact hr | (first | with_reducible exact True.intro | with_reducible assumption | grind [-Prod] | grind [-Prod] | grind [-Prod, o_bn, upd])
        · refine o_okI (fun c14 => ?_) (fun c14 => ?_)
          · refine o_okW (s_Pg_inClasses_j150 ) (fun r hr => ?_)
            first | exact hr | (first | with_reducible exact True.intro | with_reducible assumption | grind [-Prod] | grind [-Prod] | grind [-Prod, o_bn, upd])
          · refine o_okW (s_Pg_inClasses_j70 ) (fun r hr => ?_)
            first | exact hr | (first | with_reducible exact True.intro | with_reducible assumption | grind [-Prod] | grind [-Prod] | grind [-Prod, o_bn, upd])
set_option maxHeartbeats 8000000 in
theorem s_Pg_inClasses {x0 : Int32} {x1 : Int32}  : o_ok (m_Pg_inClasses x0 x1) (fun r => (r = 0 ∨ r = 1)) := by
  unfold m_Pg_inClasses
  refine o_okI (fun c1 => ?_) (fun c1 => ?_)
  · unfold m_Pg_inClasses_j17
    refine o_okI (fun c2 => ?_) (fun c2 => ?_)
    · refine o_okI (fun c3 => ?_) (fun c3 => ?_)
      · refine o_okW (s_Pg_inClasses_j34 ) (fun r hr => ?_)
        first | exact hr | (first | with_reducible exact True.intro | with_reducible assumption | grind [-Prod] | grind [-Prod] | grind [-Prod, o_bn, upd])
      · refine o_okI (fun c4 => ?_) (fun c4 => ?_)
        · unfold m_Pg_inClasses_j57
          refine o_okI (fun c5 => ?_) (fun c5 => ?_)
          · refine o_okW (s_Pg_inClasses_j70 ) (fun r hr => ?_)
            first | exact hr | (first | with_reducible exact True.intro | with_reducible assumption | grind [-Prod] | grind [-Prod] | grind [-Prod, o_bn, upd])
          · refine o_okI (fun c6 => ?_) (fun c6 => ?_)
            · refine o_okW (s_Pg_inClasses_j150 ) (fun r hr => ?_)
              first | exact hr | (first | with_reducible exact True.intro | with_reducible assumption | grind [-Prod] | grind [-Prod] | grind [-Prod, o_bn, upd])
            · refine o_okW (s_Pg_inClasses_j70 ) (fun r hr => ?_)
              first | exact hr | (first | with_reducible exact True.intro | with_reducible assumption | grind [-Prod] | grind [-Prod] | grind [-Prod, o_bn, upd])
        · refine o_okW (s_Pg_inClasses_j34 ) (fun r hr => ?_)
          first | exact hr | (first | with_reducible exact True.intro | with_reducible assumption | grind [-Prod] | grind [-Prod] | grind [-Prod, o_bn, upd])
    · unfold m_Pg_inClasses_j57
      refine o_okI (fun c7 => ?_) (fun c7 => ?_)
      · refine o_okW (s_Pg_inClasses_j70 ) (fun r hr => ?_)
        first | exact hr | (first | with_reducible exact True.intro | with_reducible assumption | grind [-Prod] | grind [-Prod] | grind [-Prod, o_bn, upd])
      · refine o_okI (fun c8 => ?_) (fun c8 => ?_)
        · refine o_okW (s_Pg_inClasses_j150 ) (fun r hr => ?_)
          first | exact hr | (first | with_reducible exact True.intro | with_reducible assumption | grind [-Prod] | grind [-Prod] | grind [-Prod, o_bn, upd])
        · refine o_okW (s_Pg_inClasses_j70 ) (fun r hr => ?_)
          first | exact hr | (first | with_reducible exact True.intro | with_reducible assumption | grind [-Prod] | grind [-Prod] | grind [-Prod, o_bn, upd])
  · refine o_okI (fun c9 => ?_) (fun c9 => ?_)
    · unfold m_Pg_inClasses_j17
      refine o_okI (fun c10 => ?_) (fun c10 => ?_)
      · refine o_okI (fun c11 => ?_) (fun c11 => ?_)
        · refine o_okW (s_Pg_inClasses_j34 ) (fun r hr => ?_)
          first | exact hr | (first | with_reducible exact True.intro | with_reducible assumption | grind [-Prod] | grind [-Prod] | grind [-Prod, o_bn, upd])
        · refine o_okI (fun c12 => ?_) (fun c12 => ?_)
          · unfold m_Pg_inClasses_j57
            refine o_okI (fun c13 => ?_) (fun c13 => ?_)
            · refine o_okW (s_Pg_inClasses_j70 ) (fun r hr => ?_)
              first | exact hr | (first | with_reducible exact True.intro | with_reducible assumption | grind [-Prod] | grind [-Prod] | grind [-Prod, o_bn, upd])
            · refine o_okI (fun c14 => ?_) (fun c14 => ?_)
              · refine o_okW (s_Pg_inClasses_j150 ) (fun r hr => ?_)
                first | exact hr | (first | with_reducible exact True.intro | with_reducible assumption | grind [-Prod] | grind [-Prod] | grind [-Prod, o_bn, upd])
              · refine o_okW (s_Pg_inClasses_j70 ) (fun r hr => ?_)
                first | exact hr | (first | with_reducible exact True.intro | with_reducible assumption | grind [-Prod] | grind [-Prod] | grind [-Prod, o_bn, upd])
          · refine o_okW (s_Pg_inClasses_j34 ) (fun r hr => ?_)
            first | exact hr | (first | with_reducible exact True.intro | with_reducible assumption | grind [-Prod] | grind [-Prod] | grind [-Prod, o_bn, upd])
      · unfold m_Pg_inClasses_j57
        refine o_okI (fun c15 => ?_) (fun c15 => ?_)
        · refine o_okW (s_Pg_inClasses_j70 ) (fun r hr => ?_)
          first | exact hr | (first | with_reducible exact True.intro | with_reducible assumption | grind [-Prod] | grind [-Prod] | grind [-Prod, o_bn, upd])
        · refine o_okI (fun c16 => ?_) (fun c16 => ?_)
          · refine o_okW (s_Pg_inClasses_j150 ) (fun r hr => ?_)
            first | exact hr | (first | with_reducible exact True.intro | with_reducible assumption | grind [-Prod] | grind [-Prod] | grind [-Prod, o_bn, upd])
          · refine o_okW (s_Pg_inClasses_j70 ) (fun r hr => ?_)
            first | exact hr | (first | with_reducible exact True.intro | with_reducible assumption | grind [-Prod] | grind [-Prod] | grind [-Prod, o_bn, upd])
    · unfold m_Pg_inClasses_j17
      refine o_okI (fun c17 => ?_) (fun c17 => ?_)
      · refine o_okI (fun c18 => ?_) (fun c18 => ?_)
        · refine o_okW (s_Pg_inClasses_j34 ) (fun r hr => ?_)
          first | exact hr | (first | with_reducible exact True.intro | with_reducible assumption | grind [-Prod] | grind [-Prod] | grind [-Prod, o_bn, upd])
        · refine o_okI (fun c19 => ?_) (fun c19 => ?_)
          · unfold m_Pg_inClasses_j57
            refine o_okI (fun c20 => ?_) (fun c20 => ?_)
            · refine o_okW (s_Pg_inClasses_j70 ) (fun r hr => ?_)
              first | exact hr | (first | with_reducible exact True.intro | with_reducible assumption | grind [-Prod] | grind [-Prod] | grind [-Prod, o_bn, upd])
            · refine o_okI (fun c21 => ?_) (fun c21 => ?_)
              · refine o_okW (s_Pg_inClasses_j150 ) (fun r hr => ?_)
                first | exact hr | (first | with_reducible exact True.intro | with_reducible assumption | grind [-Prod] | grind [-Prod] | grind [-Prod, o_bn, upd])
              · refine o_okW (s_Pg_inClasses_j70 ) (fun r hr => ?_)
                first | exact hr | (first | with_reducible exact True.intro | with_reducible assumption | grind [-Prod] | grind [-Prod] | grind [-Prod, o_bn, upd])
          · refine o_okW (s_Pg_inClasses_j34 ) (fun r hr => ?_)
            first | exact hr | (first | with_reducible exact True.intro | with_reducible assumption | grind [-Prod] | grind [-Prod] | grind [-Prod, o_bn, upd])
      · unfold m_Pg_inClasses_j57
        refine o_okI (fun c22 => ?_) (fun c22 => ?_)
        · refine o_okW (s_Pg_inClasses_j70 ) (fun r hr => ?_)
          first | exact hr | (first | with_reducible exact True.intro | with_reducible assumption | grind [-Prod] | grind [-Prod] | grind [-Prod, o_bn, upd])
        · refine o_okI (fun c23 => ?_) (fun c23 => ?_)
          · refine o_okW (s_Pg_inClasses_j150 ) (fun r hr => ?_)
            first | exact hr | (first | with_reducible exact True.intro | with_reducible assumption | grind [-Prod] | grind [-Prod] | grind [-Prod, o_bn, upd])
          · refine o_okW (s_Pg_inClasses_j70 ) (fun r hr => ?_)
            first | exact hr | (first | with_reducible exact True.intro | with_reducible assumption | grind [-Prod] | grind [-Prod] | grind [-Prod, o_bn, upd])
theorem s_Pg_inRanges_b27 {n : Nat} {x1 : Int32} {x2 : Int32} {x3 : Int32} {Pg : SPg} {z : Int32} (hn : o_big ≤ n) (h_Pg : I_Pg Pg) (p0 : 0 ≤ x1 ∨ x3 ≤ 0) (p1 : x1 ≤ 8000 ∨ x3 ≤ 0) (p2 : x3 ≤ 8388607) (l0 : 0 ≤ z) : o_ok (m_Pg_inRanges_b27 n x1 x2 x3 Pg z) (fun q => (q.1 = 0 → 0 ≤ q.2 ∧ o_mu q.2 < o_mu z) ∧ (q.1 ≠ 0 → True)) := by
  unfold m_Pg_inRanges_b27
  refine o_okI (fun c1 => ?_) (fun c1 => ?_)
  · refine o_okS ?_
    refine ⟨fun h => absurd (show (2 : Nat) = 0 from h) (by decide), fun _ => ?_⟩
    trivial
  · refine o_okN (fun x5_41_2 ex5_41_2 => ?_)
    refine o_okI (fun c3 => ?_) (fun c3 => ?_)
    · refine o_okN (fun x4_81_4 ex4_81_4 => ?_)
      refine o_okS ?_
      refine ⟨fun _ => ?_, fun h => absurd rfl h⟩
      refine ⟨?_, ?_⟩
      · first | with_reducible exact True.intro | with_reducible assumption | grind [-Prod] | grind [-Prod, → sc_Pg] | grind [-Prod, I_Pg, o_bn, upd]
      · first | exact o_muL (by first | with_reducible exact True.intro | with_reducible assumption | grind [-Prod] | grind [-Prod, → sc_Pg] | grind [-Prod, I_Pg, o_bn, upd]) | exact o_nuL (by first | with_reducible exact True.intro | with_reducible assumption | grind [-Prod] | grind [-Prod, → sc_Pg] | grind [-Prod, I_Pg, o_bn, upd]) | (first | with_reducible exact True.intro | with_reducible assumption | grind [-Prod] | grind [-Prod, → sc_Pg] | grind [-Prod, I_Pg, o_bn, upd])
    · refine o_okG (o_inM (m := 8000) rfl (by first | with_reducible exact True.intro | with_reducible assumption | grind [-Prod] | grind [-Prod, → sc_Pg] | grind [-Prod, I_Pg, o_bn, upd]) (by first | with_reducible exact True.intro | with_reducible assumption | grind [-Prod] | grind [-Prod, → sc_Pg] | grind [-Prod, I_Pg, o_bn, upd])) ?_
      refine o_okI (fun c5 => ?_) (fun c5 => ?_)
      · refine o_okN (fun x4_81_6 ex4_81_6 => ?_)
        refine o_okS ?_
        refine ⟨fun _ => ?_, fun h => absurd rfl h⟩
        refine ⟨?_, ?_⟩
        · first | with_reducible exact True.intro | with_reducible assumption | grind [-Prod] | grind [-Prod, → sc_Pg] | grind [-Prod, I_Pg, o_bn, upd]
        · first | exact o_muL (by first | with_reducible exact True.intro | with_reducible assumption | grind [-Prod] | grind [-Prod, → sc_Pg] | grind [-Prod, I_Pg, o_bn, upd]) | exact o_nuL (by first | with_reducible exact True.intro | with_reducible assumption | grind [-Prod] | grind [-Prod, → sc_Pg] | grind [-Prod, I_Pg, o_bn, upd]) | (first | with_reducible exact True.intro | with_reducible assumption | grind [-Prod] | grind [-Prod, → sc_Pg] | grind [-Prod, I_Pg, o_bn, upd])
      · refine o_okG (o_inM (m := 8000) rfl (by first | with_reducible exact True.intro | with_reducible assumption | grind [-Prod] | grind [-Prod, → sc_Pg] | grind [-Prod, I_Pg, o_bn, upd]) (by first | with_reducible exact True.intro | with_reducible assumption | grind [-Prod] | grind [-Prod, → sc_Pg] | grind [-Prod, I_Pg, o_bn, upd])) ?_
        refine o_okI (fun c7 => ?_) (fun c7 => ?_)
        · refine o_okN (fun x4_81_8 ex4_81_8 => ?_)
          refine o_okS ?_
          refine ⟨fun _ => ?_, fun h => absurd rfl h⟩
          refine ⟨?_, ?_⟩
          · first | with_reducible exact True.intro | with_reducible assumption | grind [-Prod] | grind [-Prod, → sc_Pg] | grind [-Prod, I_Pg, o_bn, upd]
          · first | exact o_muL (by first | with_reducible exact True.intro | with_reducible assumption | grind [-Prod] | grind [-Prod, → sc_Pg] | grind [-Prod, I_Pg, o_bn, upd]) | exact o_nuL (by first | with_reducible exact True.intro | with_reducible assumption | grind [-Prod] | grind [-Prod, → sc_Pg] | grind [-Prod, I_Pg, o_bn, upd]) | (first | with_reducible exact True.intro | with_reducible assumption | grind [-Prod] | grind [-Prod, → sc_Pg] | grind [-Prod, I_Pg, o_bn, upd])
        · refine o_okS ?_
          refine ⟨fun h => absurd (show (1 : Nat) = 0 from h) (by decide), fun _ => ?_⟩
          trivial
theorem l_Pg_inRanges_b27 {n : Nat} {x1 : Int32} {x2 : Int32} {x3 : Int32} {Pg : SPg} {z : Int32} (hn : o_big ≤ n) (h_Pg : I_Pg Pg) (p0 : 0 ≤ x1 ∨ x3 ≤ 0) (p1 : x1 ≤ 8000 ∨ x3 ≤ 0) (p2 : x3 ≤ 8388607) (l0 : 0 ≤ z) : o_ok (o_lp n (m_Pg_inRanges_b27 n x1 x2 x3 Pg) z) (fun q => q.1 ≠ 0 ∧ True) := by
  exact o_lpR (fun z => 0 ≤ z) (fun z => o_mu z) hn (o_muB) l0
    (fun z hz => by have l0 := hz; exact o_okW (s_Pg_inRanges_b27 hn h_Pg p0 p1 p2 l0) (fun q hq => ⟨fun h => by have := hq.1 h; grind, hq.2⟩))
theorem s_Pg_inRanges {n : Nat} {x1 : Int32} {x2 : Int32} {Pg : SPg} (hn : o_big ≤ n) (h_Pg : I_Pg Pg) : o_ok (m_Pg_inRanges n x1 x2 Pg) (fun r => (r = 0 ∨ r = 1)) := by
  unfold m_Pg_inRanges
  refine o_okI (fun c1 => ?_) (fun c1 => ?_)
  · refine o_okB (l_Pg_inRanges_b27  hn h_Pg (by first | with_reducible exact True.intro | with_reducible assumption | grind [-Prod] | grind [-Prod, → sc_Pg] | grind [-Prod, I_Pg, o_bn, upd]) (by first | with_reducible exact True.intro | with_reducible assumption | grind [-Prod] | grind [-Prod, → sc_Pg] | grind [-Prod, I_Pg, o_bn, upd]) (by first | with_reducible exact True.intro | with_reducible assumption | grind [-Prod] | grind [-Prod, → sc_Pg] | grind [-Prod, I_Pg, o_bn, upd]) (by first | with_reducible exact True.intro | with_reducible assumption | grind [-Prod] | grind [-Prod, → sc_Pg] | grind [-Prod, I_Pg, o_bn, upd])) ?_
    intro q1_2 ⟨yq1_2, _⟩
    refine o_okI (fun c3 => ?_) (fun c3 => ?_)
    · refine o_okS ?_
      first | with_reducible exact True.intro | with_reducible assumption | grind [-Prod] | grind [-Prod, → sc_Pg] | grind [-Prod, I_Pg, o_bn, upd]
    · refine o_okS ?_
      first | with_reducible exact True.intro | with_reducible assumption | grind [-Prod] | grind [-Prod, → sc_Pg] | grind [-Prod, I_Pg, o_bn, upd]
  · refine o_okI (fun c4 => ?_) (fun c4 => ?_)
    · refine o_okB (l_Pg_inRanges_b27  hn h_Pg (by first | with_reducible exact True.intro | with_reducible assumption | grind [-Prod] | grind [-Prod, → sc_Pg] | grind [-Prod, I_Pg, o_bn, upd]) (by first | with_reducible exact True.intro | with_reducible assumption | grind [-Prod] | grind [-Prod, → sc_Pg] | grind [-Prod, I_Pg, o_bn, upd]) (by first | with_reducible exact True.intro | with_reducible assumption | grind [-Prod] | grind [-Prod, → sc_Pg] | grind [-Prod, I_Pg, o_bn, upd]) (by first | with_reducible exact True.intro | with_reducible assumption | grind [-Prod] | grind [-Prod, → sc_Pg] | grind [-Prod, I_Pg, o_bn, upd])) ?_
      intro q2_5 ⟨yq2_5, _⟩
      refine o_okI (fun c6 => ?_) (fun c6 => ?_)
      · refine o_okS ?_
        first | with_reducible exact True.intro | with_reducible assumption | grind [-Prod] | grind [-Prod, → sc_Pg] | grind [-Prod, I_Pg, o_bn, upd]
      · refine o_okS ?_
        first | with_reducible exact True.intro | with_reducible assumption | grind [-Prod] | grind [-Prod, → sc_Pg] | grind [-Prod, I_Pg, o_bn, upd]
    · refine o_okG (o_inM (m := 8000) rfl (by first | with_reducible exact True.intro | with_reducible assumption | grind [-Prod] | grind [-Prod, → sc_Pg] | grind [-Prod, I_Pg, o_bn, upd]) (by first | with_reducible exact True.intro | with_reducible assumption | grind [-Prod] | grind [-Prod, → sc_Pg] | grind [-Prod, I_Pg, o_bn, upd])) ?_
      refine o_okN (fun x3_23_7 ex3_23_7 => ?_)
      refine o_okB (l_Pg_inRanges_b27  hn h_Pg (by first | with_reducible exact True.intro | with_reducible assumption | grind [-Prod] | grind [-Prod, → sc_Pg] | grind [-Prod, I_Pg, o_bn, upd]) (by first | with_reducible exact True.intro | with_reducible assumption | grind [-Prod] | grind [-Prod, → sc_Pg] | grind [-Prod, I_Pg, o_bn, upd]) (by first | with_reducible exact True.intro | with_reducible assumption | grind [-Prod] | grind [-Prod, → sc_Pg] | grind [-Prod, I_Pg, o_bn, upd]) (by first | with_reducible exact True.intro | with_reducible assumption | grind [-Prod] | grind [-Prod, → sc_Pg] | grind [-Prod, I_Pg, o_bn, upd])) ?_
      intro q3_8 ⟨yq3_8, _⟩
      refine o_okI (fun c9 => ?_) (fun c9 => ?_)
      · refine o_okS ?_
        first | with_reducible exact True.intro | with_reducible assumption | grind [-Prod] | grind [-Prod, → sc_Pg] | grind [-Prod, I_Pg, o_bn, upd]
      · refine o_okS ?_
        first | with_reducible exact True.intro | with_reducible assumption | grind [-Prod] | grind [-Prod, → sc_Pg] | grind [-Prod, I_Pg, o_bn, upd]
