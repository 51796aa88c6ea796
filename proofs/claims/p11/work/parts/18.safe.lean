theorem s_Pt_parse {n : Nat} {Pg : SPg} {Pt : SPt} (hn : o_big ≤ n) (h_Pg : I_Pg Pg) (h_Pt : I_Pt Pt) : o_ok (m_Pt_parse n Pg Pt) (fun r => (r.1 = 0 ∨ r.1 = 1) ∧ I_Pg r.2.1 ∧ I_Pt r.2.2) := by
  unfold m_Pt_parse
  refine o_okB (s_Pg_clear  h_Pg) ?_
  intro q1_1 g2
  refine o_okB (s_Pt_beginBlock  g2 ⟨h_Pt.1, h_Pt.2.1, h_Pt.2.2.1, (by first | with_reducible exact True.intro | with_reducible assumption | grind [-Prod] | grind [-Prod, → sc_Pg, → sc_Pt] | grind [-Prod, I_Pg, I_Pt, o_bn, upd]), (by first | with_reducible exact True.intro | with_reducible assumption | grind [-Prod] | grind [-Prod, → sc_Pg, → sc_Pt] | grind [-Prod, I_Pg, I_Pt, o_bn, upd]), (by first | with_reducible exact True.intro | with_reducible assumption | grind [-Prod] | grind [-Prod, → sc_Pg, → sc_Pt] | grind [-Prod, I_Pg, I_Pt, o_bn, upd]), (by first | with_reducible exact True.intro | with_reducible assumption | grind [-Prod] | grind [-Prod, → sc_Pg, → sc_Pt] | grind [-Prod, I_Pg, I_Pt, o_bn, upd]), h_Pt.2.2.2.2.2.2.2.1, h_Pt.2.2.2.2.2.2.2.2.1, h_Pt.2.2.2.2.2.2.2.2.2.1, h_Pt.2.2.2.2.2.2.2.2.2.2⟩) ?_
  intro q2_3 ⟨g4, g5⟩
  refine o_okB (l_Pt_parse_b28  hn (by first | with_reducible exact True.intro | with_reducible assumption | grind [-Prod] | grind [-Prod, → sc_Pg, → sc_Pt] | grind [-Prod, I_Pg, I_Pt, o_bn, upd]) g2 g5) ?_
  intro q13_6 ⟨yq13_6, g7, g8⟩
  refine o_okI (fun c9 => ?_) (fun c9 => ?_)
  · refine o_okS ?_
    refine ⟨?_, ?_, ?_⟩
    · first | with_reducible exact True.intro | with_reducible assumption | grind [-Prod] | grind [-Prod, → sc_Pg, → sc_Pt] | grind [-Prod, I_Pg, I_Pt, o_bn, upd]
    · exact g7
    · exact g8
  · unfold m_Pt_parse_j355
    refine o_okB (s_Pt_endBlock  hn g7 g8) ?_
    intro q14_10 g11
    refine o_okB (s_Pg_emit  g11 (by first | with_reducible exact True.intro | with_reducible assumption | grind [-Prod] | grind [-Prod, → sc_Pg, → sc_Pt] | grind [-Prod, I_Pg, I_Pt, o_bn, upd])) ?_
    intro q15_12 g13
    refine o_okI (fun c14 => ?_) (fun c14 => ?_)
    · refine o_okS ?_
      refine ⟨?_, ?_, ?_⟩
      · first | with_reducible exact True.intro | with_reducible assumption | grind [-Prod] | grind [-Prod, → sc_Pg, → sc_Pt] | grind [-Prod, I_Pg, I_Pt, o_bn, upd]
      · exact g13
      · exact g8
    · refine o_okS ?_
      refine ⟨?_, ?_, ?_⟩
      · first | with_reducible exact True.intro | with_reducible assumption | grind [-Prod] | grind [-Prod, → sc_Pg, → sc_Pt] | grind [-Prod, I_Pg, I_Pt, o_bn, upd]
      · exact g13
      · exact g8
theorem s_Ck_inspectPatterns_b11 {n : Nat} {x1 : Int32} {T0 : STx} {z : Int32 × Int32 × SPg × SPt × SCk} (hn : o_big ≤ n) (h_T0 : I_Tx T0) (l0 : 0 ≤ z.2.1) (l1 : I_Pg z.2.2.1) (l2 : I_Pt z.2.2.2.1) (l3 : I_Ck z.2.2.2.2) : o_ok (m_Ck_inspectPatterns_b11 n x1 T0 z) (fun q => (q.1 = 0 → 0 ≤ q.2.2.1 ∧ I_Pg q.2.2.2.1 ∧ I_Pt q.2.2.2.2.1 ∧ I_Ck q.2.2.2.2.2 ∧ o_mu q.2.2.1 < o_mu z.2.1) ∧ (q.1 ≠ 0 → I_Pg q.2.2.2.1 ∧ I_Pt q.2.2.2.2.1 ∧ I_Ck q.2.2.2.2.2)) := by
  unfold m_Ck_inspectPatterns_b11
  refine o_okB (s_Tx_size  h_T0) ?_
  intro q2_1 g2
  refine o_okI (fun c3 => ?_) (fun c3 => ?_)
  · refine o_okS ?_
    refine ⟨fun h => absurd (show (1 : Nat) = 0 from h) (by decide), fun _ => ?_⟩
    refine ⟨?_, ?_, ?_⟩
    · exact l1
    · exact l2
    · exact l3
  · refine o_okB (s_Pt_tokenise  hn h_T0 l2) ?_
    intro q3_4 ⟨g5, g6⟩
    refine o_okI (fun c7 => ?_) (fun c7 => ?_)
    · unfold m_Ck_inspectPatterns_j50
      refine o_okB (s_Ck_report  l3) ?_
      intro q4_8 g9
      unfold m_Ck_inspectPatterns_j56
      refine o_okB (s_Tx_nextChild  h_T0) ?_
      intro q5_10 _
      refine o_okN (fun x3_65_11 ex3_65_11 => ?_)
      refine o_okS ?_
      refine ⟨fun _ => ?_, fun h => absurd rfl h⟩
      refine ⟨?_, ?_, ?_, ?_, ?_⟩
      · first | with_reducible exact True.intro | with_reducible assumption | grind [-Prod] | grind [-Prod, → sc_Ck, → sc_Pg, → sc_Pt, → sc_Tx] | grind [-Prod, I_Ck, I_Pg, I_Pt, I_Tx, o_bn, upd]
      · exact l1
      · exact g6
      · exact g9
      · first | exact o_muL (by first | with_reducible exact True.intro | with_reducible assumption | grind [-Prod] | grind [-Prod, → sc_Ck, → sc_Pg, → sc_Pt, → sc_Tx] | grind [-Prod, I_Ck, I_Pg, I_Pt, I_Tx, o_bn, upd]) | exact o_nuL (by first | with_reducible exact True.intro | with_reducible assumption | grind [-Prod] | grind [-Prod, → sc_Ck, → sc_Pg, → sc_Pt, → sc_Tx] | grind [-Prod, I_Ck, I_Pg, I_Pt, I_Tx, o_bn, upd]) | (first | with_reducible exact True.intro | with_reducible assumption | grind [-Prod] | grind [-Prod, → sc_Ck, → sc_Pg, → sc_Pt, → sc_Tx] | grind [-Prod, I_Ck, I_Pg, I_Pt, I_Tx, o_bn, upd])
    · refine o_okB (s_Pt_parse  hn l1 g6) ?_
      intro q6_12 ⟨g13, g14, g15⟩
      refine o_okI (fun c16 => ?_) (fun c16 => ?_)
      · unfold m_Ck_inspectPatterns_j50
        refine o_okB (s_Ck_report  l3) ?_
        intro q4_17 g18
        unfold m_Ck_inspectPatterns_j56
        refine o_okB (s_Tx_nextChild  h_T0) ?_
        intro q5_19 _
        refine o_okN (fun x3_65_20 ex3_65_20 => ?_)
        refine o_okS ?_
        refine ⟨fun _ => ?_, fun h => absurd rfl h⟩
        refine ⟨?_, ?_, ?_, ?_, ?_⟩
        · first | with_reducible exact True.intro | with_reducible assumption | grind [-Prod] | grind [-Prod, → sc_Ck, → sc_Pg, → sc_Pt, → sc_Tx] | grind [-Prod, I_Ck, I_Pg, I_Pt, I_Tx, o_bn, upd]
        · exact g14
        · exact g15
        · exact g18
        · first | exact o_muL (by first | with_reducible exact True.intro | with_reducible assumption | grind [-Prod] | grind [-Prod, → sc_Ck, → sc_Pg, → sc_Pt, → sc_Tx] | grind [-Prod, I_Ck, I_Pg, I_Pt, I_Tx, o_bn, upd]) | exact o_nuL (by first | with_reducible exact True.intro | with_reducible assumption | grind [-Prod] | grind [-Prod, → sc_Ck, → sc_Pg, → sc_Pt, → sc_Tx] | grind [-Prod, I_Ck, I_Pg, I_Pt, I_Tx, o_bn, upd]) | (first | with_reducible exact True.intro | with_reducible assumption | grind [-Prod] | grind [-Prod, → sc_Ck, → sc_Pg, → sc_Pt, → sc_Tx] | grind [-Prod, I_Ck, I_Pg, I_Pt, I_Tx, o_bn, upd])
      · unfold m_Ck_inspectPatterns_j56
        refine o_okB (s_Tx_nextChild  h_T0) ?_
        intro q5_21 _
        refine o_okN (fun x3_65_22 ex3_65_22 => ?_)
        refine o_okS ?_
        refine ⟨fun _ => ?_, fun h => absurd rfl h⟩
        refine ⟨?_, ?_, ?_, ?_, ?_⟩
        · first | with_reducible exact True.intro | with_reducible assumption | grind [-Prod] | grind [-Prod, → sc_Ck, → sc_Pg, → sc_Pt, → sc_Tx] | grind [-Prod, I_Ck, I_Pg, I_Pt, I_Tx, o_bn, upd]
        · exact g14
        · exact g15
        · exact l3
        · first | exact o_muL (by first | with_reducible exact True.intro | with_reducible assumption | grind [-Prod] | grind [-Prod, → sc_Ck, → sc_Pg, → sc_Pt, → sc_Tx] | grind [-Prod, I_Ck, I_Pg, I_Pt, I_Tx, o_bn, upd]) | exact o_nuL (by first | with_reducible exact True.intro | with_reducible assumption | grind [-Prod] | grind [-Prod, → sc_Ck, → sc_Pg, → sc_Pt, → sc_Tx] | grind [-Prod, I_Ck, I_Pg, I_Pt, I_Tx, o_bn, upd]) | (first | with_reducible exact True.intro | with_reducible assumption | grind [-Prod] | grind [-Prod, → sc_Ck, → sc_Pg, → sc_Pt, → sc_Tx] | grind [-Prod, I_Ck, I_Pg, I_Pt, I_Tx, o_bn, upd])
theorem l_Ck_inspectPatterns_b11 {n : Nat} {x1 : Int32} {T0 : STx} {z : Int32 × Int32 × SPg × SPt × SCk} (hn : o_big ≤ n) (h_T0 : I_Tx T0) (l0 : 0 ≤ z.2.1) (l1 : I_Pg z.2.2.1) (l2 : I_Pt z.2.2.2.1) (l3 : I_Ck z.2.2.2.2) : o_ok (o_lp n (m_Ck_inspectPatterns_b11 n x1 T0) z) (fun q => q.1 ≠ 0 ∧ I_Pg q.2.2.2.1 ∧ I_Pt q.2.2.2.2.1 ∧ I_Ck q.2.2.2.2.2) := by
  exact o_lpR (fun z => 0 ≤ z.2.1 ∧ I_Pg z.2.2.1 ∧ I_Pt z.2.2.2.1 ∧ I_Ck z.2.2.2.2) (fun z => o_mu z.2.1) hn (o_muB) ⟨l0, l1, l2, l3⟩
    (fun z hz => by obtain ⟨l0, l1, l2, l3⟩ := hz; exact o_okW (s_Ck_inspectPatterns_b11 hn h_T0 l0 l1 l2 l3) (fun q hq => ⟨fun h => by have := hq.1 h; grind, hq.2⟩))
theorem s_Ck_inspectPatterns {n : Nat} {x1 : Int32} {T0 : STx} {Pg : SPg} {Pt : SPt} {Ck : SCk} (hn : o_big ≤ n) (h_T0 : I_Tx T0) (h_Pg : I_Pg Pg) (h_Pt : I_Pt Pt) (h_Ck : I_Ck Ck) : o_ok (m_Ck_inspectPatterns n x1 T0 Pg Pt Ck) (fun r => I_Pg r.1 ∧ I_Pt r.2.1 ∧ I_Ck r.2.2) := by
  unfold m_Ck_inspectPatterns
  refine o_okB (s_Tx_firstChild  h_T0) ?_
  intro q1_1 _
  refine o_okB (l_Ck_inspectPatterns_b11  hn h_T0 (by first | with_reducible exact True.intro | with_reducible assumption | grind [-Prod] | grind [-Prod, → sc_Ck, → sc_Pg, → sc_Pt, → sc_Tx] | grind [-Prod, I_Ck, I_Pg, I_Pt, I_Tx, o_bn, upd]) h_Pg h_Pt h_Ck) ?_
  intro q7_2 ⟨yq7_2, g3, g4, g5⟩
  refine o_okS ?_
  refine ⟨?_, ?_, ?_⟩
  · exact g3
  · exact g4
  · exact g5
theorem s_Tx_sign {x1 : Int32} {a0 : STx} (h_a0 : I_Tx a0) : o_ok (m_Tx_sign x1 a0) (fun r => True) := by
  unfold m_Tx_sign
  refine o_okI (fun c1 => ?_) (fun c1 => ?_)
  · refine o_okS ?_
    trivial
  · refine o_okI (fun c2 => ?_) (fun c2 => ?_)
    · refine o_okS ?_
      trivial
    · refine o_okG (o_inM (m := 1000) rfl (by first | with_reducible exact True.intro | with_reducible assumption | grind [-Prod] | grind [-Prod, → sc_Tx] | grind [-Prod, I_Tx, o_bn, upd]) (by first | with_reducible exact True.intro | with_reducible assumption | grind [-Prod] | grind [-Prod, → sc_Tx] | grind [-Prod, I_Tx, o_bn, upd])) ?_
      refine o_okI (fun c3 => ?_) (fun c3 => ?_)
      · refine o_okS ?_
        trivial
      · refine o_okG (o_inM (m := 1000) rfl (by first | with_reducible exact True.intro | with_reducible assumption | grind [-Prod] | grind [-Prod, → sc_Tx] | grind [-Prod, I_Tx, o_bn, upd]) (by first | with_reducible exact True.intro | with_reducible assumption | grind [-Prod] | grind [-Prod, → sc_Tx] | grind [-Prod, I_Tx, o_bn, upd])) ?_
        refine o_okI (fun c4 => ?_) (fun c4 => ?_)
        · refine o_okS ?_
          trivial
        · refine o_okS ?_
          trivial
theorem s_Tx_exponent {x1 : Int32} {a0 : STx} (h_a0 : I_Tx a0) : o_ok (m_Tx_exponent x1 a0) (fun r => True) := by
  unfold m_Tx_exponent
  refine o_okI (fun c1 => ?_) (fun c1 => ?_)
  · refine o_okS ?_
    trivial
  · refine o_okI (fun c2 => ?_) (fun c2 => ?_)
    · refine o_okS ?_
      trivial
    · refine o_okG (o_inM (m := 1000) rfl (by first | with_reducible exact True.intro | with_reducible assumption | grind [-Prod] | grind [-Prod, → sc_Tx] | grind [-Prod, I_Tx, o_bn, upd]) (by first | with_reducible exact True.intro | with_reducible assumption | grind [-Prod] | grind [-Prod, → sc_Tx] | grind [-Prod, I_Tx, o_bn, upd])) ?_
      refine o_okS ?_
      trivial
theorem s_Tx_wholeNumber_b47 {n : Nat} {x1 : Int32} {a0 : STx} {z : Int32 × Int32} (hn : o_big ≤ n) (h_a0 : I_Tx a0) (l0 : 0 ≤ z.2) : o_ok (m_Tx_wholeNumber_b47 n x1 a0 z) (fun q => (q.1 = 0 → 0 ≤ q.2.2 ∧ o_mu q.2.2 < o_mu z.2) ∧ (q.1 ≠ 0 → True)) := by
  unfold m_Tx_wholeNumber_b47
  refine o_okB (s_Tx_size  h_a0) ?_
  intro q6_1 g2
  refine o_okB (s_Tx_exponent  h_a0) ?_
  intro q7_3 _
  refine o_okI (fun c4 => ?_) (fun c4 => ?_)
  · refine o_okS ?_
    refine ⟨fun h => absurd (show (1 : Nat) = 0 from h) (by decide), fun _ => ?_⟩
    trivial
  · refine o_okB (s_Tx_cell  h_a0) ?_
    intro q8_5 g6
    refine o_okN (fun x2_73_7 ex2_73_7 => ?_)
    refine o_okN (fun x3_74_8 ex3_74_8 => ?_)
    refine o_okS ?_
    refine ⟨fun _ => ?_, fun h => absurd rfl h⟩
    refine ⟨?_, ?_⟩
    · first | with_reducible exact True.intro | with_reducible assumption | grind [-Prod] | grind [-Prod, → sc_Tx] | grind [-Prod, I_Tx, o_bn, upd]
    · first | exact o_muL (by first | with_reducible exact True.intro | with_reducible assumption | grind [-Prod] | grind [-Prod, → sc_Tx] | grind [-Prod, I_Tx, o_bn, upd]) | exact o_nuL (by first | with_reducible exact True.intro | with_reducible assumption | grind [-Prod] | grind [-Prod, → sc_Tx] | grind [-Prod, I_Tx, o_bn, upd]) | (first | with_reducible exact True.intro | with_reducible assumption | grind [-Prod] | grind [-Prod, → sc_Tx] | grind [-Prod, I_Tx, o_bn, upd])
theorem l_Tx_wholeNumber_b47 {n : Nat} {x1 : Int32} {a0 : STx} {z : Int32 × Int32} (hn : o_big ≤ n) (h_a0 : I_Tx a0) (l0 : 0 ≤ z.2) : o_ok (o_lp n (m_Tx_wholeNumber_b47 n x1 a0) z) (fun q => q.1 ≠ 0 ∧ True) := by
  exact o_lpR (fun z => 0 ≤ z.2) (fun z => o_mu z.2) hn (o_muB) l0
    (fun z hz => by have l0 := hz; exact o_okW (s_Tx_wholeNumber_b47 hn h_a0 l0) (fun q hq => ⟨fun h => by have := hq.1 h; grind, hq.2⟩))
theorem s_Tx_wholeNumber {n : Nat} {x1 : Int32} {a0 : STx} (hn : o_big ≤ n) (h_a0 : I_Tx a0) : o_ok (m_Tx_wholeNumber n x1 a0) (fun r => True) := by
  unfold m_Tx_wholeNumber
  refine o_okB (s_Tx_kind  h_a0) ?_
  intro q1_1 _
  refine o_okI (fun c2 => ?_) (fun c2 => ?_)
  · refine o_okB (s_Tx_sign  h_a0) ?_
    intro q2_3 _
    refine o_okI (fun c4 => ?_) (fun c4 => ?_)
    · refine o_okS ?_
      trivial
    · refine o_okB (s_Tx_exponent  h_a0) ?_
      intro q3_5 _
      refine o_okI (fun c6 => ?_) (fun c6 => ?_)
      · refine o_okS ?_
        trivial
      · refine o_okB (s_Tx_size  h_a0) ?_
        intro q4_7 g8
        refine o_okB (s_Tx_exponent  h_a0) ?_
        intro q5_9 _
        refine o_okI (fun c10 => ?_) (fun c10 => ?_)
        · refine o_okB (l_Tx_wholeNumber_b47  hn h_a0 (by first | with_reducible exact True.intro | with_reducible assumption | grind [-Prod] | grind [-Prod, → sc_Tx] | grind [-Prod, I_Tx, o_bn, upd])) ?_
          intro q9_11 ⟨yq9_11, _⟩
          refine o_okI (fun c12 => ?_) (fun c12 => ?_)
          · refine o_okS ?_
            trivial
          · refine o_okS ?_
            trivial
        · refine o_okS ?_
          trivial
  · refine o_okS ?_
    trivial
theorem s_SJ_isLetter {x0 : Int32}  : o_ok (m_SJ_isLetter x0) (fun r => (r = 0 ∨ r = 1)) := by
  unfold m_SJ_isLetter
  refine o_okI (fun c1 => ?_) (fun c1 => ?_)
  · unfold m_SJ_isLetter_j12
    refine o_okI (fun c2 => ?_) (fun c2 => ?_)
    · unfold m_SJ_isLetter_j24
      refine o_okI (fun c3 => ?_) (fun c3 => ?_)
      · refine o_okS ?_
        first | with_reducible exact True.intro | with_reducible assumption | grind [-Prod] | grind [-Prod] | grind [-Prod, o_bn, upd]
      · refine o_okS ?_
        first | with_reducible exact True.intro | with_reducible assumption | grind [-Prod] | grind [-Prod] | grind [-Prod, o_bn, upd]
    · refine o_okI (fun c4 => ?_) (fun c4 => ?_)
      · refine o_okS ?_
        first | with_reducible exact True.intro | with_reducible assumption | grind [-Prod] | grind [-Prod] | grind [-Prod, o_bn, upd]
      · unfold m_SJ_isLetter_j24
        refine o_okI (fun c5 => ?_) (fun c5 => ?_)
        · refine o_okS ?_
          first | with_reducible exact True.intro | with_reducible assumption | grind [-Prod] | grind [-Prod] | grind [-Prod, o_bn, upd]
        · refine o_okS ?_
          first | with_reducible exact True.intro | with_reducible assumption | grind [-Prod] | grind [-Prod] | grind [-Prod, o_bn, upd]
  · refine o_okI (fun c6 => ?_) (fun c6 => ?_)
    · refine o_okS ?_
      first | with_reducible exact True.intro | with_reducible assumption | grind [-Prod] | grind [-Prod] | grind [-Prod, o_bn, upd]
    · unfold m_SJ_isLetter_j12
      refine o_okI (fun c7 => ?_) (fun c7 => ?_)
      · unfold m_SJ_isLetter_j24
        refine o_okI (fun c8 => ?_) (fun c8 => ?_)
        · refine o_okS ?_
          first | with_reducible exact True.intro | with_reducible assumption | grind [-Prod] | grind [-Prod] | grind [-Prod, o_bn, upd]
        · refine o_okS ?_
          first | with_reducible exact True.intro | with_reducible assumption | grind [-Prod] | grind [-Prod] | grind [-Prod, o_bn, upd]
      · refine o_okI (fun c9 => ?_) (fun c9 => ?_)
        · refine o_okS ?_
          first | with_reducible exact True.intro | with_reducible assumption | grind [-Prod] | grind [-Prod] | grind [-Prod, o_bn, upd]
        · unfold m_SJ_isLetter_j24
          refine o_okI (fun c10 => ?_) (fun c10 => ?_)
          · refine o_okS ?_
            first | with_reducible exact True.intro | with_reducible assumption | grind [-Prod] | grind [-Prod] | grind [-Prod, o_bn, upd]
          · refine o_okS ?_
            first | with_reducible exact True.intro | with_reducible assumption | grind [-Prod] | grind [-Prod] | grind [-Prod, o_bn, upd]
set_option maxHeartbeats 8000000 in
theorem s_Ck_isAnchor_b2 {n : Nat} {x1 : Int32} {T0 : STx} {z : Int32} (hn : o_big ≤ n) (h_T0 : I_Tx T0) (l0 : 0 ≤ z) : o_ok (m_Ck_isAnchor_b2 n x1 T0 z) (fun q => (q.1 = 0 → 0 ≤ q.2 ∧ o_mu q.2 < o_mu z) ∧ (q.1 ≠ 0 → True)) := by
  unfold m_Ck_isAnchor_b2
  refine o_okB (s_Tx_size  h_T0) ?_
  intro q1_1 g2
  refine o_okI (fun c3 => ?_) (fun c3 => ?_)
  · refine o_okS ?_
    refine ⟨fun h => absurd (show (2 : Nat) = 0 from h) (by decide), fun _ => ?_⟩
    trivial
  · refine o_okB (s_Tx_cell  h_T0) ?_
    intro q2_4 g5
    refine o_okI (fun c6 => ?_) (fun c6 => ?_)
    · unfold m_Ck_isAnchor_j52
      refine o_okB (s_SJ_isLetter ) ?_
      intro q3_7 g8
      refine o_okI (fun c9 => ?_) (fun c9 => ?_)
      · refine o_okI (fun c10 => ?_) (fun c10 => ?_)
        · refine o_okS ?_
          refine ⟨fun h => absurd (show (1 : Nat) = 0 from h) (by decide), fun _ => ?_⟩
          trivial
        · refine o_okN (fun x2_68_11 ex2_68_11 => ?_)
          refine o_okS ?_
          refine ⟨fun _ => ?_, fun h => absurd rfl h⟩
          refine ⟨?_, ?_⟩
          · first | with_reducible exact True.intro | with_reducible assumption | grind [-Prod] | grind [-Prod, → sc_Tx] | grind [-Prod, I_Tx, o_bn, upd]
          · first | exact o_muL (by first | with_reducible exact True.intro | with_reducible assumption | grind [-Prod] | grind [-Prod, → sc_Tx] | grind [-Prod, I_Tx, o_bn, upd]) | exact o_nuL (by first | with_reducible exact True.intro | with_reducible assumption | grind [-Prod] | grind [-Prod, → sc_Tx] | grind [-Prod, I_Tx, o_bn, upd]) | (first | with_reducible exact True.intro | with_reducible assumption | grind [-Prod] | grind [-Prod, → sc_Tx] | grind [-Prod, I_Tx, o_bn, upd])
      · refine o_okN (fun x2_68_12 ex2_68_12 => ?_)
        refine o_okS ?_
        refine ⟨fun _ => ?_, fun h => absurd rfl h⟩
        refine ⟨?_, ?_⟩
        · first | with_reducible exact True.intro | with_reducible assumption | grind [-Prod] | grind [-Prod, → sc_Tx] | grind [-Prod, I_Tx, o_bn, upd]
        · first | exact o_muL (by first | with_reducible exact True.intro | with_reducible assumption | grind [-Prod] | grind [-Prod, → sc_Tx] | grind [-Prod, I_Tx, o_bn, upd]) | exact o_nuL (by first | with_reducible exact True.intro | with_reducible assumption | grind [-Prod] | grind [-Prod, → sc_Tx] | grind [-Prod, I_Tx, o_bn, upd]) | (first | with_reducible exact True.intro | with_reducible assumption | grind [-Prod] | grind [-Prod, → sc_Tx] | grind [-Prod, I_Tx, o_bn, upd])
    · refine o_okB (s_SJ_isDigit ) ?_
      intro q4_13 ⟨g14, g15⟩
      refine o_okI (fun c16 => ?_) (fun c16 => ?_)
      · refine o_okI (fun c17 => ?_) (fun c17 => ?_)
        · unfold m_Ck_isAnchor_j52
          refine o_okB (s_SJ_isLetter ) ?_
          intro q3_18 g19
          refine o_okI (fun c20 => ?_) (fun c20 => ?_)
          · refine o_okI (fun c21 => ?_) (fun c21 => ?_)
            · refine o_okS ?_
              refine ⟨fun h => absurd (show (1 : Nat) = 0 from h) (by decide), fun _ => ?_⟩
              trivial
            · refine o_okN (fun x2_68_22 ex2_68_22 => ?_)
              refine o_okS ?_
              refine ⟨fun _ => ?_, fun h => absurd rfl h⟩
              refine ⟨?_, ?_⟩
              · first | with_reducible exact True.intro | with_reducible assumption | grind [-Prod] | grind [-Prod, → sc_Tx] | grind [-Prod, I_Tx, o_bn, upd]
              · first | exact o_muL (by first | with_reducible exact True.intro | with_reducible assumption | grind [-Prod] | grind [-Prod, → sc_Tx] | grind [-Prod, I_Tx, o_bn, upd]) | exact o_nuL (by first | with_reducible exact True.intro | with_reducible assumption | grind [-Prod] | grind [-Prod, → sc_Tx] | grind [-Prod, I_Tx, o_bn, upd]) | (first | with_reducible exact True.intro | with_reducible assumption | grind [-Prod] | grind [-Prod, → sc_Tx] | grind [-Prod, I_Tx, o_bn, upd])
          · refine o_okN (fun x2_68_23 ex2_68_23 => ?_)
            refine o_okS ?_
            refine ⟨fun _ => ?_, fun h => absurd rfl h⟩
            refine ⟨?_, ?_⟩
            · first | with_reducible exact True.intro | with_reducible assumption | grind [-Prod] | grind [-Prod, → sc_Tx] | grind [-Prod, I_Tx, o_bn, upd]
            · first | exact o_muL (by first | with_reducible exact True.intro | with_reducible assumption | grind [-Prod] | grind [-Prod, → sc_Tx] | grind [-Prod, I_Tx, o_bn, upd]) | exact o_nuL (by first | with_reducible exact True.intro | with_reducible assumption | grind [-Prod] | grind [-Prod, → sc_Tx] | grind [-Prod, I_Tx, o_bn, upd]) | (first | with_reducible exact True.intro | with_reducible assumption | grind [-Prod] | grind [-Prod, → sc_Tx] | grind [-Prod, I_Tx, o_bn, upd])
        · refine o_okI (fun c24 => ?_) (fun c24 => ?_)
          · unfold m_Ck_isAnchor_j52
            refine o_okB (s_SJ_isLetter ) ?_
            intro q3_25 g26
            refine o_okI (fun c27 => ?_) (fun c27 => ?_)
            · refine o_okI (fun c28 => ?_) (fun c28 => ?_)
              · refine o_okS ?_
                refine ⟨fun h => absurd (show (1 : Nat) = 0 from h) (by decide), fun _ => ?_⟩
                trivial
              · refine o_okN (fun x2_68_29 ex2_68_29 => ?_)
                refine o_okS ?_
                refine ⟨fun _ => ?_, fun h => absurd rfl h⟩
                refine ⟨?_, ?_⟩
                · first | with_reducible exact True.intro | with_reducible assumption | grind [-Prod] | grind [-Prod, → sc_Tx] | grind [-Prod, I_Tx, o_bn, upd]
                · first | exact o_muL (by first | with_reducible exact True.intro | with_reducible assumption | grind [-Prod] | grind [-Prod, → sc_Tx] | grind [-Prod, I_Tx, o_bn, upd]) | exact o_nuL (by first | with_reducible exact True.intro | with_reducible assumption | grind [-Prod] | grind [-Prod, → sc_Tx] | grind [-Prod, I_Tx, o_bn, upd]) | (first | with_reducible exact True.intro | with_reducible assumption | grind [-Prod] | grind [-Prod, → sc_Tx] | grind [-Prod, I_Tx, o_bn, upd])
            · refine o_okN (fun x2_68_30 ex2_68_30 => ?_)
              refine o_okS ?_
              refine ⟨fun _ => ?_, fun h => absurd rfl h⟩
              refine ⟨?_, ?_⟩
              · first | with_reducible exact True.intro | with_reducible assumption | grind [-Prod] | grind [-Prod, → sc_Tx] | grind [-Prod, I_Tx, o_bn, upd]
              · first | exact o_muL (by first | with_reducible exact True.intro | with_reducible assumption | grind [-Prod] | grind [-Prod, → sc_Tx] | grind [-Prod, I_Tx, o_bn, upd]) | exact o_nuL (by first | with_reducible exact True.intro | with_reducible assumption | grind [-Prod] | grind [-Prod, → sc_Tx] | grind [-Prod, I_Tx, o_bn, upd]) | (first | with_reducible exact True.intro | with_reducible assumption | grind [-Prod] | grind [-Prod, → sc_Tx] | grind [-Prod, I_Tx, o_bn, upd])
          · unfold m_Ck_isAnchor_j52
            refine o_okB (s_SJ_isLetter ) ?_
            intro q3_31 g32
            refine o_okI (fun c33 => ?_) (fun c33 => ?_)
            · refine o_okI (fun c34 => ?_) (fun c34 => ?_)
              · refine o_okS ?_
                refine ⟨fun h => absurd (show (1 : Nat) = 0 from h) (by decide), fun _ => ?_⟩
                trivial
              · refine o_okN (fun x2_68_35 ex2_68_35 => ?_)
                refine o_okS ?_
                refine ⟨fun _ => ?_, fun h => absurd rfl h⟩
                refine ⟨?_, ?_⟩
                · first | with_reducible exact True.intro | with_reducible assumption | grind [-Prod] | grind [-Prod, → sc_Tx] | grind [-Prod, I_Tx, o_bn, upd]
                · first | exact o_muL (by first | with_reducible exact True.intro | with_reducible assumption | grind [-Prod] | grind [-Prod, → sc_Tx] | grind [-Prod, I_Tx, o_bn, upd]) | exact o_nuL (by first | with_reducible exact True.intro | with_reducible assumption | grind [-Prod] | grind [-Prod, → sc_Tx] | grind [-Prod, I_Tx, o_bn, upd]) | (first | with_reducible exact True.intro | with_reducible assumption | grind [-Prod] | grind [-Prod, → sc_Tx] | grind [-Prod, I_Tx, o_bn, upd])
            · refine o_okN (fun x2_68_36 ex2_68_36 => ?_)
              refine o_okS ?_
              refine ⟨fun _ => ?_, fun h => absurd rfl h⟩
              refine ⟨?_, ?_⟩
              · first | with_reducible exact True.intro | with_reducible assumption | grind [-Prod] | grind [-Prod, → sc_Tx] | grind [-Prod, I_Tx, o_bn, upd]
              · first | exact o_muL (by first | with_reducible exact True.intro | with_reducible assumption | grind [-Prod] | grind [-Prod, → sc_Tx] | grind [-Prod, I_Tx, o_bn, upd]) | exact o_nuL (by first | with_reducible exact True.intro | with_reducible assumption | grind [-Prod] | grind [-Prod, → sc_Tx] | grind [-Prod, I_Tx, o_bn, upd]) | (first | with_reducible exact True.intro | with_reducible assumption | grind [-Prod] | grind [-Prod, → sc_Tx] | grind [-Prod, I_Tx, o_bn, upd])
      · unfold m_Ck_isAnchor_j52
        refine o_okB (s_SJ_isLetter ) ?_
        intro q3_37 g38
        refine o_okI (fun c39 => ?_) (fun c39 => ?_)
        · refine o_okI (fun c40 => ?_) (fun c40 => ?_)
          · refine o_okS ?_
            refine ⟨fun h => absurd (show (1 : Nat) = 0 from h) (by decide), fun _ => ?_⟩
            trivial
          · refine o_okN (fun x2_68_41 ex2_68_41 => ?_)
            refine o_okS ?_
            refine ⟨fun _ => ?_, fun h => absurd rfl h⟩
            refine ⟨?_, ?_⟩
            · first | with_reducible exact True.intro | with_reducible assumption | grind [-Prod] | grind [-Prod, → sc_Tx] | grind [-Prod, I_Tx, o_bn, upd]
            · first | exact o_muL (by first | with_reducible exact True.intro | with_reducible assumption | grind [-Prod] | grind [-Prod, → sc_Tx] | grind [-Prod, I_Tx, o_bn, upd]) | exact o_nuL (by first | with_reducible exact True.intro | with_reducible assumption | grind [-Prod] | grind [-Prod, → sc_Tx] | grind [-Prod, I_Tx, o_bn, upd]) | (first | with_reducible exact True.intro | with_reducible assumption | grind [-Prod] | grind [-Prod, → sc_Tx] | grind [-Prod, I_Tx, o_bn, upd])
        · refine o_okN (fun x2_68_42 ex2_68_42 => ?_)
          refine o_okS ?_
          refine ⟨fun _ => ?_, fun h => absurd rfl h⟩
          refine ⟨?_, ?_⟩
          · first | with_reducible exact True.intro | with_reducible assumption | grind [-Prod] | grind [-Prod, → sc_Tx] | grind [-Prod, I_Tx, o_bn, upd]
          · first | exact o_muL (by first | with_reducible exact True.intro | with_reducible assumption | grind [-Prod] | grind [-Prod, → sc_Tx] | grind [-Prod, I_Tx, o_bn, upd]) | exact o_nuL (by first | with_reducible exact True.intro | with_reducible assumption | grind [-Prod] | grind [-Prod, → sc_Tx] | grind [-Prod, I_Tx, o_bn, upd]) | (first | with_reducible exact True.intro | with_reducible assumption | grind [-Prod] | grind [-Prod, → sc_Tx] | grind [-Prod, I_Tx, o_bn, upd])
theorem l_Ck_isAnchor_b2 {n : Nat} {x1 : Int32} {T0 : STx} {z : Int32} (hn : o_big ≤ n) (h_T0 : I_Tx T0) (l0 : 0 ≤ z) : o_ok (o_lp n (m_Ck_isAnchor_b2 n x1 T0) z) (fun q => q.1 ≠ 0 ∧ True) := by
  exact o_lpR (fun z => 0 ≤ z) (fun z => o_mu z) hn (o_muB) l0
    (fun z hz => by have l0 := hz; exact o_okW (s_Ck_isAnchor_b2 hn h_T0 l0) (fun q hq => ⟨fun h => by have := hq.1 h; grind, hq.2⟩))
theorem s_Ck_isAnchor {n : Nat} {x1 : Int32} {T0 : STx} (hn : o_big ≤ n) (h_T0 : I_Tx T0) : o_ok (m_Ck_isAnchor n x1 T0) (fun r => (r = 0 ∨ r = 1)) := by
  unfold m_Ck_isAnchor
  refine o_okB (l_Ck_isAnchor_b2  hn h_T0 (by first | with_reducible exact True.intro | with_reducible assumption | grind [-Prod] | grind [-Prod, → sc_Tx] | grind [-Prod, I_Tx, o_bn, upd])) ?_
  intro q5_1 ⟨yq5_1, _⟩
  refine o_okI (fun c2 => ?_) (fun c2 => ?_)
  · refine o_okS ?_
    first | with_reducible exact True.intro | with_reducible assumption | grind [-Prod] | grind [-Prod, → sc_Tx] | grind [-Prod, I_Tx, o_bn, upd]
  · refine o_okB (s_Tx_size  h_T0) ?_
    intro q6_3 g4
    refine o_okI (fun c5 => ?_) (fun c5 => ?_)
    · refine o_okS ?_
      first | with_reducible exact True.intro | with_reducible assumption | grind [-Prod] | grind [-Prod, → sc_Tx] | grind [-Prod, I_Tx, o_bn, upd]
    · refine o_okS ?_
      first | with_reducible exact True.intro | with_reducible assumption | grind [-Prod] | grind [-Prod, → sc_Tx] | grind [-Prod, I_Tx, o_bn, upd]
theorem s_Ck_isType {n : Nat} {x1 : Int32} {T0 : STx} (hn : o_big ≤ n) (h_T0 : I_Tx T0) : o_ok (m_Ck_isType n x1 T0) (fun r => (r = 0 ∨ r = 1)) := by
  unfold m_Ck_isType
  refine o_okB (s_Tx_kind  h_T0) ?_
  intro q1_1 _
  refine o_okI (fun c2 => ?_) (fun c2 => ?_)
  · refine o_okB (s_Tx_spells  hn h_T0) ?_
    intro q2_3 g4
    refine o_okI (fun c5 => ?_) (fun c5 => ?_)
    · refine o_okB (s_Tx_spells  hn h_T0) ?_
      intro q3_6 g7
      refine o_okI (fun c8 => ?_) (fun c8 => ?_)
      · refine o_okB (s_Tx_spells  hn h_T0) ?_
        intro q4_9 g10
        refine o_okI (fun c11 => ?_) (fun c11 => ?_)
        · refine o_okB (s_Tx_spells  hn h_T0) ?_
          intro q5_12 g13
          refine o_okI (fun c14 => ?_) (fun c14 => ?_)
          · refine o_okB (s_Tx_spells  hn h_T0) ?_
            intro q6_15 g16
            refine o_okI (fun c17 => ?_) (fun c17 => ?_)
            · refine o_okB (s_Tx_spells  hn h_T0) ?_
              intro q7_18 g19
              refine o_okI (fun c20 => ?_) (fun c20 => ?_)
              · refine o_okB (s_Tx_spells  hn h_T0) ?_
                intro q8_21 g22
                refine o_okI (fun c23 => ?_) (fun c23 => ?_)
                · refine o_okS ?_
                  first | with_reducible exact True.intro | with_reducible assumption | grind [-Prod] | grind [-Prod, → sc_Tx] | grind [-Prod, I_Tx, o_bn, upd]
                · refine o_okS ?_
                  first | with_reducible exact True.intro | with_reducible assumption | grind [-Prod] | grind [-Prod, → sc_Tx] | grind [-Prod, I_Tx, o_bn, upd]
              · refine o_okS ?_
                first | with_reducible exact True.intro | with_reducible assumption | grind [-Prod] | grind [-Prod, → sc_Tx] | grind [-Prod, I_Tx, o_bn, upd]
            · refine o_okS ?_
              first | with_reducible exact True.intro | with_reducible assumption | grind [-Prod] | grind [-Prod, → sc_Tx] | grind [-Prod, I_Tx, o_bn, upd]
          · refine o_okS ?_
            first | with_reducible exact True.intro | with_reducible assumption | grind [-Prod] | grind [-Prod, → sc_Tx] | grind [-Prod, I_Tx, o_bn, upd]
        · refine o_okS ?_
          first | with_reducible exact True.intro | with_reducible assumption | grind [-Prod] | grind [-Prod, → sc_Tx] | grind [-Prod, I_Tx, o_bn, upd]
      · refine o_okS ?_
        first | with_reducible exact True.intro | with_reducible assumption | grind [-Prod] | grind [-Prod, → sc_Tx] | grind [-Prod, I_Tx, o_bn, upd]
    · refine o_okS ?_
      first | with_reducible exact True.intro | with_reducible assumption | grind [-Prod] | grind [-Prod, → sc_Tx] | grind [-Prod, I_Tx, o_bn, upd]
  · refine o_okS ?_
    first | with_reducible exact True.intro | with_reducible assumption | grind [-Prod] | grind [-Prod, → sc_Tx] | grind [-Prod, I_Tx, o_bn, upd]
theorem s_Tx_slot {x1 : Int32} {a0 : STx} (h_a0 : I_Tx a0) : o_ok (m_Tx_slot x1 a0) (fun r => True) := by
  unfold m_Tx_slot
  refine o_okI (fun c1 => ?_) (fun c1 => ?_)
  · refine o_okS ?_
    trivial
  · refine o_okI (fun c2 => ?_) (fun c2 => ?_)
    · refine o_okS ?_
      trivial
    · refine o_okG (o_inM (m := 1000) rfl (by first | with_reducible exact True.intro | with_reducible assumption | grind [-Prod] | grind [-Prod, → sc_Tx] | grind [-Prod, I_Tx, o_bn, upd]) (by first | with_reducible exact True.intro | with_reducible assumption | grind [-Prod] | grind [-Prod, → sc_Tx] | grind [-Prod, I_Tx, o_bn, upd])) ?_
      refine o_okS ?_
      trivial
theorem s_Ck_isNew_b12 {n : Nat} {x2 : Int32} {T0 : STx} {z : Int32 × Int32} (hn : o_big ≤ n) (h_T0 : I_Tx T0) (l0 : 0 ≤ z.2) : o_ok (m_Ck_isNew_b12 n x2 T0 z) (fun q => (q.1 = 0 → 0 ≤ q.2.2 ∧ o_mu q.2.2 < o_mu z.2) ∧ (q.1 ≠ 0 → True)) := by
  unfold m_Ck_isNew_b12
  refine o_okB (s_Tx_slot  h_T0) ?_
  intro q2_1 _
  refine o_okI (fun c2 => ?_) (fun c2 => ?_)
  · refine o_okS ?_
    refine ⟨fun h => absurd (show (2 : Nat) = 0 from h) (by decide), fun _ => ?_⟩
    trivial
  · refine o_okB (s_Tx_kind  h_T0) ?_
    intro q3_3 _
    refine o_okI (fun c4 => ?_) (fun c4 => ?_)
    · refine o_okB (s_Tx_sameString  hn h_T0 h_T0) ?_
      intro q5_5 g6
      refine o_okI (fun c7 => ?_) (fun c7 => ?_)
      · unfold m_Ck_isNew_j55
        refine o_okB (s_Tx_nextChild  h_T0) ?_
        intro q4_8 _
        refine o_okN (fun x4_64_9 ex4_64_9 => ?_)
        refine o_okS ?_
        refine ⟨fun _ => ?_, fun h => absurd rfl h⟩
        refine ⟨?_, ?_⟩
        · first | with_reducible exact True.intro | with_reducible assumption | grind [-Prod] | grind [-Prod, → sc_Tx] | grind [-Prod, I_Tx, o_bn, upd]
        · first | exact o_muL (by first | with_reducible exact True.intro | with_reducible assumption | grind [-Prod] | grind [-Prod, → sc_Tx] | grind [-Prod, I_Tx, o_bn, upd]) | exact o_nuL (by first | with_reducible exact True.intro | with_reducible assumption | grind [-Prod] | grind [-Prod, → sc_Tx] | grind [-Prod, I_Tx, o_bn, upd]) | (first | with_reducible exact True.intro | with_reducible assumption | grind [-Prod] | grind [-Prod, → sc_Tx] | grind [-Prod, I_Tx, o_bn, upd])
      · refine o_okS ?_
        refine ⟨fun h => absurd (show (1 : Nat) = 0 from h) (by decide), fun _ => ?_⟩
        trivial
    · unfold m_Ck_isNew_j55
      refine o_okB (s_Tx_nextChild  h_T0) ?_
      intro q4_10 _
      refine o_okN (fun x4_64_11 ex4_64_11 => ?_)
      refine o_okS ?_
      refine ⟨fun _ => ?_, fun h => absurd rfl h⟩
      refine ⟨?_, ?_⟩
      · first | with_reducible exact True.intro | with_reducible assumption | grind [-Prod] | grind [-Prod, → sc_Tx] | grind [-Prod, I_Tx, o_bn, upd]
      · first | exact o_muL (by first | with_reducible exact True.intro | with_reducible assumption | grind [-Prod] | grind [-Prod, → sc_Tx] | grind [-Prod, I_Tx, o_bn, upd]) | exact o_nuL (by first | with_reducible exact True.intro | with_reducible assumption | grind [-Prod] | grind [-Prod, → sc_Tx] | grind [-Prod, I_Tx, o_bn, upd]) | (first | with_reducible exact True.intro | with_reducible assumption | grind [-Prod] | grind [-Prod, → sc_Tx] | grind [-Prod, I_Tx, o_bn, upd])
theorem l_Ck_isNew_b12 {n : Nat} {x2 : Int32} {T0 : STx} {z : Int32 × Int32} (hn : o_big ≤ n) (h_T0 : I_Tx T0) (l0 : 0 ≤ z.2) : o_ok (o_lp n (m_Ck_isNew_b12 n x2 T0) z) (fun q => q.1 ≠ 0 ∧ True) := by
  exact o_lpR (fun z => 0 ≤ z.2) (fun z => o_mu z.2) hn (o_muB) l0
    (fun z hz => by have l0 := hz; exact o_okW (s_Ck_isNew_b12 hn h_T0 l0) (fun q hq => ⟨fun h => by have := hq.1 h; grind, hq.2⟩))
theorem s_Ck_isNew {n : Nat} {x1 : Int32} {x2 : Int32} {T0 : STx} (hn : o_big ≤ n) (h_T0 : I_Tx T0) : o_ok (m_Ck_isNew n x1 x2 T0) (fun r => (r = 0 ∨ r = 1)) := by
  unfold m_Ck_isNew
  refine o_okB (s_Tx_firstChild  h_T0) ?_
  intro q1_1 _
  refine o_okB (l_Ck_isNew_b12  hn h_T0 (by first | with_reducible exact True.intro | with_reducible assumption | grind [-Prod] | grind [-Prod, → sc_Tx] | grind [-Prod, I_Tx, o_bn, upd])) ?_
  intro q6_2 ⟨yq6_2, _⟩
  refine o_okI (fun c3 => ?_) (fun c3 => ?_)
  · refine o_okS ?_
    first | with_reducible exact True.intro | with_reducible assumption | grind [-Prod] | grind [-Prod, → sc_Tx] | grind [-Prod, I_Tx, o_bn, upd]
  · refine o_okS ?_
    first | with_reducible exact True.intro | with_reducible assumption | grind [-Prod] | grind [-Prod, → sc_Tx] | grind [-Prod, I_Tx, o_bn, upd]
theorem s_Ck_inspectTypes_b49 {n : Nat} {x1 : Int32} {T0 : STx} {z : Int32 × Int32 × SCk} (hn : o_big ≤ n) (h_T0 : I_Tx T0) (l0 : 0 ≤ z.2.1) (l1 : I_Ck z.2.2) : o_ok (m_Ck_inspectTypes_b49 n x1 T0 z) (fun q => (q.1 = 0 → 0 ≤ q.2.2.1 ∧ I_Ck q.2.2.2 ∧ o_mu q.2.2.1 < o_mu z.2.1) ∧ (q.1 ≠ 0 → I_Ck q.2.2.2)) := by
  unfold m_Ck_inspectTypes_b49
  refine o_okB (s_Tx_size  h_T0) ?_
  intro q4_1 g2
  refine o_okI (fun c3 => ?_) (fun c3 => ?_)
  · refine o_okS ?_
    refine ⟨fun h => absurd (show (1 : Nat) = 0 from h) (by decide), fun _ => ?_⟩
    exact l1
  · refine o_okB (s_Ck_isType  hn h_T0) ?_
    intro q5_4 g5
    refine o_okI (fun c6 => ?_) (fun c6 => ?_)
    · unfold m_Ck_inspectTypes_j85
      refine o_okB (s_Ck_require  l1) ?_
      intro q6_7 g8
      refine o_okB (s_Tx_nextChild  h_T0) ?_
      intro q7_9 _
      refine o_okN (fun x4_98_10 ex4_98_10 => ?_)
      refine o_okS ?_
      refine ⟨fun _ => ?_, fun h => absurd rfl h⟩
      refine ⟨?_, ?_, ?_⟩
      · first | with_reducible exact True.intro | with_reducible assumption | grind [-Prod] | grind [-Prod, → sc_Ck, → sc_Tx] | grind [-Prod, I_Ck, I_Tx, o_bn, upd]
      · exact g8
      · first | exact o_muL (by first | with_reducible exact True.intro | with_reducible assumption | grind [-Prod] | grind [-Prod, → sc_Ck, → sc_Tx] | grind [-Prod, I_Ck, I_Tx, o_bn, upd]) | exact o_nuL (by first | with_reducible exact True.intro | with_reducible assumption | grind [-Prod] | grind [-Prod, → sc_Ck, → sc_Tx] | grind [-Prod, I_Ck, I_Tx, o_bn, upd]) | (first | with_reducible exact True.intro | with_reducible assumption | grind [-Prod] | grind [-Prod, → sc_Ck, → sc_Tx] | grind [-Prod, I_Ck, I_Tx, o_bn, upd])
    · refine o_okB (s_Ck_isNew  hn h_T0) ?_
      intro q8_11 g12
      refine o_okI (fun c13 => ?_) (fun c13 => ?_)
      · unfold m_Ck_inspectTypes_j85
        refine o_okB (s_Ck_require  l1) ?_
        intro q6_14 g15
        refine o_okB (s_Tx_nextChild  h_T0) ?_
        intro q7_16 _
        refine o_okN (fun x4_98_17 ex4_98_17 => ?_)
        refine o_okS ?_
        refine ⟨fun _ => ?_, fun h => absurd rfl h⟩
        refine ⟨?_, ?_, ?_⟩
        · first | with_reducible exact True.intro | with_reducible assumption | grind [-Prod] | grind [-Prod, → sc_Ck, → sc_Tx] | grind [-Prod, I_Ck, I_Tx, o_bn, upd]
        · exact g15
        · first | exact o_muL (by first | with_reducible exact True.intro | with_reducible assumption | grind [-Prod] | grind [-Prod, → sc_Ck, → sc_Tx] | grind [-Prod, I_Ck, I_Tx, o_bn, upd]) | exact o_nuL (by first | with_reducible exact True.intro | with_reducible assumption | grind [-Prod] | grind [-Prod, → sc_Ck, → sc_Tx] | grind [-Prod, I_Ck, I_Tx, o_bn, upd]) | (first | with_reducible exact True.intro | with_reducible assumption | grind [-Prod] | grind [-Prod, → sc_Ck, → sc_Tx] | grind [-Prod, I_Ck, I_Tx, o_bn, upd])
      · unfold m_Ck_inspectTypes_j85
        refine o_okB (s_Ck_require  l1) ?_
        intro q6_18 g19
        refine o_okB (s_Tx_nextChild  h_T0) ?_
        intro q7_20 _
        refine o_okN (fun x4_98_21 ex4_98_21 => ?_)
        refine o_okS ?_
        refine ⟨fun _ => ?_, fun h => absurd rfl h⟩
        refine ⟨?_, ?_, ?_⟩
        · first | with_reducible exact True.intro | with_reducible assumption | grind [-Prod] | grind [-Prod, → sc_Ck, → sc_Tx] | grind [-Prod, I_Ck, I_Tx, o_bn, upd]
        · exact g19
        · first | exact o_muL (by first | with_reducible exact True.intro | with_reducible assumption | grind [-Prod] | grind [-Prod, → sc_Ck, → sc_Tx] | grind [-Prod, I_Ck, I_Tx, o_bn, upd]) | exact o_nuL (by first | with_reducible exact True.intro | with_reducible assumption | grind [-Prod] | grind [-Prod, → sc_Ck, → sc_Tx] | grind [-Prod, I_Ck, I_Tx, o_bn, upd]) | (first | with_reducible exact True.intro | with_reducible assumption | grind [-Prod] | grind [-Prod, → sc_Ck, → sc_Tx] | grind [-Prod, I_Ck, I_Tx, o_bn, upd])
theorem l_Ck_inspectTypes_b49 {n : Nat} {x1 : Int32} {T0 : STx} {z : Int32 × Int32 × SCk} (hn : o_big ≤ n) (h_T0 : I_Tx T0) (l0 : 0 ≤ z.2.1) (l1 : I_Ck z.2.2) : o_ok (o_lp n (m_Ck_inspectTypes_b49 n x1 T0) z) (fun q => q.1 ≠ 0 ∧ I_Ck q.2.2.2) := by
  exact o_lpR (fun z => 0 ≤ z.2.1 ∧ I_Ck z.2.2) (fun z => o_mu z.2.1) hn (o_muB) ⟨l0, l1⟩
    (fun z hz => by obtain ⟨l0, l1⟩ := hz; exact o_okW (s_Ck_inspectTypes_b49 hn h_T0 l0 l1) (fun q hq => ⟨fun h => by have := hq.1 h; grind, hq.2⟩))
theorem s_Ck_inspectTypes {n : Nat} {x1 : Int32} {x2 : Int32} {T0 : STx} {Ck : SCk} (hn : o_big ≤ n) (h_T0 : I_Tx T0) (h_Ck : I_Ck Ck) : o_ok (m_Ck_inspectTypes n x1 x2 T0 Ck) (fun r => I_Ck r) := by
  unfold m_Ck_inspectTypes
  refine o_okI (fun c1 => ?_) (fun c1 => ?_)
  · refine o_okB (s_Tx_size  h_T0) ?_
    intro q1_2 g3
    refine o_okI (fun c4 => ?_) (fun c4 => ?_)
    · unfold m_Ck_inspectTypes_j33
      refine o_okB (s_Ck_require  h_Ck) ?_
      intro q2_5 g6
      refine o_okB (s_Tx_firstChild  h_T0) ?_
      intro q3_7 _
      refine o_okB (l_Ck_inspectTypes_b49  hn h_T0 (by first | with_reducible exact True.intro | with_reducible assumption | grind [-Prod] | grind [-Prod, → sc_Ck, → sc_Tx] | grind [-Prod, I_Ck, I_Tx, o_bn, upd]) g6) ?_
      intro q9_8 ⟨yq9_8, g9⟩
      refine o_okS ?_
      exact g9
    · unfold m_Ck_inspectTypes_j33
      refine o_okB (s_Ck_require  h_Ck) ?_
      intro q2_10 g11
      refine o_okB (s_Tx_firstChild  h_T0) ?_
      intro q3_12 _
      refine o_okB (l_Ck_inspectTypes_b49  hn h_T0 (by first | with_reducible exact True.intro | with_reducible assumption | grind [-Prod] | grind [-Prod, → sc_Ck, → sc_Tx] | grind [-Prod, I_Ck, I_Tx, o_bn, upd]) g11) ?_
      intro q9_13 ⟨yq9_13, g14⟩
      refine o_okS ?_
      exact g14
  · refine o_okB (s_Ck_isType  hn h_T0) ?_
    intro q10_15 g16
    refine o_okB (s_Ck_require  h_Ck) ?_
    intro q11_17 g18
    refine o_okS ?_
    exact g18
theorem s_Ck_inspectNames_b44 {n : Nat} {x1 : Int32} {T0 : STx} {z : Int32 × Int32 × SCk} (hn : o_big ≤ n) (h_T0 : I_Tx T0) (l0 : 0 ≤ z.2.1) (l1 : I_Ck z.2.2) : o_ok (m_Ck_inspectNames_b44 n x1 T0 z) (fun q => (q.1 = 0 → 0 ≤ q.2.2.1 ∧ I_Ck q.2.2.2 ∧ o_mu q.2.2.1 < o_mu z.2.1) ∧ (q.1 ≠ 0 → I_Ck q.2.2.2)) := by
  unfold m_Ck_inspectNames_b44
  refine o_okB (s_Tx_size  h_T0) ?_
  intro q3_1 g2
  refine o_okI (fun c3 => ?_) (fun c3 => ?_)
  · refine o_okS ?_
    refine ⟨fun h => absurd (show (1 : Nat) = 0 from h) (by decide), fun _ => ?_⟩
    exact l1
  · refine o_okI (fun c4 => ?_) (fun c4 => ?_)
    · refine o_okS ?_
      refine ⟨fun h => absurd (show (1 : Nat) = 0 from h) (by decide), fun _ => ?_⟩
      exact l1
    · refine o_okB (s_Tx_kind  h_T0) ?_
      intro q4_5 _
      refine o_okI (fun c6 => ?_) (fun c6 => ?_)
      · refine o_okB (s_Ck_isNew  hn h_T0) ?_
        intro q7_7 g8
        refine o_okI (fun c9 => ?_) (fun c9 => ?_)
        · unfold m_Ck_inspectNames_j89
          refine o_okB (s_Ck_require  l1) ?_
          intro q5_10 g11
          refine o_okB (s_Tx_nextChild  h_T0) ?_
          intro q6_12 _
          refine o_okN (fun x4_102_13 ex4_102_13 => ?_)
          refine o_okS ?_
          refine ⟨fun _ => ?_, fun h => absurd rfl h⟩
          refine ⟨?_, ?_, ?_⟩
          · first | with_reducible exact True.intro | with_reducible assumption | grind [-Prod] | grind [-Prod, → sc_Ck, → sc_Tx] | grind [-Prod, I_Ck, I_Tx, o_bn, upd]
          · exact g11
          · first | exact o_muL (by first | with_reducible exact True.intro | with_reducible assumption | grind [-Prod] | grind [-Prod, → sc_Ck, → sc_Tx] | grind [-Prod, I_Ck, I_Tx, o_bn, upd]) | exact o_nuL (by first | with_reducible exact True.intro | with_reducible assumption | grind [-Prod] | grind [-Prod, → sc_Ck, → sc_Tx] | grind [-Prod, I_Ck, I_Tx, o_bn, upd]) | (first | with_reducible exact True.intro | with_reducible assumption | grind [-Prod] | grind [-Prod, → sc_Ck, → sc_Tx] | grind [-Prod, I_Ck, I_Tx, o_bn, upd])
        · unfold m_Ck_inspectNames_j89
          refine o_okB (s_Ck_require  l1) ?_
          intro q5_14 g15
          refine o_okB (s_Tx_nextChild  h_T0) ?_
          intro q6_16 _
          refine o_okN (fun x4_102_17 ex4_102_17 => ?_)
          refine o_okS ?_
          refine ⟨fun _ => ?_, fun h => absurd rfl h⟩
          refine ⟨?_, ?_, ?_⟩
          · first | with_reducible exact True.intro | with_reducible assumption | grind [-Prod] | grind [-Prod, → sc_Ck, → sc_Tx] | grind [-Prod, I_Ck, I_Tx, o_bn, upd]
          · exact g15
          · first | exact o_muL (by first | with_reducible exact True.intro | with_reducible assumption | grind [-Prod] | grind [-Prod, → sc_Ck, → sc_Tx] | grind [-Prod, I_Ck, I_Tx, o_bn, upd]) | exact o_nuL (by first | with_reducible exact True.intro | with_reducible assumption | grind [-Prod] | grind [-Prod, → sc_Ck, → sc_Tx] | grind [-Prod, I_Ck, I_Tx, o_bn, upd]) | (first | with_reducible exact True.intro | with_reducible assumption | grind [-Prod] | grind [-Prod, → sc_Ck, → sc_Tx] | grind [-Prod, I_Ck, I_Tx, o_bn, upd])
      · unfold m_Ck_inspectNames_j89
        refine o_okB (s_Ck_require  l1) ?_
        intro q5_18 g19
        refine o_okB (s_Tx_nextChild  h_T0) ?_
        intro q6_20 _
        refine o_okN (fun x4_102_21 ex4_102_21 => ?_)
        refine o_okS ?_
        refine ⟨fun _ => ?_, fun h => absurd rfl h⟩
        refine ⟨?_, ?_, ?_⟩
        · first | with_reducible exact True.intro | with_reducible assumption | grind [-Prod] | grind [-Prod, → sc_Ck, → sc_Tx] | grind [-Prod, I_Ck, I_Tx, o_bn, upd]
        · exact g19
        · first | exact o_muL (by first | with_reducible exact True.intro | with_reducible assumption | grind [-Prod] | grind [-Prod, → sc_Ck, → sc_Tx] | grind [-Prod, I_Ck, I_Tx, o_bn, upd]) | exact o_nuL (by first | with_reducible exact True.intro | with_reducible assumption | grind [-Prod] | grind [-Prod, → sc_Ck, → sc_Tx] | grind [-Prod, I_Ck, I_Tx, o_bn, upd]) | (first | with_reducible exact True.intro | with_reducible assumption | grind [-Prod] | grind [-Prod, → sc_Ck, → sc_Tx] | grind [-Prod, I_Ck, I_Tx, o_bn, upd])
theorem l_Ck_inspectNames_b44 {n : Nat} {x1 : Int32} {T0 : STx} {z : Int32 × Int32 × SCk} (hn : o_big ≤ n) (h_T0 : I_Tx T0) (l0 : 0 ≤ z.2.1) (l1 : I_Ck z.2.2) : o_ok (o_lp n (m_Ck_inspectNames_b44 n x1 T0) z) (fun q => q.1 ≠ 0 ∧ I_Ck q.2.2.2) := by
  exact o_lpR (fun z => 0 ≤ z.2.1 ∧ I_Ck z.2.2) (fun z => o_mu z.2.1) hn (o_muB) ⟨l0, l1⟩
    (fun z hz => by obtain ⟨l0, l1⟩ := hz; exact o_okW (s_Ck_inspectNames_b44 hn h_T0 l0 l1) (fun q hq => ⟨fun h => by have := hq.1 h; grind, hq.2⟩))
theorem s_Ck_inspectNames {n : Nat} {x1 : Int32} {T0 : STx} {Ck : SCk} (hn : o_big ≤ n) (h_T0 : I_Tx T0) (h_Ck : I_Ck Ck) : o_ok (m_Ck_inspectNames n x1 T0 Ck) (fun r => I_Ck r) := by
  unfold m_Ck_inspectNames
  refine o_okB (s_Tx_kind  h_T0) ?_
  intro q1_1 _
  refine o_okI (fun c2 => ?_) (fun c2 => ?_)
  · unfold m_Ck_inspectNames_j17
    refine o_okB (s_Ck_require  h_Ck) ?_
    intro q2_3 g4
    refine o_okI (fun c5 => ?_) (fun c5 => ?_)
    · refine o_okB (l_Ck_inspectNames_b44  hn h_T0 (by first | with_reducible exact True.intro | with_reducible assumption | grind [-Prod] | grind [-Prod, → sc_Ck, → sc_Tx] | grind [-Prod, I_Ck, I_Tx, o_bn, upd]) g4) ?_
      intro q8_6 ⟨yq8_6, g7⟩
      refine o_okS ?_
      exact g7
    · refine o_okB (s_Tx_firstChild  h_T0) ?_
      intro q9_8 _
      refine o_okB (l_Ck_inspectNames_b44  hn h_T0 (by first | with_reducible exact True.intro | with_reducible assumption | grind [-Prod] | grind [-Prod, → sc_Ck, → sc_Tx] | grind [-Prod, I_Ck, I_Tx, o_bn, upd]) g4) ?_
      intro q10_9 ⟨yq10_9, g10⟩
      refine o_okS ?_
      exact g10
  · unfold m_Ck_inspectNames_j17
    refine o_okB (s_Ck_require  h_Ck) ?_
    intro q2_11 g12
    refine o_okI (fun c13 => ?_) (fun c13 => ?_)
    · refine o_okB (l_Ck_inspectNames_b44  hn h_T0 (by first | with_reducible exact True.intro | with_reducible assumption | grind [-Prod] | grind [-Prod, → sc_Ck, → sc_Tx] | grind [-Prod, I_Ck, I_Tx, o_bn, upd]) g12) ?_
      intro q8_14 ⟨yq8_14, g15⟩
      refine o_okS ?_
      exact g15
    · refine o_okB (s_Tx_firstChild  h_T0) ?_
      intro q9_16 _
      refine o_okB (l_Ck_inspectNames_b44  hn h_T0 (by first | with_reducible exact True.intro | with_reducible assumption | grind [-Prod] | grind [-Prod, → sc_Ck, → sc_Tx] | grind [-Prod, I_Ck, I_Tx, o_bn, upd]) g12) ?_
      intro q10_17 ⟨yq10_17, g18⟩
      refine o_okS ?_
      exact g18
theorem s_Ck_inspectPlain_b141 {n : Nat} {x2 : Int32} {T0 : STx} {z : Int32 × Int32 × SCk} (hn : o_big ≤ n) (h_T0 : I_Tx T0) (l0 : 0 ≤ z.2.1) (l1 : I_Ck z.2.2) : o_ok (m_Ck_inspectPlain_b141 n x2 T0 z) (fun q => (q.1 = 0 → 0 ≤ q.2.2.1 ∧ I_Ck q.2.2.2 ∧ o_mu q.2.2.1 < o_mu z.2.1) ∧ (q.1 ≠ 0 → I_Ck q.2.2.2)) := by
  unfold m_Ck_inspectPlain_b141
  refine o_okB (s_Tx_size  h_T0) ?_
  intro q6_1 g2
  refine o_okI (fun c3 => ?_) (fun c3 => ?_)
  · refine o_okS ?_
    refine ⟨fun h => absurd (show (1 : Nat) = 0 from h) (by decide), fun _ => ?_⟩
    exact l1
  · refine o_okI (fun c4 => ?_) (fun c4 => ?_)
    · refine o_okS ?_
      refine ⟨fun h => absurd (show (1 : Nat) = 0 from h) (by decide), fun _ => ?_⟩
      exact l1
    · refine o_okB (s_Ck_inspectNames  hn h_T0 l1) ?_
      intro q7_5 g6
      refine o_okB (s_Tx_nextChild  h_T0) ?_
      intro q8_7 _
      refine o_okN (fun x5_177_8 ex5_177_8 => ?_)
      refine o_okS ?_
      refine ⟨fun _ => ?_, fun h => absurd rfl h⟩
      refine ⟨?_, ?_, ?_⟩
      · first | with_reducible exact True.intro | with_reducible assumption | grind [-Prod] | grind [-Prod, → sc_Ck, → sc_Tx] | grind [-Prod, I_Ck, I_Tx, o_bn, upd]
      · exact g6
      · first | exact o_muL (by first | with_reducible exact True.intro | with_reducible assumption | grind [-Prod] | grind [-Prod, → sc_Ck, → sc_Tx] | grind [-Prod, I_Ck, I_Tx, o_bn, upd]) | exact o_nuL (by first | with_reducible exact True.intro | with_reducible assumption | grind [-Prod] | grind [-Prod, → sc_Ck, → sc_Tx] | grind [-Prod, I_Ck, I_Tx, o_bn, upd]) | (first | with_reducible exact True.intro | with_reducible assumption | grind [-Prod] | grind [-Prod, → sc_Ck, → sc_Tx] | grind [-Prod, I_Ck, I_Tx, o_bn, upd])
theorem l_Ck_inspectPlain_b141 {n : Nat} {x2 : Int32} {T0 : STx} {z : Int32 × Int32 × SCk} (hn : o_big ≤ n) (h_T0 : I_Tx T0) (l0 : 0 ≤ z.2.1) (l1 : I_Ck z.2.2) : o_ok (o_lp n (m_Ck_inspectPlain_b141 n x2 T0) z) (fun q => q.1 ≠ 0 ∧ I_Ck q.2.2.2) := by
  exact o_lpR (fun z => 0 ≤ z.2.1 ∧ I_Ck z.2.2) (fun z => o_mu z.2.1) hn (o_muB) ⟨l0, l1⟩
    (fun z hz => by obtain ⟨l0, l1⟩ := hz; exact o_okW (s_Ck_inspectPlain_b141 hn h_T0 l0 l1) (fun q hq => ⟨fun h => by have := hq.1 h; grind, hq.2⟩))
set_option maxHeartbeats 8000000 in
theorem s_Ck_inspectPlain {n : Nat} {x1 : Nat} {x2 : Int32} {x3 : Int32} {T0 : STx} {Ck : SCk} (hn : o_big ≤ n) (h_T0 : I_Tx T0) (h_Ck : I_Ck Ck) : o_ok (m_Ck_inspectPlain n x1 x2 x3 T0 Ck) (fun r => I_Ck r) := by
  unfold m_Ck_inspectPlain
  refine o_okN (fun w4_1 ew4_1 => ?_)
  refine o_okI (fun c2 => ?_) (fun c2 => ?_)
  · refine o_okB (s_Ck_inspectTypes  hn h_T0 h_Ck) ?_
    intro q1_3 g4
    refine o_okS ?_
    exact g4
  · refine o_okI (fun c5 => ?_) (fun c5 => ?_)
    · refine o_okI (fun c6 => ?_) (fun c6 => ?_)
      · unfold m_Ck_inspectPlain_j64
        refine o_okB (s_Ck_require  h_Ck) ?_
        intro q2_7 g8
        refine o_okS ?_
        exact g8
      · unfold m_Ck_inspectPlain_j64
        refine o_okB (s_Ck_require  h_Ck) ?_
        intro q2_9 g10
        refine o_okS ?_
        exact g10
    · refine o_okI (fun c11 => ?_) (fun c11 => ?_)
      · refine o_okS ?_
        exact h_Ck
      · refine o_okI (fun c12 => ?_) (fun c12 => ?_)
        · refine o_okI (fun c13 => ?_) (fun c13 => ?_)
          · unfold m_Ck_inspectPlain_j87
            refine o_okB (s_Ck_require  h_Ck) ?_
            intro q3_14 g15
            refine o_okS ?_
            exact g15
          · refine o_okI (fun c16 => ?_) (fun c16 => ?_)
            · unfold m_Ck_inspectPlain_j87
              refine o_okB (s_Ck_require  h_Ck) ?_
              intro q3_17 g18
              refine o_okS ?_
              exact g18
            · unfold m_Ck_inspectPlain_j87
              refine o_okB (s_Ck_require  h_Ck) ?_
              intro q3_19 g20
              refine o_okS ?_
              exact g20
        · refine o_okI (fun c21 => ?_) (fun c21 => ?_)
          · refine o_okB (s_Ck_inspectNames  hn h_T0 h_Ck) ?_
            intro q4_22 g23
            refine o_okS ?_
            exact g23
          · refine o_okI (fun c24 => ?_) (fun c24 => ?_)
            · refine o_okI (fun c25 => ?_) (fun c25 => ?_)
              · unfold m_Ck_inspectPlain_j114
                refine o_okB (s_Ck_require  h_Ck) ?_
                intro q5_26 g27
                refine o_okI (fun c28 => ?_) (fun c28 => ?_)
                · refine o_okB (s_Tx_firstChild  h_T0) ?_
                  intro q10_29 _
                  refine o_okB (l_Ck_inspectPlain_b141  hn h_T0 (by first | with_reducible exact True.intro | with_reducible assumption | grind [-Prod] | grind [-Prod, → sc_Ck, → sc_Tx] | grind [-Prod, I_Ck, I_Tx, o_bn, upd]) g27) ?_
                  intro q11_30 ⟨yq11_30, g31⟩
                  refine o_okS ?_
                  exact g31
                · refine o_okB (l_Ck_inspectPlain_b141  hn h_T0 (by first | with_reducible exact True.intro | with_reducible assumption | grind [-Prod] | grind [-Prod, → sc_Ck, → sc_Tx] | grind [-Prod, I_Ck, I_Tx, o_bn, upd]) g27) ?_
                  intro q9_32 ⟨yq9_32, g33⟩
                  refine o_okS ?_
                  exact g33
              · unfold m_Ck_inspectPlain_j114
                refine o_okB (s_Ck_require  h_Ck) ?_
                intro q5_34 g35
                refine o_okI (fun c36 => ?_) (fun c36 => ?_)
                · refine o_okB (s_Tx_firstChild  h_T0) ?_
                  intro q10_37 _
                  refine o_okB (l_Ck_inspectPlain_b141  hn h_T0 (by first | with_reducible exact True.intro | with_reducible assumption | grind [-Prod] | grind [-Prod, → sc_Ck, → sc_Tx] | grind [-Prod, I_Ck, I_Tx, o_bn, upd]) g35) ?_
                  intro q11_38 ⟨yq11_38, g39⟩
                  refine o_okS ?_
                  exact g39
                · refine o_okB (l_Ck_inspectPlain_b141  hn h_T0 (by first | with_reducible exact True.intro | with_reducible assumption | grind [-Prod] | grind [-Prod, → sc_Ck, → sc_Tx] | grind [-Prod, I_Ck, I_Tx, o_bn, upd]) g35) ?_
                  intro q9_40 ⟨yq9_40, g41⟩
                  refine o_okS ?_
                  exact g41
            · refine o_okS ?_
              exact h_Ck
set_option maxHeartbeats 8000000 in
theorem s_Ck_inspectKeyword {n : Nat} {x1 : Nat} {x2 : Int32} {T0 : STx} {Pg : SPg} {Pt : SPt} {Mk : SMk} {Ck : SCk} (hn : o_big ≤ n) (h_T0 : I_Tx T0) (h_Pg : I_Pg Pg) (h_Pt : I_Pt Pt) (h_Ck : I_Ck Ck) : o_ok (m_Ck_inspectKeyword n x1 x2 T0 Pg Pt Mk Ck) (fun r => I_Pg r.1 ∧ I_Pt r.2.1 ∧ I_Ck r.2.2.2) := by
  unfold m_Ck_inspectKeyword
  refine o_okB (s_Tx_kind  h_T0) ?_
  intro q1_1 _
  refine o_okN (fun w13_2 ew13_2 => ?_)
  refine o_okI (fun c3 => ?_) (fun c3 => ?_)
  · refine o_okB (s_Ck_takeSchema  h_T0 h_Ck) ?_
    intro q2_4 g5
    refine o_okS ?_
    refine ⟨?_, ?_, ?_⟩
    · exact h_Pg
    · exact h_Pt
    · exact g5
  · refine o_okI (fun c6 => ?_) (fun c6 => ?_)
    · refine o_okI (fun c7 => ?_) (fun c7 => ?_)
      · refine o_okB (s_Tx_size  h_T0) ?_
        intro q5_8 g9
        refine o_okI (fun c10 => ?_) (fun c10 => ?_)
        · unfold m_Ck_inspectKeyword_j122
          refine o_okB (s_Ck_require  h_Ck) ?_
          intro q3_11 g12
          refine o_okI (fun c13 => ?_) (fun c13 => ?_)
          · unfold m_Ck_inspectKeyword_j138
            refine o_okB (s_Ck_takeSchemas  hn h_T0 g12) ?_
            intro q4_14 g15
            refine o_okS ?_
            refine ⟨?_, ?_, ?_⟩
            · exact h_Pg
            · exact h_Pt
            · exact g15
          · unfold m_Ck_inspectKeyword_j138
            refine o_okB (s_Ck_takeSchemas  hn h_T0 g12) ?_
            intro q4_16 g17
            refine o_okS ?_
            refine ⟨?_, ?_, ?_⟩
            · exact h_Pg
            · exact h_Pt
            · exact g17
        · unfold m_Ck_inspectKeyword_j122
          refine o_okB (s_Ck_require  h_Ck) ?_
          intro q3_18 g19
          refine o_okI (fun c20 => ?_) (fun c20 => ?_)
          · unfold m_Ck_inspectKeyword_j138
            refine o_okB (s_Ck_takeSchemas  hn h_T0 g19) ?_
            intro q4_21 g22
            refine o_okS ?_
            refine ⟨?_, ?_, ?_⟩
            · exact h_Pg
            · exact h_Pt
            · exact g22
          · unfold m_Ck_inspectKeyword_j138
            refine o_okB (s_Ck_takeSchemas  hn h_T0 g19) ?_
            intro q4_23 g24
            refine o_okS ?_
            refine ⟨?_, ?_, ?_⟩
            · exact h_Pg
            · exact h_Pt
            · exact g24
      · unfold m_Ck_inspectKeyword_j122
        refine o_okB (s_Ck_require  h_Ck) ?_
        intro q3_25 g26
        refine o_okI (fun c27 => ?_) (fun c27 => ?_)
        · unfold m_Ck_inspectKeyword_j138
          refine o_okB (s_Ck_takeSchemas  hn h_T0 g26) ?_
          intro q4_28 g29
          refine o_okS ?_
          refine ⟨?_, ?_, ?_⟩
          · exact h_Pg
          · exact h_Pt
          · exact g29
        · unfold m_Ck_inspectKeyword_j138
          refine o_okB (s_Ck_takeSchemas  hn h_T0 g26) ?_
          intro q4_30 g31
          refine o_okS ?_
          refine ⟨?_, ?_, ?_⟩
          · exact h_Pg
          · exact h_Pt
          · exact g31
    · refine o_okI (fun c32 => ?_) (fun c32 => ?_)
      · refine o_okI (fun c33 => ?_) (fun c33 => ?_)
        · unfold m_Ck_inspectKeyword_j156
          refine o_okB (s_Ck_require  h_Ck) ?_
          intro q6_34 g35
          refine o_okI (fun c36 => ?_) (fun c36 => ?_)
          · unfold m_Ck_inspectKeyword_j173
            refine o_okB (s_Ck_takeSchemas  hn h_T0 g35) ?_
            intro q7_37 g38
            refine o_okI (fun c39 => ?_) (fun c39 => ?_)
            · refine o_okI (fun c40 => ?_) (fun c40 => ?_)
              · refine o_okB (s_Ck_inspectPatterns  hn h_T0 h_Pg h_Pt g38) ?_
                intro q8_41 ⟨g42, g43, g44⟩
                refine o_okS ?_
                refine ⟨?_, ?_, ?_⟩
                · exact g42
                · exact g43
                · exact g44
              · refine o_okS ?_
                refine ⟨?_, ?_, ?_⟩
                · exact h_Pg
                · exact h_Pt
                · exact g38
            · refine o_okS ?_
              refine ⟨?_, ?_, ?_⟩
              · exact h_Pg
              · exact h_Pt
              · exact g38
          · unfold m_Ck_inspectKeyword_j173
            refine o_okB (s_Ck_takeSchemas  hn h_T0 g35) ?_
            intro q7_45 g46
            refine o_okI (fun c47 => ?_) (fun c47 => ?_)
            · refine o_okI (fun c48 => ?_) (fun c48 => ?_)
              · refine o_okB (s_Ck_inspectPatterns  hn h_T0 h_Pg h_Pt g46) ?_
                intro q8_49 ⟨g50, g51, g52⟩
                refine o_okS ?_
                refine ⟨?_, ?_, ?_⟩
                · exact g50
                · exact g51
                · exact g52
              · refine o_okS ?_
                refine ⟨?_, ?_, ?_⟩
                · exact h_Pg
                · exact h_Pt
                · exact g46
            · refine o_okS ?_
              refine ⟨?_, ?_, ?_⟩
              · exact h_Pg
              · exact h_Pt
              · exact g46
        · unfold m_Ck_inspectKeyword_j156
          refine o_okB (s_Ck_require  h_Ck) ?_
          intro q6_53 g54
          refine o_okI (fun c55 => ?_) (fun c55 => ?_)
          · unfold m_Ck_inspectKeyword_j173
            refine o_okB (s_Ck_takeSchemas  hn h_T0 g54) ?_
            intro q7_56 g57
            refine o_okI (fun c58 => ?_) (fun c58 => ?_)
            · refine o_okI (fun c59 => ?_) (fun c59 => ?_)
              · refine o_okB (s_Ck_inspectPatterns  hn h_T0 h_Pg h_Pt g57) ?_
                intro q8_60 ⟨g61, g62, g63⟩
                refine o_okS ?_
                refine ⟨?_, ?_, ?_⟩
                · exact g61
                · exact g62
                · exact g63
              · refine o_okS ?_
                refine ⟨?_, ?_, ?_⟩
                · exact h_Pg
                · exact h_Pt
                · exact g57
            · refine o_okS ?_
              refine ⟨?_, ?_, ?_⟩
              · exact h_Pg
              · exact h_Pt
              · exact g57
          · unfold m_Ck_inspectKeyword_j173
            refine o_okB (s_Ck_takeSchemas  hn h_T0 g54) ?_
            intro q7_64 g65
            refine o_okI (fun c66 => ?_) (fun c66 => ?_)
            · refine o_okI (fun c67 => ?_) (fun c67 => ?_)
              · refine o_okB (s_Ck_inspectPatterns  hn h_T0 h_Pg h_Pt g65) ?_
                intro q8_68 ⟨g69, g70, g71⟩
                refine o_okS ?_
                refine ⟨?_, ?_, ?_⟩
                · exact g69
                · exact g70
                · exact g71
              · refine o_okS ?_
                refine ⟨?_, ?_, ?_⟩
                · exact h_Pg
                · exact h_Pt
                · exact g65
            · refine o_okS ?_
              refine ⟨?_, ?_, ?_⟩
              · exact h_Pg
              · exact h_Pt
              · exact g65
      · refine o_okI (fun c72 => ?_) (fun c72 => ?_)
        · refine o_okI (fun c73 => ?_) (fun c73 => ?_)
          · unfold m_Ck_inspectKeyword_j208
            refine o_okB (s_Ck_require  h_Ck) ?_
            intro q9_74 g75
            refine o_okS ?_
            refine ⟨?_, ?_, ?_⟩
            · exact h_Pg
            · exact h_Pt
            · exact g75
          · unfold m_Ck_inspectKeyword_j208
            refine o_okB (s_Ck_require  h_Ck) ?_
            intro q9_76 g77
            refine o_okS ?_
            refine ⟨?_, ?_, ?_⟩
            · exact h_Pg
            · exact h_Pt
            · exact g77
        · refine o_okI (fun c78 => ?_) (fun c78 => ?_)
          · refine o_okI (fun c79 => ?_) (fun c79 => ?_)
            · refine o_okB (s_Tx_sign  h_T0) ?_
              intro q11_80 _
              refine o_okI (fun c81 => ?_) (fun c81 => ?_)
              · unfold m_Ck_inspectKeyword_j237
                refine o_okB (s_Ck_require  h_Ck) ?_
                intro q10_82 g83
                refine o_okS ?_
                refine ⟨?_, ?_, ?_⟩
                · exact h_Pg
                · exact h_Pt
                · exact g83
              · unfold m_Ck_inspectKeyword_j237
                refine o_okB (s_Ck_require  h_Ck) ?_
                intro q10_84 g85
                refine o_okS ?_
                refine ⟨?_, ?_, ?_⟩
                · exact h_Pg
                · exact h_Pt
                · exact g85
            · unfold m_Ck_inspectKeyword_j237
              refine o_okB (s_Ck_require  h_Ck) ?_
              intro q10_86 g87
              refine o_okS ?_
              refine ⟨?_, ?_, ?_⟩
              · exact h_Pg
              · exact h_Pt
              · exact g87
          · refine o_okI (fun c88 => ?_) (fun c88 => ?_)
            · refine o_okB (s_Tx_wholeNumber  hn h_T0) ?_
              intro q12_89 _
              refine o_okI (fun c90 => ?_) (fun c90 => ?_)
              · unfold m_Ck_inspectKeyword_j262
                refine o_okB (s_Ck_require  h_Ck) ?_
                intro q13_91 g92
                refine o_okS ?_
                refine ⟨?_, ?_, ?_⟩
                · exact h_Pg
                · exact h_Pt
                · exact g92
              · unfold m_Ck_inspectKeyword_j262
                refine o_okB (s_Ck_require  h_Ck) ?_
                intro q13_93 g94
                refine o_okS ?_
                refine ⟨?_, ?_, ?_⟩
                · exact h_Pg
                · exact h_Pt
                · exact g94
            · refine o_okI (fun c95 => ?_) (fun c95 => ?_)
              · refine o_okI (fun c96 => ?_) (fun c96 => ?_)
                · unfold m_Ck_inspectKeyword_j280
                  refine o_okB (s_Ck_require  h_Ck) ?_
                  intro q14_97 g98
                  refine o_okI (fun c99 => ?_) (fun c99 => ?_)
                  · refine o_okB (s_Pt_tokenise  hn h_T0 h_Pt) ?_
                    intro q15_100 ⟨g101, g102⟩
                    refine o_okI (fun c103 => ?_) (fun c103 => ?_)
                    · unfold m_Ck_inspectKeyword_j314
                      refine o_okB (s_Ck_report  g98) ?_
                      intro q16_104 g105
                      refine o_okS ?_
                      refine ⟨?_, ?_, ?_⟩
                      · exact h_Pg
                      · exact g102
                      · exact g105
                    · refine o_okB (s_Pt_parse  hn h_Pg g102) ?_
                      intro q17_106 ⟨g107, g108, g109⟩
                      refine o_okI (fun c110 => ?_) (fun c110 => ?_)
                      · unfold m_Ck_inspectKeyword_j314
                        refine o_okB (s_Ck_report  g98) ?_
                        intro q16_111 g112
                        refine o_okS ?_
                        refine ⟨?_, ?_, ?_⟩
                        · exact g108
                        · exact g109
                        · exact g112
                      · refine o_okS ?_
                        refine ⟨?_, ?_, ?_⟩
                        · exact g108
                        · exact g109
                        · exact g98
                  · refine o_okS ?_
                    refine ⟨?_, ?_, ?_⟩
                    · exact h_Pg
                    · exact h_Pt
                    · exact g98
                · unfold m_Ck_inspectKeyword_j280
                  refine o_okB (s_Ck_require  h_Ck) ?_
                  intro q14_113 g114
                  refine o_okI (fun c115 => ?_) (fun c115 => ?_)
                  · refine o_okB (s_Pt_tokenise  hn h_T0 h_Pt) ?_
                    intro q15_116 ⟨g117, g118⟩
                    refine o_okI (fun c119 => ?_) (fun c119 => ?_)
                    · unfold m_Ck_inspectKeyword_j314
                      refine o_okB (s_Ck_report  g114) ?_
                      intro q16_120 g121
                      refine o_okS ?_
                      refine ⟨?_, ?_, ?_⟩
                      · exact h_Pg
                      · exact g118
                      · exact g121
                    · refine o_okB (s_Pt_parse  hn h_Pg g118) ?_
                      intro q17_122 ⟨g123, g124, g125⟩
                      refine o_okI (fun c126 => ?_) (fun c126 => ?_)
                      · unfold m_Ck_inspectKeyword_j314
                        refine o_okB (s_Ck_report  g114) ?_
                        intro q16_127 g128
                        refine o_okS ?_
                        refine ⟨?_, ?_, ?_⟩
                        · exact g124
                        · exact g125
                        · exact g128
                      · refine o_okS ?_
                        refine ⟨?_, ?_, ?_⟩
                        · exact g124
                        · exact g125
                        · exact g114
                  · refine o_okS ?_
                    refine ⟨?_, ?_, ?_⟩
                    · exact h_Pg
                    · exact h_Pt
                    · exact g114
              · refine o_okI (fun c129 => ?_) (fun c129 => ?_)
                · refine o_okI (fun c130 => ?_) (fun c130 => ?_)
                  · unfold m_Ck_inspectKeyword_j334
                    refine o_okB (s_Ck_require  h_Ck) ?_
                    intro q18_131 g132
                    refine o_okS ?_
                    refine ⟨?_, ?_, ?_⟩
                    · exact h_Pg
                    · exact h_Pt
                    · exact g132
                  · unfold m_Ck_inspectKeyword_j334
                    refine o_okB (s_Ck_require  h_Ck) ?_
                    intro q18_133 g134
                    refine o_okS ?_
                    refine ⟨?_, ?_, ?_⟩
                    · exact h_Pg
                    · exact h_Pt
                    · exact g134
                · refine o_okI (fun c135 => ?_) (fun c135 => ?_)
                  · refine o_okI (fun c136 => ?_) (fun c136 => ?_)
                    · refine o_okB (s_Ck_isAnchor  hn h_T0) ?_
                      intro q20_137 g138
                      refine o_okI (fun c139 => ?_) (fun c139 => ?_)
                      · unfold m_Ck_inspectKeyword_j360
                        refine o_okB (s_Ck_require  h_Ck) ?_
                        intro q19_140 g141
                        refine o_okS ?_
                        refine ⟨?_, ?_, ?_⟩
                        · exact h_Pg
                        · exact h_Pt
                        · exact g141
                      · unfold m_Ck_inspectKeyword_j360
                        refine o_okB (s_Ck_require  h_Ck) ?_
                        intro q19_142 g143
                        refine o_okS ?_
                        refine ⟨?_, ?_, ?_⟩
                        · exact h_Pg
                        · exact h_Pt
                        · exact g143
                    · unfold m_Ck_inspectKeyword_j360
                      refine o_okB (s_Ck_require  h_Ck) ?_
                      intro q19_144 g145
                      refine o_okS ?_
                      refine ⟨?_, ?_, ?_⟩
                      · exact h_Pg
                      · exact h_Pt
                      · exact g145
                  · refine o_okI (fun c146 => ?_) (fun c146 => ?_)
                    · refine o_okB (s_Ck_inspectPlain  hn h_T0 h_Ck) ?_
                      intro q21_147 g148
                      refine o_okS ?_
                      refine ⟨?_, ?_, ?_⟩
                      · exact h_Pg
                      · exact h_Pt
                      · exact g148
                    · refine o_okI (fun c149 => ?_) (fun c149 => ?_)
                      · refine o_okB (s_Ck_inspectPlain  hn h_T0 h_Ck) ?_
                        intro q22_150 g151
                        refine o_okS ?_
                        refine ⟨?_, ?_, ?_⟩
                        · exact h_Pg
                        · exact h_Pt
                        · exact g151
                      · refine o_okI (fun c152 => ?_) (fun c152 => ?_)
                        · refine o_okB (s_Ck_inspectPlain  hn h_T0 h_Ck) ?_
                          intro q23_153 g154
                          refine o_okS ?_
                          refine ⟨?_, ?_, ?_⟩
                          · exact h_Pg
                          · exact h_Pt
                          · exact g154
                        · refine o_okI (fun c155 => ?_) (fun c155 => ?_)
                          · refine o_okB (s_Ck_inspectPlain  hn h_T0 h_Ck) ?_
                            intro q24_156 g157
                            refine o_okS ?_
                            refine ⟨?_, ?_, ?_⟩
                            · exact h_Pg
                            · exact h_Pt
                            · exact g157
                          · refine o_okI (fun c158 => ?_) (fun c158 => ?_)
                            · refine o_okB (s_Ck_inspectPlain  hn h_T0 h_Ck) ?_
                              intro q25_159 g160
                              refine o_okS ?_
                              refine ⟨?_, ?_, ?_⟩
                              · exact h_Pg
                              · exact h_Pt
                              · exact g160
                            · refine o_okI (fun c161 => ?_) (fun c161 => ?_)
                              · refine o_okB (s_Ck_inspectPlain  hn h_T0 h_Ck) ?_
                                intro q26_162 g163
                                refine o_okS ?_
                                refine ⟨?_, ?_, ?_⟩
                                · exact h_Pg
                                · exact h_Pt
                                · exact g163
                              · refine o_okI (fun c164 => ?_) (fun c164 => ?_)
                                · refine o_okB (s_Ck_report  h_Ck) ?_
                                  intro q27_165 g166
                                  refine o_okS ?_
                                  refine ⟨?_, ?_, ?_⟩
                                  · exact h_Pg
                                  · exact h_Pt
                                  · exact g166
                                · refine o_okB (s_Ck_inspectPlain  hn h_T0 h_Ck) ?_
                                  intro q28_167 g168
                                  refine o_okS ?_
                                  refine ⟨?_, ?_, ?_⟩
                                  · exact h_Pg
                                  · exact h_Pt
                                  · exact g168
theorem s_Ck_inspectSchema_b11 {n : Nat} {x1 : Int32} {T0 : STx} {z : Int32 × Int32 × SPg × SPt × SMk × SCk} (hn : o_big ≤ n) (h_T0 : I_Tx T0) (l0 : 0 ≤ z.2.1) (l1 : I_Pg z.2.2.1) (l2 : I_Pt z.2.2.2.1) (l3 : I_Ck z.2.2.2.2.2) : o_ok (m_Ck_inspectSchema_b11 n x1 T0 z) (fun q => (q.1 = 0 → 0 ≤ q.2.2.1 ∧ I_Pg q.2.2.2.1 ∧ I_Pt q.2.2.2.2.1 ∧ I_Ck q.2.2.2.2.2.2 ∧ o_mu q.2.2.1 < o_mu z.2.1) ∧ (q.1 ≠ 0 → I_Pg q.2.2.2.1 ∧ I_Pt q.2.2.2.2.1 ∧ I_Ck q.2.2.2.2.2.2)) := by
  unfold m_Ck_inspectSchema_b11
  refine o_okB (s_Tx_size  h_T0) ?_
  intro q2_1 g2
  refine o_okI (fun c3 => ?_) (fun c3 => ?_)
  · refine o_okS ?_
    refine ⟨fun h => absurd (show (1 : Nat) = 0 from h) (by decide), fun _ => ?_⟩
    refine ⟨?_, ?_, ?_⟩
    · exact l1
    · exact l2
    · exact l3
  · refine o_okB (s_Mk_markKeyword  hn h_T0) ?_
    intro q3_4 g5
    refine o_okG (o_kbM (by first | with_reducible exact True.intro | with_reducible assumption | grind [-Prod] | grind [-Prod, → sc_Ck, → sc_Pg, → sc_Pt, → sc_Tx] | grind [-Prod, I_Ck, I_Pg, I_Pt, I_Tx, o_bn, upd])) ?_
    refine o_okB (s_Ck_inspectKeyword  hn h_T0 l1 l2 l3) ?_
    intro q4_6 ⟨g7, g8, g9⟩
    refine o_okB (s_Tx_nextChild  h_T0) ?_
    intro q5_10 _
    refine o_okN (fun x3_45_11 ex3_45_11 => ?_)
    refine o_okS ?_
    refine ⟨fun _ => ?_, fun h => absurd rfl h⟩
    refine ⟨?_, ?_, ?_, ?_, ?_⟩
    · first | with_reducible exact True.intro | with_reducible assumption | grind [-Prod] | grind [-Prod, → sc_Ck, → sc_Pg, → sc_Pt, → sc_Tx] | grind [-Prod, I_Ck, I_Pg, I_Pt, I_Tx, o_bn, upd]
    · exact g7
    · exact g8
    · exact g9
    · first | exact o_muL (by first | with_reducible exact True.intro | with_reducible assumption | grind [-Prod] | grind [-Prod, → sc_Ck, → sc_Pg, → sc_Pt, → sc_Tx] | grind [-Prod, I_Ck, I_Pg, I_Pt, I_Tx, o_bn, upd]) | exact o_nuL (by first | with_reducible exact True.intro | with_reducible assumption | grind [-Prod] | grind [-Prod, → sc_Ck, → sc_Pg, → sc_Pt, → sc_Tx] | grind [-Prod, I_Ck, I_Pg, I_Pt, I_Tx, o_bn, upd]) | (first | with_reducible exact True.intro | with_reducible assumption | grind [-Prod] | grind [-Prod, → sc_Ck, → sc_Pg, → sc_Pt, → sc_Tx] | grind [-Prod, I_Ck, I_Pg, I_Pt, I_Tx, o_bn, upd])
theorem l_Ck_inspectSchema_b11 {n : Nat} {x1 : Int32} {T0 : STx} {z : Int32 × Int32 × SPg × SPt × SMk × SCk} (hn : o_big ≤ n) (h_T0 : I_Tx T0) (l0 : 0 ≤ z.2.1) (l1 : I_Pg z.2.2.1) (l2 : I_Pt z.2.2.2.1) (l3 : I_Ck z.2.2.2.2.2) : o_ok (o_lp n (m_Ck_inspectSchema_b11 n x1 T0) z) (fun q => q.1 ≠ 0 ∧ I_Pg q.2.2.2.1 ∧ I_Pt q.2.2.2.2.1 ∧ I_Ck q.2.2.2.2.2.2) := by
  exact o_lpR (fun z => 0 ≤ z.2.1 ∧ I_Pg z.2.2.1 ∧ I_Pt z.2.2.2.1 ∧ I_Ck z.2.2.2.2.2) (fun z => o_mu z.2.1) hn (o_muB) ⟨l0, l1, l2, l3⟩
    (fun z hz => by obtain ⟨l0, l1, l2, l3⟩ := hz; exact o_okW (s_Ck_inspectSchema_b11 hn h_T0 l0 l1 l2 l3) (fun q hq => ⟨fun h => by have := hq.1 h; grind, hq.2⟩))
theorem s_Ck_inspectSchema {n : Nat} {x1 : Int32} {T0 : STx} {Pg : SPg} {Pt : SPt} {Mk : SMk} {Ck : SCk} (hn : o_big ≤ n) (h_T0 : I_Tx T0) (h_Pg : I_Pg Pg) (h_Pt : I_Pt Pt) (h_Ck : I_Ck Ck) : o_ok (m_Ck_inspectSchema n x1 T0 Pg Pt Mk Ck) (fun r => I_Pg r.1 ∧ I_Pt r.2.1 ∧ I_Ck r.2.2.2) := by
  unfold m_Ck_inspectSchema
  refine o_okB (s_Tx_firstChild  h_T0) ?_
  intro q1_1 _
  refine o_okB (l_Ck_inspectSchema_b11  hn h_T0 (by first | with_reducible exact True.intro | with_reducible assumption | grind [-Prod] | grind [-Prod, → sc_Ck, → sc_Pg, → sc_Pt, → sc_Tx] | grind [-Prod, I_Ck, I_Pg, I_Pt, I_Tx, o_bn, upd]) h_Pg h_Pt h_Ck) ?_
  intro q6_2 ⟨yq6_2, g3, g4, g5⟩
  refine o_okS ?_
  refine ⟨?_, ?_, ?_⟩
  · exact g3
  · exact g4
  · exact g5
theorem s_Mk_keyword {x1 : Int32} {Mk : SMk}  : o_ok (m_Mk_keyword x1 Mk) (fun r => r < 45) := by
  unfold m_Mk_keyword
  refine o_okI (fun c1 => ?_) (fun c1 => ?_)
  · unfold m_Mk_keyword_j21
    refine o_okB (s_Kw_numbered ) ?_
    intro q1_2 g3
    refine o_okG (o_kbM (by first | with_reducible exact True.intro | with_reducible assumption | grind [-Prod] | grind [-Prod] | grind [-Prod, o_bn, upd])) ?_
    refine o_okS ?_
    first | with_reducible exact True.intro | with_reducible assumption | grind [-Prod] | grind [-Prod] | grind [-Prod, o_bn, upd]
  · refine o_okI (fun c4 => ?_) (fun c4 => ?_)
    · unfold m_Mk_keyword_j21
      refine o_okB (s_Kw_numbered ) ?_
      intro q1_5 g6
      refine o_okG (o_kbM (by first | with_reducible exact True.intro | with_reducible assumption | grind [-Prod] | grind [-Prod] | grind [-Prod, o_bn, upd])) ?_
      refine o_okS ?_
      first | with_reducible exact True.intro | with_reducible assumption | grind [-Prod] | grind [-Prod] | grind [-Prod, o_bn, upd]
    · refine o_okG (o_inM (m := 1000) rfl (by first | with_reducible exact True.intro | with_reducible assumption | grind [-Prod] | grind [-Prod] | grind [-Prod, o_bn, upd]) (by first | with_reducible exact True.intro | with_reducible assumption | grind [-Prod] | grind [-Prod] | grind [-Prod, o_bn, upd])) ?_
      unfold m_Mk_keyword_j21
      refine o_okB (s_Kw_numbered ) ?_
      intro q1_7 g8
      refine o_okG (o_kbM (by first | with_reducible exact True.intro | with_reducible assumption | grind [-Prod] | grind [-Prod] | grind [-Prod, o_bn, upd])) ?_
      refine o_okS ?_
      first | with_reducible exact True.intro | with_reducible assumption | grind [-Prod] | grind [-Prod] | grind [-Prod, o_bn, upd]
theorem s_Ck_isAnchorValue {x1 : Int32} {T0 : STx} {Mk : SMk} (h_T0 : I_Tx T0) : o_ok (m_Ck_isAnchorValue x1 T0 Mk) (fun r => (r = 0 ∨ r = 1)) := by
  unfold m_Ck_isAnchorValue
  refine o_okB (s_Mk_keyword ) ?_
  intro q1_1 g2
  refine o_okG (o_kbM (by first | with_reducible exact True.intro | with_reducible assumption | grind [-Prod] | grind [-Prod, → sc_Tx] | grind [-Prod, I_Tx, o_bn, upd])) ?_
  refine o_okI (fun c3 => ?_) (fun c3 => ?_)
  · refine o_okB (s_Tx_kind  h_T0) ?_
    intro q2_4 _
    refine o_okI (fun c5 => ?_) (fun c5 => ?_)
    · refine o_okS ?_
      first | with_reducible exact True.intro | with_reducible assumption | grind [-Prod] | grind [-Prod, → sc_Tx] | grind [-Prod, I_Tx, o_bn, upd]
    · refine o_okS ?_
      first | with_reducible exact True.intro | with_reducible assumption | grind [-Prod] | grind [-Prod, → sc_Tx] | grind [-Prod, I_Tx, o_bn, upd]
  · refine o_okS ?_
    first | with_reducible exact True.intro | with_reducible assumption | grind [-Prod] | grind [-Prod, → sc_Tx] | grind [-Prod, I_Tx, o_bn, upd]
theorem s_Ck_hasElderAnchor_b2 {n : Nat} {x1 : Int32} {T0 : STx} {Mk : SMk} {z : Int32} (hn : o_big ≤ n) (h_T0 : I_Tx T0) (l0 : 0 ≤ z) : o_ok (m_Ck_hasElderAnchor_b2 n x1 T0 Mk z) (fun q => (q.1 = 0 → 0 ≤ q.2 ∧ o_mu q.2 < o_mu z) ∧ (q.1 ≠ 0 → True)) := by
  unfold m_Ck_hasElderAnchor_b2
  refine o_okI (fun c1 => ?_) (fun c1 => ?_)
  · refine o_okS ?_
    refine ⟨fun h => absurd (show (2 : Nat) = 0 from h) (by decide), fun _ => ?_⟩
    trivial
  · refine o_okB (s_Ck_isAnchorValue  h_T0) ?_
    intro q1_2 g3
    refine o_okI (fun c4 => ?_) (fun c4 => ?_)
    · refine o_okN (fun x2_33_5 ex2_33_5 => ?_)
      refine o_okS ?_
      refine ⟨fun _ => ?_, fun h => absurd rfl h⟩
      refine ⟨?_, ?_⟩
      · first | with_reducible exact True.intro | with_reducible assumption | grind [-Prod] | grind [-Prod, → sc_Tx] | grind [-Prod, I_Tx, o_bn, upd]
      · first | exact o_muL (by first | with_reducible exact True.intro | with_reducible assumption | grind [-Prod] | grind [-Prod, → sc_Tx] | grind [-Prod, I_Tx, o_bn, upd]) | exact o_nuL (by first | with_reducible exact True.intro | with_reducible assumption | grind [-Prod] | grind [-Prod, → sc_Tx] | grind [-Prod, I_Tx, o_bn, upd]) | (first | with_reducible exact True.intro | with_reducible assumption | grind [-Prod] | grind [-Prod, → sc_Tx] | grind [-Prod, I_Tx, o_bn, upd])
    · refine o_okB (s_Tx_sameString  hn h_T0 h_T0) ?_
      intro q2_6 g7
      refine o_okI (fun c8 => ?_) (fun c8 => ?_)
      · refine o_okN (fun x2_33_9 ex2_33_9 => ?_)
        refine o_okS ?_
        refine ⟨fun _ => ?_, fun h => absurd rfl h⟩
        refine ⟨?_, ?_⟩
        · first | with_reducible exact True.intro | with_reducible assumption | grind [-Prod] | grind [-Prod, → sc_Tx] | grind [-Prod, I_Tx, o_bn, upd]
        · first | exact o_muL (by first | with_reducible exact True.intro | with_reducible assumption | grind [-Prod] | grind [-Prod, → sc_Tx] | grind [-Prod, I_Tx, o_bn, upd]) | exact o_nuL (by first | with_reducible exact True.intro | with_reducible assumption | grind [-Prod] | grind [-Prod, → sc_Tx] | grind [-Prod, I_Tx, o_bn, upd]) | (first | with_reducible exact True.intro | with_reducible assumption | grind [-Prod] | grind [-Prod, → sc_Tx] | grind [-Prod, I_Tx, o_bn, upd])
      · refine o_okS ?_
        refine ⟨fun h => absurd (show (1 : Nat) = 0 from h) (by decide), fun _ => ?_⟩
        trivial
theorem l_Ck_hasElderAnchor_b2 {n : Nat} {x1 : Int32} {T0 : STx} {Mk : SMk} {z : Int32} (hn : o_big ≤ n) (h_T0 : I_Tx T0) (l0 : 0 ≤ z) : o_ok (o_lp n (m_Ck_hasElderAnchor_b2 n x1 T0 Mk) z) (fun q => q.1 ≠ 0 ∧ True) := by
  exact o_lpR (fun z => 0 ≤ z) (fun z => o_mu z) hn (o_muB) l0
    (fun z hz => by have l0 := hz; exact o_okW (s_Ck_hasElderAnchor_b2 hn h_T0 l0) (fun q hq => ⟨fun h => by have := hq.1 h; grind, hq.2⟩))
theorem s_Ck_hasElderAnchor {n : Nat} {x1 : Int32} {T0 : STx} {Mk : SMk} (hn : o_big ≤ n) (h_T0 : I_Tx T0) : o_ok (m_Ck_hasElderAnchor n x1 T0 Mk) (fun r => (r = 0 ∨ r = 1)) := by
  unfold m_Ck_hasElderAnchor
  refine o_okB (l_Ck_hasElderAnchor_b2  hn h_T0 (by first | with_reducible exact True.intro | with_reducible assumption | grind [-Prod] | grind [-Prod, → sc_Tx] | grind [-Prod, I_Tx, o_bn, upd])) ?_
  intro q3_1 ⟨yq3_1, _⟩
  refine o_okI (fun c2 => ?_) (fun c2 => ?_)
  · refine o_okS ?_
    first | with_reducible exact True.intro | with_reducible assumption | grind [-Prod] | grind [-Prod, → sc_Tx] | grind [-Prod, I_Tx, o_bn, upd]
  · refine o_okS ?_
    first | with_reducible exact True.intro | with_reducible assumption | grind [-Prod] | grind [-Prod, → sc_Tx] | grind [-Prod, I_Tx, o_bn, upd]
theorem s_Ck_compareAnchors_b2 {n : Nat} {T0 : STx} {Mk : SMk} {z : Int32 × SCk} (hn : o_big ≤ n) (h_T0 : I_Tx T0) (l0 : 0 ≤ z.1) (l1 : I_Ck z.2) : o_ok (m_Ck_compareAnchors_b2 n T0 Mk z) (fun q => (q.1 = 0 → 0 ≤ q.2.1 ∧ I_Ck q.2.2 ∧ o_mu q.2.1 < o_mu z.1) ∧ (q.1 ≠ 0 → I_Ck q.2.2)) := by
  unfold m_Ck_compareAnchors_b2
  refine o_okB (s_Tx_total  h_T0) ?_
  intro q1_1 g2
  refine o_okI (fun c3 => ?_) (fun c3 => ?_)
  · refine o_okS ?_
    refine ⟨fun h => absurd (show (1 : Nat) = 0 from h) (by decide), fun _ => ?_⟩
    exact l1
  · refine o_okB (s_Ck_isAnchorValue  h_T0) ?_
    intro q2_4 g5
    refine o_okI (fun c6 => ?_) (fun c6 => ?_)
    · refine o_okN (fun x1_35_7 ex1_35_7 => ?_)
      refine o_okS ?_
      refine ⟨fun _ => ?_, fun h => absurd rfl h⟩
      refine ⟨?_, ?_, ?_⟩
      · first | with_reducible exact True.intro | with_reducible assumption | grind [-Prod] | grind [-Prod, → sc_Ck, → sc_Tx] | grind [-Prod, I_Ck, I_Tx, o_bn, upd]
      · exact l1
      · first | exact o_muL (by first | with_reducible exact True.intro | with_reducible assumption | grind [-Prod] | grind [-Prod, → sc_Ck, → sc_Tx] | grind [-Prod, I_Ck, I_Tx, o_bn, upd]) | exact o_nuL (by first | with_reducible exact True.intro | with_reducible assumption | grind [-Prod] | grind [-Prod, → sc_Ck, → sc_Tx] | grind [-Prod, I_Ck, I_Tx, o_bn, upd]) | (first | with_reducible exact True.intro | with_reducible assumption | grind [-Prod] | grind [-Prod, → sc_Ck, → sc_Tx] | grind [-Prod, I_Ck, I_Tx, o_bn, upd])
    · refine o_okB (s_Ck_hasElderAnchor  hn h_T0) ?_
      intro q3_8 g9
      refine o_okI (fun c10 => ?_) (fun c10 => ?_)
      · refine o_okN (fun x1_35_11 ex1_35_11 => ?_)
        refine o_okS ?_
        refine ⟨fun _ => ?_, fun h => absurd rfl h⟩
        refine ⟨?_, ?_, ?_⟩
        · first | with_reducible exact True.intro | with_reducible assumption | grind [-Prod] | grind [-Prod, → sc_Ck, → sc_Tx] | grind [-Prod, I_Ck, I_Tx, o_bn, upd]
        · exact l1
        · first | exact o_muL (by first | with_reducible exact True.intro | with_reducible assumption | grind [-Prod] | grind [-Prod, → sc_Ck, → sc_Tx] | grind [-Prod, I_Ck, I_Tx, o_bn, upd]) | exact o_nuL (by first | with_reducible exact True.intro | with_reducible assumption | grind [-Prod] | grind [-Prod, → sc_Ck, → sc_Tx] | grind [-Prod, I_Ck, I_Tx, o_bn, upd]) | (first | with_reducible exact True.intro | with_reducible assumption | grind [-Prod] | grind [-Prod, → sc_Ck, → sc_Tx] | grind [-Prod, I_Ck, I_Tx, o_bn, upd])
      · refine o_okB (s_Ck_report  l1) ?_
        intro q4_12 g13
        refine o_okN (fun x1_35_14 ex1_35_14 => ?_)
        refine o_okS ?_
        refine ⟨fun _ => ?_, fun h => absurd rfl h⟩
        refine ⟨?_, ?_, ?_⟩
        · first | with_reducible exact True.intro | with_reducible assumption | grind [-Prod] | grind [-Prod, → sc_Ck, → sc_Tx] | grind [-Prod, I_Ck, I_Tx, o_bn, upd]
        · exact g13
        · first | exact o_muL (by first | with_reducible exact True.intro | with_reducible assumption | grind [-Prod] | grind [-Prod, → sc_Ck, → sc_Tx] | grind [-Prod, I_Ck, I_Tx, o_bn, upd]) | exact o_nuL (by first | with_reducible exact True.intro | with_reducible assumption | grind [-Prod] | grind [-Prod, → sc_Ck, → sc_Tx] | grind [-Prod, I_Ck, I_Tx, o_bn, upd]) | (first | with_reducible exact True.intro | with_reducible assumption | grind [-Prod] | grind [-Prod, → sc_Ck, → sc_Tx] | grind [-Prod, I_Ck, I_Tx, o_bn, upd])
theorem l_Ck_compareAnchors_b2 {n : Nat} {T0 : STx} {Mk : SMk} {z : Int32 × SCk} (hn : o_big ≤ n) (h_T0 : I_Tx T0) (l0 : 0 ≤ z.1) (l1 : I_Ck z.2) : o_ok (o_lp n (m_Ck_compareAnchors_b2 n T0 Mk) z) (fun q => q.1 ≠ 0 ∧ I_Ck q.2.2) := by
  exact o_lpR (fun z => 0 ≤ z.1 ∧ I_Ck z.2) (fun z => o_mu z.1) hn (o_muB) ⟨l0, l1⟩
    (fun z hz => by obtain ⟨l0, l1⟩ := hz; exact o_okW (s_Ck_compareAnchors_b2 hn h_T0 l0 l1) (fun q hq => ⟨fun h => by have := hq.1 h; grind, hq.2⟩))
theorem s_Ck_compareAnchors {n : Nat} {T0 : STx} {Mk : SMk} {Ck : SCk} (hn : o_big ≤ n) (h_T0 : I_Tx T0) (h_Ck : I_Ck Ck) : o_ok (m_Ck_compareAnchors n T0 Mk Ck) (fun r => I_Ck r) := by
  unfold m_Ck_compareAnchors
  refine o_okB (l_Ck_compareAnchors_b2  hn h_T0 (by first | with_reducible exact True.intro | with_reducible assumption | grind [-Prod] | grind [-Prod, → sc_Ck, → sc_Tx] | grind [-Prod, I_Ck, I_Tx, o_bn, upd]) h_Ck) ?_
  intro q5_1 ⟨yq5_1, g2⟩
  refine o_okS ?_
  exact g2
theorem s_JA_fill_b5 {n : Nat} {x1 : Int32} {x3 : Int32} {z : Int32 × (Nat → Int32)} (hn : o_big ≤ n) (p0 : x3 ≤ 1000) (l0 : 0 ≤ z.1) : o_ok (m_JA_fill_b5 n x1 x3 z) (fun q => (q.1 = 0 → 0 ≤ q.2.1 ∧ o_mu q.2.1 < o_mu z.1) ∧ (q.1 ≠ 0 → True)) := by
  unfold m_JA_fill_b5
  refine o_okI (fun c1 => ?_) (fun c1 => ?_)
  · refine o_okS ?_
    refine ⟨fun h => absurd (show (1 : Nat) = 0 from h) (by decide), fun _ => ?_⟩
    trivial
  · refine o_okG (o_inM (m := 1000) rfl (by first | with_reducible exact True.intro | with_reducible assumption | grind [-Prod] | grind [-Prod] | grind [-Prod, o_bn, upd]) (by first | with_reducible exact True.intro | with_reducible assumption | grind [-Prod] | grind [-Prod] | grind [-Prod, o_bn, upd])) ?_
    refine o_okN (fun x2_14_2 ex2_14_2 => ?_)
    refine o_okS ?_
    refine ⟨fun _ => ?_, fun h => absurd rfl h⟩
    refine ⟨?_, ?_⟩
    · first | with_reducible exact True.intro | with_reducible assumption | grind [-Prod] | grind [-Prod] | grind [-Prod, o_bn, upd]
    · first | exact o_muL (by first | with_reducible exact True.intro | with_reducible assumption | grind [-Prod] | grind [-Prod] | grind [-Prod, o_bn, upd]) | exact o_nuL (by first | with_reducible exact True.intro | with_reducible assumption | grind [-Prod] | grind [-Prod] | grind [-Prod, o_bn, upd]) | (first | with_reducible exact True.intro | with_reducible assumption | grind [-Prod] | grind [-Prod] | grind [-Prod, o_bn, upd])
theorem l_JA_fill_b5 {n : Nat} {x1 : Int32} {x3 : Int32} {z : Int32 × (Nat → Int32)} (hn : o_big ≤ n) (p0 : x3 ≤ 1000) (l0 : 0 ≤ z.1) : o_ok (o_lp n (m_JA_fill_b5 n x1 x3) z) (fun q => q.1 ≠ 0 ∧ True) := by
  exact o_lpR (fun z => 0 ≤ z.1) (fun z => o_mu z.1) hn (o_muB) l0
    (fun z hz => by have l0 := hz; exact o_okW (s_JA_fill_b5 hn p0 l0) (fun q hq => ⟨fun h => by have := hq.1 h; grind, hq.2⟩))
theorem s_JA_fill {n : Nat} {x1 : Int32} {r0 : (Nat → Int32)} (hn : o_big ≤ n) : o_ok (m_JA_fill n x1 r0) (fun r => True) := by
  unfold m_JA_fill
  refine o_okB (l_JA_fill_b5  hn (by first | with_reducible exact True.intro | with_reducible assumption | grind [-Prod] | grind [-Prod] | grind [-Prod, o_bn, upd]) (by first | with_reducible exact True.intro | with_reducible assumption | grind [-Prod] | grind [-Prod] | grind [-Prod, o_bn, upd])) ?_
  intro q1_1 ⟨yq1_1, _⟩
  refine o_okS ?_
  trivial
theorem s_Lk_octetAt {x1 : Int32} {T0 : STx} {Lk : SLk} (h_T0 : I_Tx T0) (h_Lk : I_Lk Lk) : o_ok (m_Lk_octetAt x1 T0 Lk) (fun r => True) := by
  unfold m_Lk_octetAt
  refine o_okB (s_Tx_cell  h_T0) ?_
  intro q1_1 g2
  refine o_okB (s_SJ_hexDigit ) ?_
  intro q2_3 g4
  refine o_okB (s_Tx_cell  h_T0) ?_
  intro q3_5 g6
  refine o_okB (s_SJ_hexDigit ) ?_
  intro q4_7 g8
  refine o_okB (s_Tx_cell  h_T0) ?_
  intro q5_9 g10
  refine o_okI (fun c11 => ?_) (fun c11 => ?_)
  · refine o_okI (fun c12 => ?_) (fun c12 => ?_)
    · refine o_okS ?_
      trivial
    · refine o_okI (fun c13 => ?_) (fun c13 => ?_)
      · refine o_okS ?_
        trivial
      · refine o_okS ?_
        trivial
  · refine o_okS ?_
    trivial
theorem s_Lk_decodeOctets_b22 {n : Nat} {x1 : Int32} {x3 : Int32} {T0 : STx} {z : Int32 × Int32 × SLk} {le0 : Int32} (hn : o_big ≤ n) (h_T0 : I_Tx T0) (l0 : Lk_length z.2.2 = le0) (l1 : 0 ≤ z.2.1) (l2 : I_Lk z.2.2) : o_ok (m_Lk_decodeOctets_b22 n x1 x3 T0 z) (fun q => (q.1 = 0 → Lk_length q.2.2.2 = le0 ∧ 0 ≤ q.2.2.1 ∧ I_Lk q.2.2.2 ∧ o_mu q.2.2.1 < o_mu z.2.1) ∧ (q.1 ≠ 0 → Lk_length q.2.2.2 = le0 ∧ I_Lk q.2.2.2)) := by
  unfold m_Lk_decodeOctets_b22
  refine o_okI (fun c1 => ?_) (fun c1 => ?_)
  · refine o_okS ?_
    refine ⟨fun h => absurd (show (2 : Nat) = 0 from h) (by decide), fun _ => ?_⟩
    refine ⟨?_, ?_⟩
    · first | with_reducible exact True.intro | with_reducible assumption | grind [-Prod] | grind [-Prod, → sc_Lk, → sc_Tx] | grind [-Prod, I_Lk, I_Tx, o_bn, upd]
    · exact l2
  · refine o_okB (s_Lk_octetAt  h_T0 ⟨l2.1, l2.2⟩) ?_
    intro q3_2 _
    refine o_okB (s_SJ_utf8Follows ) ?_
    intro q4_3 g4
    refine o_okI (fun c5 => ?_) (fun c5 => ?_)
    · refine o_okS ?_
      refine ⟨fun h => absurd (show (1 : Nat) = 0 from h) (by decide), fun _ => ?_⟩
      refine ⟨?_, ?_⟩
      · first | with_reducible exact True.intro | with_reducible assumption | grind [-Prod] | grind [-Prod, → sc_Lk, → sc_Tx] | grind [-Prod, I_Lk, I_Tx, o_bn, upd]
      · exact ⟨l2.1, l2.2⟩
    · refine o_okN (fun x4_66_6 ex4_66_6 => ?_)
      refine o_okN (fun x5_68_7 ex5_68_7 => ?_)
      refine o_okS ?_
      refine ⟨fun _ => ?_, fun h => absurd rfl h⟩
      refine ⟨?_, ?_, ?_, ?_⟩
      · first | with_reducible exact True.intro | with_reducible assumption | grind [-Prod] | grind [-Prod, → sc_Lk, → sc_Tx] | grind [-Prod, I_Lk, I_Tx, o_bn, upd]
      · first | with_reducible exact True.intro | with_reducible assumption | grind [-Prod] | grind [-Prod, → sc_Lk, → sc_Tx] | grind [-Prod, I_Lk, I_Tx, o_bn, upd]
      · exact ⟨l2.1, l2.2⟩
      · first | exact o_muL (by first | with_reducible exact True.intro | with_reducible assumption | grind [-Prod] | grind [-Prod, → sc_Lk, → sc_Tx] | grind [-Prod, I_Lk, I_Tx, o_bn, upd]) | exact o_nuL (by first | with_reducible exact True.intro | with_reducible assumption | grind [-Prod] | grind [-Prod, → sc_Lk, → sc_Tx] | grind [-Prod, I_Lk, I_Tx, o_bn, upd]) | (first | with_reducible exact True.intro | with_reducible assumption | grind [-Prod] | grind [-Prod, → sc_Lk, → sc_Tx] | grind [-Prod, I_Lk, I_Tx, o_bn, upd])
theorem l_Lk_decodeOctets_b22 {n : Nat} {x1 : Int32} {x3 : Int32} {T0 : STx} {z : Int32 × Int32 × SLk} {le0 : Int32} (hn : o_big ≤ n) (h_T0 : I_Tx T0) (l0 : Lk_length z.2.2 = le0) (l1 : 0 ≤ z.2.1) (l2 : I_Lk z.2.2) : o_ok (o_lp n (m_Lk_decodeOctets_b22 n x1 x3 T0) z) (fun q => q.1 ≠ 0 ∧ Lk_length q.2.2.2 = le0 ∧ I_Lk q.2.2.2) := by
  exact o_lpR (fun z => Lk_length z.2.2 = le0 ∧ 0 ≤ z.2.1 ∧ I_Lk z.2.2) (fun z => o_mu z.2.1) hn (o_muB) ⟨l0, l1, l2⟩
    (fun z hz => by obtain ⟨l0, l1, l2⟩ := hz; exact o_okW (s_Lk_decodeOctets_b22 (le0 := le0) hn h_T0 l0 l1 l2) (fun q hq => ⟨fun h => by have := hq.1 h; grind, hq.2⟩))
theorem s_Lk_decodeOctets {n : Nat} {x1 : Int32} {x2 : Int32} {T0 : STx} {Lk : SLk} (hn : o_big ≤ n) (h_T0 : I_Tx T0) (h_Lk : I_Lk Lk) : o_ok (m_Lk_decodeOctets n x1 x2 T0 Lk) (fun r => Lk_length r.2 = Lk_length Lk ∧ I_Lk r.2) := by
  unfold m_Lk_decodeOctets
  refine o_okB (s_SJ_utf8Tail ) ?_
  intro q1_1 ⟨g2, g3⟩
  refine o_okI (fun c4 => ?_) (fun c4 => ?_)
  · refine o_okS ?_
    refine ⟨?_, ?_⟩
    · first | with_reducible exact True.intro | with_reducible assumption | grind [-Prod] | grind [-Prod, → sc_Lk, → sc_Tx] | grind [-Prod, I_Lk, I_Tx, o_bn, upd]
    · exact h_Lk
  · refine o_okB (s_SJ_utf8Head ) ?_
    intro q2_5 g6
    refine o_okB (l_Lk_decodeOctets_b22 (le0 := Lk_length Lk) hn h_T0 (by first | with_reducible exact True.intro | with_reducible assumption | grind [-Prod] | grind [-Prod, → sc_Lk, → sc_Tx] | grind [-Prod, I_Lk, I_Tx, o_bn, upd]) (by first | with_reducible exact True.intro | with_reducible assumption | grind [-Prod] | grind [-Prod, → sc_Lk, → sc_Tx] | grind [-Prod, I_Lk, I_Tx, o_bn, upd]) h_Lk) ?_
    intro q5_7 ⟨yq5_7, g8, g9⟩
    refine o_okI (fun c10 => ?_) (fun c10 => ?_)
    · refine o_okS ?_
      refine ⟨?_, ?_⟩
      · first | with_reducible exact True.intro | with_reducible assumption | grind [-Prod] | grind [-Prod, → sc_Lk, → sc_Tx] | grind [-Prod, I_Lk, I_Tx, o_bn, upd]
      · exact g9
    · refine o_okB (s_SJ_utf8Legal ) ?_
      intro q6_11 ⟨g12, g13⟩
      refine o_okI (fun c14 => ?_) (fun c14 => ?_)
      · refine o_okS ?_
        refine ⟨?_, ?_⟩
        · first | with_reducible exact True.intro | with_reducible assumption | grind [-Prod] | grind [-Prod, → sc_Lk, → sc_Tx] | grind [-Prod, I_Lk, I_Tx, o_bn, upd]
        · exact g9
      · refine o_okS ?_
        refine ⟨?_, ?_⟩
        · first | with_reducible exact True.intro | with_reducible assumption | grind [-Prod] | grind [-Prod, → sc_Lk, → sc_Tx] | grind [-Prod, I_Lk, I_Tx, o_bn, upd]
        · exact g9
set_option maxHeartbeats 8000000 in
theorem s_Lk_decode_b21 {n : Nat} {x1 : Int32} {x2 : Int32} {T0 : STx} {z : Int32 × SLk} (hn : o_big ≤ n) (h_T0 : I_Tx T0) (l0 : 0 ≤ z.1) (l1 : I_Lk z.2) : o_ok (m_Lk_decode_b21 n x1 x2 T0 z) (fun q => (q.1 = 0 → 0 ≤ q.2.1 ∧ I_Lk q.2.2 ∧ o_mu q.2.1 < o_mu z.1) ∧ (q.1 ≠ 0 → I_Lk q.2.2)) := by
  unfold m_Lk_decode_b21
  refine o_okI (fun c1 => ?_) (fun c1 => ?_)
  · refine o_okS ?_
    refine ⟨fun h => absurd (show (2 : Nat) = 0 from h) (by decide), fun _ => ?_⟩
    exact l1
  · refine o_okI (fun c2 => ?_) (fun c2 => ?_)
    · refine o_okS ?_
      refine ⟨fun h => absurd (show (2 : Nat) = 0 from h) (by decide), fun _ => ?_⟩
      exact l1
    · refine o_okI (fun c3 => ?_) (fun c3 => ?_)
      · refine o_okS ?_
        refine ⟨fun h => absurd (show (2 : Nat) = 0 from h) (by decide), fun _ => ?_⟩
        exact l1
      · refine o_okB (s_Lk_octetAt  h_T0 l1) ?_
        intro q2_4 _
        refine o_okI (fun c5 => ?_) (fun c5 => ?_)
        · refine o_okB (s_Tx_cell  h_T0) ?_
          intro q4_6 g7
          unfold m_Lk_decode_j81
          refine o_okI (fun c8 => ?_) (fun c8 => ?_)
          · refine o_okS ?_
            refine ⟨fun h => absurd (show (1 : Nat) = 0 from h) (by decide), fun _ => ?_⟩
            exact l1
          · refine o_okI (fun c9 => ?_) (fun c9 => ?_)
            · unfold m_Lk_decode_j107
              refine o_okG (o_inM (m := 4000) rfl (by first | with_reducible exact True.intro | with_reducible assumption | grind [-Prod] | grind [-Prod, → sc_Lk, → sc_Tx] | grind [-Prod, I_Lk, I_Tx, o_bn, upd]) (by first | with_reducible exact True.intro | with_reducible assumption | grind [-Prod] | grind [-Prod, → sc_Lk, → sc_Tx] | grind [-Prod, I_Lk, I_Tx, o_bn, upd])) ?_
              refine o_okN (fun x3_132_10 ex3_132_10 => ?_)
              refine o_okS ?_
              refine ⟨fun _ => ?_, fun h => absurd rfl h⟩
              refine ⟨?_, ?_, ?_⟩
              · first | with_reducible exact True.intro | with_reducible assumption | grind [-Prod] | grind [-Prod, → sc_Lk, → sc_Tx] | grind [-Prod, I_Lk, I_Tx, o_bn, upd]
              · exact ⟨(by first | with_reducible exact True.intro | with_reducible assumption | grind [-Prod] | grind [-Prod, → sc_Lk, → sc_Tx] | grind [-Prod, I_Lk, I_Tx, o_bn, upd]), (by first | with_reducible exact True.intro | with_reducible assumption | grind [-Prod] | grind [-Prod, → sc_Lk, → sc_Tx] | grind [-Prod, I_Lk, I_Tx, o_bn, upd])⟩
              · first | exact o_muL (by first | with_reducible exact True.intro | with_reducible assumption | grind [-Prod] | grind [-Prod, → sc_Lk, → sc_Tx] | grind [-Prod, I_Lk, I_Tx, o_bn, upd]) | exact o_nuL (by first | with_reducible exact True.intro | with_reducible assumption | grind [-Prod] | grind [-Prod, → sc_Lk, → sc_Tx] | grind [-Prod, I_Lk, I_Tx, o_bn, upd]) | (first | with_reducible exact True.intro | with_reducible assumption | grind [-Prod] | grind [-Prod, → sc_Lk, → sc_Tx] | grind [-Prod, I_Lk, I_Tx, o_bn, upd])
            · unfold m_Lk_decode_j107
              refine o_okG (o_inM (m := 4000) rfl (by first | with_reducible exact True.intro | with_reducible assumption | grind [-Prod] | grind [-Prod, → sc_Lk, → sc_Tx] | grind [-Prod, I_Lk, I_Tx, o_bn, upd]) (by first | with_reducible exact True.intro | with_reducible assumption | grind [-Prod] | grind [-Prod, → sc_Lk, → sc_Tx] | grind [-Prod, I_Lk, I_Tx, o_bn, upd])) ?_
              refine o_okN (fun x3_132_11 ex3_132_11 => ?_)
              refine o_okS ?_
              refine ⟨fun _ => ?_, fun h => absurd rfl h⟩
              refine ⟨?_, ?_, ?_⟩
              · first | with_reducible exact True.intro | with_reducible assumption | grind [-Prod] | grind [-Prod, → sc_Lk, → sc_Tx] | grind [-Prod, I_Lk, I_Tx, o_bn, upd]
              · exact ⟨(by first | with_reducible exact True.intro | with_reducible assumption | grind [-Prod] | grind [-Prod, → sc_Lk, → sc_Tx] | grind [-Prod, I_Lk, I_Tx, o_bn, upd]), (by first | with_reducible exact True.intro | with_reducible assumption | grind [-Prod] | grind [-Prod, → sc_Lk, → sc_Tx] | grind [-Prod, I_Lk, I_Tx, o_bn, upd])⟩
              · first | exact o_muL (by first | with_reducible exact True.intro | with_reducible assumption | grind [-Prod] | grind [-Prod, → sc_Lk, → sc_Tx] | grind [-Prod, I_Lk, I_Tx, o_bn, upd]) | exact o_nuL (by first | with_reducible exact True.intro | with_reducible assumption | grind [-Prod] | grind [-Prod, → sc_Lk, → sc_Tx] | grind [-Prod, I_Lk, I_Tx, o_bn, upd]) | (first | with_reducible exact True.intro | with_reducible assumption | grind [-Prod] | grind [-Prod, → sc_Lk, → sc_Tx] | grind [-Prod, I_Lk, I_Tx, o_bn, upd])
        · refine o_okB (s_Lk_decodeOctets  hn h_T0 l1) ?_
          intro q3_12 ⟨g13, g14⟩
          unfold m_Lk_decode_j81
          refine o_okI (fun c15 => ?_) (fun c15 => ?_)
          · refine o_okS ?_
            refine ⟨fun h => absurd (show (1 : Nat) = 0 from h) (by decide), fun _ => ?_⟩
            exact g14
          · refine o_okI (fun c16 => ?_) (fun c16 => ?_)
            · unfold m_Lk_decode_j107
              refine o_okG (o_inM (m := 4000) rfl (by first | with_reducible exact True.intro | with_reducible assumption | grind [-Prod] | grind [-Prod, → sc_Lk, → sc_Tx] | grind [-Prod, I_Lk, I_Tx, o_bn, upd]) (by first | with_reducible exact True.intro | with_reducible assumption | grind [-Prod] | grind [-Prod, → sc_Lk, → sc_Tx] | grind [-Prod, I_Lk, I_Tx, o_bn, upd])) ?_
              refine o_okN (fun x3_132_17 ex3_132_17 => ?_)
              refine o_okS ?_
              refine ⟨fun _ => ?_, fun h => absurd rfl h⟩
              refine ⟨?_, ?_, ?_⟩
              · first | with_reducible exact True.intro | with_reducible assumption | grind [-Prod] | grind [-Prod, → sc_Lk, → sc_Tx] | grind [-Prod, I_Lk, I_Tx, o_bn, upd]
              · exact ⟨(by first | with_reducible exact True.intro | with_reducible assumption | grind [-Prod] | grind [-Prod, → sc_Lk, → sc_Tx] | grind [-Prod, I_Lk, I_Tx, o_bn, upd]), (by first | with_reducible exact True.intro | with_reducible assumption | grind [-Prod] | grind [-Prod, → sc_Lk, → sc_Tx] | grind [-Prod, I_Lk, I_Tx, o_bn, upd])⟩
              · first | exact o_muL (by first | with_reducible exact True.intro | with_reducible assumption | grind [-Prod] | grind [-Prod, → sc_Lk, → sc_Tx] | grind [-Prod, I_Lk, I_Tx, o_bn, upd]) | exact o_nuL (by first | with_reducible exact True.intro | with_reducible assumption | grind [-Prod] | grind [-Prod, → sc_Lk, → sc_Tx] | grind [-Prod, I_Lk, I_Tx, o_bn, upd]) | (first | with_reducible exact True.intro | with_reducible assumption | grind [-Prod] | grind [-Prod, → sc_Lk, → sc_Tx] | grind [-Prod, I_Lk, I_Tx, o_bn, upd])
            · unfold m_Lk_decode_j107
              refine o_okG (o_inM (m := 4000) rfl (by first | with_reducible exact True.intro | with_reducible assumption | grind [-Prod] | grind [-Prod, → sc_Lk, → sc_Tx] | grind [-Prod, I_Lk, I_Tx, o_bn, upd]) (by first | with_reducible exact True.intro | with_reducible assumption | grind [-Prod] | grind [-Prod, → sc_Lk, → sc_Tx] | grind [-Prod, I_Lk, I_Tx, o_bn, upd])) ?_
              refine o_okN (fun x3_132_18 ex3_132_18 => ?_)
              refine o_okS ?_
              refine ⟨fun _ => ?_, fun h => absurd rfl h⟩
              refine ⟨?_, ?_, ?_⟩
              · first | with_reducible exact True.intro | with_reducible assumption | grind [-Prod] | grind [-Prod, → sc_Lk, → sc_Tx] | grind [-Prod, I_Lk, I_Tx, o_bn, upd]
              · exact ⟨(by first | with_reducible exact True.intro | with_reducible assumption | grind [-Prod] | grind [-Prod, → sc_Lk, → sc_Tx] | grind [-Prod, I_Lk, I_Tx, o_bn, upd]), (by first | with_reducible exact True.intro | with_reducible assumption | grind [-Prod] | grind [-Prod, → sc_Lk, → sc_Tx] | grind [-Prod, I_Lk, I_Tx, o_bn, upd])⟩
              · first | exact o_muL (by first | with_reducible exact True.intro | with_reducible assumption | grind [-Prod] | grind [-Prod, → sc_Lk, → sc_Tx] | grind [-Prod, I_Lk, I_Tx, o_bn, upd]) | exact o_nuL (by first | with_reducible exact True.intro | with_reducible assumption | grind [-Prod] | grind [-Prod, → sc_Lk, → sc_Tx] | grind [-Prod, I_Lk, I_Tx, o_bn, upd]) | (first | with_reducible exact True.intro | with_reducible assumption | grind [-Prod] | grind [-Prod, → sc_Lk, → sc_Tx] | grind [-Prod, I_Lk, I_Tx, o_bn, upd])
theorem l_Lk_decode_b21 {n : Nat} {x1 : Int32} {x2 : Int32} {T0 : STx} {z : Int32 × SLk} (hn : o_big ≤ n) (h_T0 : I_Tx T0) (l0 : 0 ≤ z.1) (l1 : I_Lk z.2) : o_ok (o_lp n (m_Lk_decode_b21 n x1 x2 T0) z) (fun q => q.1 ≠ 0 ∧ I_Lk q.2.2) := by
  exact o_lpR (fun z => 0 ≤ z.1 ∧ I_Lk z.2) (fun z => o_mu z.1) hn (o_muB) ⟨l0, l1⟩
    (fun z hz => by obtain ⟨l0, l1⟩ := hz; exact o_okW (s_Lk_decode_b21 hn h_T0 l0 l1) (fun q hq => ⟨fun h => by have := hq.1 h; grind, hq.2⟩))
