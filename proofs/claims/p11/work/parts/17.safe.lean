theorem s_Pt_readNumber {n : Nat} {Pt : SPt} (hn : o_big ≤ n) (h_Pt : I_Pt Pt) (p0 : Pt_position Pt ≤ 100000) : o_ok (m_Pt_readNumber n Pt) (fun r => Pt_position r.2 ≤ Pt_position Pt + 3 ∧ I_Pt r.2) := by
  unfold m_Pt_readNumber
  refine o_okB (l_Pt_readNumber_b4 (p0v := Pt_position Pt) hn (by first | with_reducible exact True.intro | with_reducible assumption | grind [-Prod] | grind [-Prod, → sc_Pt] | grind [-Prod, I_Pt, o_bn, upd]) (by first | with_reducible exact True.intro | with_reducible assumption | grind [-Prod] | grind [-Prod, → sc_Pt] | grind [-Prod, I_Pt, o_bn, upd]) (by first | with_reducible exact True.intro | with_reducible assumption | grind [-Prod] | grind [-Prod, → sc_Pt] | grind [-Prod, I_Pt, o_bn, upd]) (by first | with_reducible exact True.intro | with_reducible assumption | grind [-Prod] | grind [-Prod, → sc_Pt] | grind [-Prod, I_Pt, o_bn, upd]) (by first | with_reducible exact True.intro | with_reducible assumption | grind [-Prod] | grind [-Prod, → sc_Pt] | grind [-Prod, I_Pt, o_bn, upd]) h_Pt) ?_
  intro q1_1 ⟨yq1_1, g2, g3⟩
  refine o_okI (fun c4 => ?_) (fun c4 => ?_)
  · refine o_okS ?_
    refine ⟨?_, ?_⟩
    · first | with_reducible exact True.intro | with_reducible assumption | grind [-Prod] | grind [-Prod, → sc_Pt] | grind [-Prod, I_Pt, o_bn, upd]
    · exact g3
  · refine o_okS ?_
    refine ⟨?_, ?_⟩
    · first | with_reducible exact True.intro | with_reducible assumption | grind [-Prod] | grind [-Prod, → sc_Pt] | grind [-Prod, I_Pt, o_bn, upd]
    · exact g3
set_option maxHeartbeats 8000000 in
theorem s_Pt_readQuantifier_j112 {n : Nat} {x2 : Int32} {Pt : SPt} (hn : o_big ≤ n) (h_Pt : I_Pt Pt) (p0 : Pt_position Pt ≤ 200000) : o_ok (m_Pt_readQuantifier_j112 n x2 Pt) (fun r => (r.1 = 0 ∨ r.1 = 1) ∧ I_Pt r.2) := by
  unfold m_Pt_readQuantifier_j112
  refine o_okI (fun c1 => ?_) (fun c1 => ?_)
  · unfold m_Pt_readQuantifier_j150
    unfold m_Pt_readQuantifier_j161
    refine o_okB (s_Pt_peek  ⟨h_Pt.1, h_Pt.2.1, h_Pt.2.2.1, (by first | with_reducible exact True.intro | with_reducible assumption | grind [-Prod] | grind [-Prod, → sc_Pt] | grind [-Prod, I_Pt, o_bn, upd]), (by first | with_reducible exact True.intro | with_reducible assumption | grind [-Prod] | grind [-Prod, → sc_Pt] | grind [-Prod, I_Pt, o_bn, upd]), h_Pt.2.2.2.2.2.1, h_Pt.2.2.2.2.2.2.1, h_Pt.2.2.2.2.2.2.2.1, h_Pt.2.2.2.2.2.2.2.2.1, h_Pt.2.2.2.2.2.2.2.2.2.1, h_Pt.2.2.2.2.2.2.2.2.2.2⟩) ?_
    intro q2_2 g3
    refine o_okI (fun c4 => ?_) (fun c4 => ?_)
    · unfold m_Pt_readQuantifier_j181
      refine o_okI (fun c5 => ?_) (fun c5 => ?_)
      · refine o_okS ?_
        refine ⟨?_, ?_⟩
        · first | with_reducible exact True.intro | with_reducible assumption | grind [-Prod] | grind [-Prod, → sc_Pt] | grind [-Prod, I_Pt, o_bn, upd]
        · exact ⟨h_Pt.1, h_Pt.2.1, h_Pt.2.2.1, (by first | with_reducible exact True.intro | with_reducible assumption | grind [-Prod] | grind [-Prod, → sc_Pt] | grind [-Prod, I_Pt, o_bn, upd]), (by first | with_reducible exact True.intro | with_reducible assumption | grind [-Prod] | grind [-Prod, → sc_Pt] | grind [-Prod, I_Pt, o_bn, upd]), h_Pt.2.2.2.2.2.1, h_Pt.2.2.2.2.2.2.1, h_Pt.2.2.2.2.2.2.2.1, h_Pt.2.2.2.2.2.2.2.2.1, h_Pt.2.2.2.2.2.2.2.2.2.1, h_Pt.2.2.2.2.2.2.2.2.2.2⟩
      · refine o_okI (fun c6 => ?_) (fun c6 => ?_)
        · refine o_okS ?_
          refine ⟨?_, ?_⟩
          · first | with_reducible exact True.intro | with_reducible assumption | grind [-Prod] | grind [-Prod, → sc_Pt] | grind [-Prod, I_Pt, o_bn, upd]
          · exact ⟨h_Pt.1, h_Pt.2.1, h_Pt.2.2.1, (by first | with_reducible exact True.intro | with_reducible assumption | grind [-Prod] | grind [-Prod, → sc_Pt] | grind [-Prod, I_Pt, o_bn, upd]), (by first | with_reducible exact True.intro | with_reducible assumption | grind [-Prod] | grind [-Prod, → sc_Pt] | grind [-Prod, I_Pt, o_bn, upd]), h_Pt.2.2.2.2.2.1, h_Pt.2.2.2.2.2.2.1, h_Pt.2.2.2.2.2.2.2.1, h_Pt.2.2.2.2.2.2.2.2.1, h_Pt.2.2.2.2.2.2.2.2.2.1, h_Pt.2.2.2.2.2.2.2.2.2.2⟩
        · refine o_okI (fun c7 => ?_) (fun c7 => ?_)
          · refine o_okS ?_
            refine ⟨?_, ?_⟩
            · first | with_reducible exact True.intro | with_reducible assumption | grind [-Prod] | grind [-Prod, → sc_Pt] | grind [-Prod, I_Pt, o_bn, upd]
            · exact ⟨h_Pt.1, h_Pt.2.1, h_Pt.2.2.1, (by first | with_reducible exact True.intro | with_reducible assumption | grind [-Prod] | grind [-Prod, → sc_Pt] | grind [-Prod, I_Pt, o_bn, upd]), (by first | with_reducible exact True.intro | with_reducible assumption | grind [-Prod] | grind [-Prod, → sc_Pt] | grind [-Prod, I_Pt, o_bn, upd]), h_Pt.2.2.2.2.2.1, h_Pt.2.2.2.2.2.2.1, h_Pt.2.2.2.2.2.2.2.1, h_Pt.2.2.2.2.2.2.2.2.1, h_Pt.2.2.2.2.2.2.2.2.2.1, h_Pt.2.2.2.2.2.2.2.2.2.2⟩
          · refine o_okS ?_
            refine ⟨?_, ?_⟩
            · first | with_reducible exact True.intro | with_reducible assumption | grind [-Prod] | grind [-Prod, → sc_Pt] | grind [-Prod, I_Pt, o_bn, upd]
            · exact ⟨h_Pt.1, h_Pt.2.1, h_Pt.2.2.1, (by first | with_reducible exact True.intro | with_reducible assumption | grind [-Prod] | grind [-Prod, → sc_Pt] | grind [-Prod, I_Pt, o_bn, upd]), (by first | with_reducible exact True.intro | with_reducible assumption | grind [-Prod] | grind [-Prod, → sc_Pt] | grind [-Prod, I_Pt, o_bn, upd]), h_Pt.2.2.2.2.2.1, h_Pt.2.2.2.2.2.2.1, h_Pt.2.2.2.2.2.2.2.1, h_Pt.2.2.2.2.2.2.2.2.1, h_Pt.2.2.2.2.2.2.2.2.2.1, h_Pt.2.2.2.2.2.2.2.2.2.2⟩
    · unfold m_Pt_readQuantifier_j181
      refine o_okI (fun c8 => ?_) (fun c8 => ?_)
      · refine o_okS ?_
        refine ⟨?_, ?_⟩
        · first | with_reducible exact True.intro | with_reducible assumption | grind [-Prod] | grind [-Prod, → sc_Pt] | grind [-Prod, I_Pt, o_bn, upd]
        · exact ⟨h_Pt.1, h_Pt.2.1, h_Pt.2.2.1, (by first | with_reducible exact True.intro | with_reducible assumption | grind [-Prod] | grind [-Prod, → sc_Pt] | grind [-Prod, I_Pt, o_bn, upd]), (by first | with_reducible exact True.intro | with_reducible assumption | grind [-Prod] | grind [-Prod, → sc_Pt] | grind [-Prod, I_Pt, o_bn, upd]), h_Pt.2.2.2.2.2.1, h_Pt.2.2.2.2.2.2.1, h_Pt.2.2.2.2.2.2.2.1, h_Pt.2.2.2.2.2.2.2.2.1, h_Pt.2.2.2.2.2.2.2.2.2.1, h_Pt.2.2.2.2.2.2.2.2.2.2⟩
      · refine o_okI (fun c9 => ?_) (fun c9 => ?_)
        · refine o_okS ?_
          refine ⟨?_, ?_⟩
          · first | with_reducible exact True.intro | with_reducible assumption | grind [-Prod] | grind [-Prod, → sc_Pt] | grind [-Prod, I_Pt, o_bn, upd]
          · exact ⟨h_Pt.1, h_Pt.2.1, h_Pt.2.2.1, (by first | with_reducible exact True.intro | with_reducible assumption | grind [-Prod] | grind [-Prod, → sc_Pt] | grind [-Prod, I_Pt, o_bn, upd]), (by first | with_reducible exact True.intro | with_reducible assumption | grind [-Prod] | grind [-Prod, → sc_Pt] | grind [-Prod, I_Pt, o_bn, upd]), h_Pt.2.2.2.2.2.1, h_Pt.2.2.2.2.2.2.1, h_Pt.2.2.2.2.2.2.2.1, h_Pt.2.2.2.2.2.2.2.2.1, h_Pt.2.2.2.2.2.2.2.2.2.1, h_Pt.2.2.2.2.2.2.2.2.2.2⟩
        · refine o_okI (fun c10 => ?_) (fun c10 => ?_)
          · refine o_okS ?_
            refine ⟨?_, ?_⟩
            · first | with_reducible exact True.intro | with_reducible assumption | grind [-Prod] | grind [-Prod, → sc_Pt] | grind [-Prod, I_Pt, o_bn, upd]
            · exact ⟨h_Pt.1, h_Pt.2.1, h_Pt.2.2.1, (by first | with_reducible exact True.intro | with_reducible assumption | grind [-Prod] | grind [-Prod, → sc_Pt] | grind [-Prod, I_Pt, o_bn, upd]), (by first | with_reducible exact True.intro | with_reducible assumption | grind [-Prod] | grind [-Prod, → sc_Pt] | grind [-Prod, I_Pt, o_bn, upd]), h_Pt.2.2.2.2.2.1, h_Pt.2.2.2.2.2.2.1, h_Pt.2.2.2.2.2.2.2.1, h_Pt.2.2.2.2.2.2.2.2.1, h_Pt.2.2.2.2.2.2.2.2.2.1, h_Pt.2.2.2.2.2.2.2.2.2.2⟩
          · refine o_okS ?_
            refine ⟨?_, ?_⟩
            · first | with_reducible exact True.intro | with_reducible assumption | grind [-Prod] | grind [-Prod, → sc_Pt] | grind [-Prod, I_Pt, o_bn, upd]
            · exact ⟨h_Pt.1, h_Pt.2.1, h_Pt.2.2.1, (by first | with_reducible exact True.intro | with_reducible assumption | grind [-Prod] | grind [-Prod, → sc_Pt] | grind [-Prod, I_Pt, o_bn, upd]), (by first | with_reducible exact True.intro | with_reducible assumption | grind [-Prod] | grind [-Prod, → sc_Pt] | grind [-Prod, I_Pt, o_bn, upd]), h_Pt.2.2.2.2.2.1, h_Pt.2.2.2.2.2.2.1, h_Pt.2.2.2.2.2.2.2.1, h_Pt.2.2.2.2.2.2.2.2.1, h_Pt.2.2.2.2.2.2.2.2.2.1, h_Pt.2.2.2.2.2.2.2.2.2.2⟩
  · refine o_okB (s_Pt_peek  h_Pt) ?_
    intro q5_11 g12
    refine o_okI (fun c13 => ?_) (fun c13 => ?_)
    · refine o_okI (fun c14 => ?_) (fun c14 => ?_)
      · unfold m_Pt_readQuantifier_j150
        unfold m_Pt_readQuantifier_j161
        refine o_okB (s_Pt_peek  ⟨h_Pt.1, h_Pt.2.1, h_Pt.2.2.1, (by first | with_reducible exact True.intro | with_reducible assumption | grind [-Prod] | grind [-Prod, → sc_Pt] | grind [-Prod, I_Pt, o_bn, upd]), (by first | with_reducible exact True.intro | with_reducible assumption | grind [-Prod] | grind [-Prod, → sc_Pt] | grind [-Prod, I_Pt, o_bn, upd]), h_Pt.2.2.2.2.2.1, h_Pt.2.2.2.2.2.2.1, h_Pt.2.2.2.2.2.2.2.1, h_Pt.2.2.2.2.2.2.2.2.1, h_Pt.2.2.2.2.2.2.2.2.2.1, h_Pt.2.2.2.2.2.2.2.2.2.2⟩) ?_
        intro q2_15 g16
        refine o_okI (fun c17 => ?_) (fun c17 => ?_)
        · unfold m_Pt_readQuantifier_j181
          refine o_okI (fun c18 => ?_) (fun c18 => ?_)
          · refine o_okS ?_
            refine ⟨?_, ?_⟩
            · first | with_reducible exact True.intro | with_reducible assumption | grind [-Prod] | grind [-Prod, → sc_Pt] | grind [-Prod, I_Pt, o_bn, upd]
            · exact ⟨h_Pt.1, h_Pt.2.1, h_Pt.2.2.1, (by first | with_reducible exact True.intro | with_reducible assumption | grind [-Prod] | grind [-Prod, → sc_Pt] | grind [-Prod, I_Pt, o_bn, upd]), (by first | with_reducible exact True.intro | with_reducible assumption | grind [-Prod] | grind [-Prod, → sc_Pt] | grind [-Prod, I_Pt, o_bn, upd]), h_Pt.2.2.2.2.2.1, h_Pt.2.2.2.2.2.2.1, h_Pt.2.2.2.2.2.2.2.1, h_Pt.2.2.2.2.2.2.2.2.1, h_Pt.2.2.2.2.2.2.2.2.2.1, h_Pt.2.2.2.2.2.2.2.2.2.2⟩
          · refine o_okI (fun c19 => ?_) (fun c19 => ?_)
            · refine o_okS ?_
              refine ⟨?_, ?_⟩
              · first | with_reducible exact True.intro | with_reducible assumption | grind [-Prod] | grind [-Prod, → sc_Pt] | grind [-Prod, I_Pt, o_bn, upd]
              · exact ⟨h_Pt.1, h_Pt.2.1, h_Pt.2.2.1, (by first | with_reducible exact True.intro | with_reducible assumption | grind [-Prod] | grind [-Prod, → sc_Pt] | grind [-Prod, I_Pt, o_bn, upd]), (by first | with_reducible exact True.intro | with_reducible assumption | grind [-Prod] | grind [-Prod, → sc_Pt] | grind [-Prod, I_Pt, o_bn, upd]), h_Pt.2.2.2.2.2.1, h_Pt.2.2.2.2.2.2.1, h_Pt.2.2.2.2.2.2.2.1, h_Pt.2.2.2.2.2.2.2.2.1, h_Pt.2.2.2.2.2.2.2.2.2.1, h_Pt.2.2.2.2.2.2.2.2.2.2⟩
            · refine o_okI (fun c20 => ?_) (fun c20 => ?_)
              · refine o_okS ?_
                refine ⟨?_, ?_⟩
                · first | with_reducible exact True.intro | with_reducible assumption | grind [-Prod] | grind [-Prod, → sc_Pt] | grind [-Prod, I_Pt, o_bn, upd]
                · exact ⟨h_Pt.1, h_Pt.2.1, h_Pt.2.2.1, (by first | with_reducible exact True.intro | with_reducible assumption | grind [-Prod] | grind [-Prod, → sc_Pt] | grind [-Prod, I_Pt, o_bn, upd]), (by first | with_reducible exact True.intro | with_reducible assumption | grind [-Prod] | grind [-Prod, → sc_Pt] | grind [-Prod, I_Pt, o_bn, upd]), h_Pt.2.2.2.2.2.1, h_Pt.2.2.2.2.2.2.1, h_Pt.2.2.2.2.2.2.2.1, h_Pt.2.2.2.2.2.2.2.2.1, h_Pt.2.2.2.2.2.2.2.2.2.1, h_Pt.2.2.2.2.2.2.2.2.2.2⟩
              · refine o_okS ?_
                refine ⟨?_, ?_⟩
                · first | with_reducible exact True.intro | with_reducible assumption | grind [-Prod] | grind [-Prod, → sc_Pt] | grind [-Prod, I_Pt, o_bn, upd]
                · exact ⟨h_Pt.1, h_Pt.2.1, h_Pt.2.2.1, (by first | with_reducible exact True.intro | with_reducible assumption | grind [-Prod] | grind [-Prod, → sc_Pt] | grind [-Prod, I_Pt, o_bn, upd]), (by first | with_reducible exact True.intro | with_reducible assumption | grind [-Prod] | grind [-Prod, → sc_Pt] | grind [-Prod, I_Pt, o_bn, upd]), h_Pt.2.2.2.2.2.1, h_Pt.2.2.2.2.2.2.1, h_Pt.2.2.2.2.2.2.2.1, h_Pt.2.2.2.2.2.2.2.2.1, h_Pt.2.2.2.2.2.2.2.2.2.1, h_Pt.2.2.2.2.2.2.2.2.2.2⟩
        · unfold m_Pt_readQuantifier_j181
          refine o_okI (fun c21 => ?_) (fun c21 => ?_)
          · refine o_okS ?_
            refine ⟨?_, ?_⟩
            · first | with_reducible exact True.intro | with_reducible assumption | grind [-Prod] | grind [-Prod, → sc_Pt] | grind [-Prod, I_Pt, o_bn, upd]
            · exact ⟨h_Pt.1, h_Pt.2.1, h_Pt.2.2.1, (by first | with_reducible exact True.intro | with_reducible assumption | grind [-Prod] | grind [-Prod, → sc_Pt] | grind [-Prod, I_Pt, o_bn, upd]), (by first | with_reducible exact True.intro | with_reducible assumption | grind [-Prod] | grind [-Prod, → sc_Pt] | grind [-Prod, I_Pt, o_bn, upd]), h_Pt.2.2.2.2.2.1, h_Pt.2.2.2.2.2.2.1, h_Pt.2.2.2.2.2.2.2.1, h_Pt.2.2.2.2.2.2.2.2.1, h_Pt.2.2.2.2.2.2.2.2.2.1, h_Pt.2.2.2.2.2.2.2.2.2.2⟩
          · refine o_okI (fun c22 => ?_) (fun c22 => ?_)
            · refine o_okS ?_
              refine ⟨?_, ?_⟩
              · first | with_reducible exact True.intro | with_reducible assumption | grind [-Prod] | grind [-Prod, → sc_Pt] | grind [-Prod, I_Pt, o_bn, upd]
              · exact ⟨h_Pt.1, h_Pt.2.1, h_Pt.2.2.1, (by first | with_reducible exact True.intro | with_reducible assumption | grind [-Prod] | grind [-Prod, → sc_Pt] | grind [-Prod, I_Pt, o_bn, upd]), (by first | with_reducible exact True.intro | with_reducible assumption | grind [-Prod] | grind [-Prod, → sc_Pt] | grind [-Prod, I_Pt, o_bn, upd]), h_Pt.2.2.2.2.2.1, h_Pt.2.2.2.2.2.2.1, h_Pt.2.2.2.2.2.2.2.1, h_Pt.2.2.2.2.2.2.2.2.1, h_Pt.2.2.2.2.2.2.2.2.2.1, h_Pt.2.2.2.2.2.2.2.2.2.2⟩
            · refine o_okI (fun c23 => ?_) (fun c23 => ?_)
              · refine o_okS ?_
                refine ⟨?_, ?_⟩
                · first | with_reducible exact True.intro | with_reducible assumption | grind [-Prod] | grind [-Prod, → sc_Pt] | grind [-Prod, I_Pt, o_bn, upd]
                · exact ⟨h_Pt.1, h_Pt.2.1, h_Pt.2.2.1, (by first | with_reducible exact True.intro | with_reducible assumption | grind [-Prod] | grind [-Prod, → sc_Pt] | grind [-Prod, I_Pt, o_bn, upd]), (by first | with_reducible exact True.intro | with_reducible assumption | grind [-Prod] | grind [-Prod, → sc_Pt] | grind [-Prod, I_Pt, o_bn, upd]), h_Pt.2.2.2.2.2.1, h_Pt.2.2.2.2.2.2.1, h_Pt.2.2.2.2.2.2.2.1, h_Pt.2.2.2.2.2.2.2.2.1, h_Pt.2.2.2.2.2.2.2.2.2.1, h_Pt.2.2.2.2.2.2.2.2.2.2⟩
              · refine o_okS ?_
                refine ⟨?_, ?_⟩
                · first | with_reducible exact True.intro | with_reducible assumption | grind [-Prod] | grind [-Prod, → sc_Pt] | grind [-Prod, I_Pt, o_bn, upd]
                · exact ⟨h_Pt.1, h_Pt.2.1, h_Pt.2.2.1, (by first | with_reducible exact True.intro | with_reducible assumption | grind [-Prod] | grind [-Prod, → sc_Pt] | grind [-Prod, I_Pt, o_bn, upd]), (by first | with_reducible exact True.intro | with_reducible assumption | grind [-Prod] | grind [-Prod, → sc_Pt] | grind [-Prod, I_Pt, o_bn, upd]), h_Pt.2.2.2.2.2.1, h_Pt.2.2.2.2.2.2.1, h_Pt.2.2.2.2.2.2.2.1, h_Pt.2.2.2.2.2.2.2.2.1, h_Pt.2.2.2.2.2.2.2.2.2.1, h_Pt.2.2.2.2.2.2.2.2.2.2⟩
      · refine o_okI (fun c24 => ?_) (fun c24 => ?_)
        · unfold m_Pt_readQuantifier_j150
          unfold m_Pt_readQuantifier_j161
          refine o_okB (s_Pt_peek  ⟨h_Pt.1, h_Pt.2.1, h_Pt.2.2.1, (by first | with_reducible exact True.intro | with_reducible assumption | grind [-Prod] | grind [-Prod, → sc_Pt] | grind [-Prod, I_Pt, o_bn, upd]), (by first | with_reducible exact True.intro | with_reducible assumption | grind [-Prod] | grind [-Prod, → sc_Pt] | grind [-Prod, I_Pt, o_bn, upd]), h_Pt.2.2.2.2.2.1, h_Pt.2.2.2.2.2.2.1, h_Pt.2.2.2.2.2.2.2.1, h_Pt.2.2.2.2.2.2.2.2.1, h_Pt.2.2.2.2.2.2.2.2.2.1, h_Pt.2.2.2.2.2.2.2.2.2.2⟩) ?_
          intro q2_25 g26
          refine o_okI (fun c27 => ?_) (fun c27 => ?_)
          · unfold m_Pt_readQuantifier_j181
            refine o_okI (fun c28 => ?_) (fun c28 => ?_)
            · refine o_okS ?_
              refine ⟨?_, ?_⟩
              · first | with_reducible exact True.intro | with_reducible assumption | grind [-Prod] | grind [-Prod, → sc_Pt] | grind [-Prod, I_Pt, o_bn, upd]
              · exact ⟨h_Pt.1, h_Pt.2.1, h_Pt.2.2.1, (by first | with_reducible exact True.intro | with_reducible assumption | grind [-Prod] | grind [-Prod, → sc_Pt] | grind [-Prod, I_Pt, o_bn, upd]), (by first | with_reducible exact True.intro | with_reducible assumption | grind [-Prod] | grind [-Prod, → sc_Pt] | grind [-Prod, I_Pt, o_bn, upd]), h_Pt.2.2.2.2.2.1, h_Pt.2.2.2.2.2.2.1, h_Pt.2.2.2.2.2.2.2.1, h_Pt.2.2.2.2.2.2.2.2.1, h_Pt.2.2.2.2.2.2.2.2.2.1, h_Pt.2.2.2.2.2.2.2.2.2.2⟩
            · refine o_okI (fun c29 => ?_) (fun c29 => ?_)
              · refine o_okS ?_
                refine ⟨?_, ?_⟩
                · first | with_reducible exact True.intro | with_reducible assumption | grind [-Prod] | grind [-Prod, → sc_Pt] | grind [-Prod, I_Pt, o_bn, upd]
                · exact ⟨h_Pt.1, h_Pt.2.1, h_Pt.2.2.1, (by first | with_reducible exact True.intro | with_reducible assumption | grind [-Prod] | grind [-Prod, → sc_Pt] | grind [-Prod, I_Pt, o_bn, upd]), (by first | with_reducible exact True.intro | with_reducible assumption | grind [-Prod] | grind [-Prod, → sc_Pt] | grind [-Prod, I_Pt, o_bn, upd]), h_Pt.2.2.2.2.2.1, h_Pt.2.2.2.2.2.2.1, h_Pt.2.2.2.2.2.2.2.1, h_Pt.2.2.2.2.2.2.2.2.1, h_Pt.2.2.2.2.2.2.2.2.2.1, h_Pt.2.2.2.2.2.2.2.2.2.2⟩
              · refine o_okI (fun c30 => ?_) (fun c30 => ?_)
                · refine o_okS ?_
                  refine ⟨?_, ?_⟩
                  · first | with_reducible exact True.intro | with_reducible assumption | grind [-Prod] | grind [-Prod, → sc_Pt] | grind [-Prod, I_Pt, o_bn, upd]
                  · exact ⟨h_Pt.1, h_Pt.2.1, h_Pt.2.2.1, (by first | with_reducible exact True.intro | with_reducible assumption | grind [-Prod] | grind [-Prod, → sc_Pt] | grind [-Prod, I_Pt, o_bn, upd]), (by first | with_reducible exact True.intro | with_reducible assumption | grind [-Prod] | grind [-Prod, → sc_Pt] | grind [-Prod, I_Pt, o_bn, upd]), h_Pt.2.2.2.2.2.1, h_Pt.2.2.2.2.2.2.1, h_Pt.2.2.2.2.2.2.2.1, h_Pt.2.2.2.2.2.2.2.2.1, h_Pt.2.2.2.2.2.2.2.2.2.1, h_Pt.2.2.2.2.2.2.2.2.2.2⟩
                · refine o_okS ?_
                  refine ⟨?_, ?_⟩
                  · first | with_reducible exact True.intro | with_reducible assumption | grind [-Prod] | grind [-Prod, → sc_Pt] | grind [-Prod, I_Pt, o_bn, upd]
                  · exact ⟨h_Pt.1, h_Pt.2.1, h_Pt.2.2.1, (by first | with_reducible exact True.intro | with_reducible assumption | grind [-Prod] | grind [-Prod, → sc_Pt] | grind [-Prod, I_Pt, o_bn, upd]), (by first | with_reducible exact True.intro | with_reducible assumption | grind [-Prod] | grind [-Prod, → sc_Pt] | grind [-Prod, I_Pt, o_bn, upd]), h_Pt.2.2.2.2.2.1, h_Pt.2.2.2.2.2.2.1, h_Pt.2.2.2.2.2.2.2.1, h_Pt.2.2.2.2.2.2.2.2.1, h_Pt.2.2.2.2.2.2.2.2.2.1, h_Pt.2.2.2.2.2.2.2.2.2.2⟩
          · unfold m_Pt_readQuantifier_j181
            refine o_okI (fun c31 => ?_) (fun c31 => ?_)
            · refine o_okS ?_
              refine ⟨?_, ?_⟩
              · first | with_reducible exact True.intro | with_reducible assumption | grind [-Prod] | grind [-Prod, → sc_Pt] | grind [-Prod, I_Pt, o_bn, upd]
              · exact ⟨h_Pt.1, h_Pt.2.1, h_Pt.2.2.1, (by first | with_reducible exact True.intro | with_reducible assumption | grind [-Prod] | grind [-Prod, → sc_Pt] | grind [-Prod, I_Pt, o_bn, upd]), (by first | with_reducible exact True.intro | with_reducible assumption | grind [-Prod] | grind [-Prod, → sc_Pt] | grind [-Prod, I_Pt, o_bn, upd]), h_Pt.2.2.2.2.2.1, h_Pt.2.2.2.2.2.2.1, h_Pt.2.2.2.2.2.2.2.1, h_Pt.2.2.2.2.2.2.2.2.1, h_Pt.2.2.2.2.2.2.2.2.2.1, h_Pt.2.2.2.2.2.2.2.2.2.2⟩
            · refine o_okI (fun c32 => ?_) (fun c32 => ?_)
              · refine o_okS ?_
                refine ⟨?_, ?_⟩
                · first | with_reducible exact True.intro | with_reducible assumption | grind [-Prod] | grind [-Prod, → sc_Pt] | grind [-Prod, I_Pt, o_bn, upd]
                · exact ⟨h_Pt.1, h_Pt.2.1, h_Pt.2.2.1, (by first | with_reducible exact True.intro | with_reducible assumption | grind [-Prod] | grind [-Prod, → sc_Pt] | grind [-Prod, I_Pt, o_bn, upd]), (by first | with_reducible exact True.intro | with_reducible assumption | grind [-Prod] | grind [-Prod, → sc_Pt] | grind [-Prod, I_Pt, o_bn, upd]), h_Pt.2.2.2.2.2.1, h_Pt.2.2.2.2.2.2.1, h_Pt.2.2.2.2.2.2.2.1, h_Pt.2.2.2.2.2.2.2.2.1, h_Pt.2.2.2.2.2.2.2.2.2.1, h_Pt.2.2.2.2.2.2.2.2.2.2⟩
              · refine o_okI (fun c33 => ?_) (fun c33 => ?_)
                · refine o_okS ?_
                  refine ⟨?_, ?_⟩
                  · first | with_reducible exact True.intro | with_reducible assumption | grind [-Prod] | grind [-Prod, → sc_Pt] | grind [-Prod, I_Pt, o_bn, upd]
                  · exact ⟨h_Pt.1, h_Pt.2.1, h_Pt.2.2.1, (by first | with_reducible exact True.intro | with_reducible assumption | grind [-Prod] | grind [-Prod, → sc_Pt] | grind [-Prod, I_Pt, o_bn, upd]), (by first | with_reducible exact True.intro | with_reducible assumption | grind [-Prod] | grind [-Prod, → sc_Pt] | grind [-Prod, I_Pt, o_bn, upd]), h_Pt.2.2.2.2.2.1, h_Pt.2.2.2.2.2.2.1, h_Pt.2.2.2.2.2.2.2.1, h_Pt.2.2.2.2.2.2.2.2.1, h_Pt.2.2.2.2.2.2.2.2.2.1, h_Pt.2.2.2.2.2.2.2.2.2.2⟩
                · refine o_okS ?_
                  refine ⟨?_, ?_⟩
                  · first | with_reducible exact True.intro | with_reducible assumption | grind [-Prod] | grind [-Prod, → sc_Pt] | grind [-Prod, I_Pt, o_bn, upd]
                  · exact ⟨h_Pt.1, h_Pt.2.1, h_Pt.2.2.1, (by first | with_reducible exact True.intro | with_reducible assumption | grind [-Prod] | grind [-Prod, → sc_Pt] | grind [-Prod, I_Pt, o_bn, upd]), (by first | with_reducible exact True.intro | with_reducible assumption | grind [-Prod] | grind [-Prod, → sc_Pt] | grind [-Prod, I_Pt, o_bn, upd]), h_Pt.2.2.2.2.2.1, h_Pt.2.2.2.2.2.2.1, h_Pt.2.2.2.2.2.2.2.1, h_Pt.2.2.2.2.2.2.2.2.1, h_Pt.2.2.2.2.2.2.2.2.2.1, h_Pt.2.2.2.2.2.2.2.2.2.2⟩
        · unfold m_Pt_readQuantifier_j150
          unfold m_Pt_readQuantifier_j161
          refine o_okB (s_Pt_peek  ⟨h_Pt.1, h_Pt.2.1, h_Pt.2.2.1, (by first | with_reducible exact True.intro | with_reducible assumption | grind [-Prod] | grind [-Prod, → sc_Pt] | grind [-Prod, I_Pt, o_bn, upd]), (by first | with_reducible exact True.intro | with_reducible assumption | grind [-Prod] | grind [-Prod, → sc_Pt] | grind [-Prod, I_Pt, o_bn, upd]), h_Pt.2.2.2.2.2.1, h_Pt.2.2.2.2.2.2.1, h_Pt.2.2.2.2.2.2.2.1, h_Pt.2.2.2.2.2.2.2.2.1, h_Pt.2.2.2.2.2.2.2.2.2.1, h_Pt.2.2.2.2.2.2.2.2.2.2⟩) ?_
          intro q2_34 g35
          refine o_okI (fun c36 => ?_) (fun c36 => ?_)
          · unfold m_Pt_readQuantifier_j181
            refine o_okI (fun c37 => ?_) (fun c37 => ?_)
            · refine o_okS ?_
              refine ⟨?_, ?_⟩
              · first | with_reducible exact True.intro | with_reducible assumption | grind [-Prod] | grind [-Prod, → sc_Pt] | grind [-Prod, I_Pt, o_bn, upd]
              · exact ⟨h_Pt.1, h_Pt.2.1, h_Pt.2.2.1, (by first | with_reducible exact True.intro | with_reducible assumption | grind [-Prod] | grind [-Prod, → sc_Pt] | grind [-Prod, I_Pt, o_bn, upd]), (by first | with_reducible exact True.intro | with_reducible assumption | grind [-Prod] | grind [-Prod, → sc_Pt] | grind [-Prod, I_Pt, o_bn, upd]), h_Pt.2.2.2.2.2.1, h_Pt.2.2.2.2.2.2.1, h_Pt.2.2.2.2.2.2.2.1, h_Pt.2.2.2.2.2.2.2.2.1, h_Pt.2.2.2.2.2.2.2.2.2.1, h_Pt.2.2.2.2.2.2.2.2.2.2⟩
            · refine o_okI (fun c38 => ?_) (fun c38 => ?_)
              · refine o_okS ?_
                refine ⟨?_, ?_⟩
                · first | with_reducible exact True.intro | with_reducible assumption | grind [-Prod] | grind [-Prod, → sc_Pt] | grind [-Prod, I_Pt, o_bn, upd]
                · exact ⟨h_Pt.1, h_Pt.2.1, h_Pt.2.2.1, (by first | with_reducible exact True.intro | with_reducible assumption | grind [-Prod] | grind [-Prod, → sc_Pt] | grind [-Prod, I_Pt, o_bn, upd]), (by first | with_reducible exact True.intro | with_reducible assumption | grind [-Prod] | grind [-Prod, → sc_Pt] | grind [-Prod, I_Pt, o_bn, upd]), h_Pt.2.2.2.2.2.1, h_Pt.2.2.2.2.2.2.1, h_Pt.2.2.2.2.2.2.2.1, h_Pt.2.2.2.2.2.2.2.2.1, h_Pt.2.2.2.2.2.2.2.2.2.1, h_Pt.2.2.2.2.2.2.2.2.2.2⟩
              · refine o_okI (fun c39 => ?_) (fun c39 => ?_)
                · refine o_okS ?_
                  refine ⟨?_, ?_⟩
                  · first | with_reducible exact True.intro | with_reducible assumption | grind [-Prod] | grind [-Prod, → sc_Pt] | grind [-Prod, I_Pt, o_bn, upd]
                  · exact ⟨h_Pt.1, h_Pt.2.1, h_Pt.2.2.1, (by first | with_reducible exact True.intro | with_reducible assumption | grind [-Prod] | grind [-Prod, → sc_Pt] | grind [-Prod, I_Pt, o_bn, upd]), (by first | with_reducible exact True.intro | with_reducible assumption | grind [-Prod] | grind [-Prod, → sc_Pt] | grind [-Prod, I_Pt, o_bn, upd]), h_Pt.2.2.2.2.2.1, h_Pt.2.2.2.2.2.2.1, h_Pt.2.2.2.2.2.2.2.1, h_Pt.2.2.2.2.2.2.2.2.1, h_Pt.2.2.2.2.2.2.2.2.2.1, h_Pt.2.2.2.2.2.2.2.2.2.2⟩
                · refine o_okS ?_
                  refine ⟨?_, ?_⟩
                  · first | with_reducible exact True.intro | with_reducible assumption | grind [-Prod] | grind [-Prod, → sc_Pt] | grind [-Prod, I_Pt, o_bn, upd]
                  · exact ⟨h_Pt.1, h_Pt.2.1, h_Pt.2.2.1, (by first | with_reducible exact True.intro | with_reducible assumption | grind [-Prod] | grind [-Prod, → sc_Pt] | grind [-Prod, I_Pt, o_bn, upd]), (by first | with_reducible exact True.intro | with_reducible assumption | grind [-Prod] | grind [-Prod, → sc_Pt] | grind [-Prod, I_Pt, o_bn, upd]), h_Pt.2.2.2.2.2.1, h_Pt.2.2.2.2.2.2.1, h_Pt.2.2.2.2.2.2.2.1, h_Pt.2.2.2.2.2.2.2.2.1, h_Pt.2.2.2.2.2.2.2.2.2.1, h_Pt.2.2.2.2.2.2.2.2.2.2⟩
          · unfold m_Pt_readQuantifier_j181
            refine o_okI (fun c40 => ?_) (fun c40 => ?_)
            · refine o_okS ?_
              refine ⟨?_, ?_⟩
              · first | with_reducible exact True.intro | with_reducible assumption | grind [-Prod] | grind [-Prod, → sc_Pt] | grind [-Prod, I_Pt, o_bn, upd]
              · exact ⟨h_Pt.1, h_Pt.2.1, h_Pt.2.2.1, (by first | with_reducible exact True.intro | with_reducible assumption | grind [-Prod] | grind [-Prod, → sc_Pt] | grind [-Prod, I_Pt, o_bn, upd]), (by first | with_reducible exact True.intro | with_reducible assumption | grind [-Prod] | grind [-Prod, → sc_Pt] | grind [-Prod, I_Pt, o_bn, upd]), h_Pt.2.2.2.2.2.1, h_Pt.2.2.2.2.2.2.1, h_Pt.2.2.2.2.2.2.2.1, h_Pt.2.2.2.2.2.2.2.2.1, h_Pt.2.2.2.2.2.2.2.2.2.1, h_Pt.2.2.2.2.2.2.2.2.2.2⟩
            · refine o_okI (fun c41 => ?_) (fun c41 => ?_)
              · refine o_okS ?_
                refine ⟨?_, ?_⟩
                · first | with_reducible exact True.intro | with_reducible assumption | grind [-Prod] | grind [-Prod, → sc_Pt] | grind [-Prod, I_Pt, o_bn, upd]
                · exact ⟨h_Pt.1, h_Pt.2.1, h_Pt.2.2.1, (by first | with_reducible exact True.intro | with_reducible assumption | grind [-Prod] | grind [-Prod, → sc_Pt] | grind [-Prod, I_Pt, o_bn, upd]), (by first | with_reducible exact True.intro | with_reducible assumption | grind [-Prod] | grind [-Prod, → sc_Pt] | grind [-Prod, I_Pt, o_bn, upd]), h_Pt.2.2.2.2.2.1, h_Pt.2.2.2.2.2.2.1, h_Pt.2.2.2.2.2.2.2.1, h_Pt.2.2.2.2.2.2.2.2.1, h_Pt.2.2.2.2.2.2.2.2.2.1, h_Pt.2.2.2.2.2.2.2.2.2.2⟩
              · refine o_okI (fun c42 => ?_) (fun c42 => ?_)
                · refine o_okS ?_
                  refine ⟨?_, ?_⟩
                  · first | with_reducible exact True.intro | with_reducible assumption | grind [-Prod] | grind [-Prod, → sc_Pt] | grind [-Prod, I_Pt, o_bn, upd]
                  · exact ⟨h_Pt.1, h_Pt.2.1, h_Pt.2.2.1, (by first | with_reducible exact True.intro | with_reducible assumption | grind [-Prod] | grind [-Prod, → sc_Pt] | grind [-Prod, I_Pt, o_bn, upd]), (by first | with_reducible exact True.intro | with_reducible assumption | grind [-Prod] | grind [-Prod, → sc_Pt] | grind [-Prod, I_Pt, o_bn, upd]), h_Pt.2.2.2.2.2.1, h_Pt.2.2.2.2.2.2.1, h_Pt.2.2.2.2.2.2.2.1, h_Pt.2.2.2.2.2.2.2.2.1, h_Pt.2.2.2.2.2.2.2.2.2.1, h_Pt.2.2.2.2.2.2.2.2.2.2⟩
                · refine o_okS ?_
                  refine ⟨?_, ?_⟩
                  · first | with_reducible exact True.intro | with_reducible assumption | grind [-Prod] | grind [-Prod, → sc_Pt] | grind [-Prod, I_Pt, o_bn, upd]
                  · exact ⟨h_Pt.1, h_Pt.2.1, h_Pt.2.2.1, (by first | with_reducible exact True.intro | with_reducible assumption | grind [-Prod] | grind [-Prod, → sc_Pt] | grind [-Prod, I_Pt, o_bn, upd]), (by first | with_reducible exact True.intro | with_reducible assumption | grind [-Prod] | grind [-Prod, → sc_Pt] | grind [-Prod, I_Pt, o_bn, upd]), h_Pt.2.2.2.2.2.1, h_Pt.2.2.2.2.2.2.1, h_Pt.2.2.2.2.2.2.2.1, h_Pt.2.2.2.2.2.2.2.2.1, h_Pt.2.2.2.2.2.2.2.2.2.1, h_Pt.2.2.2.2.2.2.2.2.2.2⟩
    · unfold m_Pt_readQuantifier_j150
      unfold m_Pt_readQuantifier_j161
      refine o_okB (s_Pt_peek  ⟨h_Pt.1, h_Pt.2.1, h_Pt.2.2.1, (by first | with_reducible exact True.intro | with_reducible assumption | grind [-Prod] | grind [-Prod, → sc_Pt] | grind [-Prod, I_Pt, o_bn, upd]), (by first | with_reducible exact True.intro | with_reducible assumption | grind [-Prod] | grind [-Prod, → sc_Pt] | grind [-Prod, I_Pt, o_bn, upd]), h_Pt.2.2.2.2.2.1, h_Pt.2.2.2.2.2.2.1, h_Pt.2.2.2.2.2.2.2.1, h_Pt.2.2.2.2.2.2.2.2.1, h_Pt.2.2.2.2.2.2.2.2.2.1, h_Pt.2.2.2.2.2.2.2.2.2.2⟩) ?_
      intro q2_43 g44
      refine o_okI (fun c45 => ?_) (fun c45 => ?_)
      · unfold m_Pt_readQuantifier_j181
        refine o_okI (fun c46 => ?_) (fun c46 => ?_)
        · refine o_okS ?_
          refine ⟨?_, ?_⟩
          · first | with_reducible exact True.intro | with_reducible assumption | grind [-Prod] | grind [-Prod, → sc_Pt] | grind [-Prod, I_Pt, o_bn, upd]
          · exact ⟨h_Pt.1, h_Pt.2.1, h_Pt.2.2.1, (by first | with_reducible exact True.intro | with_reducible assumption | grind [-Prod] | grind [-Prod, → sc_Pt] | grind [-Prod, I_Pt, o_bn, upd]), (by first | with_reducible exact True.intro | with_reducible assumption | grind [-Prod] | grind [-Prod, → sc_Pt] | grind [-Prod, I_Pt, o_bn, upd]), h_Pt.2.2.2.2.2.1, h_Pt.2.2.2.2.2.2.1, h_Pt.2.2.2.2.2.2.2.1, h_Pt.2.2.2.2.2.2.2.2.1, h_Pt.2.2.2.2.2.2.2.2.2.1, h_Pt.2.2.2.2.2.2.2.2.2.2⟩
        · refine o_okI (fun c47 => ?_) (fun c47 => ?_)
          · refine o_okS ?_
            refine ⟨?_, ?_⟩
            · first | with_reducible exact True.intro | with_reducible assumption | grind [-Prod] | grind [-Prod, → sc_Pt] | grind [-Prod, I_Pt, o_bn, upd]
            · exact ⟨h_Pt.1, h_Pt.2.1, h_Pt.2.2.1, (by first | with_reducible exact True.intro | with_reducible assumption | grind [-Prod] | grind [-Prod, → sc_Pt] | grind [-Prod, I_Pt, o_bn, upd]), (by first | with_reducible exact True.intro | with_reducible assumption | grind [-Prod] | grind [-Prod, → sc_Pt] | grind [-Prod, I_Pt, o_bn, upd]), h_Pt.2.2.2.2.2.1, h_Pt.2.2.2.2.2.2.1, h_Pt.2.2.2.2.2.2.2.1, h_Pt.2.2.2.2.2.2.2.2.1, h_Pt.2.2.2.2.2.2.2.2.2.1, h_Pt.2.2.2.2.2.2.2.2.2.2⟩
          · refine o_okI (fun c48 => ?_) (fun c48 => ?_)
            · refine o_okS ?_
              refine ⟨?_, ?_⟩
              · first | with_reducible exact True.intro | with_reducible assumption | grind [-Prod] | grind [-Prod, → sc_Pt] | grind [-Prod, I_Pt, o_bn, upd]
              · exact ⟨h_Pt.1, h_Pt.2.1, h_Pt.2.2.1, (by first | with_reducible exact True.intro | with_reducible assumption | grind [-Prod] | grind [-Prod, → sc_Pt] | grind [-Prod, I_Pt, o_bn, upd]), (by first | with_reducible exact True.intro | with_reducible assumption | grind [-Prod] | grind [-Prod, → sc_Pt] | grind [-Prod, I_Pt, o_bn, upd]), h_Pt.2.2.2.2.2.1, h_Pt.2.2.2.2.2.2.1, h_Pt.2.2.2.2.2.2.2.1, h_Pt.2.2.2.2.2.2.2.2.1, h_Pt.2.2.2.2.2.2.2.2.2.1, h_Pt.2.2.2.2.2.2.2.2.2.2⟩
            · refine o_okS ?_
              refine ⟨?_, ?_⟩
              · first | with_reducible exact True.intro | with_reducible assumption | grind [-Prod] | grind [-Prod, → sc_Pt] | grind [-Prod, I_Pt, o_bn, upd]
              · exact ⟨h_Pt.1, h_Pt.2.1, h_Pt.2.2.1, (by first | with_reducible exact True.intro | with_reducible assumption | grind [-Prod] | grind [-Prod, → sc_Pt] | grind [-Prod, I_Pt, o_bn, upd]), (by first | with_reducible exact True.intro | with_reducible assumption | grind [-Prod] | grind [-Prod, → sc_Pt] | grind [-Prod, I_Pt, o_bn, upd]), h_Pt.2.2.2.2.2.1, h_Pt.2.2.2.2.2.2.1, h_Pt.2.2.2.2.2.2.2.1, h_Pt.2.2.2.2.2.2.2.2.1, h_Pt.2.2.2.2.2.2.2.2.2.1, h_Pt.2.2.2.2.2.2.2.2.2.2⟩
      · unfold m_Pt_readQuantifier_j181
        refine o_okI (fun c49 => ?_) (fun c49 => ?_)
        · refine o_okS ?_
          refine ⟨?_, ?_⟩
          · first | with_reducible exact True.intro | with_reducible assumption | grind [-Prod] | grind [-Prod, → sc_Pt] | grind [-Prod, I_Pt, o_bn, upd]
          · exact ⟨h_Pt.1, h_Pt.2.1, h_Pt.2.2.1, (by first | with_reducible exact True.intro | with_reducible assumption | grind [-Prod] | grind [-Prod, → sc_Pt] | grind [-Prod, I_Pt, o_bn, upd]), (by first | with_reducible exact True.intro | with_reducible assumption | grind [-Prod] | grind [-Prod, → sc_Pt] | grind [-Prod, I_Pt, o_bn, upd]), h_Pt.2.2.2.2.2.1, h_Pt.2.2.2.2.2.2.1, h_Pt.2.2.2.2.2.2.2.1, h_Pt.2.2.2.2.2.2.2.2.1, h_Pt.2.2.2.2.2.2.2.2.2.1, h_Pt.2.2.2.2.2.2.2.2.2.2⟩
        · refine o_okI (fun c50 => ?_) (fun c50 => ?_)
          · refine o_okS ?_
            refine ⟨?_, ?_⟩
            · first | with_reducible exact True.intro | with_reducible assumption | grind [-Prod] | grind [-Prod, → sc_Pt] | grind [-Prod, I_Pt, o_bn, upd]
            · exact ⟨h_Pt.1, h_Pt.2.1, h_Pt.2.2.1, (by first | with_reducible exact True.intro | with_reducible assumption | grind [-Prod] | grind [-Prod, → sc_Pt] | grind [-Prod, I_Pt, o_bn, upd]), (by first | with_reducible exact True.intro | with_reducible assumption | grind [-Prod] | grind [-Prod, → sc_Pt] | grind [-Prod, I_Pt, o_bn, upd]), h_Pt.2.2.2.2.2.1, h_Pt.2.2.2.2.2.2.1, h_Pt.2.2.2.2.2.2.2.1, h_Pt.2.2.2.2.2.2.2.2.1, h_Pt.2.2.2.2.2.2.2.2.2.1, h_Pt.2.2.2.2.2.2.2.2.2.2⟩
          · refine o_okI (fun c51 => ?_) (fun c51 => ?_)
            · refine o_okS ?_
              refine ⟨?_, ?_⟩
              · first | with_reducible exact True.intro | with_reducible assumption | grind [-Prod] | grind [-Prod, → sc_Pt] | grind [-Prod, I_Pt, o_bn, upd]
              · exact ⟨h_Pt.1, h_Pt.2.1, h_Pt.2.2.1, (by first | with_reducible exact True.intro | with_reducible assumption | grind [-Prod] | grind [-Prod, → sc_Pt] | grind [-Prod, I_Pt, o_bn, upd]), (by first | with_reducible exact True.intro | with_reducible assumption | grind [-Prod] | grind [-Prod, → sc_Pt] | grind [-Prod, I_Pt, o_bn, upd]), h_Pt.2.2.2.2.2.1, h_Pt.2.2.2.2.2.2.1, h_Pt.2.2.2.2.2.2.2.1, h_Pt.2.2.2.2.2.2.2.2.1, h_Pt.2.2.2.2.2.2.2.2.2.1, h_Pt.2.2.2.2.2.2.2.2.2.2⟩
            · refine o_okS ?_
              refine ⟨?_, ?_⟩
              · first | with_reducible exact True.intro | with_reducible assumption | grind [-Prod] | grind [-Prod, → sc_Pt] | grind [-Prod, I_Pt, o_bn, upd]
              · exact ⟨h_Pt.1, h_Pt.2.1, h_Pt.2.2.1, (by first | with_reducible exact True.intro | with_reducible assumption | grind [-Prod] | grind [-Prod, → sc_Pt] | grind [-Prod, I_Pt, o_bn, upd]), (by first | with_reducible exact True.intro | with_reducible assumption | grind [-Prod] | grind [-Prod, → sc_Pt] | grind [-Prod, I_Pt, o_bn, upd]), h_Pt.2.2.2.2.2.1, h_Pt.2.2.2.2.2.2.1, h_Pt.2.2.2.2.2.2.2.1, h_Pt.2.2.2.2.2.2.2.2.1, h_Pt.2.2.2.2.2.2.2.2.2.1, h_Pt.2.2.2.2.2.2.2.2.2.2⟩
set_option maxHeartbeats 8000000 in
theorem s_Pt_readQuantifier_j28 {n : Nat} {x1 : Int32} {y1 : Int32} {Pt : SPt} (hn : o_big ≤ n) (h_Pt : I_Pt Pt) (p0 : Pt_position Pt ≤ 60000) : o_ok (m_Pt_readQuantifier_j28 n x1 y1 Pt) (fun r => (r.1 = 0 ∨ r.1 = 1) ∧ I_Pt r.2) := by
  unfold m_Pt_readQuantifier_j28
  refine o_okI (fun c1 => ?_) (fun c1 => ?_)
  · unfold m_Pt_readQuantifier_j43
    refine o_okI (fun c2 => ?_) (fun c2 => ?_)
    · refine o_okB (s_Pt_readNumber  hn ⟨h_Pt.1, h_Pt.2.1, h_Pt.2.2.1, h_Pt.2.2.2.1, h_Pt.2.2.2.2.1, h_Pt.2.2.2.2.2.1, h_Pt.2.2.2.2.2.2.1, h_Pt.2.2.2.2.2.2.2.1, h_Pt.2.2.2.2.2.2.2.2.1, h_Pt.2.2.2.2.2.2.2.2.2.1, h_Pt.2.2.2.2.2.2.2.2.2.2⟩ (by first | with_reducible exact True.intro | with_reducible assumption | grind [-Prod] | grind [-Prod, → sc_Pt] | grind [-Prod, I_Pt, o_bn, upd])) ?_
      intro q3_3 ⟨g4, g5⟩
      refine o_okI (fun c6 => ?_) (fun c6 => ?_)
      · unfold m_Pt_readQuantifier_j83
        refine o_okB (s_Pt_peek  ⟨g5.1, g5.2.1, g5.2.2.1, g5.2.2.2.1, g5.2.2.2.2.1, g5.2.2.2.2.2.1, g5.2.2.2.2.2.2.1, g5.2.2.2.2.2.2.2.1, g5.2.2.2.2.2.2.2.2.1, g5.2.2.2.2.2.2.2.2.2.1, g5.2.2.2.2.2.2.2.2.2.2⟩) ?_
        intro q4_7 g8
        refine o_okI (fun c9 => ?_) (fun c9 => ?_)
        · refine o_okB (s_Pt_readNumber  hn ⟨g5.1, g5.2.1, g5.2.2.1, (by first | with_reducible exact True.intro | with_reducible assumption | grind [-Prod] | grind [-Prod, → sc_Pt] | grind [-Prod, I_Pt, o_bn, upd]), (by first | with_reducible exact True.intro | with_reducible assumption | grind [-Prod] | grind [-Prod, → sc_Pt] | grind [-Prod, I_Pt, o_bn, upd]), g5.2.2.2.2.2.1, g5.2.2.2.2.2.2.1, g5.2.2.2.2.2.2.2.1, g5.2.2.2.2.2.2.2.2.1, g5.2.2.2.2.2.2.2.2.2.1, g5.2.2.2.2.2.2.2.2.2.2⟩ (by first | with_reducible exact True.intro | with_reducible assumption | grind [-Prod] | grind [-Prod, → sc_Pt] | grind [-Prod, I_Pt, o_bn, upd])) ?_
          intro q6_10 ⟨g11, g12⟩
          refine o_okW (s_Pt_readQuantifier_j112  hn ⟨g12.1, g12.2.1, g12.2.2.1, g12.2.2.2.1, g12.2.2.2.2.1, g12.2.2.2.2.2.1, g12.2.2.2.2.2.2.1, g12.2.2.2.2.2.2.2.1, g12.2.2.2.2.2.2.2.2.1, g12.2.2.2.2.2.2.2.2.2.1, g12.2.2.2.2.2.2.2.2.2.2⟩ (by first | with_reducible exact True.intro | with_reducible assumption | grind [-Prod] | grind [-Prod, → sc_Pt] | grind [-Prod, I_Pt, o_bn, upd])) (fun r hr => ?_)
          first | exact hr | (obtain ⟨g13, g14⟩ := hr; first | with_reducible exact True.intro | with_reducible assumption | grind [-Prod] | grind [-Prod, → sc_Pt] | grind [-Prod, I_Pt, o_bn, upd])
        · refine o_okW (s_Pt_readQuantifier_j112  hn ⟨g5.1, g5.2.1, g5.2.2.1, g5.2.2.2.1, g5.2.2.2.2.1, g5.2.2.2.2.2.1, g5.2.2.2.2.2.2.1, g5.2.2.2.2.2.2.2.1, g5.2.2.2.2.2.2.2.2.1, g5.2.2.2.2.2.2.2.2.2.1, g5.2.2.2.2.2.2.2.2.2.2⟩ (by first | with_reducible exact True.intro | with_reducible assumption | grind [-Prod] | grind [-Prod, → sc_Pt] | grind [-Prod, I_Pt, o_bn, upd])) (fun r hr => ?_)
          first | exact hr | (obtain ⟨g15, g16⟩ := hr; first | with_reducible exact True.intro | with_reducible assumption | grind [-Prod] | grind [-Prod, → sc_Pt] | grind [-Prod, I_Pt, o_bn, upd])
      · unfold m_Pt_readQuantifier_j83
        refine o_okB (s_Pt_peek  ⟨g5.1, g5.2.1, g5.2.2.1, g5.2.2.2.1, g5.2.2.2.2.1, g5.2.2.2.2.2.1, g5.2.2.2.2.2.2.1, g5.2.2.2.2.2.2.2.1, g5.2.2.2.2.2.2.2.2.1, g5.2.2.2.2.2.2.2.2.2.1, g5.2.2.2.2.2.2.2.2.2.2⟩) ?_
        intro q4_17 g18
        refine o_okI (fun c19 => ?_) (fun c19 => ?_)
        · refine o_okB (s_Pt_readNumber  hn ⟨g5.1, g5.2.1, g5.2.2.1, (by first | with_reducible exact True.intro | with_reducible assumption | grind [-Prod] | grind [-Prod, → sc_Pt] | grind [-Prod, I_Pt, o_bn, upd]), (by first | with_reducible exact True.intro | with_reducible assumption | grind [-Prod] | grind [-Prod, → sc_Pt] | grind [-Prod, I_Pt, o_bn, upd]), g5.2.2.2.2.2.1, g5.2.2.2.2.2.2.1, g5.2.2.2.2.2.2.2.1, g5.2.2.2.2.2.2.2.2.1, g5.2.2.2.2.2.2.2.2.2.1, g5.2.2.2.2.2.2.2.2.2.2⟩ (by first | with_reducible exact True.intro | with_reducible assumption | grind [-Prod] | grind [-Prod, → sc_Pt] | grind [-Prod, I_Pt, o_bn, upd])) ?_
          intro q6_20 ⟨g21, g22⟩
          refine o_okW (s_Pt_readQuantifier_j112  hn ⟨g22.1, g22.2.1, g22.2.2.1, g22.2.2.2.1, g22.2.2.2.2.1, g22.2.2.2.2.2.1, g22.2.2.2.2.2.2.1, g22.2.2.2.2.2.2.2.1, g22.2.2.2.2.2.2.2.2.1, g22.2.2.2.2.2.2.2.2.2.1, g22.2.2.2.2.2.2.2.2.2.2⟩ (by first | with_reducible exact True.intro | with_reducible assumption | grind [-Prod] | grind [-Prod, → sc_Pt] | grind [-Prod, I_Pt, o_bn, upd])) (fun r hr => ?_)
          first | exact hr | (obtain ⟨g23, g24⟩ := hr; first | with_reducible exact True.intro | with_reducible assumption | grind [-Prod] | grind [-Prod, → sc_Pt] | grind [-Prod, I_Pt, o_bn, upd])
        · refine o_okW (s_Pt_readQuantifier_j112  hn ⟨g5.1, g5.2.1, g5.2.2.1, g5.2.2.2.1, g5.2.2.2.2.1, g5.2.2.2.2.2.1, g5.2.2.2.2.2.2.1, g5.2.2.2.2.2.2.2.1, g5.2.2.2.2.2.2.2.2.1, g5.2.2.2.2.2.2.2.2.2.1, g5.2.2.2.2.2.2.2.2.2.2⟩ (by first | with_reducible exact True.intro | with_reducible assumption | grind [-Prod] | grind [-Prod, → sc_Pt] | grind [-Prod, I_Pt, o_bn, upd])) (fun r hr => ?_)
          first | exact hr | (obtain ⟨g25, g26⟩ := hr; first | with_reducible exact True.intro | with_reducible assumption | grind [-Prod] | grind [-Prod, → sc_Pt] | grind [-Prod, I_Pt, o_bn, upd])
    · unfold m_Pt_readQuantifier_j161
      refine o_okB (s_Pt_peek  ⟨h_Pt.1, h_Pt.2.1, h_Pt.2.2.1, h_Pt.2.2.2.1, h_Pt.2.2.2.2.1, h_Pt.2.2.2.2.2.1, h_Pt.2.2.2.2.2.2.1, h_Pt.2.2.2.2.2.2.2.1, h_Pt.2.2.2.2.2.2.2.2.1, h_Pt.2.2.2.2.2.2.2.2.2.1, h_Pt.2.2.2.2.2.2.2.2.2.2⟩) ?_
      intro q2_27 g28
      refine o_okI (fun c29 => ?_) (fun c29 => ?_)
      · unfold m_Pt_readQuantifier_j181
        refine o_okI (fun c30 => ?_) (fun c30 => ?_)
        · refine o_okS ?_
          refine ⟨?_, ?_⟩
          · first | with_reducible exact True.intro | with_reducible assumption | grind [-Prod] | grind [-Prod, → sc_Pt] | grind [-Prod, I_Pt, o_bn, upd]
          · exact ⟨h_Pt.1, h_Pt.2.1, h_Pt.2.2.1, (by first | with_reducible exact True.intro | with_reducible assumption | grind [-Prod] | grind [-Prod, → sc_Pt] | grind [-Prod, I_Pt, o_bn, upd]), (by first | with_reducible exact True.intro | with_reducible assumption | grind [-Prod] | grind [-Prod, → sc_Pt] | grind [-Prod, I_Pt, o_bn, upd]), h_Pt.2.2.2.2.2.1, h_Pt.2.2.2.2.2.2.1, h_Pt.2.2.2.2.2.2.2.1, h_Pt.2.2.2.2.2.2.2.2.1, h_Pt.2.2.2.2.2.2.2.2.2.1, h_Pt.2.2.2.2.2.2.2.2.2.2⟩
        · refine o_okI (fun c31 => ?_) (fun c31 => ?_)
          · refine o_okS ?_
            refine ⟨?_, ?_⟩
            · first | with_reducible exact True.intro | with_reducible assumption | grind [-Prod] | grind [-Prod, → sc_Pt] | grind [-Prod, I_Pt, o_bn, upd]
            · exact ⟨h_Pt.1, h_Pt.2.1, h_Pt.2.2.1, (by first | with_reducible exact True.intro | with_reducible assumption | grind [-Prod] | grind [-Prod, → sc_Pt] | grind [-Prod, I_Pt, o_bn, upd]), (by first | with_reducible exact True.intro | with_reducible assumption | grind [-Prod] | grind [-Prod, → sc_Pt] | grind [-Prod, I_Pt, o_bn, upd]), h_Pt.2.2.2.2.2.1, h_Pt.2.2.2.2.2.2.1, h_Pt.2.2.2.2.2.2.2.1, h_Pt.2.2.2.2.2.2.2.2.1, h_Pt.2.2.2.2.2.2.2.2.2.1, h_Pt.2.2.2.2.2.2.2.2.2.2⟩
          · refine o_okI (fun c32 => ?_) (fun c32 => ?_)
            · refine o_okS ?_
              refine ⟨?_, ?_⟩
              · first | with_reducible exact True.intro | with_reducible assumption | grind [-Prod] | grind [-Prod, → sc_Pt] | grind [-Prod, I_Pt, o_bn, upd]
              · exact ⟨h_Pt.1, h_Pt.2.1, h_Pt.2.2.1, (by first | with_reducible exact True.intro | with_reducible assumption | grind [-Prod] | grind [-Prod, → sc_Pt] | grind [-Prod, I_Pt, o_bn, upd]), (by first | with_reducible exact True.intro | with_reducible assumption | grind [-Prod] | grind [-Prod, → sc_Pt] | grind [-Prod, I_Pt, o_bn, upd]), h_Pt.2.2.2.2.2.1, h_Pt.2.2.2.2.2.2.1, h_Pt.2.2.2.2.2.2.2.1, h_Pt.2.2.2.2.2.2.2.2.1, h_Pt.2.2.2.2.2.2.2.2.2.1, h_Pt.2.2.2.2.2.2.2.2.2.2⟩
            · refine o_okS ?_
              refine ⟨?_, ?_⟩
              · first | with_reducible exact True.intro | with_reducible assumption | grind [-Prod] | grind [-Prod, → sc_Pt] | grind [-Prod, I_Pt, o_bn, upd]
              · exact ⟨h_Pt.1, h_Pt.2.1, h_Pt.2.2.1, (by first | with_reducible exact True.intro | with_reducible assumption | grind [-Prod] | grind [-Prod, → sc_Pt] | grind [-Prod, I_Pt, o_bn, upd]), (by first | with_reducible exact True.intro | with_reducible assumption | grind [-Prod] | grind [-Prod, → sc_Pt] | grind [-Prod, I_Pt, o_bn, upd]), h_Pt.2.2.2.2.2.1, h_Pt.2.2.2.2.2.2.1, h_Pt.2.2.2.2.2.2.2.1, h_Pt.2.2.2.2.2.2.2.2.1, h_Pt.2.2.2.2.2.2.2.2.2.1, h_Pt.2.2.2.2.2.2.2.2.2.2⟩
      · unfold m_Pt_readQuantifier_j181
        refine o_okI (fun c33 => ?_) (fun c33 => ?_)
        · refine o_okS ?_
          refine ⟨?_, ?_⟩
          · first | with_reducible exact True.intro | with_reducible assumption | grind [-Prod] | grind [-Prod, → sc_Pt] | grind [-Prod, I_Pt, o_bn, upd]
          · exact ⟨h_Pt.1, h_Pt.2.1, h_Pt.2.2.1, h_Pt.2.2.2.1, h_Pt.2.2.2.2.1, h_Pt.2.2.2.2.2.1, h_Pt.2.2.2.2.2.2.1, h_Pt.2.2.2.2.2.2.2.1, h_Pt.2.2.2.2.2.2.2.2.1, h_Pt.2.2.2.2.2.2.2.2.2.1, h_Pt.2.2.2.2.2.2.2.2.2.2⟩
        · refine o_okI (fun c34 => ?_) (fun c34 => ?_)
          · refine o_okS ?_
            refine ⟨?_, ?_⟩
            · first | with_reducible exact True.intro | with_reducible assumption | grind [-Prod] | grind [-Prod, → sc_Pt] | grind [-Prod, I_Pt, o_bn, upd]
            · exact ⟨h_Pt.1, h_Pt.2.1, h_Pt.2.2.1, h_Pt.2.2.2.1, h_Pt.2.2.2.2.1, h_Pt.2.2.2.2.2.1, h_Pt.2.2.2.2.2.2.1, h_Pt.2.2.2.2.2.2.2.1, h_Pt.2.2.2.2.2.2.2.2.1, h_Pt.2.2.2.2.2.2.2.2.2.1, h_Pt.2.2.2.2.2.2.2.2.2.2⟩
          · refine o_okI (fun c35 => ?_) (fun c35 => ?_)
            · refine o_okS ?_
              refine ⟨?_, ?_⟩
              · first | with_reducible exact True.intro | with_reducible assumption | grind [-Prod] | grind [-Prod, → sc_Pt] | grind [-Prod, I_Pt, o_bn, upd]
              · exact ⟨h_Pt.1, h_Pt.2.1, h_Pt.2.2.1, h_Pt.2.2.2.1, h_Pt.2.2.2.2.1, h_Pt.2.2.2.2.2.1, h_Pt.2.2.2.2.2.2.1, h_Pt.2.2.2.2.2.2.2.1, h_Pt.2.2.2.2.2.2.2.2.1, h_Pt.2.2.2.2.2.2.2.2.2.1, h_Pt.2.2.2.2.2.2.2.2.2.2⟩
            · refine o_okS ?_
              refine ⟨?_, ?_⟩
              · first | with_reducible exact True.intro | with_reducible assumption | grind [-Prod] | grind [-Prod, → sc_Pt] | grind [-Prod, I_Pt, o_bn, upd]
              · exact ⟨h_Pt.1, h_Pt.2.1, h_Pt.2.2.1, h_Pt.2.2.2.1, h_Pt.2.2.2.2.1, h_Pt.2.2.2.2.2.1, h_Pt.2.2.2.2.2.2.1, h_Pt.2.2.2.2.2.2.2.1, h_Pt.2.2.2.2.2.2.2.2.1, h_Pt.2.2.2.2.2.2.2.2.2.1, h_Pt.2.2.2.2.2.2.2.2.2.2⟩
  · unfold m_Pt_readQuantifier_j43
    refine o_okI (fun c36 => ?_) (fun c36 => ?_)
    · refine o_okB (s_Pt_readNumber  hn ⟨h_Pt.1, h_Pt.2.1, h_Pt.2.2.1, h_Pt.2.2.2.1, h_Pt.2.2.2.2.1, h_Pt.2.2.2.2.2.1, h_Pt.2.2.2.2.2.2.1, h_Pt.2.2.2.2.2.2.2.1, h_Pt.2.2.2.2.2.2.2.2.1, h_Pt.2.2.2.2.2.2.2.2.2.1, h_Pt.2.2.2.2.2.2.2.2.2.2⟩ (by first | with_reducible exact True.intro | with_reducible assumption | grind [-Prod] | grind [-Prod, → sc_Pt] | grind [-Prod, I_Pt, o_bn, upd])) ?_
      intro q3_37 ⟨g38, g39⟩
      refine o_okI (fun c40 => ?_) (fun c40 => ?_)
      · unfold m_Pt_readQuantifier_j83
        refine o_okB (s_Pt_peek  ⟨g39.1, g39.2.1, g39.2.2.1, g39.2.2.2.1, g39.2.2.2.2.1, g39.2.2.2.2.2.1, g39.2.2.2.2.2.2.1, g39.2.2.2.2.2.2.2.1, g39.2.2.2.2.2.2.2.2.1, g39.2.2.2.2.2.2.2.2.2.1, g39.2.2.2.2.2.2.2.2.2.2⟩) ?_
        intro q4_41 g42
        refine o_okI (fun c43 => ?_) (fun c43 => ?_)
        · refine o_okB (s_Pt_readNumber  hn ⟨g39.1, g39.2.1, g39.2.2.1, (by first | with_reducible exact True.intro | with_reducible assumption | grind [-Prod] | grind [-Prod, → sc_Pt] | grind [-Prod, I_Pt, o_bn, upd]), (by first | with_reducible exact True.intro | with_reducible assumption | grind [-Prod] | grind [-Prod, → sc_Pt] | grind [-Prod, I_Pt, o_bn, upd]), g39.2.2.2.2.2.1, g39.2.2.2.2.2.2.1, g39.2.2.2.2.2.2.2.1, g39.2.2.2.2.2.2.2.2.1, g39.2.2.2.2.2.2.2.2.2.1, g39.2.2.2.2.2.2.2.2.2.2⟩ (by first | with_reducible exact True.intro | with_reducible assumption | grind [-Prod] | grind [-Prod, → sc_Pt] | grind [-Prod, I_Pt, o_bn, upd])) ?_
          intro q6_44 ⟨g45, g46⟩
          refine o_okW (s_Pt_readQuantifier_j112  hn ⟨g46.1, g46.2.1, g46.2.2.1, g46.2.2.2.1, g46.2.2.2.2.1, g46.2.2.2.2.2.1, g46.2.2.2.2.2.2.1, g46.2.2.2.2.2.2.2.1, g46.2.2.2.2.2.2.2.2.1, g46.2.2.2.2.2.2.2.2.2.1, g46.2.2.2.2.2.2.2.2.2.2⟩ (by first | with_reducible exact True.intro | with_reducible assumption | grind [-Prod] | grind [-Prod, → sc_Pt] | grind [-Prod, I_Pt, o_bn, upd])) (fun r hr => ?_)
          first | exact hr | (obtain ⟨g47, g48⟩ := hr; first | with_reducible exact True.intro | with_reducible assumption | grind [-Prod] | grind [-Prod, → sc_Pt] | grind [-Prod, I_Pt, o_bn, upd])
        · refine o_okW (s_Pt_readQuantifier_j112  hn ⟨g39.1, g39.2.1, g39.2.2.1, g39.2.2.2.1, g39.2.2.2.2.1, g39.2.2.2.2.2.1, g39.2.2.2.2.2.2.1, g39.2.2.2.2.2.2.2.1, g39.2.2.2.2.2.2.2.2.1, g39.2.2.2.2.2.2.2.2.2.1, g39.2.2.2.2.2.2.2.2.2.2⟩ (by first | with_reducible exact True.intro | with_reducible assumption | grind [-Prod] | grind [-Prod, → sc_Pt] | grind [-Prod, I_Pt, o_bn, upd])) (fun r hr => ?_)
          first | exact hr | (obtain ⟨g49, g50⟩ := hr; first | with_reducible exact True.intro | with_reducible assumption | grind [-Prod] | grind [-Prod, → sc_Pt] | grind [-Prod, I_Pt, o_bn, upd])
      · unfold m_Pt_readQuantifier_j83
        refine o_okB (s_Pt_peek  ⟨g39.1, g39.2.1, g39.2.2.1, g39.2.2.2.1, g39.2.2.2.2.1, g39.2.2.2.2.2.1, g39.2.2.2.2.2.2.1, g39.2.2.2.2.2.2.2.1, g39.2.2.2.2.2.2.2.2.1, g39.2.2.2.2.2.2.2.2.2.1, g39.2.2.2.2.2.2.2.2.2.2⟩) ?_
        intro q4_51 g52
        refine o_okI (fun c53 => ?_) (fun c53 => ?_)
        · refine o_okB (s_Pt_readNumber  hn ⟨g39.1, g39.2.1, g39.2.2.1, (by first | with_reducible exact True.intro | with_reducible assumption | grind [-Prod] | grind [-Prod, → sc_Pt] | grind [-Prod, I_Pt, o_bn, upd]), (by first | with_reducible exact True.intro | with_reducible assumption | grind [-Prod] | grind [-Prod, → sc_Pt] | grind [-Prod, I_Pt, o_bn, upd]), g39.2.2.2.2.2.1, g39.2.2.2.2.2.2.1, g39.2.2.2.2.2.2.2.1, g39.2.2.2.2.2.2.2.2.1, g39.2.2.2.2.2.2.2.2.2.1, g39.2.2.2.2.2.2.2.2.2.2⟩ (by first | with_reducible exact True.intro | with_reducible assumption | grind [-Prod] | grind [-Prod, → sc_Pt] | grind [-Prod, I_Pt, o_bn, upd])) ?_
          intro q6_54 ⟨g55, g56⟩
          refine o_okW (s_Pt_readQuantifier_j112  hn ⟨g56.1, g56.2.1, g56.2.2.1, g56.2.2.2.1, g56.2.2.2.2.1, g56.2.2.2.2.2.1, g56.2.2.2.2.2.2.1, g56.2.2.2.2.2.2.2.1, g56.2.2.2.2.2.2.2.2.1, g56.2.2.2.2.2.2.2.2.2.1, g56.2.2.2.2.2.2.2.2.2.2⟩ (by first | with_reducible exact True.intro | with_reducible assumption | grind [-Prod] | grind [-Prod, → sc_Pt] | grind [-Prod, I_Pt, o_bn, upd])) (fun r hr => ?_)
          first | exact hr | (obtain ⟨g57, g58⟩ := hr; first | with_reducible exact True.intro | with_reducible assumption | grind [-Prod] | grind [-Prod, → sc_Pt] | grind [-Prod, I_Pt, o_bn, upd])
        · refine o_okW (s_Pt_readQuantifier_j112  hn ⟨g39.1, g39.2.1, g39.2.2.1, g39.2.2.2.1, g39.2.2.2.2.1, g39.2.2.2.2.2.1, g39.2.2.2.2.2.2.1, g39.2.2.2.2.2.2.2.1, g39.2.2.2.2.2.2.2.2.1, g39.2.2.2.2.2.2.2.2.2.1, g39.2.2.2.2.2.2.2.2.2.2⟩ (by first | with_reducible exact True.intro | with_reducible assumption | grind [-Prod] | grind [-Prod, → sc_Pt] | grind [-Prod, I_Pt, o_bn, upd])) (fun r hr => ?_)
          first | exact hr | (obtain ⟨g59, g60⟩ := hr; first | with_reducible exact True.intro | with_reducible assumption | grind [-Prod] | grind [-Prod, → sc_Pt] | grind [-Prod, I_Pt, o_bn, upd])
    · unfold m_Pt_readQuantifier_j161
      refine o_okB (s_Pt_peek  ⟨h_Pt.1, h_Pt.2.1, h_Pt.2.2.1, h_Pt.2.2.2.1, h_Pt.2.2.2.2.1, h_Pt.2.2.2.2.2.1, h_Pt.2.2.2.2.2.2.1, h_Pt.2.2.2.2.2.2.2.1, h_Pt.2.2.2.2.2.2.2.2.1, h_Pt.2.2.2.2.2.2.2.2.2.1, h_Pt.2.2.2.2.2.2.2.2.2.2⟩) ?_
      intro q2_61 g62
      refine o_okI (fun c63 => ?_) (fun c63 => ?_)
      · unfold m_Pt_readQuantifier_j181
        refine o_okI (fun c64 => ?_) (fun c64 => ?_)
        · refine o_okS ?_
          refine ⟨?_, ?_⟩
          · first | with_reducible exact True.intro | with_reducible assumption | grind [-Prod] | grind [-Prod, → sc_Pt] | grind [-Prod, I_Pt, o_bn, upd]
          · exact ⟨h_Pt.1, h_Pt.2.1, h_Pt.2.2.1, (by first | with_reducible exact True.intro | with_reducible assumption | grind [-Prod] | grind [-Prod, → sc_Pt] | grind [-Prod, I_Pt, o_bn, upd]), (by first | with_reducible exact True.intro | with_reducible assumption | grind [-Prod] | grind [-Prod, → sc_Pt] | grind [-Prod, I_Pt, o_bn, upd]), h_Pt.2.2.2.2.2.1, h_Pt.2.2.2.2.2.2.1, h_Pt.2.2.2.2.2.2.2.1, h_Pt.2.2.2.2.2.2.2.2.1, h_Pt.2.2.2.2.2.2.2.2.2.1, h_Pt.2.2.2.2.2.2.2.2.2.2⟩
        · refine o_okI (fun c65 => ?_) (fun c65 => ?_)
          · refine o_okS ?_
            refine ⟨?_, ?_⟩
            · first | with_reducible exact True.intro | with_reducible assumption | grind [-Prod] | grind [-Prod, → sc_Pt] | grind [-Prod, I_Pt, o_bn, upd]
            · exact ⟨h_Pt.1, h_Pt.2.1, h_Pt.2.2.1, (by first | with_reducible exact True.intro | with_reducible assumption | grind [-Prod] | grind [-Prod, → sc_Pt] | grind [-Prod, I_Pt, o_bn, upd]), (by first | with_reducible exact True.intro | with_reducible assumption | grind [-Prod] | grind [-Prod, → sc_Pt] | grind [-Prod, I_Pt, o_bn, upd]), h_Pt.2.2.2.2.2.1, h_Pt.2.2.2.2.2.2.1, h_Pt.2.2.2.2.2.2.2.1, h_Pt.2.2.2.2.2.2.2.2.1, h_Pt.2.2.2.2.2.2.2.2.2.1, h_Pt.2.2.2.2.2.2.2.2.2.2⟩
          · refine o_okI (fun c66 => ?_) (fun c66 => ?_)
            · refine o_okS ?_
              refine ⟨?_, ?_⟩
              · first | with_reducible exact True.intro | with_reducible assumption | grind [-Prod] | grind [-Prod, → sc_Pt] | grind [-Prod, I_Pt, o_bn, upd]
              · exact ⟨h_Pt.1, h_Pt.2.1, h_Pt.2.2.1, (by first | with_reducible exact True.intro | with_reducible assumption | grind [-Prod] | grind [-Prod, → sc_Pt] | grind [-Prod, I_Pt, o_bn, upd]), (by first | with_reducible exact True.intro | with_reducible assumption | grind [-Prod] | grind [-Prod, → sc_Pt] | grind [-Prod, I_Pt, o_bn, upd]), h_Pt.2.2.2.2.2.1, h_Pt.2.2.2.2.2.2.1, h_Pt.2.2.2.2.2.2.2.1, h_Pt.2.2.2.2.2.2.2.2.1, h_Pt.2.2.2.2.2.2.2.2.2.1, h_Pt.2.2.2.2.2.2.2.2.2.2⟩
            · refine o_okS ?_
              refine ⟨?_, ?_⟩
              · first | with_reducible exact True.intro | with_reducible assumption | grind [-Prod] | grind [-Prod, → sc_Pt] | grind [-Prod, I_Pt, o_bn, upd]
              · exact ⟨h_Pt.1, h_Pt.2.1, h_Pt.2.2.1, (by first | with_reducible exact True.intro | with_reducible assumption | grind [-Prod] | grind [-Prod, → sc_Pt] | grind [-Prod, I_Pt, o_bn, upd]), (by first | with_reducible exact True.intro | with_reducible assumption | grind [-Prod] | grind [-Prod, → sc_Pt] | grind [-Prod, I_Pt, o_bn, upd]), h_Pt.2.2.2.2.2.1, h_Pt.2.2.2.2.2.2.1, h_Pt.2.2.2.2.2.2.2.1, h_Pt.2.2.2.2.2.2.2.2.1, h_Pt.2.2.2.2.2.2.2.2.2.1, h_Pt.2.2.2.2.2.2.2.2.2.2⟩
      · unfold m_Pt_readQuantifier_j181
        refine o_okI (fun c67 => ?_) (fun c67 => ?_)
        · refine o_okS ?_
          refine ⟨?_, ?_⟩
          · first | with_reducible exact True.intro | with_reducible assumption | grind [-Prod] | grind [-Prod, → sc_Pt] | grind [-Prod, I_Pt, o_bn, upd]
          · exact ⟨h_Pt.1, h_Pt.2.1, h_Pt.2.2.1, h_Pt.2.2.2.1, h_Pt.2.2.2.2.1, h_Pt.2.2.2.2.2.1, h_Pt.2.2.2.2.2.2.1, h_Pt.2.2.2.2.2.2.2.1, h_Pt.2.2.2.2.2.2.2.2.1, h_Pt.2.2.2.2.2.2.2.2.2.1, h_Pt.2.2.2.2.2.2.2.2.2.2⟩
        · refine o_okI (fun c68 => ?_) (fun c68 => ?_)
          · refine o_okS ?_
            refine ⟨?_, ?_⟩
            · first | with_reducible exact True.intro | with_reducible assumption | grind [-Prod] | grind [-Prod, → sc_Pt] | grind [-Prod, I_Pt, o_bn, upd]
            · exact ⟨h_Pt.1, h_Pt.2.1, h_Pt.2.2.1, h_Pt.2.2.2.1, h_Pt.2.2.2.2.1, h_Pt.2.2.2.2.2.1, h_Pt.2.2.2.2.2.2.1, h_Pt.2.2.2.2.2.2.2.1, h_Pt.2.2.2.2.2.2.2.2.1, h_Pt.2.2.2.2.2.2.2.2.2.1, h_Pt.2.2.2.2.2.2.2.2.2.2⟩
          · refine o_okI (fun c69 => ?_) (fun c69 => ?_)
            · refine o_okS ?_
              refine ⟨?_, ?_⟩
              · first | with_reducible exact True.intro | with_reducible assumption | grind [-Prod] | grind [-Prod, → sc_Pt] | grind [-Prod, I_Pt, o_bn, upd]
              · exact ⟨h_Pt.1, h_Pt.2.1, h_Pt.2.2.1, h_Pt.2.2.2.1, h_Pt.2.2.2.2.1, h_Pt.2.2.2.2.2.1, h_Pt.2.2.2.2.2.2.1, h_Pt.2.2.2.2.2.2.2.1, h_Pt.2.2.2.2.2.2.2.2.1, h_Pt.2.2.2.2.2.2.2.2.2.1, h_Pt.2.2.2.2.2.2.2.2.2.2⟩
            · refine o_okS ?_
              refine ⟨?_, ?_⟩
              · first | with_reducible exact True.intro | with_reducible assumption | grind [-Prod] | grind [-Prod, → sc_Pt] | grind [-Prod, I_Pt, o_bn, upd]
              · exact ⟨h_Pt.1, h_Pt.2.1, h_Pt.2.2.1, h_Pt.2.2.2.1, h_Pt.2.2.2.2.1, h_Pt.2.2.2.2.2.1, h_Pt.2.2.2.2.2.2.1, h_Pt.2.2.2.2.2.2.2.1, h_Pt.2.2.2.2.2.2.2.2.1, h_Pt.2.2.2.2.2.2.2.2.2.1, h_Pt.2.2.2.2.2.2.2.2.2.2⟩
theorem s_Pt_readQuantifier {n : Nat} {Pt : SPt} (hn : o_big ≤ n) (h_Pt : I_Pt Pt) (p0 : Pt_position Pt ≤ 50000) : o_ok (m_Pt_readQuantifier n Pt) (fun r => (r.1 = 0 ∨ r.1 = 1) ∧ I_Pt r.2) := by
  unfold m_Pt_readQuantifier
  refine o_okB (s_Pt_peek  h_Pt) ?_
  intro q1_1 g2
  refine o_okI (fun c3 => ?_) (fun c3 => ?_)
  · refine o_okW (s_Pt_readQuantifier_j28  hn ⟨h_Pt.1, h_Pt.2.1, h_Pt.2.2.1, (by first | with_reducible exact True.intro | with_reducible assumption | grind [-Prod] | grind [-Prod, → sc_Pt] | grind [-Prod, I_Pt, o_bn, upd]), (by first | with_reducible exact True.intro | with_reducible assumption | grind [-Prod] | grind [-Prod, → sc_Pt] | grind [-Prod, I_Pt, o_bn, upd]), h_Pt.2.2.2.2.2.1, h_Pt.2.2.2.2.2.2.1, h_Pt.2.2.2.2.2.2.2.1, h_Pt.2.2.2.2.2.2.2.2.1, h_Pt.2.2.2.2.2.2.2.2.2.1, h_Pt.2.2.2.2.2.2.2.2.2.2⟩ (by first | with_reducible exact True.intro | with_reducible assumption | grind [-Prod] | grind [-Prod, → sc_Pt] | grind [-Prod, I_Pt, o_bn, upd])) (fun r hr => ?_)
    first | exact hr | (obtain ⟨g4, g5⟩ := hr; first | with_reducible exact True.intro | with_reducible assumption | grind [-Prod] | grind [-Prod, → sc_Pt] | grind [-Prod, I_Pt, o_bn, upd])
  · refine o_okW (s_Pt_readQuantifier_j28  hn ⟨h_Pt.1, h_Pt.2.1, h_Pt.2.2.1, (by first | with_reducible exact True.intro | with_reducible assumption | grind [-Prod] | grind [-Prod, → sc_Pt] | grind [-Prod, I_Pt, o_bn, upd]), (by first | with_reducible exact True.intro | with_reducible assumption | grind [-Prod] | grind [-Prod, → sc_Pt] | grind [-Prod, I_Pt, o_bn, upd]), h_Pt.2.2.2.2.2.1, h_Pt.2.2.2.2.2.2.1, h_Pt.2.2.2.2.2.2.2.1, h_Pt.2.2.2.2.2.2.2.2.1, h_Pt.2.2.2.2.2.2.2.2.2.1, h_Pt.2.2.2.2.2.2.2.2.2.2⟩ (by first | with_reducible exact True.intro | with_reducible assumption | grind [-Prod] | grind [-Prod, → sc_Pt] | grind [-Prod, I_Pt, o_bn, upd])) (fun r hr => ?_)
    first | exact hr | (obtain ⟨g6, g7⟩ := hr; first | with_reducible exact True.intro | with_reducible assumption | grind [-Prod] | grind [-Prod, → sc_Pt] | grind [-Prod, I_Pt, o_bn, upd])
theorem s_Pg_copy {x1 : Int32} {x2 : Int32} {Pg : SPg} (h_Pg : I_Pg Pg) (p0 : x1 ≤ 1048576) (p1 : x2 ≤ 1048577) (p2 : 0 ≤ x2) : o_ok (m_Pg_copy x1 x2 Pg) (fun r => I_Pg r) := by
  have u0 : 0 ≤ Pg_length Pg := h_Pg.1
  have u1 : Pg_length Pg ≤ 1048576 := h_Pg.2.1
  unfold m_Pg_copy
  refine o_okI (fun c1 => ?_) (fun c1 => ?_)
  · unfold m_Pg_copy_j64
    refine o_okS ?_
    exact ⟨(by first | with_reducible exact True.intro | with_reducible assumption | exact (o_minL u0 u1 p2 p1).1 | exact (o_minL u0 u1 p2 p1).2 | (clear h_Pg; grind [-Prod])), (by first | with_reducible exact True.intro | with_reducible assumption | exact (o_minL u0 u1 p2 p1).1 | exact (o_minL u0 u1 p2 p1).2 | (clear h_Pg; grind [-Prod])), h_Pg.2.2.1, h_Pg.2.2.2.1, h_Pg.2.2.2.2.1, h_Pg.2.2.2.2.2.1, h_Pg.2.2.2.2.2.2.1, h_Pg.2.2.2.2.2.2.2.1, h_Pg.2.2.2.2.2.2.2.2.1, h_Pg.2.2.2.2.2.2.2.2.2.1, h_Pg.2.2.2.2.2.2.2.2.2.2⟩
  · refine o_okI (fun c2 => ?_) (fun c2 => ?_)
    · unfold m_Pg_copy_j64
      refine o_okS ?_
      exact ⟨(by first | with_reducible exact True.intro | with_reducible assumption | exact (o_minL u0 u1 p2 p1).1 | exact (o_minL u0 u1 p2 p1).2 | (clear h_Pg; grind [-Prod])), (by first | with_reducible exact True.intro | with_reducible assumption | exact (o_minL u0 u1 p2 p1).1 | exact (o_minL u0 u1 p2 p1).2 | (clear h_Pg; grind [-Prod])), h_Pg.2.2.1, h_Pg.2.2.2.1, h_Pg.2.2.2.2.1, h_Pg.2.2.2.2.2.1, h_Pg.2.2.2.2.2.2.1, h_Pg.2.2.2.2.2.2.2.1, h_Pg.2.2.2.2.2.2.2.2.1, h_Pg.2.2.2.2.2.2.2.2.2.1, h_Pg.2.2.2.2.2.2.2.2.2.2⟩
    · refine o_okI (fun c3 => ?_) (fun c3 => ?_)
      · unfold m_Pg_copy_j64
        refine o_okS ?_
        exact ⟨(by first | with_reducible exact True.intro | with_reducible assumption | exact (o_minL u0 u1 p2 p1).1 | exact (o_minL u0 u1 p2 p1).2 | (clear h_Pg; grind [-Prod])), (by first | with_reducible exact True.intro | with_reducible assumption | exact (o_minL u0 u1 p2 p1).1 | exact (o_minL u0 u1 p2 p1).2 | (clear h_Pg; grind [-Prod])), h_Pg.2.2.1, h_Pg.2.2.2.1, h_Pg.2.2.2.2.1, h_Pg.2.2.2.2.2.1, h_Pg.2.2.2.2.2.2.1, h_Pg.2.2.2.2.2.2.2.1, h_Pg.2.2.2.2.2.2.2.2.1, h_Pg.2.2.2.2.2.2.2.2.2.1, h_Pg.2.2.2.2.2.2.2.2.2.2⟩
      · refine o_okI (fun c4 => ?_) (fun c4 => ?_)
        · unfold m_Pg_copy_j64
          refine o_okS ?_
          exact ⟨(by first | with_reducible exact True.intro | with_reducible assumption | exact (o_minL u0 u1 p2 p1).1 | exact (o_minL u0 u1 p2 p1).2 | (clear h_Pg; grind [-Prod])), (by first | with_reducible exact True.intro | with_reducible assumption | exact (o_minL u0 u1 p2 p1).1 | exact (o_minL u0 u1 p2 p1).2 | (clear h_Pg; grind [-Prod])), h_Pg.2.2.1, h_Pg.2.2.2.1, h_Pg.2.2.2.2.1, h_Pg.2.2.2.2.2.1, h_Pg.2.2.2.2.2.2.1, h_Pg.2.2.2.2.2.2.2.1, h_Pg.2.2.2.2.2.2.2.2.1, h_Pg.2.2.2.2.2.2.2.2.2.1, h_Pg.2.2.2.2.2.2.2.2.2.2⟩
        · refine o_okG (o_cpC (by first | with_reducible exact True.intro | with_reducible assumption | exact (o_minL u0 u1 p2 p1).1 | exact (o_minL u0 u1 p2 p1).2 | (clear h_Pg; grind [-Prod])) (by first | with_reducible exact True.intro | with_reducible assumption | exact (o_minL u0 u1 p2 p1).1 | exact (o_minL u0 u1 p2 p1).2 | (clear h_Pg; grind [-Prod])) (by first | with_reducible exact True.intro | with_reducible assumption | exact (o_minL u0 u1 p2 p1).1 | exact (o_minL u0 u1 p2 p1).2 | (clear h_Pg; grind [-Prod])) (by first | with_reducible exact True.intro | with_reducible assumption | exact (o_minL u0 u1 p2 p1).1 | exact (o_minL u0 u1 p2 p1).2 | (clear h_Pg; grind [-Prod])) (by first | with_reducible exact True.intro | with_reducible assumption | exact (o_minL u0 u1 p2 p1).1 | exact (o_minL u0 u1 p2 p1).2 | (clear h_Pg; grind [-Prod])) (by first | with_reducible exact True.intro | with_reducible assumption | exact (o_minL u0 u1 p2 p1).1 | exact (o_minL u0 u1 p2 p1).2 | (clear h_Pg; grind [-Prod]))) ?_
          refine o_okG (o_cpC (by first | with_reducible exact True.intro | with_reducible assumption | exact (o_minL u0 u1 p2 p1).1 | exact (o_minL u0 u1 p2 p1).2 | (clear h_Pg; grind [-Prod])) (by first | with_reducible exact True.intro | with_reducible assumption | exact (o_minL u0 u1 p2 p1).1 | exact (o_minL u0 u1 p2 p1).2 | (clear h_Pg; grind [-Prod])) (by first | with_reducible exact True.intro | with_reducible assumption | exact (o_minL u0 u1 p2 p1).1 | exact (o_minL u0 u1 p2 p1).2 | (clear h_Pg; grind [-Prod])) (by first | with_reducible exact True.intro | with_reducible assumption | exact (o_minL u0 u1 p2 p1).1 | exact (o_minL u0 u1 p2 p1).2 | (clear h_Pg; grind [-Prod])) (by first | with_reducible exact True.intro | with_reducible assumption | exact (o_minL u0 u1 p2 p1).1 | exact (o_minL u0 u1 p2 p1).2 | (clear h_Pg; grind [-Prod])) (by first | with_reducible exact True.intro | with_reducible assumption | exact (o_minL u0 u1 p2 p1).1 | exact (o_minL u0 u1 p2 p1).2 | (clear h_Pg; grind [-Prod]))) ?_
          unfold m_Pg_copy_j64
          refine o_okS ?_
          exact ⟨(by first | with_reducible exact True.intro | with_reducible assumption | exact (o_minL u0 u1 p2 p1).1 | exact (o_minL u0 u1 p2 p1).2 | (clear h_Pg; grind [-Prod])), (by first | with_reducible exact True.intro | with_reducible assumption | exact (o_minL u0 u1 p2 p1).1 | exact (o_minL u0 u1 p2 p1).2 | (clear h_Pg; grind [-Prod])), h_Pg.2.2.1, h_Pg.2.2.2.1, h_Pg.2.2.2.2.1, h_Pg.2.2.2.2.2.1, h_Pg.2.2.2.2.2.2.1, h_Pg.2.2.2.2.2.2.2.1, h_Pg.2.2.2.2.2.2.2.2.1, (o_bnC h_Pg.2.2.2.2.2.2.2.2.2.1 h_Pg.2.2.2.2.2.2.2.2.2.1), h_Pg.2.2.2.2.2.2.2.2.2.2⟩
theorem s_Pg_repeat_b99 {n : Nat} {x1 : Int32} {x2 : Int32} {x3 : Int32} {x4 : Int32} {z : Int32 × SPg} (hn : o_big ≤ n) (p0 : x1 ≤ 1048576) (p1 : 0 ≤ x4) (p2 : x4 ≤ 1048576) (l0 : 0 ≤ z.1) (l1 : I_Pg z.2) : o_ok (m_Pg_repeat_b99 n x1 x2 x3 x4 z) (fun q => (q.1 = 0 → 0 ≤ q.2.1 ∧ I_Pg q.2.2 ∧ o_mu q.2.1 < o_mu z.1) ∧ (q.1 ≠ 0 → I_Pg q.2.2)) := by
  unfold m_Pg_repeat_b99
  refine o_okI (fun c1 => ?_) (fun c1 => ?_)
  · refine o_okS ?_
    refine ⟨fun h => absurd (show (1 : Nat) = 0 from h) (by decide), fun _ => ?_⟩
    exact l1
  · refine o_okB (s_Pg_copy  l1 (by first | with_reducible exact True.intro | with_reducible assumption | grind [-Prod] | grind [-Prod, → sc_Pg] | grind [-Prod, I_Pg, o_bn, upd]) (by first | with_reducible exact True.intro | with_reducible assumption | grind [-Prod] | grind [-Prod, → sc_Pg] | grind [-Prod, I_Pg, o_bn, upd]) (by first | with_reducible exact True.intro | with_reducible assumption | grind [-Prod] | grind [-Prod, → sc_Pg] | grind [-Prod, I_Pg, o_bn, upd])) ?_
    intro q1_2 g3
    refine o_okN (fun x5_112_4 ex5_112_4 => ?_)
    refine o_okS ?_
    refine ⟨fun _ => ?_, fun h => absurd rfl h⟩
    refine ⟨?_, ?_, ?_⟩
    · first | with_reducible exact True.intro | with_reducible assumption | grind [-Prod] | grind [-Prod, → sc_Pg] | grind [-Prod, I_Pg, o_bn, upd]
    · exact g3
    · first | exact o_muL (by first | with_reducible exact True.intro | with_reducible assumption | grind [-Prod] | grind [-Prod, → sc_Pg] | grind [-Prod, I_Pg, o_bn, upd]) | exact o_nuL (by first | with_reducible exact True.intro | with_reducible assumption | grind [-Prod] | grind [-Prod, → sc_Pg] | grind [-Prod, I_Pg, o_bn, upd]) | (first | with_reducible exact True.intro | with_reducible assumption | grind [-Prod] | grind [-Prod, → sc_Pg] | grind [-Prod, I_Pg, o_bn, upd])
theorem l_Pg_repeat_b99 {n : Nat} {x1 : Int32} {x2 : Int32} {x3 : Int32} {x4 : Int32} {z : Int32 × SPg} (hn : o_big ≤ n) (p0 : x1 ≤ 1048576) (p1 : 0 ≤ x4) (p2 : x4 ≤ 1048576) (l0 : 0 ≤ z.1) (l1 : I_Pg z.2) : o_ok (o_lp n (m_Pg_repeat_b99 n x1 x2 x3 x4) z) (fun q => q.1 ≠ 0 ∧ I_Pg q.2.2) := by
  exact o_lpR (fun z => 0 ≤ z.1 ∧ I_Pg z.2) (fun z => o_mu z.1) hn (o_muB) ⟨l0, l1⟩
    (fun z hz => by obtain ⟨l0, l1⟩ := hz; exact o_okW (s_Pg_repeat_b99 hn p0 p1 p2 l0 l1) (fun q hq => ⟨fun h => by have := hq.1 h; grind, hq.2⟩))
theorem s_Pg_repeat_b135 {n : Nat} {x1 : Int32} {x3 : Int32} {x4 : Int32} {z : Int32 × SPg} (hn : o_big ≤ n) (p0 : x1 ≤ 1048576) (p1 : 0 ≤ x4) (p2 : x4 ≤ 1048576) (l0 : I_Pg z.2) : o_ok (m_Pg_repeat_b135 n x1 x3 x4 z) (fun q => (q.1 = 0 → I_Pg q.2.2 ∧ o_mu q.2.1 < o_mu z.1) ∧ (q.1 ≠ 0 → I_Pg q.2.2)) := by
  unfold m_Pg_repeat_b135
  refine o_okI (fun c1 => ?_) (fun c1 => ?_)
  · refine o_okS ?_
    refine ⟨fun h => absurd (show (1 : Nat) = 0 from h) (by decide), fun _ => ?_⟩
    exact l0
  · refine o_okB (s_Pg_emit  l0 (by first | with_reducible exact True.intro | with_reducible assumption | grind [-Prod] | grind [-Prod, → sc_Pg] | grind [-Prod, I_Pg, o_bn, upd])) ?_
    intro q3_2 g3
    refine o_okB (s_Pg_copy  g3 (by first | with_reducible exact True.intro | with_reducible assumption | grind [-Prod] | grind [-Prod, → sc_Pg] | grind [-Prod, I_Pg, o_bn, upd]) (by first | with_reducible exact True.intro | with_reducible assumption | grind [-Prod] | grind [-Prod, → sc_Pg] | grind [-Prod, I_Pg, o_bn, upd]) (by first | with_reducible exact True.intro | with_reducible assumption | grind [-Prod] | grind [-Prod, → sc_Pg] | grind [-Prod, I_Pg, o_bn, upd])) ?_
    intro q4_4 g5
    refine o_okN (fun x5_158_6 ex5_158_6 => ?_)
    refine o_okS ?_
    refine ⟨fun _ => ?_, fun h => absurd rfl h⟩
    refine ⟨?_, ?_⟩
    · exact g5
    · first | exact o_muL (by first | with_reducible exact True.intro | with_reducible assumption | grind [-Prod] | grind [-Prod, → sc_Pg] | grind [-Prod, I_Pg, o_bn, upd]) | exact o_nuL (by first | with_reducible exact True.intro | with_reducible assumption | grind [-Prod] | grind [-Prod, → sc_Pg] | grind [-Prod, I_Pg, o_bn, upd]) | (first | with_reducible exact True.intro | with_reducible assumption | grind [-Prod] | grind [-Prod, → sc_Pg] | grind [-Prod, I_Pg, o_bn, upd])
theorem l_Pg_repeat_b135 {n : Nat} {x1 : Int32} {x3 : Int32} {x4 : Int32} {z : Int32 × SPg} (hn : o_big ≤ n) (p0 : x1 ≤ 1048576) (p1 : 0 ≤ x4) (p2 : x4 ≤ 1048576) (l0 : I_Pg z.2) : o_ok (o_lp n (m_Pg_repeat_b135 n x1 x3 x4) z) (fun q => q.1 ≠ 0 ∧ I_Pg q.2.2) := by
  exact o_lpR (fun z => I_Pg z.2) (fun z => o_mu z.1) hn (o_muB) l0
    (fun z hz => by have l0 := hz; exact o_okW (s_Pg_repeat_b135 hn p0 p1 p2 l0) (fun q hq => ⟨fun h => by have := hq.1 h; grind, hq.2⟩))
theorem s_Pg_repeat_b74 {n : Nat} {x1 : Int32} {x3 : Int32} {x4 : Int32} {z : Int32 × SPg} (hn : o_big ≤ n) (p0 : x1 ≤ 1048576) (p1 : 0 ≤ x4) (p2 : x4 ≤ 1048576) (l0 : 0 ≤ z.1) (l1 : I_Pg z.2) : o_ok (m_Pg_repeat_b74 n x1 x3 x4 z) (fun q => (q.1 = 0 → 0 ≤ q.2.1 ∧ I_Pg q.2.2 ∧ o_mu q.2.1 < o_mu z.1) ∧ (q.1 ≠ 0 → I_Pg q.2.2)) := by
  unfold m_Pg_repeat_b74
  refine o_okI (fun c1 => ?_) (fun c1 => ?_)
  · refine o_okS ?_
    refine ⟨fun h => absurd (show (1 : Nat) = 0 from h) (by decide), fun _ => ?_⟩
    exact l1
  · refine o_okB (s_Pg_copy  l1 (by first | with_reducible exact True.intro | with_reducible assumption | grind [-Prod] | grind [-Prod, → sc_Pg] | grind [-Prod, I_Pg, o_bn, upd]) (by first | with_reducible exact True.intro | with_reducible assumption | grind [-Prod] | grind [-Prod, → sc_Pg] | grind [-Prod, I_Pg, o_bn, upd]) (by first | with_reducible exact True.intro | with_reducible assumption | grind [-Prod] | grind [-Prod, → sc_Pg] | grind [-Prod, I_Pg, o_bn, upd])) ?_
    intro q9_2 g3
    refine o_okN (fun x5_89_4 ex5_89_4 => ?_)
    refine o_okS ?_
    refine ⟨fun _ => ?_, fun h => absurd rfl h⟩
    refine ⟨?_, ?_, ?_⟩
    · first | with_reducible exact True.intro | with_reducible assumption | grind [-Prod] | grind [-Prod, → sc_Pg] | grind [-Prod, I_Pg, o_bn, upd]
    · exact g3
    · first | exact o_muL (by first | with_reducible exact True.intro | with_reducible assumption | grind [-Prod] | grind [-Prod, → sc_Pg] | grind [-Prod, I_Pg, o_bn, upd]) | exact o_nuL (by first | with_reducible exact True.intro | with_reducible assumption | grind [-Prod] | grind [-Prod, → sc_Pg] | grind [-Prod, I_Pg, o_bn, upd]) | (first | with_reducible exact True.intro | with_reducible assumption | grind [-Prod] | grind [-Prod, → sc_Pg] | grind [-Prod, I_Pg, o_bn, upd])
theorem l_Pg_repeat_b74 {n : Nat} {x1 : Int32} {x3 : Int32} {x4 : Int32} {z : Int32 × SPg} (hn : o_big ≤ n) (p0 : x1 ≤ 1048576) (p1 : 0 ≤ x4) (p2 : x4 ≤ 1048576) (l0 : 0 ≤ z.1) (l1 : I_Pg z.2) : o_ok (o_lp n (m_Pg_repeat_b74 n x1 x3 x4) z) (fun q => q.1 ≠ 0 ∧ I_Pg q.2.2) := by
  exact o_lpR (fun z => 0 ≤ z.1 ∧ I_Pg z.2) (fun z => o_mu z.1) hn (o_muB) ⟨l0, l1⟩
    (fun z hz => by obtain ⟨l0, l1⟩ := hz; exact o_okW (s_Pg_repeat_b74 hn p0 p1 p2 l0 l1) (fun q hq => ⟨fun h => by have := hq.1 h; grind, hq.2⟩))
theorem s_Pg_repeat {n : Nat} {x1 : Int32} {x2 : Int32} {x3 : Int32} {Pg : SPg} (hn : o_big ≤ n) (h_Pg : I_Pg Pg) : o_ok (m_Pg_repeat n x1 x2 x3 Pg) (fun r => I_Pg r) := by
  unfold m_Pg_repeat
  refine o_okN (fun x4_6_1 ex4_6_1 => ?_)
  refine o_okI (fun c2 => ?_) (fun c2 => ?_)
  · refine o_okS ?_
    exact h_Pg
  · refine o_okI (fun c3 => ?_) (fun c3 => ?_)
    · refine o_okI (fun c4 => ?_) (fun c4 => ?_)
      · refine o_okS ?_
        exact ⟨(by first | with_reducible exact True.intro | with_reducible assumption | grind [-Prod] | grind [-Prod, → sc_Pg] | grind [-Prod, I_Pg, o_bn, upd]), (by first | with_reducible exact True.intro | with_reducible assumption | grind [-Prod] | grind [-Prod, → sc_Pg] | grind [-Prod, I_Pg, o_bn, upd]), h_Pg.2.2.1, h_Pg.2.2.2.1, h_Pg.2.2.2.2.1, h_Pg.2.2.2.2.2.1, h_Pg.2.2.2.2.2.2.1, h_Pg.2.2.2.2.2.2.2.1, h_Pg.2.2.2.2.2.2.2.2.1, h_Pg.2.2.2.2.2.2.2.2.2.1, h_Pg.2.2.2.2.2.2.2.2.2.2⟩
      · refine o_okI (fun c5 => ?_) (fun c5 => ?_)
        · refine o_okI (fun c6 => ?_) (fun c6 => ?_)
          · unfold m_Pg_repeat_j52
            refine o_okB (s_Pg_insert  h_Pg (by first | with_reducible exact True.intro | with_reducible assumption | grind [-Prod] | grind [-Prod, → sc_Pg] | grind [-Prod, I_Pg, o_bn, upd])) ?_
            intro q8_7 g8
            refine o_okI (fun c9 => ?_) (fun c9 => ?_)
            · refine o_okB (s_Pg_emit  g8 (by first | with_reducible exact True.intro | with_reducible assumption | grind [-Prod] | grind [-Prod, → sc_Pg] | grind [-Prod, I_Pg, o_bn, upd])) ?_
              intro q11_10 g11
              refine o_okB (l_Pg_repeat_b74  hn (by first | with_reducible exact True.intro | with_reducible assumption | grind [-Prod] | grind [-Prod, → sc_Pg] | grind [-Prod, I_Pg, o_bn, upd]) (by first | with_reducible exact True.intro | with_reducible assumption | grind [-Prod] | grind [-Prod, → sc_Pg] | grind [-Prod, I_Pg, o_bn, upd]) (by first | with_reducible exact True.intro | with_reducible assumption | grind [-Prod] | grind [-Prod, → sc_Pg] | grind [-Prod, I_Pg, o_bn, upd]) (by first | with_reducible exact True.intro | with_reducible assumption | grind [-Prod] | grind [-Prod, → sc_Pg] | grind [-Prod, I_Pg, o_bn, upd]) g11) ?_
              intro q12_12 ⟨yq12_12, g13⟩
              refine o_okS ?_
              exact g13
            · refine o_okB (l_Pg_repeat_b74  hn (by first | with_reducible exact True.intro | with_reducible assumption | grind [-Prod] | grind [-Prod, → sc_Pg] | grind [-Prod, I_Pg, o_bn, upd]) (by first | with_reducible exact True.intro | with_reducible assumption | grind [-Prod] | grind [-Prod, → sc_Pg] | grind [-Prod, I_Pg, o_bn, upd]) (by first | with_reducible exact True.intro | with_reducible assumption | grind [-Prod] | grind [-Prod, → sc_Pg] | grind [-Prod, I_Pg, o_bn, upd]) (by first | with_reducible exact True.intro | with_reducible assumption | grind [-Prod] | grind [-Prod, → sc_Pg] | grind [-Prod, I_Pg, o_bn, upd]) g8) ?_
              intro q10_14 ⟨yq10_14, g15⟩
              refine o_okS ?_
              exact g15
          · unfold m_Pg_repeat_j52
            refine o_okB (s_Pg_insert  h_Pg (by first | with_reducible exact True.intro | with_reducible assumption | grind [-Prod] | grind [-Prod, → sc_Pg] | grind [-Prod, I_Pg, o_bn, upd])) ?_
            intro q8_16 g17
            refine o_okI (fun c18 => ?_) (fun c18 => ?_)
            · refine o_okB (s_Pg_emit  g17 (by first | with_reducible exact True.intro | with_reducible assumption | grind [-Prod] | grind [-Prod, → sc_Pg] | grind [-Prod, I_Pg, o_bn, upd])) ?_
              intro q11_19 g20
              refine o_okB (l_Pg_repeat_b74  hn (by first | with_reducible exact True.intro | with_reducible assumption | grind [-Prod] | grind [-Prod, → sc_Pg] | grind [-Prod, I_Pg, o_bn, upd]) (by first | with_reducible exact True.intro | with_reducible assumption | grind [-Prod] | grind [-Prod, → sc_Pg] | grind [-Prod, I_Pg, o_bn, upd]) (by first | with_reducible exact True.intro | with_reducible assumption | grind [-Prod] | grind [-Prod, → sc_Pg] | grind [-Prod, I_Pg, o_bn, upd]) (by first | with_reducible exact True.intro | with_reducible assumption | grind [-Prod] | grind [-Prod, → sc_Pg] | grind [-Prod, I_Pg, o_bn, upd]) g20) ?_
              intro q12_21 ⟨yq12_21, g22⟩
              refine o_okS ?_
              exact g22
            · refine o_okB (l_Pg_repeat_b74  hn (by first | with_reducible exact True.intro | with_reducible assumption | grind [-Prod] | grind [-Prod, → sc_Pg] | grind [-Prod, I_Pg, o_bn, upd]) (by first | with_reducible exact True.intro | with_reducible assumption | grind [-Prod] | grind [-Prod, → sc_Pg] | grind [-Prod, I_Pg, o_bn, upd]) (by first | with_reducible exact True.intro | with_reducible assumption | grind [-Prod] | grind [-Prod, → sc_Pg] | grind [-Prod, I_Pg, o_bn, upd]) (by first | with_reducible exact True.intro | with_reducible assumption | grind [-Prod] | grind [-Prod, → sc_Pg] | grind [-Prod, I_Pg, o_bn, upd]) g17) ?_
              intro q10_23 ⟨yq10_23, g24⟩
              refine o_okS ?_
              exact g24
        · refine o_okB (l_Pg_repeat_b99  hn (by first | with_reducible exact True.intro | with_reducible assumption | grind [-Prod] | grind [-Prod, → sc_Pg] | grind [-Prod, I_Pg, o_bn, upd]) (by first | with_reducible exact True.intro | with_reducible assumption | grind [-Prod] | grind [-Prod, → sc_Pg] | grind [-Prod, I_Pg, o_bn, upd]) (by first | with_reducible exact True.intro | with_reducible assumption | grind [-Prod] | grind [-Prod, → sc_Pg] | grind [-Prod, I_Pg, o_bn, upd]) (by first | with_reducible exact True.intro | with_reducible assumption | grind [-Prod] | grind [-Prod, → sc_Pg] | grind [-Prod, I_Pg, o_bn, upd]) h_Pg) ?_
          intro q2_25 ⟨yq2_25, g26⟩
          refine o_okI (fun c27 => ?_) (fun c27 => ?_)
          · refine o_okB (s_Pg_emit  g26 (by first | with_reducible exact True.intro | with_reducible assumption | grind [-Prod] | grind [-Prod, → sc_Pg] | grind [-Prod, I_Pg, o_bn, upd])) ?_
            intro q6_28 g29
            refine o_okB (l_Pg_repeat_b135  hn (by first | with_reducible exact True.intro | with_reducible assumption | grind [-Prod] | grind [-Prod, → sc_Pg] | grind [-Prod, I_Pg, o_bn, upd]) (by first | with_reducible exact True.intro | with_reducible assumption | grind [-Prod] | grind [-Prod, → sc_Pg] | grind [-Prod, I_Pg, o_bn, upd]) (by first | with_reducible exact True.intro | with_reducible assumption | grind [-Prod] | grind [-Prod, → sc_Pg] | grind [-Prod, I_Pg, o_bn, upd]) g29) ?_
            intro q7_30 ⟨yq7_30, g31⟩
            refine o_okS ?_
            exact g31
          · refine o_okB (l_Pg_repeat_b135  hn (by first | with_reducible exact True.intro | with_reducible assumption | grind [-Prod] | grind [-Prod, → sc_Pg] | grind [-Prod, I_Pg, o_bn, upd]) (by first | with_reducible exact True.intro | with_reducible assumption | grind [-Prod] | grind [-Prod, → sc_Pg] | grind [-Prod, I_Pg, o_bn, upd]) (by first | with_reducible exact True.intro | with_reducible assumption | grind [-Prod] | grind [-Prod, → sc_Pg] | grind [-Prod, I_Pg, o_bn, upd]) g26) ?_
            intro q5_32 ⟨yq5_32, g33⟩
            refine o_okS ?_
            exact g33
    · refine o_okS ?_
      exact h_Pg
set_option maxHeartbeats 8000000 in
theorem s_Pt_parse_j226 {n : Nat} {x1 : Int32} {x3 : Int32} {x4 : Int32} {x5 : Int32} {x6 : Int32} {Pg : SPg} {Pt : SPt} (hn : o_big ≤ n) (h_Pg : I_Pg Pg) (h_Pt : I_Pt Pt) (p0 : Pt_position Pt ≤ 20000) (p1 : x3 ≤ 1048576) (p2 : 0 ≤ x1) (p3 : x1 < 4000) : o_ok (m_Pt_parse_j226 n x1 x3 x4 x5 x6 Pg Pt) (fun r => (r.1 = 0 → r.2.1 = x1 + 1) ∧ I_Pg r.2.2.1 ∧ I_Pt r.2.2.2) := by
  unfold m_Pt_parse_j226
  refine o_okI (fun c1 => ?_) (fun c1 => ?_)
  · unfold m_Pt_parse_j325
    refine o_okI (fun c2 => ?_) (fun c2 => ?_)
    · refine o_okS ?_
      refine ⟨?_, ?_, ?_⟩
      · first | with_reducible exact True.intro | with_reducible assumption | grind [-Prod] | grind [-Prod, → sc_Pg, → sc_Pt] | grind [-Prod, I_Pg, I_Pt, o_bn, upd]
      · exact h_Pg
      · exact h_Pt
    · refine o_okI (fun c3 => ?_) (fun c3 => ?_)
      · refine o_okI (fun c4 => ?_) (fun c4 => ?_)
        · refine o_okN (fun x1_349_5 ex1_349_5 => ?_)
          refine o_okS ?_
          refine ⟨?_, ?_, ?_⟩
          · first | with_reducible exact True.intro | with_reducible assumption | grind [-Prod] | grind [-Prod, → sc_Pg, → sc_Pt] | grind [-Prod, I_Pg, I_Pt, o_bn, upd]
          · exact h_Pg
          · exact h_Pt
        · refine o_okS ?_
          refine ⟨?_, ?_, ?_⟩
          · first | with_reducible exact True.intro | with_reducible assumption | grind [-Prod] | grind [-Prod, → sc_Pg, → sc_Pt] | grind [-Prod, I_Pg, I_Pt, o_bn, upd]
          · exact h_Pg
          · exact h_Pt
      · refine o_okN (fun x1_349_6 ex1_349_6 => ?_)
        refine o_okS ?_
        refine ⟨?_, ?_, ?_⟩
        · first | with_reducible exact True.intro | with_reducible assumption | grind [-Prod] | grind [-Prod, → sc_Pg, → sc_Pt] | grind [-Prod, I_Pg, I_Pt, o_bn, upd]
        · exact h_Pg
        · exact h_Pt
  · refine o_okI (fun c7 => ?_) (fun c7 => ?_)
    · unfold m_Pt_parse_j325
      refine o_okI (fun c8 => ?_) (fun c8 => ?_)
      · refine o_okS ?_
        refine ⟨?_, ?_, ?_⟩
        · first | with_reducible exact True.intro | with_reducible assumption | grind [-Prod] | grind [-Prod, → sc_Pg, → sc_Pt] | grind [-Prod, I_Pg, I_Pt, o_bn, upd]
        · exact h_Pg
        · exact h_Pt
      · refine o_okI (fun c9 => ?_) (fun c9 => ?_)
        · refine o_okI (fun c10 => ?_) (fun c10 => ?_)
          · refine o_okN (fun x1_349_11 ex1_349_11 => ?_)
            refine o_okS ?_
            refine ⟨?_, ?_, ?_⟩
            · first | with_reducible exact True.intro | with_reducible assumption | grind [-Prod] | grind [-Prod, → sc_Pg, → sc_Pt] | grind [-Prod, I_Pg, I_Pt, o_bn, upd]
            · exact h_Pg
            · exact h_Pt
          · refine o_okS ?_
            refine ⟨?_, ?_, ?_⟩
            · first | with_reducible exact True.intro | with_reducible assumption | grind [-Prod] | grind [-Prod, → sc_Pg, → sc_Pt] | grind [-Prod, I_Pg, I_Pt, o_bn, upd]
            · exact h_Pg
            · exact h_Pt
        · refine o_okN (fun x1_349_12 ex1_349_12 => ?_)
          refine o_okS ?_
          refine ⟨?_, ?_, ?_⟩
          · first | with_reducible exact True.intro | with_reducible assumption | grind [-Prod] | grind [-Prod, → sc_Pg, → sc_Pt] | grind [-Prod, I_Pg, I_Pt, o_bn, upd]
          · exact h_Pg
          · exact h_Pt
    · refine o_okB (s_Pt_peek  h_Pt) ?_
      intro q5_13 g14
      refine o_okB (s_Pt_isQuantifier ) ?_
      intro q6_15 g16
      refine o_okI (fun c17 => ?_) (fun c17 => ?_)
      · unfold m_Pt_parse_j325
        refine o_okI (fun c18 => ?_) (fun c18 => ?_)
        · refine o_okS ?_
          refine ⟨?_, ?_, ?_⟩
          · first | with_reducible exact True.intro | with_reducible assumption | grind [-Prod] | grind [-Prod, → sc_Pg, → sc_Pt] | grind [-Prod, I_Pg, I_Pt, o_bn, upd]
          · exact h_Pg
          · exact h_Pt
        · refine o_okI (fun c19 => ?_) (fun c19 => ?_)
          · refine o_okI (fun c20 => ?_) (fun c20 => ?_)
            · refine o_okN (fun x1_349_21 ex1_349_21 => ?_)
              refine o_okS ?_
              refine ⟨?_, ?_, ?_⟩
              · first | with_reducible exact True.intro | with_reducible assumption | grind [-Prod] | grind [-Prod, → sc_Pg, → sc_Pt] | grind [-Prod, I_Pg, I_Pt, o_bn, upd]
              · exact h_Pg
              · exact h_Pt
            · refine o_okS ?_
              refine ⟨?_, ?_, ?_⟩
              · first | with_reducible exact True.intro | with_reducible assumption | grind [-Prod] | grind [-Prod, → sc_Pg, → sc_Pt] | grind [-Prod, I_Pg, I_Pt, o_bn, upd]
              · exact h_Pg
              · exact h_Pt
          · refine o_okN (fun x1_349_22 ex1_349_22 => ?_)
            refine o_okS ?_
            refine ⟨?_, ?_, ?_⟩
            · first | with_reducible exact True.intro | with_reducible assumption | grind [-Prod] | grind [-Prod, → sc_Pg, → sc_Pt] | grind [-Prod, I_Pg, I_Pt, o_bn, upd]
            · exact h_Pg
            · exact h_Pt
      · refine o_okB (s_Pt_readQuantifier  hn h_Pt (by first | with_reducible exact True.intro | with_reducible assumption | grind [-Prod] | grind [-Prod, → sc_Pg, → sc_Pt] | grind [-Prod, I_Pg, I_Pt, o_bn, upd])) ?_
        intro q7_23 ⟨g24, g25⟩
        refine o_okI (fun c26 => ?_) (fun c26 => ?_)
        · unfold m_Pt_parse_j325
          refine o_okI (fun c27 => ?_) (fun c27 => ?_)
          · refine o_okS ?_
            refine ⟨?_, ?_, ?_⟩
            · first | with_reducible exact True.intro | with_reducible assumption | grind [-Prod] | grind [-Prod, → sc_Pg, → sc_Pt] | grind [-Prod, I_Pg, I_Pt, o_bn, upd]
            · exact h_Pg
            · exact g25
          · refine o_okI (fun c28 => ?_) (fun c28 => ?_)
            · refine o_okI (fun c29 => ?_) (fun c29 => ?_)
              · refine o_okN (fun x1_349_30 ex1_349_30 => ?_)
                refine o_okS ?_
                refine ⟨?_, ?_, ?_⟩
                · first | with_reducible exact True.intro | with_reducible assumption | grind [-Prod] | grind [-Prod, → sc_Pg, → sc_Pt] | grind [-Prod, I_Pg, I_Pt, o_bn, upd]
                · exact h_Pg
                · exact g25
              · refine o_okS ?_
                refine ⟨?_, ?_, ?_⟩
                · first | with_reducible exact True.intro | with_reducible assumption | grind [-Prod] | grind [-Prod, → sc_Pg, → sc_Pt] | grind [-Prod, I_Pg, I_Pt, o_bn, upd]
                · exact h_Pg
                · exact g25
            · refine o_okN (fun x1_349_31 ex1_349_31 => ?_)
              refine o_okS ?_
              refine ⟨?_, ?_, ?_⟩
              · first | with_reducible exact True.intro | with_reducible assumption | grind [-Prod] | grind [-Prod, → sc_Pg, → sc_Pt] | grind [-Prod, I_Pg, I_Pt, o_bn, upd]
              · exact h_Pg
              · exact g25
        · refine o_okI (fun c32 => ?_) (fun c32 => ?_)
          · unfold m_Pt_parse_j286
            refine o_okN (fun x7_287_33 ex7_287_33 => ?_)
            refine o_okB (s_Pg_repeat  hn h_Pg) ?_
            intro q8_34 g35
            unfold m_Pt_parse_j325
            refine o_okI (fun c36 => ?_) (fun c36 => ?_)
            · refine o_okS ?_
              refine ⟨?_, ?_, ?_⟩
              · first | with_reducible exact True.intro | with_reducible assumption | grind [-Prod] | grind [-Prod, → sc_Pg, → sc_Pt] | grind [-Prod, I_Pg, I_Pt, o_bn, upd]
              · exact g35
              · exact ⟨g25.1, g25.2.1, g25.2.2.1, g25.2.2.2.1, g25.2.2.2.2.1, g25.2.2.2.2.2.1, g25.2.2.2.2.2.2.1, g25.2.2.2.2.2.2.2.1, g25.2.2.2.2.2.2.2.2.1, g25.2.2.2.2.2.2.2.2.2.1, g25.2.2.2.2.2.2.2.2.2.2⟩
            · refine o_okI (fun c37 => ?_) (fun c37 => ?_)
              · refine o_okI (fun c38 => ?_) (fun c38 => ?_)
                · refine o_okN (fun x1_349_39 ex1_349_39 => ?_)
                  refine o_okS ?_
                  refine ⟨?_, ?_, ?_⟩
                  · first | with_reducible exact True.intro | with_reducible assumption | grind [-Prod] | grind [-Prod, → sc_Pg, → sc_Pt] | grind [-Prod, I_Pg, I_Pt, o_bn, upd]
                  · exact g35
                  · exact ⟨g25.1, g25.2.1, g25.2.2.1, g25.2.2.2.1, g25.2.2.2.2.1, g25.2.2.2.2.2.1, g25.2.2.2.2.2.2.1, g25.2.2.2.2.2.2.2.1, g25.2.2.2.2.2.2.2.2.1, g25.2.2.2.2.2.2.2.2.2.1, g25.2.2.2.2.2.2.2.2.2.2⟩
                · refine o_okS ?_
                  refine ⟨?_, ?_, ?_⟩
                  · first | with_reducible exact True.intro | with_reducible assumption | grind [-Prod] | grind [-Prod, → sc_Pg, → sc_Pt] | grind [-Prod, I_Pg, I_Pt, o_bn, upd]
                  · exact g35
                  · exact ⟨g25.1, g25.2.1, g25.2.2.1, g25.2.2.2.1, g25.2.2.2.2.1, g25.2.2.2.2.2.1, g25.2.2.2.2.2.2.1, g25.2.2.2.2.2.2.2.1, g25.2.2.2.2.2.2.2.2.1, g25.2.2.2.2.2.2.2.2.2.1, g25.2.2.2.2.2.2.2.2.2.2⟩
              · refine o_okN (fun x1_349_40 ex1_349_40 => ?_)
                refine o_okS ?_
                refine ⟨?_, ?_, ?_⟩
                · first | with_reducible exact True.intro | with_reducible assumption | grind [-Prod] | grind [-Prod, → sc_Pg, → sc_Pt] | grind [-Prod, I_Pg, I_Pt, o_bn, upd]
                · exact g35
                · exact ⟨g25.1, g25.2.1, g25.2.2.1, g25.2.2.2.1, g25.2.2.2.2.1, g25.2.2.2.2.2.1, g25.2.2.2.2.2.2.1, g25.2.2.2.2.2.2.2.1, g25.2.2.2.2.2.2.2.2.1, g25.2.2.2.2.2.2.2.2.2.1, g25.2.2.2.2.2.2.2.2.2.2⟩
          · unfold m_Pt_parse_j286
            refine o_okN (fun x7_287_41 ex7_287_41 => ?_)
            refine o_okB (s_Pg_repeat  hn h_Pg) ?_
            intro q8_42 g43
            unfold m_Pt_parse_j325
            refine o_okI (fun c44 => ?_) (fun c44 => ?_)
            · refine o_okS ?_
              refine ⟨?_, ?_, ?_⟩
              · first | with_reducible exact True.intro | with_reducible assumption | grind [-Prod] | grind [-Prod, → sc_Pg, → sc_Pt] | grind [-Prod, I_Pg, I_Pt, o_bn, upd]
              · exact g43
              · exact ⟨g25.1, g25.2.1, g25.2.2.1, g25.2.2.2.1, g25.2.2.2.2.1, g25.2.2.2.2.2.1, g25.2.2.2.2.2.2.1, g25.2.2.2.2.2.2.2.1, g25.2.2.2.2.2.2.2.2.1, g25.2.2.2.2.2.2.2.2.2.1, g25.2.2.2.2.2.2.2.2.2.2⟩
            · refine o_okI (fun c45 => ?_) (fun c45 => ?_)
              · refine o_okI (fun c46 => ?_) (fun c46 => ?_)
                · refine o_okN (fun x1_349_47 ex1_349_47 => ?_)
                  refine o_okS ?_
                  refine ⟨?_, ?_, ?_⟩
                  · first | with_reducible exact True.intro | with_reducible assumption | grind [-Prod] | grind [-Prod, → sc_Pg, → sc_Pt] | grind [-Prod, I_Pg, I_Pt, o_bn, upd]
                  · exact g43
                  · exact ⟨g25.1, g25.2.1, g25.2.2.1, g25.2.2.2.1, g25.2.2.2.2.1, g25.2.2.2.2.2.1, g25.2.2.2.2.2.2.1, g25.2.2.2.2.2.2.2.1, g25.2.2.2.2.2.2.2.2.1, g25.2.2.2.2.2.2.2.2.2.1, g25.2.2.2.2.2.2.2.2.2.2⟩
                · refine o_okS ?_
                  refine ⟨?_, ?_, ?_⟩
                  · first | with_reducible exact True.intro | with_reducible assumption | grind [-Prod] | grind [-Prod, → sc_Pg, → sc_Pt] | grind [-Prod, I_Pg, I_Pt, o_bn, upd]
                  · exact g43
                  · exact ⟨g25.1, g25.2.1, g25.2.2.1, g25.2.2.2.1, g25.2.2.2.2.1, g25.2.2.2.2.2.1, g25.2.2.2.2.2.2.1, g25.2.2.2.2.2.2.2.1, g25.2.2.2.2.2.2.2.2.1, g25.2.2.2.2.2.2.2.2.2.1, g25.2.2.2.2.2.2.2.2.2.2⟩
              · refine o_okN (fun x1_349_48 ex1_349_48 => ?_)
                refine o_okS ?_
                refine ⟨?_, ?_, ?_⟩
                · first | with_reducible exact True.intro | with_reducible assumption | grind [-Prod] | grind [-Prod, → sc_Pg, → sc_Pt] | grind [-Prod, I_Pg, I_Pt, o_bn, upd]
                · exact g43
                · exact ⟨g25.1, g25.2.1, g25.2.2.1, g25.2.2.2.1, g25.2.2.2.2.1, g25.2.2.2.2.2.1, g25.2.2.2.2.2.2.1, g25.2.2.2.2.2.2.2.1, g25.2.2.2.2.2.2.2.2.1, g25.2.2.2.2.2.2.2.2.2.1, g25.2.2.2.2.2.2.2.2.2.2⟩
set_option maxHeartbeats 8000000 in
theorem s_Pt_parse_b28 {n : Nat} {z : Int32 × SPg × SPt} (hn : o_big ≤ n) (l0 : 0 ≤ z.1) (l1 : I_Pg z.2.1) (l2 : I_Pt z.2.2) : o_ok (m_Pt_parse_b28 n z) (fun q => (q.1 = 0 → 0 ≤ q.2.1 ∧ I_Pg q.2.2.1 ∧ I_Pt q.2.2.2 ∧ o_mu q.2.1 < o_mu z.1) ∧ (q.1 ≠ 0 → I_Pg q.2.2.1 ∧ I_Pt q.2.2.2)) := by
  unfold m_Pt_parse_b28
  refine o_okI (fun c1 => ?_) (fun c1 => ?_)
  · refine o_okS ?_
    refine ⟨fun h => absurd (show (2 : Nat) = 0 from h) (by decide), fun _ => ?_⟩
    refine ⟨?_, ?_⟩
    · exact l1
    · exact l2
  · refine o_okI (fun c2 => ?_) (fun c2 => ?_)
    · refine o_okS ?_
      refine ⟨fun h => absurd (show (2 : Nat) = 0 from h) (by decide), fun _ => ?_⟩
      refine ⟨?_, ?_⟩
      · exact l1
      · exact l2
    · refine o_okB (s_Pt_peek  l2) ?_
      intro q3_3 g4
      refine o_okN (fun x3_69_5 ex3_69_5 => ?_)
      refine o_okN (fun x4_74_6 ex4_74_6 => ?_)
      refine o_okI (fun c7 => ?_) (fun c7 => ?_)
      · unfold m_Pt_parse_j105
        refine o_okI (fun c8 => ?_) (fun c8 => ?_)
        · refine o_okI (fun c9 => ?_) (fun c9 => ?_)
          · unfold m_Pt_parse_j128
            refine o_okG (o_inM (m := 31) rfl (by first | with_reducible exact True.intro | with_reducible assumption | grind [-Prod] | grind [-Prod, → sc_Pg, → sc_Pt] | grind [-Prod, I_Pg, I_Pt, o_bn, upd]) (by first | with_reducible exact True.intro | with_reducible assumption | grind [-Prod] | grind [-Prod, → sc_Pg, → sc_Pt] | grind [-Prod, I_Pg, I_Pt, o_bn, upd])) ?_
            refine o_okN (fun x3_139_10 ex3_139_10 => ?_)
            refine o_okG (o_inM (m := 31) rfl (by first | with_reducible exact True.intro | with_reducible assumption | grind [-Prod] | grind [-Prod, → sc_Pg, → sc_Pt] | grind [-Prod, I_Pg, I_Pt, o_bn, upd]) (by first | with_reducible exact True.intro | with_reducible assumption | grind [-Prod] | grind [-Prod, → sc_Pg, → sc_Pt] | grind [-Prod, I_Pg, I_Pt, o_bn, upd])) ?_
            refine o_okN (fun x4_149_11 ex4_149_11 => ?_)
            refine o_okB (s_Pt_endBlock  hn l1 ⟨l2.1, l2.2.1, l2.2.2.1, (by first | with_reducible exact True.intro | with_reducible assumption | grind [-Prod] | grind [-Prod, → sc_Pg, → sc_Pt] | grind [-Prod, I_Pg, I_Pt, o_bn, upd]), (by first | with_reducible exact True.intro | with_reducible assumption | grind [-Prod] | grind [-Prod, → sc_Pg, → sc_Pt] | grind [-Prod, I_Pg, I_Pt, o_bn, upd]), l2.2.2.2.2.2.1, l2.2.2.2.2.2.2.1, l2.2.2.2.2.2.2.2.1, l2.2.2.2.2.2.2.2.2.1, l2.2.2.2.2.2.2.2.2.2.1, l2.2.2.2.2.2.2.2.2.2.2⟩) ?_
            intro q12_12 g13
            refine o_okI (fun c14 => ?_) (fun c14 => ?_)
            · refine o_okW (s_Pt_parse_j226  hn g13 ⟨l2.1, l2.2.1, l2.2.2.1, (by first | with_reducible exact True.intro | with_reducible assumption | grind [-Prod] | grind [-Prod, → sc_Pg, → sc_Pt] | grind [-Prod, I_Pg, I_Pt, o_bn, upd]), (by first | with_reducible exact True.intro | with_reducible assumption | grind [-Prod] | grind [-Prod, → sc_Pg, → sc_Pt] | grind [-Prod, I_Pg, I_Pt, o_bn, upd]), (by first | with_reducible exact True.intro | with_reducible assumption | grind [-Prod] | grind [-Prod, → sc_Pg, → sc_Pt] | grind [-Prod, I_Pg, I_Pt, o_bn, upd]), (by first | with_reducible exact True.intro | with_reducible assumption | grind [-Prod] | grind [-Prod, → sc_Pg, → sc_Pt] | grind [-Prod, I_Pg, I_Pt, o_bn, upd]), l2.2.2.2.2.2.2.2.1, l2.2.2.2.2.2.2.2.2.1, l2.2.2.2.2.2.2.2.2.2.1, l2.2.2.2.2.2.2.2.2.2.2⟩ (by first | with_reducible exact True.intro | with_reducible assumption | grind [-Prod] | grind [-Prod, → sc_Pg, → sc_Pt] | grind [-Prod, I_Pg, I_Pt, o_bn, upd]) (by first | with_reducible exact True.intro | with_reducible assumption | grind [-Prod] | grind [-Prod, → sc_Pg, → sc_Pt] | grind [-Prod, I_Pg, I_Pt, o_bn, upd]) (by first | with_reducible exact True.intro | with_reducible assumption | grind [-Prod] | grind [-Prod, → sc_Pg, → sc_Pt] | grind [-Prod, I_Pg, I_Pt, o_bn, upd]) (by first | with_reducible exact True.intro | with_reducible assumption | grind [-Prod] | grind [-Prod, → sc_Pg, → sc_Pt] | grind [-Prod, I_Pg, I_Pt, o_bn, upd])) (fun r hr => ?_)
              first | exact hr | (obtain ⟨g15, g16, g17⟩ := hr; refine ⟨fun h0 => ⟨?_, ?_, ?_, ?_⟩, fun h0 => ⟨?_, ?_⟩⟩ <;> (first | with_reducible exact True.intro | with_reducible assumption | (exact o_muL (by first | with_reducible exact True.intro | with_reducible assumption | grind [-Prod] | grind [-Prod, → sc_Pg, → sc_Pt] | grind [-Prod, I_Pg, I_Pt, o_bn, upd])) | (first | with_reducible exact True.intro | with_reducible assumption | grind [-Prod] | grind [-Prod, → sc_Pg, → sc_Pt] | grind [-Prod, I_Pg, I_Pt, o_bn, upd])))
            · refine o_okW (s_Pt_parse_j226  hn g13 ⟨l2.1, l2.2.1, l2.2.2.1, (by first | with_reducible exact True.intro | with_reducible assumption | grind [-Prod] | grind [-Prod, → sc_Pg, → sc_Pt] | grind [-Prod, I_Pg, I_Pt, o_bn, upd]), (by first | with_reducible exact True.intro | with_reducible assumption | grind [-Prod] | grind [-Prod, → sc_Pg, → sc_Pt] | grind [-Prod, I_Pg, I_Pt, o_bn, upd]), (by first | with_reducible exact True.intro | with_reducible assumption | grind [-Prod] | grind [-Prod, → sc_Pg, → sc_Pt] | grind [-Prod, I_Pg, I_Pt, o_bn, upd]), (by first | with_reducible exact True.intro | with_reducible assumption | grind [-Prod] | grind [-Prod, → sc_Pg, → sc_Pt] | grind [-Prod, I_Pg, I_Pt, o_bn, upd]), l2.2.2.2.2.2.2.2.1, l2.2.2.2.2.2.2.2.2.1, l2.2.2.2.2.2.2.2.2.2.1, l2.2.2.2.2.2.2.2.2.2.2⟩ (by first | with_reducible exact True.intro | with_reducible assumption | grind [-Prod] | grind [-Prod, → sc_Pg, → sc_Pt] | grind [-Prod, I_Pg, I_Pt, o_bn, upd]) (by first | with_reducible exact True.intro | with_reducible assumption | grind [-Prod] | grind [-Prod, → sc_Pg, → sc_Pt] | grind [-Prod, I_Pg, I_Pt, o_bn, upd]) (by first | with_reducible exact True.intro | with_reducible assumption | grind [-Prod] | grind [-Prod, → sc_Pg, → sc_Pt] | grind [-Prod, I_Pg, I_Pt, o_bn, upd]) (by first | with_reducible exact True.intro | with_reducible assumption | grind [-Prod] | grind [-Prod, → sc_Pg, → sc_Pt] | grind [-Prod, I_Pg, I_Pt, o_bn, upd])) (fun r hr => ?_)
              first | exact hr | (obtain ⟨g18, g19, g20⟩ := hr; refine ⟨fun h0 => ⟨?_, ?_, ?_, ?_⟩, fun h0 => ⟨?_, ?_⟩⟩ <;> (first | with_reducible exact True.intro | with_reducible assumption | (exact o_muL (by first | with_reducible exact True.intro | with_reducible assumption | grind [-Prod] | grind [-Prod, → sc_Pg, → sc_Pt] | grind [-Prod, I_Pg, I_Pt, o_bn, upd])) | (first | with_reducible exact True.intro | with_reducible assumption | grind [-Prod] | grind [-Prod, → sc_Pg, → sc_Pt] | grind [-Prod, I_Pg, I_Pt, o_bn, upd])))
          · unfold m_Pt_parse_j128
            refine o_okG (o_inM (m := 31) rfl (by first | with_reducible exact True.intro | with_reducible assumption | grind [-Prod] | grind [-Prod, → sc_Pg, → sc_Pt] | grind [-Prod, I_Pg, I_Pt, o_bn, upd]) (by first | with_reducible exact True.intro | with_reducible assumption | grind [-Prod] | grind [-Prod, → sc_Pg, → sc_Pt] | grind [-Prod, I_Pg, I_Pt, o_bn, upd])) ?_
            refine o_okN (fun x3_139_21 ex3_139_21 => ?_)
            refine o_okG (o_inM (m := 31) rfl (by first | with_reducible exact True.intro | with_reducible assumption | grind [-Prod] | grind [-Prod, → sc_Pg, → sc_Pt] | grind [-Prod, I_Pg, I_Pt, o_bn, upd]) (by first | with_reducible exact True.intro | with_reducible assumption | grind [-Prod] | grind [-Prod, → sc_Pg, → sc_Pt] | grind [-Prod, I_Pg, I_Pt, o_bn, upd])) ?_
            refine o_okN (fun x4_149_22 ex4_149_22 => ?_)
            refine o_okB (s_Pt_endBlock  hn l1 ⟨l2.1, l2.2.1, l2.2.2.1, (by first | with_reducible exact True.intro | with_reducible assumption | grind [-Prod] | grind [-Prod, → sc_Pg, → sc_Pt] | grind [-Prod, I_Pg, I_Pt, o_bn, upd]), (by first | with_reducible exact True.intro | with_reducible assumption | grind [-Prod] | grind [-Prod, → sc_Pg, → sc_Pt] | grind [-Prod, I_Pg, I_Pt, o_bn, upd]), l2.2.2.2.2.2.1, l2.2.2.2.2.2.2.1, l2.2.2.2.2.2.2.2.1, l2.2.2.2.2.2.2.2.2.1, l2.2.2.2.2.2.2.2.2.2.1, l2.2.2.2.2.2.2.2.2.2.2⟩) ?_
            intro q12_23 g24
            refine o_okI (fun c25 => ?_) (fun c25 => ?_)
            · refine o_okW (s_Pt_parse_j226  hn g24 ⟨l2.1, l2.2.1, l2.2.2.1, (by first | with_reducible exact True.intro | with_reducible assumption | grind [-Prod] | grind [-Prod, → sc_Pg, → sc_Pt] | grind [-Prod, I_Pg, I_Pt, o_bn, upd]), (by first | with_reducible exact True.intro | with_reducible assumption | grind [-Prod] | grind [-Prod, → sc_Pg, → sc_Pt] | grind [-Prod, I_Pg, I_Pt, o_bn, upd]), (by first | with_reducible exact True.intro | with_reducible assumption | grind [-Prod] | grind [-Prod, → sc_Pg, → sc_Pt] | grind [-Prod, I_Pg, I_Pt, o_bn, upd]), (by first | with_reducible exact True.intro | with_reducible assumption | grind [-Prod] | grind [-Prod, → sc_Pg, → sc_Pt] | grind [-Prod, I_Pg, I_Pt, o_bn, upd]), l2.2.2.2.2.2.2.2.1, l2.2.2.2.2.2.2.2.2.1, l2.2.2.2.2.2.2.2.2.2.1, l2.2.2.2.2.2.2.2.2.2.2⟩ (by first | with_reducible exact True.intro | with_reducible assumption | grind [-Prod] | grind [-Prod, → sc_Pg, → sc_Pt] | grind [-Prod, I_Pg, I_Pt, o_bn, upd]) (by first | with_reducible exact True.intro | with_reducible assumption | grind [-Prod] | grind [-Prod, → sc_Pg, → sc_Pt] | grind [-Prod, I_Pg, I_Pt, o_bn, upd]) (by first | with_reducible exact True.intro | with_reducible assumption | grind [-Prod] | grind [-Prod, → sc_Pg, → sc_Pt] | grind [-Prod, I_Pg, I_Pt, o_bn, upd]) (by first | with_reducible exact True.intro | with_reducible assumption | grind [-Prod] | grind [-Prod, → sc_Pg, → sc_Pt] | grind [-Prod, I_Pg, I_Pt, o_bn, upd])) (fun r hr => ?_)
              first | exact hr | (obtain ⟨g26, g27, g28⟩ := hr; refine ⟨fun h0 => ⟨?_, ?_, ?_, ?_⟩, fun h0 => ⟨?_, ?_⟩⟩ <;> (first | with_reducible exact True.intro | with_reducible assumption | (exact o_muL (by first | with_reducible exact True.intro | with_reducible assumption | grind [-Prod] | grind [-Prod, → sc_Pg, → sc_Pt] | grind [-Prod, I_Pg, I_Pt, o_bn, upd])) | (first | with_reducible exact True.intro | with_reducible assumption | grind [-Prod] | grind [-Prod, → sc_Pg, → sc_Pt] | grind [-Prod, I_Pg, I_Pt, o_bn, upd])))
            · refine o_okW (s_Pt_parse_j226  hn g24 ⟨l2.1, l2.2.1, l2.2.2.1, (by first | with_reducible exact True.intro | with_reducible assumption | grind [-Prod] | grind [-Prod, → sc_Pg, → sc_Pt] | grind [-Prod, I_Pg, I_Pt, o_bn, upd]), (by first | with_reducible exact True.intro | with_reducible assumption | grind [-Prod] | grind [-Prod, → sc_Pg, → sc_Pt] | grind [-Prod, I_Pg, I_Pt, o_bn, upd]), (by first | with_reducible exact True.intro | with_reducible assumption | grind [-Prod] | grind [-Prod, → sc_Pg, → sc_Pt] | grind [-Prod, I_Pg, I_Pt, o_bn, upd]), (by first | with_reducible exact True.intro | with_reducible assumption | grind [-Prod] | grind [-Prod, → sc_Pg, → sc_Pt] | grind [-Prod, I_Pg, I_Pt, o_bn, upd]), l2.2.2.2.2.2.2.2.1, l2.2.2.2.2.2.2.2.2.1, l2.2.2.2.2.2.2.2.2.2.1, l2.2.2.2.2.2.2.2.2.2.2⟩ (by first | with_reducible exact True.intro | with_reducible assumption | grind [-Prod] | grind [-Prod, → sc_Pg, → sc_Pt] | grind [-Prod, I_Pg, I_Pt, o_bn, upd]) (by first | with_reducible exact True.intro | with_reducible assumption | grind [-Prod] | grind [-Prod, → sc_Pg, → sc_Pt] | grind [-Prod, I_Pg, I_Pt, o_bn, upd]) (by first | with_reducible exact True.intro | with_reducible assumption | grind [-Prod] | grind [-Prod, → sc_Pg, → sc_Pt] | grind [-Prod, I_Pg, I_Pt, o_bn, upd]) (by first | with_reducible exact True.intro | with_reducible assumption | grind [-Prod] | grind [-Prod, → sc_Pg, → sc_Pt] | grind [-Prod, I_Pg, I_Pt, o_bn, upd])) (fun r hr => ?_)
              first | exact hr | (obtain ⟨g29, g30, g31⟩ := hr; refine ⟨fun h0 => ⟨?_, ?_, ?_, ?_⟩, fun h0 => ⟨?_, ?_⟩⟩ <;> (first | with_reducible exact True.intro | with_reducible assumption | (exact o_muL (by first | with_reducible exact True.intro | with_reducible assumption | grind [-Prod] | grind [-Prod, → sc_Pg, → sc_Pt] | grind [-Prod, I_Pg, I_Pt, o_bn, upd])) | (first | with_reducible exact True.intro | with_reducible assumption | grind [-Prod] | grind [-Prod, → sc_Pg, → sc_Pt] | grind [-Prod, I_Pg, I_Pt, o_bn, upd])))
        · refine o_okI (fun c32 => ?_) (fun c32 => ?_)
          · refine o_okB (s_Pt_openGroup  l1 ⟨l2.1, l2.2.1, l2.2.2.1, (by first | with_reducible exact True.intro | with_reducible assumption | grind [-Prod] | grind [-Prod, → sc_Pg, → sc_Pt] | grind [-Prod, I_Pg, I_Pt, o_bn, upd]), (by first | with_reducible exact True.intro | with_reducible assumption | grind [-Prod] | grind [-Prod, → sc_Pg, → sc_Pt] | grind [-Prod, I_Pg, I_Pt, o_bn, upd]), l2.2.2.2.2.2.1, l2.2.2.2.2.2.2.1, l2.2.2.2.2.2.2.2.1, l2.2.2.2.2.2.2.2.2.1, l2.2.2.2.2.2.2.2.2.2.1, l2.2.2.2.2.2.2.2.2.2.2⟩ (by first | with_reducible exact True.intro | with_reducible assumption | grind [-Prod] | grind [-Prod, → sc_Pg, → sc_Pt] | grind [-Prod, I_Pg, I_Pt, o_bn, upd])) ?_
            intro q11_33 ⟨g34, g35, g36⟩
            refine o_okW (s_Pt_parse_j226  hn l1 g36 (by first | with_reducible exact True.intro | with_reducible assumption | grind [-Prod] | grind [-Prod, → sc_Pg, → sc_Pt] | grind [-Prod, I_Pg, I_Pt, o_bn, upd]) (by first | with_reducible exact True.intro | with_reducible assumption | grind [-Prod] | grind [-Prod, → sc_Pg, → sc_Pt] | grind [-Prod, I_Pg, I_Pt, o_bn, upd]) (by first | with_reducible exact True.intro | with_reducible assumption | grind [-Prod] | grind [-Prod, → sc_Pg, → sc_Pt] | grind [-Prod, I_Pg, I_Pt, o_bn, upd]) (by first | with_reducible exact True.intro | with_reducible assumption | grind [-Prod] | grind [-Prod, → sc_Pg, → sc_Pt] | grind [-Prod, I_Pg, I_Pt, o_bn, upd])) (fun r hr => ?_)
            first | exact hr | (obtain ⟨g37, g38, g39⟩ := hr; refine ⟨fun h0 => ⟨?_, ?_, ?_, ?_⟩, fun h0 => ⟨?_, ?_⟩⟩ <;> (first | with_reducible exact True.intro | with_reducible assumption | (exact o_muL (by first | with_reducible exact True.intro | with_reducible assumption | grind [-Prod] | grind [-Prod, → sc_Pg, → sc_Pt] | grind [-Prod, I_Pg, I_Pt, o_bn, upd])) | (first | with_reducible exact True.intro | with_reducible assumption | grind [-Prod] | grind [-Prod, → sc_Pg, → sc_Pt] | grind [-Prod, I_Pg, I_Pt, o_bn, upd])))
          · refine o_okI (fun c40 => ?_) (fun c40 => ?_)
            · refine o_okB (s_Pt_nextBranch  l1 ⟨l2.1, l2.2.1, l2.2.2.1, (by first | with_reducible exact True.intro | with_reducible assumption | grind [-Prod] | grind [-Prod, → sc_Pg, → sc_Pt] | grind [-Prod, I_Pg, I_Pt, o_bn, upd]), (by first | with_reducible exact True.intro | with_reducible assumption | grind [-Prod] | grind [-Prod, → sc_Pg, → sc_Pt] | grind [-Prod, I_Pg, I_Pt, o_bn, upd]), l2.2.2.2.2.2.1, l2.2.2.2.2.2.2.1, l2.2.2.2.2.2.2.2.1, l2.2.2.2.2.2.2.2.2.1, l2.2.2.2.2.2.2.2.2.2.1, l2.2.2.2.2.2.2.2.2.2.2⟩) ?_
              intro q10_41 ⟨g42, g43, g44⟩
              refine o_okW (s_Pt_parse_j226  hn g43 g44 (by first | with_reducible exact True.intro | with_reducible assumption | grind [-Prod] | grind [-Prod, → sc_Pg, → sc_Pt] | grind [-Prod, I_Pg, I_Pt, o_bn, upd]) (by first | with_reducible exact True.intro | with_reducible assumption | grind [-Prod] | grind [-Prod, → sc_Pg, → sc_Pt] | grind [-Prod, I_Pg, I_Pt, o_bn, upd]) (by first | with_reducible exact True.intro | with_reducible assumption | grind [-Prod] | grind [-Prod, → sc_Pg, → sc_Pt] | grind [-Prod, I_Pg, I_Pt, o_bn, upd]) (by first | with_reducible exact True.intro | with_reducible assumption | grind [-Prod] | grind [-Prod, → sc_Pg, → sc_Pt] | grind [-Prod, I_Pg, I_Pt, o_bn, upd])) (fun r hr => ?_)
              first | exact hr | (obtain ⟨g45, g46, g47⟩ := hr; refine ⟨fun h0 => ⟨?_, ?_, ?_, ?_⟩, fun h0 => ⟨?_, ?_⟩⟩ <;> (first | with_reducible exact True.intro | with_reducible assumption | (exact o_muL (by first | with_reducible exact True.intro | with_reducible assumption | grind [-Prod] | grind [-Prod, → sc_Pg, → sc_Pt] | grind [-Prod, I_Pg, I_Pt, o_bn, upd])) | (first | with_reducible exact True.intro | with_reducible assumption | grind [-Prod] | grind [-Prod, → sc_Pg, → sc_Pt] | grind [-Prod, I_Pg, I_Pt, o_bn, upd])))
            · refine o_okI (fun c48 => ?_) (fun c48 => ?_)
              · refine o_okB (s_Pt_readSet  hn l1 ⟨l2.1, l2.2.1, l2.2.2.1, (by first | with_reducible exact True.intro | with_reducible assumption | grind [-Prod] | grind [-Prod, → sc_Pg, → sc_Pt] | grind [-Prod, I_Pg, I_Pt, o_bn, upd]), (by first | with_reducible exact True.intro | with_reducible assumption | grind [-Prod] | grind [-Prod, → sc_Pg, → sc_Pt] | grind [-Prod, I_Pg, I_Pt, o_bn, upd]), l2.2.2.2.2.2.1, l2.2.2.2.2.2.2.1, l2.2.2.2.2.2.2.2.1, l2.2.2.2.2.2.2.2.2.1, l2.2.2.2.2.2.2.2.2.2.1, l2.2.2.2.2.2.2.2.2.2.2⟩ (by first | with_reducible exact True.intro | with_reducible assumption | grind [-Prod] | grind [-Prod, → sc_Pg, → sc_Pt] | grind [-Prod, I_Pg, I_Pt, o_bn, upd])) ?_
                intro q9_49 ⟨g50, g51, g52, g53⟩
                unfold m_Pt_parse_j221
                refine o_okB (s_Pt_single  g52 g53 (by first | with_reducible exact True.intro | with_reducible assumption | grind [-Prod] | grind [-Prod, → sc_Pg, → sc_Pt] | grind [-Prod, I_Pg, I_Pt, o_bn, upd]) (by first | with_reducible exact True.intro | with_reducible assumption | grind [-Prod] | grind [-Prod, → sc_Pg, → sc_Pt] | grind [-Prod, I_Pg, I_Pt, o_bn, upd])) ?_
                intro q4_54 ⟨g55, g56, g57, g58⟩
                refine o_okW (s_Pt_parse_j226  hn g57 g58 (by first | with_reducible exact True.intro | with_reducible assumption | grind [-Prod] | grind [-Prod, → sc_Pg, → sc_Pt] | grind [-Prod, I_Pg, I_Pt, o_bn, upd]) (by first | with_reducible exact True.intro | with_reducible assumption | grind [-Prod] | grind [-Prod, → sc_Pg, → sc_Pt] | grind [-Prod, I_Pg, I_Pt, o_bn, upd]) (by first | with_reducible exact True.intro | with_reducible assumption | grind [-Prod] | grind [-Prod, → sc_Pg, → sc_Pt] | grind [-Prod, I_Pg, I_Pt, o_bn, upd]) (by first | with_reducible exact True.intro | with_reducible assumption | grind [-Prod] | grind [-Prod, → sc_Pg, → sc_Pt] | grind [-Prod, I_Pg, I_Pt, o_bn, upd])) (fun r hr => ?_)
                first | exact hr | (obtain ⟨g59, g60, g61⟩ := hr; refine ⟨fun h0 => ⟨?_, ?_, ?_, ?_⟩, fun h0 => ⟨?_, ?_⟩⟩ <;> (first | with_reducible exact True.intro | with_reducible assumption | (exact o_muL (by first | with_reducible exact True.intro | with_reducible assumption | grind [-Prod] | grind [-Prod, → sc_Pg, → sc_Pt] | grind [-Prod, I_Pg, I_Pt, o_bn, upd])) | (first | with_reducible exact True.intro | with_reducible assumption | grind [-Prod] | grind [-Prod, → sc_Pg, → sc_Pt] | grind [-Prod, I_Pg, I_Pt, o_bn, upd])))
              · unfold m_Pt_parse_j221
                refine o_okB (s_Pt_single  l1 ⟨l2.1, l2.2.1, l2.2.2.1, (by first | with_reducible exact True.intro | with_reducible assumption | grind [-Prod] | grind [-Prod, → sc_Pg, → sc_Pt] | grind [-Prod, I_Pg, I_Pt, o_bn, upd]), (by first | with_reducible exact True.intro | with_reducible assumption | grind [-Prod] | grind [-Prod, → sc_Pg, → sc_Pt] | grind [-Prod, I_Pg, I_Pt, o_bn, upd]), l2.2.2.2.2.2.1, l2.2.2.2.2.2.2.1, l2.2.2.2.2.2.2.2.1, l2.2.2.2.2.2.2.2.2.1, l2.2.2.2.2.2.2.2.2.2.1, l2.2.2.2.2.2.2.2.2.2.2⟩ (by first | with_reducible exact True.intro | with_reducible assumption | grind [-Prod] | grind [-Prod, → sc_Pg, → sc_Pt] | grind [-Prod, I_Pg, I_Pt, o_bn, upd]) (by first | with_reducible exact True.intro | with_reducible assumption | grind [-Prod] | grind [-Prod, → sc_Pg, → sc_Pt] | grind [-Prod, I_Pg, I_Pt, o_bn, upd])) ?_
                intro q4_62 ⟨g63, g64, g65, g66⟩
                refine o_okW (s_Pt_parse_j226  hn g65 g66 (by first | with_reducible exact True.intro | with_reducible assumption | grind [-Prod] | grind [-Prod, → sc_Pg, → sc_Pt] | grind [-Prod, I_Pg, I_Pt, o_bn, upd]) (by first | with_reducible exact True.intro | with_reducible assumption | grind [-Prod] | grind [-Prod, → sc_Pg, → sc_Pt] | grind [-Prod, I_Pg, I_Pt, o_bn, upd]) (by first | with_reducible exact True.intro | with_reducible assumption | grind [-Prod] | grind [-Prod, → sc_Pg, → sc_Pt] | grind [-Prod, I_Pg, I_Pt, o_bn, upd]) (by first | with_reducible exact True.intro | with_reducible assumption | grind [-Prod] | grind [-Prod, → sc_Pg, → sc_Pt] | grind [-Prod, I_Pg, I_Pt, o_bn, upd])) (fun r hr => ?_)
                first | exact hr | (obtain ⟨g67, g68, g69⟩ := hr; refine ⟨fun h0 => ⟨?_, ?_, ?_, ?_⟩, fun h0 => ⟨?_, ?_⟩⟩ <;> (first | with_reducible exact True.intro | with_reducible assumption | (exact o_muL (by first | with_reducible exact True.intro | with_reducible assumption | grind [-Prod] | grind [-Prod, → sc_Pg, → sc_Pt] | grind [-Prod, I_Pg, I_Pt, o_bn, upd])) | (first | with_reducible exact True.intro | with_reducible assumption | grind [-Prod] | grind [-Prod, → sc_Pg, → sc_Pt] | grind [-Prod, I_Pg, I_Pt, o_bn, upd])))
      · refine o_okI (fun c70 => ?_) (fun c70 => ?_)
        · unfold m_Pt_parse_j105
          refine o_okI (fun c71 => ?_) (fun c71 => ?_)
          · refine o_okI (fun c72 => ?_) (fun c72 => ?_)
            · unfold m_Pt_parse_j128
              refine o_okG (o_inM (m := 31) rfl (by first | with_reducible exact True.intro | with_reducible assumption | grind [-Prod] | grind [-Prod, → sc_Pg, → sc_Pt] | grind [-Prod, I_Pg, I_Pt, o_bn, upd]) (by first | with_reducible exact True.intro | with_reducible assumption | grind [-Prod] | grind [-Prod, → sc_Pg, → sc_Pt] | grind [-Prod, I_Pg, I_Pt, o_bn, upd])) ?_
              refine o_okN (fun x3_139_73 ex3_139_73 => ?_)
              refine o_okG (o_inM (m := 31) rfl (by first | with_reducible exact True.intro | with_reducible assumption | grind [-Prod] | grind [-Prod, → sc_Pg, → sc_Pt] | grind [-Prod, I_Pg, I_Pt, o_bn, upd]) (by first | with_reducible exact True.intro | with_reducible assumption | grind [-Prod] | grind [-Prod, → sc_Pg, → sc_Pt] | grind [-Prod, I_Pg, I_Pt, o_bn, upd])) ?_
              refine o_okN (fun x4_149_74 ex4_149_74 => ?_)
              refine o_okB (s_Pt_endBlock  hn l1 ⟨l2.1, l2.2.1, l2.2.2.1, (by first | with_reducible exact True.intro | with_reducible assumption | grind [-Prod] | grind [-Prod, → sc_Pg, → sc_Pt] | grind [-Prod, I_Pg, I_Pt, o_bn, upd]), (by first | with_reducible exact True.intro | with_reducible assumption | grind [-Prod] | grind [-Prod, → sc_Pg, → sc_Pt] | grind [-Prod, I_Pg, I_Pt, o_bn, upd]), l2.2.2.2.2.2.1, l2.2.2.2.2.2.2.1, l2.2.2.2.2.2.2.2.1, l2.2.2.2.2.2.2.2.2.1, l2.2.2.2.2.2.2.2.2.2.1, l2.2.2.2.2.2.2.2.2.2.2⟩) ?_
              intro q12_75 g76
              refine o_okI (fun c77 => ?_) (fun c77 => ?_)
              · refine o_okW (s_Pt_parse_j226  hn g76 ⟨l2.1, l2.2.1, l2.2.2.1, (by first | with_reducible exact True.intro | with_reducible assumption | grind [-Prod] | grind [-Prod, → sc_Pg, → sc_Pt] | grind [-Prod, I_Pg, I_Pt, o_bn, upd]), (by first | with_reducible exact True.intro | with_reducible assumption | grind [-Prod] | grind [-Prod, → sc_Pg, → sc_Pt] | grind [-Prod, I_Pg, I_Pt, o_bn, upd]), (by first | with_reducible exact True.intro | with_reducible assumption | grind [-Prod] | grind [-Prod, → sc_Pg, → sc_Pt] | grind [-Prod, I_Pg, I_Pt, o_bn, upd]), (by first | with_reducible exact True.intro | with_reducible assumption | grind [-Prod] | grind [-Prod, → sc_Pg, → sc_Pt] | grind [-Prod, I_Pg, I_Pt, o_bn, upd]), l2.2.2.2.2.2.2.2.1, l2.2.2.2.2.2.2.2.2.1, l2.2.2.2.2.2.2.2.2.2.1, l2.2.2.2.2.2.2.2.2.2.2⟩ (by first | with_reducible exact True.intro | with_reducible assumption | grind [-Prod] | grind [-Prod, → sc_Pg, → sc_Pt] | grind [-Prod, I_Pg, I_Pt, o_bn, upd]) (by first | with_reducible exact True.intro | with_reducible assumption | grind [-Prod] | grind [-Prod, → sc_Pg, → sc_Pt] | grind [-Prod, I_Pg, I_Pt, o_bn, upd]) (by first | with_reducible exact True.intro | with_reducible assumption | grind [-Prod] | grind [-Prod, → sc_Pg, → sc_Pt] | grind [-Prod, I_Pg, I_Pt, o_bn, upd]) (by first | with_reducible exact True.intro | with_reducible assumption | grind [-Prod] | grind [-Prod, → sc_Pg, → sc_Pt] | grind [-Prod, I_Pg, I_Pt, o_bn, upd])) (fun r hr => ?_)
                first | exact hr | (obtain ⟨g78, g79, g80⟩ := hr; refine ⟨fun h0 => ⟨?_, ?_, ?_, ?_⟩, fun h0 => ⟨?_, ?_⟩⟩ <;> (first | with_reducible exact True.intro | with_reducible assumption | (exact o_muL (by first | with_reducible exact True.intro | with_reducible assumption | grind [-Prod] | grind [-Prod, → sc_Pg, → sc_Pt] | grind [-Prod, I_Pg, I_Pt, o_bn, upd])) | (first | with_reducible exact True.intro | with_reducible assumption | grind [-Prod] | grind [-Prod, → sc_Pg, → sc_Pt] | grind [-Prod, I_Pg, I_Pt, o_bn, upd])))
              · refine o_okW (s_Pt_parse_j226  hn g76 ⟨l2.1, l2.2.1, l2.2.2.1, (by first | with_reducible exact True.intro | with_reducible assumption | grind [-Prod] | grind [-Prod, → sc_Pg, → sc_Pt] | grind [-Prod, I_Pg, I_Pt, o_bn, upd]), (by first | with_reducible exact True.intro | with_reducible assumption | grind [-Prod] | grind [-Prod, → sc_Pg, → sc_Pt] | grind [-Prod, I_Pg, I_Pt, o_bn, upd]), (by first | with_reducible exact True.intro | with_reducible assumption | grind [-Prod] | grind [-Prod, → sc_Pg, → sc_Pt] | grind [-Prod, I_Pg, I_Pt, o_bn, upd]), (by first | with_reducible exact True.intro | with_reducible assumption | grind [-Prod] | grind [-Prod, → sc_Pg, → sc_Pt] | grind [-Prod, I_Pg, I_Pt, o_bn, upd]), l2.2.2.2.2.2.2.2.1, l2.2.2.2.2.2.2.2.2.1, l2.2.2.2.2.2.2.2.2.2.1, l2.2.2.2.2.2.2.2.2.2.2⟩ (by first | with_reducible exact True.intro | with_reducible assumption | grind [-Prod] | grind [-Prod, → sc_Pg, → sc_Pt] | grind [-Prod, I_Pg, I_Pt, o_bn, upd]) (by first | with_reducible exact True.intro | with_reducible assumption | grind [-Prod] | grind [-Prod, → sc_Pg, → sc_Pt] | grind [-Prod, I_Pg, I_Pt, o_bn, upd]) (by first | with_reducible exact True.intro | with_reducible assumption | grind [-Prod] | grind [-Prod, → sc_Pg, → sc_Pt] | grind [-Prod, I_Pg, I_Pt, o_bn, upd]) (by first | with_reducible exact True.intro | with_reducible assumption | grind [-Prod] | grind [-Prod, → sc_Pg, → sc_Pt] | grind [-Prod, I_Pg, I_Pt, o_bn, upd])) (fun r hr => ?_)
                first | exact hr | (obtain ⟨g81, g82, g83⟩ := hr; refine ⟨fun h0 => ⟨?_, ?_, ?_, ?_⟩, fun h0 => ⟨?_, ?_⟩⟩ <;> (first | with_reducible exact True.intro | with_reducible assumption | (exact o_muL (by first | with_reducible exact True.intro | with_reducible assumption | grind [-Prod] | grind [-Prod, → sc_Pg, → sc_Pt] | grind [-Prod, I_Pg, I_Pt, o_bn, upd])) | (first | with_reducible exact True.intro | with_reducible assumption | grind [-Prod] | grind [-Prod, → sc_Pg, → sc_Pt] | grind [-Prod, I_Pg, I_Pt, o_bn, upd])))
            · unfold m_Pt_parse_j128
              refine o_okG (o_inM (m := 31) rfl (by first | with_reducible exact True.intro | with_reducible assumption | grind [-Prod] | grind [-Prod, → sc_Pg, → sc_Pt] | grind [-Prod, I_Pg, I_Pt, o_bn, upd]) (by first | with_reducible exact True.intro | with_reducible assumption | grind [-Prod] | grind [-Prod, → sc_Pg, → sc_Pt] | grind [-Prod, I_Pg, I_Pt, o_bn, upd])) ?_
              refine o_okN (fun x3_139_84 ex3_139_84 => ?_)
              refine o_okG (o_inM (m := 31) rfl (by first | with_reducible exact True.intro | with_reducible assumption | grind [-Prod] | grind [-Prod, → sc_Pg, → sc_Pt] | grind [-Prod, I_Pg, I_Pt, o_bn, upd]) (by first | with_reducible exact True.intro | with_reducible assumption | grind [-Prod] | grind [-Prod, → sc_Pg, → sc_Pt] | grind [-Prod, I_Pg, I_Pt, o_bn, upd])) ?_
              refine o_okN (fun x4_149_85 ex4_149_85 => ?_)
              refine o_okB (s_Pt_endBlock  hn l1 ⟨l2.1, l2.2.1, l2.2.2.1, (by first | with_reducible exact True.intro | with_reducible assumption | grind [-Prod] | grind [-Prod, → sc_Pg, → sc_Pt] | grind [-Prod, I_Pg, I_Pt, o_bn, upd]), (by first | with_reducible exact True.intro | with_reducible assumption | grind [-Prod] | grind [-Prod, → sc_Pg, → sc_Pt] | grind [-Prod, I_Pg, I_Pt, o_bn, upd]), l2.2.2.2.2.2.1, l2.2.2.2.2.2.2.1, l2.2.2.2.2.2.2.2.1, l2.2.2.2.2.2.2.2.2.1, l2.2.2.2.2.2.2.2.2.2.1, l2.2.2.2.2.2.2.2.2.2.2⟩) ?_
              intro q12_86 g87
              refine o_okI (fun c88 => ?_) (fun c88 => ?_)
              · refine o_okW (s_Pt_parse_j226  hn g87 ⟨l2.1, l2.2.1, l2.2.2.1, (by first | with_reducible exact True.intro | with_reducible assumption | grind [-Prod] | grind [-Prod, → sc_Pg, → sc_Pt] | grind [-Prod, I_Pg, I_Pt, o_bn, upd]), (by first | with_reducible exact True.intro | with_reducible assumption | grind [-Prod] | grind [-Prod, → sc_Pg, → sc_Pt] | grind [-Prod, I_Pg, I_Pt, o_bn, upd]), (by first | with_reducible exact True.intro | with_reducible assumption | grind [-Prod] | grind [-Prod, → sc_Pg, → sc_Pt] | grind [-Prod, I_Pg, I_Pt, o_bn, upd]), (by first | with_reducible exact True.intro | with_reducible assumption | grind [-Prod] | grind [-Prod, → sc_Pg, → sc_Pt] | grind [-Prod, I_Pg, I_Pt, o_bn, upd]), l2.2.2.2.2.2.2.2.1, l2.2.2.2.2.2.2.2.2.1, l2.2.2.2.2.2.2.2.2.2.1, l2.2.2.2.2.2.2.2.2.2.2⟩ (by first | with_reducible exact True.intro | with_reducible assumption | grind [-Prod] | grind [-Prod, → sc_Pg, → sc_Pt] | grind [-Prod, I_Pg, I_Pt, o_bn, upd]) (by first | with_reducible exact True.intro | with_reducible assumption | grind [-Prod] | grind [-Prod, → sc_Pg, → sc_Pt] | grind [-Prod, I_Pg, I_Pt, o_bn, upd]) (by first | with_reducible exact True.intro | with_reducible assumption | grind [-Prod] | grind [-Prod, → sc_Pg, → sc_Pt] | grind [-Prod, I_Pg, I_Pt, o_bn, upd]) (by first | with_reducible exact True.intro | with_reducible assumption | grind [-Prod] | grind [-Prod, → sc_Pg, → sc_Pt] | grind [-Prod, I_Pg, I_Pt, o_bn, upd])) (fun r hr => ?_)
                first | exact hr | (obtain ⟨g89, g90, g91⟩ := hr; refine ⟨fun h0 => ⟨?_, ?_, ?_, ?_⟩, fun h0 => ⟨?_, ?_⟩⟩ <;> (first | with_reducible exact True.intro | with_reducible assumption | (exact o_muL (by first | with_reducible exact True.intro | with_reducible assumption | grind [-Prod] | grind [-Prod, → sc_Pg, → sc_Pt] | grind [-Prod, I_Pg, I_Pt, o_bn, upd])) | (first | with_reducible exact True.intro | with_reducible assumption | grind [-Prod] | grind [-Prod, → sc_Pg, → sc_Pt] | grind [-Prod, I_Pg, I_Pt, o_bn, upd])))
              · refine o_okW (s_Pt_parse_j226  hn g87 ⟨l2.1, l2.2.1, l2.2.2.1, (by first | with_reducible exact True.intro | with_reducible assumption | grind [-Prod] | grind [-Prod, → sc_Pg, → sc_Pt] | grind [-Prod, I_Pg, I_Pt, o_bn, upd]), (by first | with_reducible exact True.intro | with_reducible assumption | grind [-Prod] | grind [-Prod, → sc_Pg, → sc_Pt] | grind [-Prod, I_Pg, I_Pt, o_bn, upd]), (by first | with_reducible exact True.intro | with_reducible assumption | grind [-Prod] | grind [-Prod, → sc_Pg, → sc_Pt] | grind [-Prod, I_Pg, I_Pt, o_bn, upd]), (by first | with_reducible exact True.intro | with_reducible assumption | grind [-Prod] | grind [-Prod, → sc_Pg, → sc_Pt] | grind [-Prod, I_Pg, I_Pt, o_bn, upd]), l2.2.2.2.2.2.2.2.1, l2.2.2.2.2.2.2.2.2.1, l2.2.2.2.2.2.2.2.2.2.1, l2.2.2.2.2.2.2.2.2.2.2⟩ (by first | with_reducible exact True.intro | with_reducible assumption | grind [-Prod] | grind [-Prod, → sc_Pg, → sc_Pt] | grind [-Prod, I_Pg, I_Pt, o_bn, upd]) (by first | with_reducible exact True.intro | with_reducible assumption | grind [-Prod] | grind [-Prod, → sc_Pg, → sc_Pt] | grind [-Prod, I_Pg, I_Pt, o_bn, upd]) (by first | with_reducible exact True.intro | with_reducible assumption | grind [-Prod] | grind [-Prod, → sc_Pg, → sc_Pt] | grind [-Prod, I_Pg, I_Pt, o_bn, upd]) (by first | with_reducible exact True.intro | with_reducible assumption | grind [-Prod] | grind [-Prod, → sc_Pg, → sc_Pt] | grind [-Prod, I_Pg, I_Pt, o_bn, upd])) (fun r hr => ?_)
                first | exact hr | (obtain ⟨g92, g93, g94⟩ := hr; refine ⟨fun h0 => ⟨?_, ?_, ?_, ?_⟩, fun h0 => ⟨?_, ?_⟩⟩ <;> (first | with_reducible exact True.intro | with_reducible assumption | (exact o_muL (by first | with_reducible exact True.intro | with_reducible assumption | grind [-Prod] | grind [-Prod, → sc_Pg, → sc_Pt] | grind [-Prod, I_Pg, I_Pt, o_bn, upd])) | (first | with_reducible exact True.intro | with_reducible assumption | grind [-Prod] | grind [-Prod, → sc_Pg, → sc_Pt] | grind [-Prod, I_Pg, I_Pt, o_bn, upd])))
          · refine o_okI (fun c95 => ?_) (fun c95 => ?_)
            · refine o_okB (s_Pt_openGroup  l1 ⟨l2.1, l2.2.1, l2.2.2.1, (by first | with_reducible exact True.intro | with_reducible assumption | grind [-Prod] | grind [-Prod, → sc_Pg, → sc_Pt] | grind [-Prod, I_Pg, I_Pt, o_bn, upd]), (by first | with_reducible exact True.intro | with_reducible assumption | grind [-Prod] | grind [-Prod, → sc_Pg, → sc_Pt] | grind [-Prod, I_Pg, I_Pt, o_bn, upd]), l2.2.2.2.2.2.1, l2.2.2.2.2.2.2.1, l2.2.2.2.2.2.2.2.1, l2.2.2.2.2.2.2.2.2.1, l2.2.2.2.2.2.2.2.2.2.1, l2.2.2.2.2.2.2.2.2.2.2⟩ (by first | with_reducible exact True.intro | with_reducible assumption | grind [-Prod] | grind [-Prod, → sc_Pg, → sc_Pt] | grind [-Prod, I_Pg, I_Pt, o_bn, upd])) ?_
              intro q11_96 ⟨g97, g98, g99⟩
              refine o_okW (s_Pt_parse_j226  hn l1 g99 (by first | with_reducible exact True.intro | with_reducible assumption | grind [-Prod] | grind [-Prod, → sc_Pg, → sc_Pt] | grind [-Prod, I_Pg, I_Pt, o_bn, upd]) (by first | with_reducible exact True.intro | with_reducible assumption | grind [-Prod] | grind [-Prod, → sc_Pg, → sc_Pt] | grind [-Prod, I_Pg, I_Pt, o_bn, upd]) (by first | with_reducible exact True.intro | with_reducible assumption | grind [-Prod] | grind [-Prod, → sc_Pg, → sc_Pt] | grind [-Prod, I_Pg, I_Pt, o_bn, upd]) (by first | with_reducible exact True.intro | with_reducible assumption | grind [-Prod] | grind [-Prod, → sc_Pg, → sc_Pt] | grind [-Prod, I_Pg, I_Pt, o_bn, upd])) (fun r hr => ?_)
              first | exact hr | (obtain ⟨g100, g101, g102⟩ := hr; refine ⟨fun h0 => ⟨?_, ?_, ?_, ?_⟩, fun h0 => ⟨?_, ?_⟩⟩ <;> (first | with_reducible exact True.intro | with_reducible assumption | (exact o_muL (by first | with_reducible exact True.intro | with_reducible assumption | grind [-Prod] | grind [-Prod, → sc_Pg, → sc_Pt] | grind [-Prod, I_Pg, I_Pt, o_bn, upd])) | (first | with_reducible exact True.intro | with_reducible assumption | grind [-Prod] | grind [-Prod, → sc_Pg, → sc_Pt] | grind [-Prod, I_Pg, I_Pt, o_bn, upd])))
            · refine o_okI (fun c103 => ?_) (fun c103 => ?_)
              · refine o_okB (s_Pt_nextBranch  l1 ⟨l2.1, l2.2.1, l2.2.2.1, (by first | with_reducible exact True.intro | with_reducible assumption | grind [-Prod] | grind [-Prod, → sc_Pg, → sc_Pt] | grind [-Prod, I_Pg, I_Pt, o_bn, upd]), (by first | with_reducible exact True.intro | with_reducible assumption | grind [-Prod] | grind [-Prod, → sc_Pg, → sc_Pt] | grind [-Prod, I_Pg, I_Pt, o_bn, upd]), l2.2.2.2.2.2.1, l2.2.2.2.2.2.2.1, l2.2.2.2.2.2.2.2.1, l2.2.2.2.2.2.2.2.2.1, l2.2.2.2.2.2.2.2.2.2.1, l2.2.2.2.2.2.2.2.2.2.2⟩) ?_
                intro q10_104 ⟨g105, g106, g107⟩
                refine o_okW (s_Pt_parse_j226  hn g106 g107 (by first | with_reducible exact True.intro | with_reducible assumption | grind [-Prod] | grind [-Prod, → sc_Pg, → sc_Pt] | grind [-Prod, I_Pg, I_Pt, o_bn, upd]) (by first | with_reducible exact True.intro | with_reducible assumption | grind [-Prod] | grind [-Prod, → sc_Pg, → sc_Pt] | grind [-Prod, I_Pg, I_Pt, o_bn, upd]) (by first | with_reducible exact True.intro | with_reducible assumption | grind [-Prod] | grind [-Prod, → sc_Pg, → sc_Pt] | grind [-Prod, I_Pg, I_Pt, o_bn, upd]) (by first | with_reducible exact True.intro | with_reducible assumption | grind [-Prod] | grind [-Prod, → sc_Pg, → sc_Pt] | grind [-Prod, I_Pg, I_Pt, o_bn, upd])) (fun r hr => ?_)
                first | exact hr | (obtain ⟨g108, g109, g110⟩ := hr; refine ⟨fun h0 => ⟨?_, ?_, ?_, ?_⟩, fun h0 => ⟨?_, ?_⟩⟩ <;> (first | with_reducible exact True.intro | with_reducible assumption | (exact o_muL (by first | with_reducible exact True.intro | with_reducible assumption | grind [-Prod] | grind [-Prod, → sc_Pg, → sc_Pt] | grind [-Prod, I_Pg, I_Pt, o_bn, upd])) | (first | with_reducible exact True.intro | with_reducible assumption | grind [-Prod] | grind [-Prod, → sc_Pg, → sc_Pt] | grind [-Prod, I_Pg, I_Pt, o_bn, upd])))
              · refine o_okI (fun c111 => ?_) (fun c111 => ?_)
                · refine o_okB (s_Pt_readSet  hn l1 ⟨l2.1, l2.2.1, l2.2.2.1, (by first | with_reducible exact True.intro | with_reducible assumption | grind [-Prod] | grind [-Prod, → sc_Pg, → sc_Pt] | grind [-Prod, I_Pg, I_Pt, o_bn, upd]), (by first | with_reducible exact True.intro | with_reducible assumption | grind [-Prod] | grind [-Prod, → sc_Pg, → sc_Pt] | grind [-Prod, I_Pg, I_Pt, o_bn, upd]), l2.2.2.2.2.2.1, l2.2.2.2.2.2.2.1, l2.2.2.2.2.2.2.2.1, l2.2.2.2.2.2.2.2.2.1, l2.2.2.2.2.2.2.2.2.2.1, l2.2.2.2.2.2.2.2.2.2.2⟩ (by first | with_reducible exact True.intro | with_reducible assumption | grind [-Prod] | grind [-Prod, → sc_Pg, → sc_Pt] | grind [-Prod, I_Pg, I_Pt, o_bn, upd])) ?_
                  intro q9_112 ⟨g113, g114, g115, g116⟩
                  unfold m_Pt_parse_j221
                  refine o_okB (s_Pt_single  g115 g116 (by first | with_reducible exact True.intro | with_reducible assumption | grind [-Prod] | grind [-Prod, → sc_Pg, → sc_Pt] | grind [-Prod, I_Pg, I_Pt, o_bn, upd]) (by first | with_reducible exact True.intro | with_reducible assumption | grind [-Prod] | grind [-Prod, → sc_Pg, → sc_Pt] | grind [-Prod, I_Pg, I_Pt, o_bn, upd])) ?_
                  intro q4_117 ⟨g118, g119, g120, g121⟩
                  refine o_okW (s_Pt_parse_j226  hn g120 g121 (by first | with_reducible exact True.intro | with_reducible assumption | grind [-Prod] | grind [-Prod, → sc_Pg, → sc_Pt] | grind [-Prod, I_Pg, I_Pt, o_bn, upd]) (by first | with_reducible exact True.intro | with_reducible assumption | grind [-Prod] | grind [-Prod, → sc_Pg, → sc_Pt] | grind [-Prod, I_Pg, I_Pt, o_bn, upd]) (by first | with_reducible exact True.intro | with_reducible assumption | grind [-Prod] | grind [-Prod, → sc_Pg, → sc_Pt] | grind [-Prod, I_Pg, I_Pt, o_bn, upd]) (by first | with_reducible exact True.intro | with_reducible assumption | grind [-Prod] | grind [-Prod, → sc_Pg, → sc_Pt] | grind [-Prod, I_Pg, I_Pt, o_bn, upd])) (fun r hr => ?_)
                  first | exact hr | (obtain ⟨g122, g123, g124⟩ := hr; refine ⟨fun h0 => ⟨?_, ?_, ?_, ?_⟩, fun h0 => ⟨?_, ?_⟩⟩ <;> (first | with_reducible exact True.intro | with_reducible assumption | (exact o_muL (by first | with_reducible exact True.intro | with_reducible assumption | grind [-Prod] | grind [-Prod, → sc_Pg, → sc_Pt] | grind [-Prod, I_Pg, I_Pt, o_bn, upd])) | (first | with_reducible exact True.intro | with_reducible assumption | grind [-Prod] | grind [-Prod, → sc_Pg, → sc_Pt] | grind [-Prod, I_Pg, I_Pt, o_bn, upd])))
                · unfold m_Pt_parse_j221
                  refine o_okB (s_Pt_single  l1 ⟨l2.1, l2.2.1, l2.2.2.1, (by first | with_reducible exact True.intro | with_reducible assumption | grind [-Prod] | grind [-Prod, → sc_Pg, → sc_Pt] | grind [-Prod, I_Pg, I_Pt, o_bn, upd]), (by first | with_reducible exact True.intro | with_reducible assumption | grind [-Prod] | grind [-Prod, → sc_Pg, → sc_Pt] | grind [-Prod, I_Pg, I_Pt, o_bn, upd]), l2.2.2.2.2.2.1, l2.2.2.2.2.2.2.1, l2.2.2.2.2.2.2.2.1, l2.2.2.2.2.2.2.2.2.1, l2.2.2.2.2.2.2.2.2.2.1, l2.2.2.2.2.2.2.2.2.2.2⟩ (by first | with_reducible exact True.intro | with_reducible assumption | grind [-Prod] | grind [-Prod, → sc_Pg, → sc_Pt] | grind [-Prod, I_Pg, I_Pt, o_bn, upd]) (by first | with_reducible exact True.intro | with_reducible assumption | grind [-Prod] | grind [-Prod, → sc_Pg, → sc_Pt] | grind [-Prod, I_Pg, I_Pt, o_bn, upd])) ?_
                  intro q4_125 ⟨g126, g127, g128, g129⟩
                  refine o_okW (s_Pt_parse_j226  hn g128 g129 (by first | with_reducible exact True.intro | with_reducible assumption | grind [-Prod] | grind [-Prod, → sc_Pg, → sc_Pt] | grind [-Prod, I_Pg, I_Pt, o_bn, upd]) (by first | with_reducible exact True.intro | with_reducible assumption | grind [-Prod] | grind [-Prod, → sc_Pg, → sc_Pt] | grind [-Prod, I_Pg, I_Pt, o_bn, upd]) (by first | with_reducible exact True.intro | with_reducible assumption | grind [-Prod] | grind [-Prod, → sc_Pg, → sc_Pt] | grind [-Prod, I_Pg, I_Pt, o_bn, upd]) (by first | with_reducible exact True.intro | with_reducible assumption | grind [-Prod] | grind [-Prod, → sc_Pg, → sc_Pt] | grind [-Prod, I_Pg, I_Pt, o_bn, upd])) (fun r hr => ?_)
                  first | exact hr | (obtain ⟨g130, g131, g132⟩ := hr; refine ⟨fun h0 => ⟨?_, ?_, ?_, ?_⟩, fun h0 => ⟨?_, ?_⟩⟩ <;> (first | with_reducible exact True.intro | with_reducible assumption | (exact o_muL (by first | with_reducible exact True.intro | with_reducible assumption | grind [-Prod] | grind [-Prod, → sc_Pg, → sc_Pt] | grind [-Prod, I_Pg, I_Pt, o_bn, upd])) | (first | with_reducible exact True.intro | with_reducible assumption | grind [-Prod] | grind [-Prod, → sc_Pg, → sc_Pt] | grind [-Prod, I_Pg, I_Pt, o_bn, upd])))
        · refine o_okI (fun c133 => ?_) (fun c133 => ?_)
          · unfold m_Pt_parse_j105
            refine o_okI (fun c134 => ?_) (fun c134 => ?_)
            · refine o_okI (fun c135 => ?_) (fun c135 => ?_)
              · unfold m_Pt_parse_j128
                refine o_okG (o_inM (m := 31) rfl (by first | with_reducible exact True.intro | with_reducible assumption | grind [-Prod] | grind [-Prod, → sc_Pg, → sc_Pt] | grind [-Prod, I_Pg, I_Pt, o_bn, upd]) (by first | with_reducible exact True.intro | with_reducible assumption | grind [-Prod] | grind [-Prod, → sc_Pg, → sc_Pt] | grind [-Prod, I_Pg, I_Pt, o_bn, upd])) ?_
                refine o_okN (fun x3_139_136 ex3_139_136 => ?_)
                refine o_okG (o_inM (m := 31) rfl (by first | with_reducible exact True.intro | with_reducible assumption | grind [-Prod] | grind [-Prod, → sc_Pg, → sc_Pt] | grind [-Prod, I_Pg, I_Pt, o_bn, upd]) (by first | with_reducible exact True.intro | with_reducible assumption | grind [-Prod] | grind [-Prod, → sc_Pg, → sc_Pt] | grind [-Prod, I_Pg, I_Pt, o_bn, upd])) ?_
                refine o_okN (fun x4_149_137 ex4_149_137 => ?_)
                refine o_okB (s_Pt_endBlock  hn l1 ⟨l2.1, l2.2.1, l2.2.2.1, (by first | with_reducible exact True.intro | with_reducible assumption | grind [-Prod] | grind [-Prod, → sc_Pg, → sc_Pt] | grind [-Prod, I_Pg, I_Pt, o_bn, upd]), (by first | with_reducible exact True.intro | with_reducible assumption | grind [-Prod] | grind [-Prod, → sc_Pg, → sc_Pt] | grind [-Prod, I_Pg, I_Pt, o_bn, upd]), l2.2.2.2.2.2.1, l2.2.2.2.2.2.2.1, l2.2.2.2.2.2.2.2.1, l2.2.2.2.2.2.2.2.2.1, l2.2.2.2.2.2.2.2.2.2.1, l2.2.2.2.2.2.2.2.2.2.2⟩) ?_
                intro q12_138 g139
                refine o_okI (fun c140 => ?_) (fun c140 => ?_)
                · refine o_okW (s_Pt_parse_j226  hn g139 ⟨l2.1, l2.2.1, l2.2.2.1, (by first | with_reducible exact True.intro | with_reducible assumption | grind [-Prod] | grind [-Prod, → sc_Pg, → sc_Pt] | grind [-Prod, I_Pg, I_Pt, o_bn, upd]), (by first | with_reducible exact True.intro | with_reducible assumption | grind [-Prod] | grind [-Prod, → sc_Pg, → sc_Pt] | grind [-Prod, I_Pg, I_Pt, o_bn, upd]), (by first | with_reducible exact True.intro | with_reducible assumption | grind [-Prod] | grind [-Prod, → sc_Pg, → sc_Pt] | grind [-Prod, I_Pg, I_Pt, o_bn, upd]), (by first | with_reducible exact True.intro | with_reducible assumption | grind [-Prod] | grind [-Prod, → sc_Pg, → sc_Pt] | grind [-Prod, I_Pg, I_Pt, o_bn, upd]), l2.2.2.2.2.2.2.2.1, l2.2.2.2.2.2.2.2.2.1, l2.2.2.2.2.2.2.2.2.2.1, l2.2.2.2.2.2.2.2.2.2.2⟩ (by first | with_reducible exact True.intro | with_reducible assumption | grind [-Prod] | grind [-Prod, → sc_Pg, → sc_Pt] | grind [-Prod, I_Pg, I_Pt, o_bn, upd]) (by first | with_reducible exact True.intro | with_reducible assumption | grind [-Prod] | grind [-Prod, → sc_Pg, → sc_Pt] | grind [-Prod, I_Pg, I_Pt, o_bn, upd]) (by first | with_reducible exact True.intro | with_reducible assumption | grind [-Prod] | grind [-Prod, → sc_Pg, → sc_Pt] | grind [-Prod, I_Pg, I_Pt, o_bn, upd]) (by first | with_reducible exact True.intro | with_reducible assumption | grind [-Prod] | grind [-Prod, → sc_Pg, → sc_Pt] | grind [-Prod, I_Pg, I_Pt, o_bn, upd])) (fun r hr => ?_)
                  first | exact hr | (obtain ⟨g141, g142, g143⟩ := hr; refine ⟨fun h0 => ⟨?_, ?_, ?_, ?_⟩, fun h0 => ⟨?_, ?_⟩⟩ <;> (first | with_reducible exact True.intro | with_reducible assumption | (exact o_muL (by first | with_reducible exact True.intro | with_reducible assumption | grind [-Prod] | grind [-Prod, → sc_Pg, → sc_Pt] | grind [-Prod, I_Pg, I_Pt, o_bn, upd])) | (first | with_reducible exact True.intro | with_reducible assumption | grind [-Prod] | grind [-Prod, → sc_Pg, → sc_Pt] | grind [-Prod, I_Pg, I_Pt, o_bn, upd])))
                · refine o_okW (s_Pt_parse_j226  hn g139 ⟨l2.1, l2.2.1, l2.2.2.1, (by first | with_reducible exact True.intro | with_reducible assumption | grind [-Prod] | grind [-Prod, → sc_Pg, → sc_Pt] | grind [-Prod, I_Pg, I_Pt, o_bn, upd]), (by first | with_reducible exact True.intro | with_reducible assumption | grind [-Prod] | grind [-Prod, → sc_Pg, → sc_Pt] | grind [-Prod, I_Pg, I_Pt, o_bn, upd]), (by first | with_reducible exact True.intro | with_reducible assumption | grind [-Prod] | grind [-Prod, → sc_Pg, → sc_Pt] | grind [-Prod, I_Pg, I_Pt, o_bn, upd]), (by first | with_reducible exact True.intro | with_reducible assumption | grind [-Prod] | grind [-Prod, → sc_Pg, → sc_Pt] | grind [-Prod, I_Pg, I_Pt, o_bn, upd]), l2.2.2.2.2.2.2.2.1, l2.2.2.2.2.2.2.2.2.1, l2.2.2.2.2.2.2.2.2.2.1, l2.2.2.2.2.2.2.2.2.2.2⟩ (by first | with_reducible exact True.intro | with_reducible assumption | grind [-Prod] | grind [-Prod, → sc_Pg, → sc_Pt] | grind [-Prod, I_Pg, I_Pt, o_bn, upd]) (by first | with_reducible exact True.intro | with_reducible assumption | grind [-Prod] | grind [-Prod, → sc_Pg, → sc_Pt] | grind [-Prod, I_Pg, I_Pt, o_bn, upd]) (by first | with_reducible exact True.intro | with_reducible assumption | grind [-Prod] | grind [-Prod, → sc_Pg, → sc_Pt] | grind [-Prod, I_Pg, I_Pt, o_bn, upd]) (by first | with_reducible exact True.intro | with_reducible assumption | grind [-Prod] | grind [-Prod, → sc_Pg, → sc_Pt] | grind [-Prod, I_Pg, I_Pt, o_bn, upd])) (fun r hr => ?_)
                  first | exact hr | (obtain ⟨g144, g145, g146⟩ := hr; refine ⟨fun h0 => ⟨?_, ?_, ?_, ?_⟩, fun h0 => ⟨?_, ?_⟩⟩ <;> (first | with_reducible exact True.intro | with_reducible assumption | (exact o_muL (by first | with_reducible exact True.intro | with_reducible assumption | grind [-Prod] | grind [-Prod, → sc_Pg, → sc_Pt] | grind [-Prod, I_Pg, I_Pt, o_bn, upd])) | (first | with_reducible exact True.intro | with_reducible assumption | grind [-Prod] | grind [-Prod, → sc_Pg, → sc_Pt] | grind [-Prod, I_Pg, I_Pt, o_bn, upd])))
              · unfold m_Pt_parse_j128
                refine o_okG (o_inM (m := 31) rfl (by first | with_reducible exact True.intro | with_reducible assumption | grind [-Prod] | grind [-Prod, → sc_Pg, → sc_Pt] | grind [-Prod, I_Pg, I_Pt, o_bn, upd]) (by first | with_reducible exact True.intro | with_reducible assumption | grind [-Prod] | grind [-Prod, → sc_Pg, → sc_Pt] | grind [-Prod, I_Pg, I_Pt, o_bn, upd])) ?_
                refine o_okN (fun x3_139_147 ex3_139_147 => ?_)
                refine o_okG (o_inM (m := 31) rfl (by first | with_reducible exact True.intro | with_reducible assumption | grind [-Prod] | grind [-Prod, → sc_Pg, → sc_Pt] | grind [-Prod, I_Pg, I_Pt, o_bn, upd]) (by first | with_reducible exact True.intro | with_reducible assumption | grind [-Prod] | grind [-Prod, → sc_Pg, → sc_Pt] | grind [-Prod, I_Pg, I_Pt, o_bn, upd])) ?_
                refine o_okN (fun x4_149_148 ex4_149_148 => ?_)
                refine o_okB (s_Pt_endBlock  hn l1 ⟨l2.1, l2.2.1, l2.2.2.1, (by first | with_reducible exact True.intro | with_reducible assumption | grind [-Prod] | grind [-Prod, → sc_Pg, → sc_Pt] | grind [-Prod, I_Pg, I_Pt, o_bn, upd]), (by first | with_reducible exact True.intro | with_reducible assumption | grind [-Prod] | grind [-Prod, → sc_Pg, → sc_Pt] | grind [-Prod, I_Pg, I_Pt, o_bn, upd]), l2.2.2.2.2.2.1, l2.2.2.2.2.2.2.1, l2.2.2.2.2.2.2.2.1, l2.2.2.2.2.2.2.2.2.1, l2.2.2.2.2.2.2.2.2.2.1, l2.2.2.2.2.2.2.2.2.2.2⟩) ?_
                intro q12_149 g150
                refine o_okI (fun c151 => ?_) (fun c151 => ?_)
                · refine o_okW (s_Pt_parse_j226  hn g150 ⟨l2.1, l2.2.1, l2.2.2.1, (by first | with_reducible exact True.intro | with_reducible assumption | grind [-Prod] | grind [-Prod, → sc_Pg, → sc_Pt] | grind [-Prod, I_Pg, I_Pt, o_bn, upd]), (by first | with_reducible exact True.intro | with_reducible assumption | grind [-Prod] | grind [-Prod, → sc_Pg, → sc_Pt] | grind [-Prod, I_Pg, I_Pt, o_bn, upd]), (by first | with_reducible exact True.intro | with_reducible assumption | grind [-Prod] | grind [-Prod, → sc_Pg, → sc_Pt] | grind [-Prod, I_Pg, I_Pt, o_bn, upd]), (by first | with_reducible exact True.intro | with_reducible assumption | grind [-Prod] | grind [-Prod, → sc_Pg, → sc_Pt] | grind [-Prod, I_Pg, I_Pt, o_bn, upd]), l2.2.2.2.2.2.2.2.1, l2.2.2.2.2.2.2.2.2.1, l2.2.2.2.2.2.2.2.2.2.1, l2.2.2.2.2.2.2.2.2.2.2⟩ (by first | with_reducible exact True.intro | with_reducible assumption | grind [-Prod] | grind [-Prod, → sc_Pg, → sc_Pt] | grind [-Prod, I_Pg, I_Pt, o_bn, upd]) (by first | with_reducible exact True.intro | with_reducible assumption | grind [-Prod] | grind [-Prod, → sc_Pg, → sc_Pt] | grind [-Prod, I_Pg, I_Pt, o_bn, upd]) (by first | with_reducible exact True.intro | with_reducible assumption | grind [-Prod] | grind [-Prod, → sc_Pg, → sc_Pt] | grind [-Prod, I_Pg, I_Pt, o_bn, upd]) (by first | with_reducible exact True.intro | with_reducible assumption | grind [-Prod] | grind [-Prod, → sc_Pg, → sc_Pt] | grind [-Prod, I_Pg, I_Pt, o_bn, upd])) (fun r hr => ?_)
                  first | exact hr | (obtain ⟨g152, g153, g154⟩ := hr; refine ⟨fun h0 => ⟨?_, ?_, ?_, ?_⟩, fun h0 => ⟨?_, ?_⟩⟩ <;> (first | with_reducible exact True.intro | with_reducible assumption | (exact o_muL (by first | with_reducible exact True.intro | with_reducible assumption | grind [-Prod] | grind [-Prod, → sc_Pg, → sc_Pt] | grind [-Prod, I_Pg, I_Pt, o_bn, upd])) | (first | with_reducible exact True.intro | with_reducible assumption | grind [-Prod] | grind [-Prod, → sc_Pg, → sc_Pt] | grind [-Prod, I_Pg, I_Pt, o_bn, upd])))
                · refine o_okW (s_Pt_parse_j226  hn g150 ⟨l2.1, l2.2.1, l2.2.2.1, (by first | with_reducible exact True.intro | with_reducible assumption | grind [-Prod] | grind [-Prod, → sc_Pg, → sc_Pt] | grind [-Prod, I_Pg, I_Pt, o_bn, upd]), (by first | with_reducible exact True.intro | with_reducible assumption | grind [-Prod] | grind [-Prod, → sc_Pg, → sc_Pt] | grind [-Prod, I_Pg, I_Pt, o_bn, upd]), (by first | with_reducible exact True.intro | with_reducible assumption | grind [-Prod] | grind [-Prod, → sc_Pg, → sc_Pt] | grind [-Prod, I_Pg, I_Pt, o_bn, upd]), (by first | with_reducible exact True.intro | with_reducible assumption | grind [-Prod] | grind [-Prod, → sc_Pg, → sc_Pt] | grind [-Prod, I_Pg, I_Pt, o_bn, upd]), l2.2.2.2.2.2.2.2.1, l2.2.2.2.2.2.2.2.2.1, l2.2.2.2.2.2.2.2.2.2.1, l2.2.2.2.2.2.2.2.2.2.2⟩ (by first | with_reducible exact True.intro | with_reducible assumption | grind [-Prod] | grind [-Prod, → sc_Pg, → sc_Pt] | grind [-Prod, I_Pg, I_Pt, o_bn, upd]) (by first | with_reducible exact True.intro | with_reducible assumption | grind [-Prod] | grind [-Prod, → sc_Pg, → sc_Pt] | grind [-Prod, I_Pg, I_Pt, o_bn, upd]) (by first | with_reducible exact True.intro | with_reducible assumption | grind [-Prod] | grind [-Prod, → sc_Pg, → sc_Pt] | grind [-Prod, I_Pg, I_Pt, o_bn, upd]) (by first | with_reducible exact True.intro | with_reducible assumption | grind [-Prod] | grind [-Prod, → sc_Pg, → sc_Pt] | grind [-Prod, I_Pg, I_Pt, o_bn, upd])) (fun r hr => ?_)
                  first | exact hr | (obtain ⟨g155, g156, g157⟩ := hr; refine ⟨fun h0 => ⟨?_, ?_, ?_, ?_⟩, fun h0 => ⟨?_, ?_⟩⟩ <;> (first | with_reducible exact True.intro | with_reducible assumption | (exact o_muL (by first | with_reducible exact True.intro | with_reducible assumption | grind [-Prod] | grind [-Prod, → sc_Pg, → sc_Pt] | grind [-Prod, I_Pg, I_Pt, o_bn, upd])) | (first | with_reducible exact True.intro | with_reducible assumption | grind [-Prod] | grind [-Prod, → sc_Pg, → sc_Pt] | grind [-Prod, I_Pg, I_Pt, o_bn, upd])))
            · refine o_okI (fun c158 => ?_) (fun c158 => ?_)
              · refine o_okB (s_Pt_openGroup  l1 ⟨l2.1, l2.2.1, l2.2.2.1, (by first | with_reducible exact True.intro | with_reducible assumption | grind [-Prod] | grind [-Prod, → sc_Pg, → sc_Pt] | grind [-Prod, I_Pg, I_Pt, o_bn, upd]), (by first | with_reducible exact True.intro | with_reducible assumption | grind [-Prod] | grind [-Prod, → sc_Pg, → sc_Pt] | grind [-Prod, I_Pg, I_Pt, o_bn, upd]), l2.2.2.2.2.2.1, l2.2.2.2.2.2.2.1, l2.2.2.2.2.2.2.2.1, l2.2.2.2.2.2.2.2.2.1, l2.2.2.2.2.2.2.2.2.2.1, l2.2.2.2.2.2.2.2.2.2.2⟩ (by first | with_reducible exact True.intro | with_reducible assumption | grind [-Prod] | grind [-Prod, → sc_Pg, → sc_Pt] | grind [-Prod, I_Pg, I_Pt, o_bn, upd])) ?_
                intro q11_159 ⟨g160, g161, g162⟩
                refine o_okW (s_Pt_parse_j226  hn l1 g162 (by first | with_reducible exact True.intro | with_reducible assumption | grind [-Prod] | grind [-Prod, → sc_Pg, → sc_Pt] | grind [-Prod, I_Pg, I_Pt, o_bn, upd]) (by first | with_reducible exact True.intro | with_reducible assumption | grind [-Prod] | grind [-Prod, → sc_Pg, → sc_Pt] | grind [-Prod, I_Pg, I_Pt, o_bn, upd]) (by first | with_reducible exact True.intro | with_reducible assumption | grind [-Prod] | grind [-Prod, → sc_Pg, → sc_Pt] | grind [-Prod, I_Pg, I_Pt, o_bn, upd]) (by first | with_reducible exact True.intro | with_reducible assumption | grind [-Prod] | grind [-Prod, → sc_Pg, → sc_Pt] | grind [-Prod, I_Pg, I_Pt, o_bn, upd])) (fun r hr => ?_)
                first | exact hr | (obtain ⟨g163, g164, g165⟩ := hr; refine ⟨fun h0 => ⟨?_, ?_, ?_, ?_⟩, fun h0 => ⟨?_, ?_⟩⟩ <;> (first | with_reducible exact True.intro | with_reducible assumption | (exact o_muL (by first | with_reducible exact True.intro | with_reducible assumption | grind [-Prod] | grind [-Prod, → sc_Pg, → sc_Pt] | grind [-Prod, I_Pg, I_Pt, o_bn, upd])) | (first | with_reducible exact True.intro | with_reducible assumption | grind [-Prod] | grind [-Prod, → sc_Pg, → sc_Pt] | grind [-Prod, I_Pg, I_Pt, o_bn, upd])))
              · refine o_okI (fun c166 => ?_) (fun c166 => ?_)
                · refine o_okB (s_Pt_nextBranch  l1 ⟨l2.1, l2.2.1, l2.2.2.1, (by first | with_reducible exact True.intro | with_reducible assumption | grind [-Prod] | grind [-Prod, → sc_Pg, → sc_Pt] | grind [-Prod, I_Pg, I_Pt, o_bn, upd]), (by first | with_reducible exact True.intro | with_reducible assumption | grind [-Prod] | grind [-Prod, → sc_Pg, → sc_Pt] | grind [-Prod, I_Pg, I_Pt, o_bn, upd]), l2.2.2.2.2.2.1, l2.2.2.2.2.2.2.1, l2.2.2.2.2.2.2.2.1, l2.2.2.2.2.2.2.2.2.1, l2.2.2.2.2.2.2.2.2.2.1, l2.2.2.2.2.2.2.2.2.2.2⟩) ?_
                  intro q10_167 ⟨g168, g169, g170⟩
                  refine o_okW (s_Pt_parse_j226  hn g169 g170 (by first | with_reducible exact True.intro | with_reducible assumption | grind [-Prod] | grind [-Prod, → sc_Pg, → sc_Pt] | grind [-Prod, I_Pg, I_Pt, o_bn, upd]) (by first | with_reducible exact True.intro | with_reducible assumption | grind [-Prod] | grind [-Prod, → sc_Pg, → sc_Pt] | grind [-Prod, I_Pg, I_Pt, o_bn, upd]) (by first | with_reducible exact True.intro | with_reducible assumption | grind [-Prod] | grind [-Prod, → sc_Pg, → sc_Pt] | grind [-Prod, I_Pg, I_Pt, o_bn, upd]) (by first | with_reducible exact True.intro | with_reducible assumption | grind [-Prod] | grind [-Prod, → sc_Pg, → sc_Pt] | grind [-Prod, I_Pg, I_Pt, o_bn, upd])) (fun r hr => ?_)
                  first | exact hr | (obtain ⟨g171, g172, g173⟩ := hr; refine ⟨fun h0 => ⟨?_, ?_, ?_, ?_⟩, fun h0 => ⟨?_, ?_⟩⟩ <;> (first | with_reducible exact True.intro | with_reducible assumption | (exact o_muL (by first | with_reducible exact True.intro | with_reducible assumption | grind [-Prod] | grind [-Prod, → sc_Pg, → sc_Pt] | grind [-Prod, I_Pg, I_Pt, o_bn, upd])) | (first | with_reducible exact True.intro | with_reducible assumption | grind [-Prod] | grind [-Prod, → sc_Pg, → sc_Pt] | grind [-Prod, I_Pg, I_Pt, o_bn, upd])))
                · refine o_okI (fun c174 => ?_) (fun c174 => ?_)
                  · refine o_okB (s_Pt_readSet  hn l1 ⟨l2.1, l2.2.1, l2.2.2.1, (by first | with_reducible exact True.intro | with_reducible assumption | grind [-Prod] | grind [-Prod, → sc_Pg, → sc_Pt] | grind [-Prod, I_Pg, I_Pt, o_bn, upd]), (by first | with_reducible exact True.intro | with_reducible assumption | grind [-Prod] | grind [-Prod, → sc_Pg, → sc_Pt] | grind [-Prod, I_Pg, I_Pt, o_bn, upd]), l2.2.2.2.2.2.1, l2.2.2.2.2.2.2.1, l2.2.2.2.2.2.2.2.1, l2.2.2.2.2.2.2.2.2.1, l2.2.2.2.2.2.2.2.2.2.1, l2.2.2.2.2.2.2.2.2.2.2⟩ (by first | with_reducible exact True.intro | with_reducible assumption | grind [-Prod] | grind [-Prod, → sc_Pg, → sc_Pt] | grind [-Prod, I_Pg, I_Pt, o_bn, upd])) ?_
                    intro q9_175 ⟨g176, g177, g178, g179⟩
                    unfold m_Pt_parse_j221
                    refine o_okB (s_Pt_single  g178 g179 (by first | with_reducible exact True.intro | with_reducible assumption | grind [-Prod] | grind [-Prod, → sc_Pg, → sc_Pt] | grind [-Prod, I_Pg, I_Pt, o_bn, upd]) (by first | with_reducible exact True.intro | with_reducible assumption | grind [-Prod] | grind [-Prod, → sc_Pg, → sc_Pt] | grind [-Prod, I_Pg, I_Pt, o_bn, upd])) ?_
                    intro q4_180 ⟨g181, g182, g183, g184⟩
                    refine o_okW (s_Pt_parse_j226  hn g183 g184 (by first | with_reducible exact True.intro | with_reducible assumption | grind [-Prod] | grind [-Prod, → sc_Pg, → sc_Pt] | grind [-Prod, I_Pg, I_Pt, o_bn, upd]) (by first | with_reducible exact True.intro | with_reducible assumption | grind [-Prod] | grind [-Prod, → sc_Pg, → sc_Pt] | grind [-Prod, I_Pg, I_Pt, o_bn, upd]) (by first | with_reducible exact True.intro | with_reducible assumption | grind [-Prod] | grind [-Prod, → sc_Pg, → sc_Pt] | grind [-Prod, I_Pg, I_Pt, o_bn, upd]) (by first | with_reducible exact True.intro | with_reducible assumption | grind [-Prod] | grind [-Prod, → sc_Pg, → sc_Pt] | grind [-Prod, I_Pg, I_Pt, o_bn, upd])) (fun r hr => ?_)
                    first | exact hr | (obtain ⟨g185, g186, g187⟩ := hr; refine ⟨fun h0 => ⟨?_, ?_, ?_, ?_⟩, fun h0 => ⟨?_, ?_⟩⟩ <;> (first | with_reducible exact True.intro | with_reducible assumption | (exact o_muL (by first | with_reducible exact True.intro | with_reducible assumption | grind [-Prod] | grind [-Prod, → sc_Pg, → sc_Pt] | grind [-Prod, I_Pg, I_Pt, o_bn, upd])) | (first | with_reducible exact True.intro | with_reducible assumption | grind [-Prod] | grind [-Prod, → sc_Pg, → sc_Pt] | grind [-Prod, I_Pg, I_Pt, o_bn, upd])))
                  · unfold m_Pt_parse_j221
                    refine o_okB (s_Pt_single  l1 ⟨l2.1, l2.2.1, l2.2.2.1, (by first | with_reducible exact True.intro | with_reducible assumption | grind [-Prod] | grind [-Prod, → sc_Pg, → sc_Pt] | grind [-Prod, I_Pg, I_Pt, o_bn, upd]), (by first | with_reducible exact True.intro | with_reducible assumption | grind [-Prod] | grind [-Prod, → sc_Pg, → sc_Pt] | grind [-Prod, I_Pg, I_Pt, o_bn, upd]), l2.2.2.2.2.2.1, l2.2.2.2.2.2.2.1, l2.2.2.2.2.2.2.2.1, l2.2.2.2.2.2.2.2.2.1, l2.2.2.2.2.2.2.2.2.2.1, l2.2.2.2.2.2.2.2.2.2.2⟩ (by first | with_reducible exact True.intro | with_reducible assumption | grind [-Prod] | grind [-Prod, → sc_Pg, → sc_Pt] | grind [-Prod, I_Pg, I_Pt, o_bn, upd]) (by first | with_reducible exact True.intro | with_reducible assumption | grind [-Prod] | grind [-Prod, → sc_Pg, → sc_Pt] | grind [-Prod, I_Pg, I_Pt, o_bn, upd])) ?_
                    intro q4_188 ⟨g189, g190, g191, g192⟩
                    refine o_okW (s_Pt_parse_j226  hn g191 g192 (by first | with_reducible exact True.intro | with_reducible assumption | grind [-Prod] | grind [-Prod, → sc_Pg, → sc_Pt] | grind [-Prod, I_Pg, I_Pt, o_bn, upd]) (by first | with_reducible exact True.intro | with_reducible assumption | grind [-Prod] | grind [-Prod, → sc_Pg, → sc_Pt] | grind [-Prod, I_Pg, I_Pt, o_bn, upd]) (by first | with_reducible exact True.intro | with_reducible assumption | grind [-Prod] | grind [-Prod, → sc_Pg, → sc_Pt] | grind [-Prod, I_Pg, I_Pt, o_bn, upd]) (by first | with_reducible exact True.intro | with_reducible assumption | grind [-Prod] | grind [-Prod, → sc_Pg, → sc_Pt] | grind [-Prod, I_Pg, I_Pt, o_bn, upd])) (fun r hr => ?_)
                    first | exact hr | (obtain ⟨g193, g194, g195⟩ := hr; refine ⟨fun h0 => ⟨?_, ?_, ?_, ?_⟩, fun h0 => ⟨?_, ?_⟩⟩ <;> (first | with_reducible exact True.intro | with_reducible assumption | (exact o_muL (by first | with_reducible exact True.intro | with_reducible assumption | grind [-Prod] | grind [-Prod, → sc_Pg, → sc_Pt] | grind [-Prod, I_Pg, I_Pt, o_bn, upd])) | (first | with_reducible exact True.intro | with_reducible assumption | grind [-Prod] | grind [-Prod, → sc_Pg, → sc_Pt] | grind [-Prod, I_Pg, I_Pt, o_bn, upd])))
          · refine o_okI (fun c196 => ?_) (fun c196 => ?_)
            · unfold m_Pt_parse_j105
              refine o_okI (fun c197 => ?_) (fun c197 => ?_)
              · refine o_okI (fun c198 => ?_) (fun c198 => ?_)
                · unfold m_Pt_parse_j128
                  refine o_okG (o_inM (m := 31) rfl (by first | with_reducible exact True.intro | with_reducible assumption | grind [-Prod] | grind [-Prod, → sc_Pg, → sc_Pt] | grind [-Prod, I_Pg, I_Pt, o_bn, upd]) (by first | with_reducible exact True.intro | with_reducible assumption | grind [-Prod] | grind [-Prod, → sc_Pg, → sc_Pt] | grind [-Prod, I_Pg, I_Pt, o_bn, upd])) ?_
                  refine o_okN (fun x3_139_199 ex3_139_199 => ?_)
                  refine o_okG (o_inM (m := 31) rfl (by first | with_reducible exact True.intro | with_reducible assumption | grind [-Prod] | grind [-Prod, → sc_Pg, → sc_Pt] | grind [-Prod, I_Pg, I_Pt, o_bn, upd]) (by first | with_reducible exact True.intro | with_reducible assumption | grind [-Prod] | grind [-Prod, → sc_Pg, → sc_Pt] | grind [-Prod, I_Pg, I_Pt, o_bn, upd])) ?_
                  refine o_okN (fun x4_149_200 ex4_149_200 => ?_)
                  refine o_okB (s_Pt_endBlock  hn l1 ⟨l2.1, l2.2.1, l2.2.2.1, (by first | with_reducible exact True.intro | with_reducible assumption | grind [-Prod] | grind [-Prod, → sc_Pg, → sc_Pt] | grind [-Prod, I_Pg, I_Pt, o_bn, upd]), (by first | with_reducible exact True.intro | with_reducible assumption | grind [-Prod] | grind [-Prod, → sc_Pg, → sc_Pt] | grind [-Prod, I_Pg, I_Pt, o_bn, upd]), l2.2.2.2.2.2.1, l2.2.2.2.2.2.2.1, l2.2.2.2.2.2.2.2.1, l2.2.2.2.2.2.2.2.2.1, l2.2.2.2.2.2.2.2.2.2.1, l2.2.2.2.2.2.2.2.2.2.2⟩) ?_
                  intro q12_201 g202
                  refine o_okI (fun c203 => ?_) (fun c203 => ?_)
                  · refine o_okW (s_Pt_parse_j226  hn g202 ⟨l2.1, l2.2.1, l2.2.2.1, (by first | with_reducible exact True.intro | with_reducible assumption | grind [-Prod] | grind [-Prod, → sc_Pg, → sc_Pt] | grind [-Prod, I_Pg, I_Pt, o_bn, upd]), (by first | with_reducible exact True.intro | with_reducible assumption | grind [-Prod] | grind [-Prod, → sc_Pg, → sc_Pt] | grind [-Prod, I_Pg, I_Pt, o_bn, upd]), (by first | with_reducible exact True.intro | with_reducible assumption | grind [-Prod] | grind [-Prod, → sc_Pg, → sc_Pt] | grind [-Prod, I_Pg, I_Pt, o_bn, upd]), (by first | with_reducible exact True.intro | with_reducible assumption | grind [-Prod] | grind [-Prod, → sc_Pg, → sc_Pt] | grind [-Prod, I_Pg, I_Pt, o_bn, upd]), l2.2.2.2.2.2.2.2.1, l2.2.2.2.2.2.2.2.2.1, l2.2.2.2.2.2.2.2.2.2.1, l2.2.2.2.2.2.2.2.2.2.2⟩ (by first | with_reducible exact True.intro | with_reducible assumption | grind [-Prod] | grind [-Prod, → sc_Pg, → sc_Pt] | grind [-Prod, I_Pg, I_Pt, o_bn, upd]) (by first | with_reducible exact True.intro | with_reducible assumption | grind [-Prod] | grind [-Prod, → sc_Pg, → sc_Pt] | grind [-Prod, I_Pg, I_Pt, o_bn, upd]) (by first | with_reducible exact True.intro | with_reducible assumption | grind [-Prod] | grind [-Prod, → sc_Pg, → sc_Pt] | grind [-Prod, I_Pg, I_Pt, o_bn, upd]) (by first | with_reducible exact True.intro | with_reducible assumption | grind [-Prod] | grind [-Prod, → sc_Pg, → sc_Pt] | grind [-Prod, I_Pg, I_Pt, o_bn, upd])) (fun r hr => ?_)
                    first | exact hr | (obtain ⟨g204, g205, g206⟩ := hr; refine ⟨fun h0 => ⟨?_, ?_, ?_, ?_⟩, fun h0 => ⟨?_, ?_⟩⟩ <;> (first | with_reducible exact True.intro | with_reducible assumption | (exact o_muL (by first | with_reducible exact True.intro | with_reducible assumption | grind [-Prod] | grind [-Prod, → sc_Pg, → sc_Pt] | grind [-Prod, I_Pg, I_Pt, o_bn, upd])) | (first | with_reducible exact True.intro | with_reducible assumption | grind [-Prod] | grind [-Prod, → sc_Pg, → sc_Pt] | grind [-Prod, I_Pg, I_Pt, o_bn, upd])))
                  · refine o_okW (s_Pt_parse_j226  hn g202 ⟨l2.1, l2.2.1, l2.2.2.1, (by first | with_reducible exact True.intro | with_reducible assumption | grind [-Prod] | grind [-Prod, → sc_Pg, → sc_Pt] | grind [-Prod, I_Pg, I_Pt, o_bn, upd]), (by first | with_reducible exact True.intro | with_reducible assumption | grind [-Prod] | grind [-Prod, → sc_Pg, → sc_Pt] | grind [-Prod, I_Pg, I_Pt, o_bn, upd]), (by first | with_reducible exact True.intro | with_reducible assumption | grind [-Prod] | grind [-Prod, → sc_Pg, → sc_Pt] | grind [-Prod, I_Pg, I_Pt, o_bn, upd]), (by first | with_reducible exact True.intro | with_reducible assumption | grind [-Prod] | grind [-Prod, → sc_Pg, → sc_Pt] | grind [-Prod, I_Pg, I_Pt, o_bn, upd]), l2.2.2.2.2.2.2.2.1, l2.2.2.2.2.2.2.2.2.1, l2.2.2.2.2.2.2.2.2.2.1, l2.2.2.2.2.2.2.2.2.2.2⟩ (by first | with_reducible exact True.intro | with_reducible assumption | grind [-Prod] | grind [-Prod, → sc_Pg, → sc_Pt] | grind [-Prod, I_Pg, I_Pt, o_bn, upd]) (by first | with_reducible exact True.intro | with_reducible assumption | grind [-Prod] | grind [-Prod, → sc_Pg, → sc_Pt] | grind [-Prod, I_Pg, I_Pt, o_bn, upd]) (by first | with_reducible exact True.intro | with_reducible assumption | grind [-Prod] | grind [-Prod, → sc_Pg, → sc_Pt] | grind [-Prod, I_Pg, I_Pt, o_bn, upd]) (by first | with_reducible exact True.intro | with_reducible assumption | grind [-Prod] | grind [-Prod, → sc_Pg, → sc_Pt] | grind [-Prod, I_Pg, I_Pt, o_bn, upd])) (fun r hr => ?_)
                    first | exact hr | (obtain ⟨g207, g208, g209⟩ := hr; refine ⟨fun h0 => ⟨?_, ?_, ?_, ?_⟩, fun h0 => ⟨?_, ?_⟩⟩ <;> (first | with_reducible exact True.intro | with_reducible assumption | (exact o_muL (by first | with_reducible exact True.intro | with_reducible assumption | grind [-Prod] | grind [-Prod, → sc_Pg, → sc_Pt] | grind [-Prod, I_Pg, I_Pt, o_bn, upd])) | (first | with_reducible exact True.intro | with_reducible assumption | grind [-Prod] | grind [-Prod, → sc_Pg, → sc_Pt] | grind [-Prod, I_Pg, I_Pt, o_bn, upd])))
                · unfold m_Pt_parse_j128
                  refine o_okG (o_inM (m := 31) rfl (by first | with_reducible exact True.intro | with_reducible assumption | grind [-Prod] | grind [-Prod, → sc_Pg, → sc_Pt] | grind [-Prod, I_Pg, I_Pt, o_bn, upd]) (by first | with_reducible exact True.intro | with_reducible assumption | grind [-Prod] | grind [-Prod, → sc_Pg, → sc_Pt] | grind [-Prod, I_Pg, I_Pt, o_bn, upd])) ?_
                  refine o_okN (fun x3_139_210 ex3_139_210 => ?_)
                  refine o_okG (o_inM (m := 31) rfl (by first | with_reducible exact True.intro | with_reducible assumption | grind [-Prod] | grind [-Prod, → sc_Pg, → sc_Pt] | grind [-Prod, I_Pg, I_Pt, o_bn, upd]) (by first | with_reducible exact True.intro | with_reducible assumption | grind [-Prod] | grind [-Prod, → sc_Pg, → sc_Pt] | grind [-Prod, I_Pg, I_Pt, o_bn, upd])) ?_
                  refine o_okN (fun x4_149_211 ex4_149_211 => ?_)
                  refine o_okB (s_Pt_endBlock  hn l1 ⟨l2.1, l2.2.1, l2.2.2.1, (by first | with_reducible exact True.intro | with_reducible assumption | grind [-Prod] | grind [-Prod, → sc_Pg, → sc_Pt] | grind [-Prod, I_Pg, I_Pt, o_bn, upd]), (by first | with_reducible exact True.intro | with_reducible assumption | grind [-Prod] | grind [-Prod, → sc_Pg, → sc_Pt] | grind [-Prod, I_Pg, I_Pt, o_bn, upd]), l2.2.2.2.2.2.1, l2.2.2.2.2.2.2.1, l2.2.2.2.2.2.2.2.1, l2.2.2.2.2.2.2.2.2.1, l2.2.2.2.2.2.2.2.2.2.1, l2.2.2.2.2.2.2.2.2.2.2⟩) ?_
                  intro q12_212 g213
                  refine o_okI (fun c214 => ?_) (fun c214 => ?_)
                  · refine o_okW (s_Pt_parse_j226  hn g213 ⟨l2.1, l2.2.1, l2.2.2.1, (by first | with_reducible exact True.intro | with_reducible assumption | grind [-Prod] | grind [-Prod, → sc_Pg, → sc_Pt] | grind [-Prod, I_Pg, I_Pt, o_bn, upd]), (by first | with_reducible exact True.intro | with_reducible assumption | grind [-Prod] | grind [-Prod, → sc_Pg, → sc_Pt] | grind [-Prod, I_Pg, I_Pt, o_bn, upd]), (by first | with_reducible exact True.intro | with_reducible assumption | grind [-Prod] | grind [-Prod, → sc_Pg, → sc_Pt] | grind [-Prod, I_Pg, I_Pt, o_bn, upd]), (by first | with_reducible exact True.intro | with_reducible assumption | grind [-Prod] | grind [-Prod, → sc_Pg, → sc_Pt] | grind [-Prod, I_Pg, I_Pt, o_bn, upd]), l2.2.2.2.2.2.2.2.1, l2.2.2.2.2.2.2.2.2.1, l2.2.2.2.2.2.2.2.2.2.1, l2.2.2.2.2.2.2.2.2.2.2⟩ (by first | with_reducible exact True.intro | with_reducible assumption | grind [-Prod] | grind [-Prod, → sc_Pg, → sc_Pt] | grind [-Prod, I_Pg, I_Pt, o_bn, upd]) (by first | with_reducible exact True.intro | with_reducible assumption | grind [-Prod] | grind [-Prod, → sc_Pg, → sc_Pt] | grind [-Prod, I_Pg, I_Pt, o_bn, upd]) (by first | with_reducible exact True.intro | with_reducible assumption | grind [-Prod] | grind [-Prod, → sc_Pg, → sc_Pt] | grind [-Prod, I_Pg, I_Pt, o_bn, upd]) (by first | with_reducible exact True.intro | with_reducible assumption | grind [-Prod] | grind [-Prod, → sc_Pg, → sc_Pt] | grind [-Prod, I_Pg, I_Pt, o_bn, upd])) (fun r hr => ?_)
                    first | exact hr | (obtain ⟨g215, g216, g217⟩ := hr; refine ⟨fun h0 => ⟨?_, ?_, ?_, ?_⟩, fun h0 => ⟨?_, ?_⟩⟩ <;> (first | with_reducible exact True.intro | with_reducible assumption | (exact o_muL (by first | with_reducible exact True.intro | with_reducible assumption | grind [-Prod] | grind [-Prod, → sc_Pg, → sc_Pt] | grind [-Prod, I_Pg, I_Pt, o_bn, upd])) | (first | with_reducible exact True.intro | with_reducible assumption | grind [-Prod] | grind [-Prod, → sc_Pg, → sc_Pt] | grind [-Prod, I_Pg, I_Pt, o_bn, upd])))
                  · refine o_okW (s_Pt_parse_j226  hn g213 ⟨l2.1, l2.2.1, l2.2.2.1, (by first | with_reducible exact True.intro | with_reducible assumption | grind [-Prod] | grind [-Prod, → sc_Pg, → sc_Pt] | grind [-Prod, I_Pg, I_Pt, o_bn, upd]), (by first | with_reducible exact True.intro | with_reducible assumption | grind [-Prod] | grind [-Prod, → sc_Pg, → sc_Pt] | grind [-Prod, I_Pg, I_Pt, o_bn, upd]), (by first | with_reducible exact True.intro | with_reducible assumption | grind [-Prod] | grind [-Prod, → sc_Pg, → sc_Pt] | grind [-Prod, I_Pg, I_Pt, o_bn, upd]), (by first | with_reducible exact True.intro | with_reducible assumption | grind [-Prod] | grind [-Prod, → sc_Pg, → sc_Pt] | grind [-Prod, I_Pg, I_Pt, o_bn, upd]), l2.2.2.2.2.2.2.2.1, l2.2.2.2.2.2.2.2.2.1, l2.2.2.2.2.2.2.2.2.2.1, l2.2.2.2.2.2.2.2.2.2.2⟩ (by first | with_reducible exact True.intro | with_reducible assumption | grind [-Prod] | grind [-Prod, → sc_Pg, → sc_Pt] | grind [-Prod, I_Pg, I_Pt, o_bn, upd]) (by first | with_reducible exact True.intro | with_reducible assumption | grind [-Prod] | grind [-Prod, → sc_Pg, → sc_Pt] | grind [-Prod, I_Pg, I_Pt, o_bn, upd]) (by first | with_reducible exact True.intro | with_reducible assumption | grind [-Prod] | grind [-Prod, → sc_Pg, → sc_Pt] | grind [-Prod, I_Pg, I_Pt, o_bn, upd]) (by first | with_reducible exact True.intro | with_reducible assumption | grind [-Prod] | grind [-Prod, → sc_Pg, → sc_Pt] | grind [-Prod, I_Pg, I_Pt, o_bn, upd])) (fun r hr => ?_)
                    first | exact hr | (obtain ⟨g218, g219, g220⟩ := hr; refine ⟨fun h0 => ⟨?_, ?_, ?_, ?_⟩, fun h0 => ⟨?_, ?_⟩⟩ <;> (first | with_reducible exact True.intro | with_reducible assumption | (exact o_muL (by first | with_reducible exact True.intro | with_reducible assumption | grind [-Prod] | grind [-Prod, → sc_Pg, → sc_Pt] | grind [-Prod, I_Pg, I_Pt, o_bn, upd])) | (first | with_reducible exact True.intro | with_reducible assumption | grind [-Prod] | grind [-Prod, → sc_Pg, → sc_Pt] | grind [-Prod, I_Pg, I_Pt, o_bn, upd])))
              · refine o_okI (fun c221 => ?_) (fun c221 => ?_)
                · refine o_okB (s_Pt_openGroup  l1 ⟨l2.1, l2.2.1, l2.2.2.1, (by first | with_reducible exact True.intro | with_reducible assumption | grind [-Prod] | grind [-Prod, → sc_Pg, → sc_Pt] | grind [-Prod, I_Pg, I_Pt, o_bn, upd]), (by first | with_reducible exact True.intro | with_reducible assumption | grind [-Prod] | grind [-Prod, → sc_Pg, → sc_Pt] | grind [-Prod, I_Pg, I_Pt, o_bn, upd]), l2.2.2.2.2.2.1, l2.2.2.2.2.2.2.1, l2.2.2.2.2.2.2.2.1, l2.2.2.2.2.2.2.2.2.1, l2.2.2.2.2.2.2.2.2.2.1, l2.2.2.2.2.2.2.2.2.2.2⟩ (by first | with_reducible exact True.intro | with_reducible assumption | grind [-Prod] | grind [-Prod, → sc_Pg, → sc_Pt] | grind [-Prod, I_Pg, I_Pt, o_bn, upd])) ?_
                  intro q11_222 ⟨g223, g224, g225⟩
                  refine o_okW (s_Pt_parse_j226  hn l1 g225 (by first | with_reducible exact True.intro | with_reducible assumption | grind [-Prod] | grind [-Prod, → sc_Pg, → sc_Pt] | grind [-Prod, I_Pg, I_Pt, o_bn, upd]) (by first | with_reducible exact True.intro | with_reducible assumption | grind [-Prod] | grind [-Prod, → sc_Pg, → sc_Pt] | grind [-Prod, I_Pg, I_Pt, o_bn, upd]) (by first | with_reducible exact True.intro | with_reducible assumption | grind [-Prod] | grind [-Prod, → sc_Pg, → sc_Pt] | grind [-Prod, I_Pg, I_Pt, o_bn, upd]) (by first | with_reducible exact True.intro | with_reducible assumption | grind [-Prod] | grind [-Prod, → sc_Pg, → sc_Pt] | grind [-Prod, I_Pg, I_Pt, o_bn, upd])) (fun r hr => ?_)
                  first | exact hr | (obtain ⟨g226, g227, g228⟩ := hr; refine ⟨fun h0 => ⟨?_, ?_, ?_, ?_⟩, fun h0 => ⟨?_, ?_⟩⟩ <;> (first | with_reducible exact True.intro | with_reducible assumption | (exact o_muL (by first | with_reducible exact True.intro | with_reducible assumption | grind [-Prod] | grind [-Prod, → sc_Pg, → sc_Pt] | grind [-Prod, I_Pg, I_Pt, o_bn, upd])) | (first | with_reducible exact True.intro | with_reducible assumption | grind [-Prod] | grind [-Prod, → sc_Pg, → sc_Pt] | grind [-Prod, I_Pg, I_Pt, o_bn, upd])))
                · refine o_okI (fun c229 => ?_) (fun c229 => ?_)
                  · refine o_okB (s_Pt_nextBranch  l1 ⟨l2.1, l2.2.1, l2.2.2.1, (by first | with_reducible exact True.intro | with_reducible assumption | grind [-Prod] | grind [-Prod, → sc_Pg, → sc_Pt] | grind [-Prod, I_Pg, I_Pt, o_bn, upd]), (by first | with_reducible exact True.intro | with_reducible assumption | grind [-Prod] | grind [-Prod, → sc_Pg, → sc_Pt] | grind [-Prod, I_Pg, I_Pt, o_bn, upd]), l2.2.2.2.2.2.1, l2.2.2.2.2.2.2.1, l2.2.2.2.2.2.2.2.1, l2.2.2.2.2.2.2.2.2.1, l2.2.2.2.2.2.2.2.2.2.1, l2.2.2.2.2.2.2.2.2.2.2⟩) ?_
                    intro q10_230 ⟨g231, g232, g233⟩
                    refine o_okW (s_Pt_parse_j226  hn g232 g233 (by first | with_reducible exact True.intro | with_reducible assumption | grind [-Prod] | grind [-Prod, → sc_Pg, → sc_Pt] | grind [-Prod, I_Pg, I_Pt, o_bn, upd]) (by first | with_reducible exact True.intro | with_reducible assumption | grind [-Prod] | grind [-Prod, → sc_Pg, → sc_Pt] | grind [-Prod, I_Pg, I_Pt, o_bn, upd]) (by first | with_reducible exact True.intro | with_reducible assumption | grind [-Prod] | grind [-Prod, → sc_Pg, → sc_Pt] | grind [-Prod, I_Pg, I_Pt, o_bn, upd]) (by first | with_reducible exact True.intro | with_reducible assumption | grind [-Prod] | grind [-Prod, → sc_Pg, → sc_Pt] | grind [-Prod, I_Pg, I_Pt, o_bn, upd])) (fun r hr => ?_)
                    first | exact hr | (obtain ⟨g234, g235, g236⟩ := hr; refine ⟨fun h0 => ⟨?_, ?_, ?_, ?_⟩, fun h0 => ⟨?_, ?_⟩⟩ <;> (first | with_reducible exact True.intro | with_reducible assumption | (exact o_muL (by first | with_reducible exact True.intro | with_reducible assumption | grind [-Prod] | grind [-Prod, → sc_Pg, → sc_Pt] | grind [-Prod, I_Pg, I_Pt, o_bn, upd])) | (first | with_reducible exact True.intro | with_reducible assumption | grind [-Prod] | grind [-Prod, → sc_Pg, → sc_Pt] | grind [-Prod, I_Pg, I_Pt, o_bn, upd])))
                  · refine o_okI (fun c237 => ?_) (fun c237 => ?_)
                    · refine o_okB (s_Pt_readSet  hn l1 ⟨l2.1, l2.2.1, l2.2.2.1, (by first | with_reducible exact True.intro | with_reducible assumption | grind [-Prod] | grind [-Prod, → sc_Pg, → sc_Pt] | grind [-Prod, I_Pg, I_Pt, o_bn, upd]), (by first | with_reducible exact True.intro | with_reducible assumption | grind [-Prod] | grind [-Prod, → sc_Pg, → sc_Pt] | grind [-Prod, I_Pg, I_Pt, o_bn, upd]), l2.2.2.2.2.2.1, l2.2.2.2.2.2.2.1, l2.2.2.2.2.2.2.2.1, l2.2.2.2.2.2.2.2.2.1, l2.2.2.2.2.2.2.2.2.2.1, l2.2.2.2.2.2.2.2.2.2.2⟩ (by first | with_reducible exact True.intro | with_reducible assumption | grind [-Prod] | grind [-Prod, → sc_Pg, → sc_Pt] | grind [-Prod, I_Pg, I_Pt, o_bn, upd])) ?_
                      intro q9_238 ⟨g239, g240, g241, g242⟩
                      unfold m_Pt_parse_j221
                      refine o_okB (s_Pt_single  g241 g242 (by first | with_reducible exact True.intro | with_reducible assumption | grind [-Prod] | grind [-Prod, → sc_Pg, → sc_Pt] | grind [-Prod, I_Pg, I_Pt, o_bn, upd]) (by first | with_reducible exact True.intro | with_reducible assumption | grind [-Prod] | grind [-Prod, → sc_Pg, → sc_Pt] | grind [-Prod, I_Pg, I_Pt, o_bn, upd])) ?_
                      intro q4_243 ⟨g244, g245, g246, g247⟩
                      refine o_okW (s_Pt_parse_j226  hn g246 g247 (by first | with_reducible exact True.intro | with_reducible assumption | grind [-Prod] | grind [-Prod, → sc_Pg, → sc_Pt] | grind [-Prod, I_Pg, I_Pt, o_bn, upd]) (by first | with_reducible exact True.intro | with_reducible assumption | grind [-Prod] | grind [-Prod, → sc_Pg, → sc_Pt] | grind [-Prod, I_Pg, I_Pt, o_bn, upd]) (by first | with_reducible exact True.intro | with_reducible assumption | grind [-Prod] | grind [-Prod, → sc_Pg, → sc_Pt] | grind [-Prod, I_Pg, I_Pt, o_bn, upd]) (by first | with_reducible exact True.intro | with_reducible assumption | grind [-Prod] | grind [-Prod, → sc_Pg, → sc_Pt] | grind [-Prod, I_Pg, I_Pt, o_bn, upd])) (fun r hr => ?_)
                      first | exact hr | (obtain ⟨g248, g249, g250⟩ := hr; refine ⟨fun h0 => ⟨?_, ?_, ?_, ?_⟩, fun h0 => ⟨?_, ?_⟩⟩ <;> (first | with_reducible exact True.intro | with_reducible assumption | (exact o_muL (by first | with_reducible exact True.intro | with_reducible assumption | grind [-Prod] | grind [-Prod, → sc_Pg, → sc_Pt] | grind [-Prod, I_Pg, I_Pt, o_bn, upd])) | (first | with_reducible exact True.intro | with_reducible assumption | grind [-Prod] | grind [-Prod, → sc_Pg, → sc_Pt] | grind [-Prod, I_Pg, I_Pt, o_bn, upd])))
                    · unfold m_Pt_parse_j221
                      refine o_okB (s_Pt_single  l1 ⟨l2.1, l2.2.1, l2.2.2.1, (by first | with_reducible exact True.intro | with_reducible assumption | grind [-Prod] | grind [-Prod, → sc_Pg, → sc_Pt] | grind [-Prod, I_Pg, I_Pt, o_bn, upd]), (by first | with_reducible exact True.intro | with_reducible assumption | grind [-Prod] | grind [-Prod, → sc_Pg, → sc_Pt] | grind [-Prod, I_Pg, I_Pt, o_bn, upd]), l2.2.2.2.2.2.1, l2.2.2.2.2.2.2.1, l2.2.2.2.2.2.2.2.1, l2.2.2.2.2.2.2.2.2.1, l2.2.2.2.2.2.2.2.2.2.1, l2.2.2.2.2.2.2.2.2.2.2⟩ (by first | with_reducible exact True.intro | with_reducible assumption | grind [-Prod] | grind [-Prod, → sc_Pg, → sc_Pt] | grind [-Prod, I_Pg, I_Pt, o_bn, upd]) (by first | with_reducible exact True.intro | with_reducible assumption | grind [-Prod] | grind [-Prod, → sc_Pg, → sc_Pt] | grind [-Prod, I_Pg, I_Pt, o_bn, upd])) ?_
                      intro q4_251 ⟨g252, g253, g254, g255⟩
                      refine o_okW (s_Pt_parse_j226  hn g254 g255 (by first | with_reducible exact True.intro | with_reducible assumption | grind [-Prod] | grind [-Prod, → sc_Pg, → sc_Pt] | grind [-Prod, I_Pg, I_Pt, o_bn, upd]) (by first | with_reducible exact True.intro | with_reducible assumption | grind [-Prod] | grind [-Prod, → sc_Pg, → sc_Pt] | grind [-Prod, I_Pg, I_Pt, o_bn, upd]) (by first | with_reducible exact True.intro | with_reducible assumption | grind [-Prod] | grind [-Prod, → sc_Pg, → sc_Pt] | grind [-Prod, I_Pg, I_Pt, o_bn, upd]) (by first | with_reducible exact True.intro | with_reducible assumption | grind [-Prod] | grind [-Prod, → sc_Pg, → sc_Pt] | grind [-Prod, I_Pg, I_Pt, o_bn, upd])) (fun r hr => ?_)
                      first | exact hr | (obtain ⟨g256, g257, g258⟩ := hr; refine ⟨fun h0 => ⟨?_, ?_, ?_, ?_⟩, fun h0 => ⟨?_, ?_⟩⟩ <;> (first | with_reducible exact True.intro | with_reducible assumption | (exact o_muL (by first | with_reducible exact True.intro | with_reducible assumption | grind [-Prod] | grind [-Prod, → sc_Pg, → sc_Pt] | grind [-Prod, I_Pg, I_Pt, o_bn, upd])) | (first | with_reducible exact True.intro | with_reducible assumption | grind [-Prod] | grind [-Prod, → sc_Pg, → sc_Pt] | grind [-Prod, I_Pg, I_Pt, o_bn, upd])))
            · unfold m_Pt_parse_j105
              refine o_okI (fun c259 => ?_) (fun c259 => ?_)
              · refine o_okI (fun c260 => ?_) (fun c260 => ?_)
                · unfold m_Pt_parse_j128
                  refine o_okG (o_inM (m := 31) rfl (by first | with_reducible exact True.intro | with_reducible assumption | grind [-Prod] | grind [-Prod, → sc_Pg, → sc_Pt] | grind [-Prod, I_Pg, I_Pt, o_bn, upd]) (by first | with_reducible exact True.intro | with_reducible assumption | grind [-Prod] | grind [-Prod, → sc_Pg, → sc_Pt] | grind [-Prod, I_Pg, I_Pt, o_bn, upd])) ?_
                  refine o_okN (fun x3_139_261 ex3_139_261 => ?_)
                  refine o_okG (o_inM (m := 31) rfl (by first | with_reducible exact True.intro | with_reducible assumption | grind [-Prod] | grind [-Prod, → sc_Pg, → sc_Pt] | grind [-Prod, I_Pg, I_Pt, o_bn, upd]) (by first | with_reducible exact True.intro | with_reducible assumption | grind [-Prod] | grind [-Prod, → sc_Pg, → sc_Pt] | grind [-Prod, I_Pg, I_Pt, o_bn, upd])) ?_
                  refine o_okN (fun x4_149_262 ex4_149_262 => ?_)
                  refine o_okB (s_Pt_endBlock  hn l1 ⟨l2.1, l2.2.1, l2.2.2.1, (by first | with_reducible exact True.intro | with_reducible assumption | grind [-Prod] | grind [-Prod, → sc_Pg, → sc_Pt] | grind [-Prod, I_Pg, I_Pt, o_bn, upd]), (by first | with_reducible exact True.intro | with_reducible assumption | grind [-Prod] | grind [-Prod, → sc_Pg, → sc_Pt] | grind [-Prod, I_Pg, I_Pt, o_bn, upd]), l2.2.2.2.2.2.1, l2.2.2.2.2.2.2.1, l2.2.2.2.2.2.2.2.1, l2.2.2.2.2.2.2.2.2.1, l2.2.2.2.2.2.2.2.2.2.1, l2.2.2.2.2.2.2.2.2.2.2⟩) ?_
                  intro q12_263 g264
                  refine o_okI (fun c265 => ?_) (fun c265 => ?_)
                  · refine o_okW (s_Pt_parse_j226  hn g264 ⟨l2.1, l2.2.1, l2.2.2.1, (by first | with_reducible exact True.intro | with_reducible assumption | grind [-Prod] | grind [-Prod, → sc_Pg, → sc_Pt] | grind [-Prod, I_Pg, I_Pt, o_bn, upd]), (by first | with_reducible exact True.intro | with_reducible assumption | grind [-Prod] | grind [-Prod, → sc_Pg, → sc_Pt] | grind [-Prod, I_Pg, I_Pt, o_bn, upd]), (by first | with_reducible exact True.intro | with_reducible assumption | grind [-Prod] | grind [-Prod, → sc_Pg, → sc_Pt] | grind [-Prod, I_Pg, I_Pt, o_bn, upd]), (by first | with_reducible exact True.intro | with_reducible assumption | grind [-Prod] | grind [-Prod, → sc_Pg, → sc_Pt] | grind [-Prod, I_Pg, I_Pt, o_bn, upd]), l2.2.2.2.2.2.2.2.1, l2.2.2.2.2.2.2.2.2.1, l2.2.2.2.2.2.2.2.2.2.1, l2.2.2.2.2.2.2.2.2.2.2⟩ (by first | with_reducible exact True.intro | with_reducible assumption | grind [-Prod] | grind [-Prod, → sc_Pg, → sc_Pt] | grind [-Prod, I_Pg, I_Pt, o_bn, upd]) (by first | with_reducible exact True.intro | with_reducible assumption | grind [-Prod] | grind [-Prod, → sc_Pg, → sc_Pt] | grind [-Prod, I_Pg, I_Pt, o_bn, upd]) (by first | with_reducible exact True.intro | with_reducible assumption | grind [-Prod] | grind [-Prod, → sc_Pg, → sc_Pt] | grind [-Prod, I_Pg, I_Pt, o_bn, upd]) (by first | with_reducible exact True.intro | with_reducible assumption | grind [-Prod] | grind [-Prod, → sc_Pg, → sc_Pt] | grind [-Prod, I_Pg, I_Pt, o_bn, upd])) (fun r hr => ?_)
                    first | exact hr | (obtain ⟨g266, g267, g268⟩ := hr; refine ⟨fun h0 => ⟨?_, ?_, ?_, ?_⟩, fun h0 => ⟨?_, ?_⟩⟩ <;> (first | with_reducible exact True.intro | with_reducible assumption | (exact o_muL (by first | with_reducible exact True.intro | with_reducible assumption | grind [-Prod] | grind [-Prod, → sc_Pg, → sc_Pt] | grind [-Prod, I_Pg, I_Pt, o_bn, upd])) | (first | with_reducible exact True.intro | with_reducible assumption | grind [-Prod] | grind [-Prod, → sc_Pg, → sc_Pt] | grind [-Prod, I_Pg, I_Pt, o_bn, upd])))
                  · refine o_okW (s_Pt_parse_j226  hn g264 ⟨l2.1, l2.2.1, l2.2.2.1, (by first | with_reducible exact True.intro | with_reducible assumption | grind [-Prod] | grind [-Prod, → sc_Pg, → sc_Pt] | grind [-Prod, I_Pg, I_Pt, o_bn, upd]), (by first | with_reducible exact True.intro | with_reducible assumption | grind [-Prod] | grind [-Prod, → sc_Pg, → sc_Pt] | grind [-Prod, I_Pg, I_Pt, o_bn, upd]), (by first | with_reducible exact True.intro | with_reducible assumption | grind [-Prod] | grind [-Prod, → sc_Pg, → sc_Pt] | grind [-Prod, I_Pg, I_Pt, o_bn, upd]), (by first | with_reducible exact True.intro | with_reducible assumption | grind [-Prod] | grind [-Prod, → sc_Pg, → sc_Pt] | grind [-Prod, I_Pg, I_Pt, o_bn, upd]), l2.2.2.2.2.2.2.2.1, l2.2.2.2.2.2.2.2.2.1, l2.2.2.2.2.2.2.2.2.2.1, l2.2.2.2.2.2.2.2.2.2.2⟩ (by first | with_reducible exact True.intro | with_reducible assumption | grind [-Prod] | grind [-Prod, → sc_Pg, → sc_Pt] | grind [-Prod, I_Pg, I_Pt, o_bn, upd]) (by first | with_reducible exact True.intro | with_reducible assumption | grind [-Prod] | grind [-Prod, → sc_Pg, → sc_Pt] | grind [-Prod, I_Pg, I_Pt, o_bn, upd]) (by first | with_reducible exact True.intro | with_reducible assumption | grind [-Prod] | grind [-Prod, → sc_Pg, → sc_Pt] | grind [-Prod, I_Pg, I_Pt, o_bn, upd]) (by first | with_reducible exact True.intro | with_reducible assumption | grind [-Prod] | grind [-Prod, → sc_Pg, → sc_Pt] | grind [-Prod, I_Pg, I_Pt, o_bn, upd])) (fun r hr => ?_)
                    first | exact hr | (obtain ⟨g269, g270, g271⟩ := hr; refine ⟨fun h0 => ⟨?_, ?_, ?_, ?_⟩, fun h0 => ⟨?_, ?_⟩⟩ <;> (first | with_reducible exact True.intro | with_reducible assumption | (exact o_muL (by first | with_reducible exact True.intro | with_reducible assumption | grind [-Prod] | grind [-Prod, → sc_Pg, → sc_Pt] | grind [-Prod, I_Pg, I_Pt, o_bn, upd])) | (first | with_reducible exact True.intro | with_reducible assumption | grind [-Prod] | grind [-Prod, → sc_Pg, → sc_Pt] | grind [-Prod, I_Pg, I_Pt, o_bn, upd])))
                · unfold m_Pt_parse_j128
                  refine o_okG (o_inM (m := 31) rfl (by first | with_reducible exact True.intro | with_reducible assumption | grind [-Prod] | grind [-Prod, → sc_Pg, → sc_Pt] | grind [-Prod, I_Pg, I_Pt, o_bn, upd]) (by first | with_reducible exact True.intro | with_reducible assumption | grind [-Prod] | grind [-Prod, → sc_Pg, → sc_Pt] | grind [-Prod, I_Pg, I_Pt, o_bn, upd])) ?_
                  refine o_okN (fun x3_139_272 ex3_139_272 => ?_)
                  refine o_okG (o_inM (m := 31) rfl (by first | with_reducible exact True.intro | with_reducible assumption | grind [-Prod] | grind [-Prod, → sc_Pg, → sc_Pt] | grind [-Prod, I_Pg, I_Pt, o_bn, upd]) (by first | with_reducible exact True.intro | with_reducible assumption | grind [-Prod] | grind [-Prod, → sc_Pg, → sc_Pt] | grind [-Prod, I_Pg, I_Pt, o_bn, upd])) ?_
                  refine o_okN (fun x4_149_273 ex4_149_273 => ?_)
                  refine o_okB (s_Pt_endBlock  hn l1 ⟨l2.1, l2.2.1, l2.2.2.1, (by first | with_reducible exact True.intro | with_reducible assumption | grind [-Prod] | grind [-Prod, → sc_Pg, → sc_Pt] | grind [-Prod, I_Pg, I_Pt, o_bn, upd]), (by first | with_reducible exact True.intro | with_reducible assumption | grind [-Prod] | grind [-Prod, → sc_Pg, → sc_Pt] | grind [-Prod, I_Pg, I_Pt, o_bn, upd]), l2.2.2.2.2.2.1, l2.2.2.2.2.2.2.1, l2.2.2.2.2.2.2.2.1, l2.2.2.2.2.2.2.2.2.1, l2.2.2.2.2.2.2.2.2.2.1, l2.2.2.2.2.2.2.2.2.2.2⟩) ?_
                  intro q12_274 g275
                  refine o_okI (fun c276 => ?_) (fun c276 => ?_)
                  · refine o_okW (s_Pt_parse_j226  hn g275 ⟨l2.1, l2.2.1, l2.2.2.1, (by first | with_reducible exact True.intro | with_reducible assumption | grind [-Prod] | grind [-Prod, → sc_Pg, → sc_Pt] | grind [-Prod, I_Pg, I_Pt, o_bn, upd]), (by first | with_reducible exact True.intro | with_reducible assumption | grind [-Prod] | grind [-Prod, → sc_Pg, → sc_Pt] | grind [-Prod, I_Pg, I_Pt, o_bn, upd]), (by first | with_reducible exact True.intro | with_reducible assumption | grind [-Prod] | grind [-Prod, → sc_Pg, → sc_Pt] | grind [-Prod, I_Pg, I_Pt, o_bn, upd]), (by first | with_reducible exact True.intro | with_reducible assumption | grind [-Prod] | grind [-Prod, → sc_Pg, → sc_Pt] | grind [-Prod, I_Pg, I_Pt, o_bn, upd]), l2.2.2.2.2.2.2.2.1, l2.2.2.2.2.2.2.2.2.1, l2.2.2.2.2.2.2.2.2.2.1, l2.2.2.2.2.2.2.2.2.2.2⟩ (by first | with_reducible exact True.intro | with_reducible assumption | grind [-Prod] | grind [-Prod, → sc_Pg, → sc_Pt] | grind [-Prod, I_Pg, I_Pt, o_bn, upd]) (by first | with_reducible exact True.intro | with_reducible assumption | grind [-Prod] | grind [-Prod, → sc_Pg, → sc_Pt] | grind [-Prod, I_Pg, I_Pt, o_bn, upd]) (by first | with_reducible exact True.intro | with_reducible assumption | grind [-Prod] | grind [-Prod, → sc_Pg, → sc_Pt] | grind [-Prod, I_Pg, I_Pt, o_bn, upd]) (by first | with_reducible exact True.intro | with_reducible assumption | grind [-Prod] | grind [-Prod, → sc_Pg, → sc_Pt] | grind [-Prod, I_Pg, I_Pt, o_bn, upd])) (fun r hr => ?_)
                    first | exact hr | (obtain ⟨g277, g278, g279⟩ := hr; refine ⟨fun h0 => ⟨?_, ?_, ?_, ?_⟩, fun h0 => ⟨?_, ?_⟩⟩ <;> (first | with_reducible exact True.intro | with_reducible assumption | (exact o_muL (by first | with_reducible exact True.intro | with_reducible assumption | grind [-Prod] | grind [-Prod, → sc_Pg, → sc_Pt] | grind [-Prod, I_Pg, I_Pt, o_bn, upd])) | (first | with_reducible exact True.intro | with_reducible assumption | grind [-Prod] | grind [-Prod, → sc_Pg, → sc_Pt] | grind [-Prod, I_Pg, I_Pt, o_bn, upd])))
                  · refine o_okW (s_Pt_parse_j226  hn g275 ⟨l2.1, l2.2.1, l2.2.2.1, (by first | with_reducible exact True.intro | with_reducible assumption | grind [-Prod] | grind [-Prod, → sc_Pg, → sc_Pt] | grind [-Prod, I_Pg, I_Pt, o_bn, upd]), (by first | with_reducible exact True.intro | with_reducible assumption | grind [-Prod] | grind [-Prod, → sc_Pg, → sc_Pt] | grind [-Prod, I_Pg, I_Pt, o_bn, upd]), (by first | with_reducible exact True.intro | with_reducible assumption | grind [-Prod] | grind [-Prod, → sc_Pg, → sc_Pt] | grind [-Prod, I_Pg, I_Pt, o_bn, upd]), (by first | with_reducible exact True.intro | with_reducible assumption | grind [-Prod] | grind [-Prod, → sc_Pg, → sc_Pt] | grind [-Prod, I_Pg, I_Pt, o_bn, upd]), l2.2.2.2.2.2.2.2.1, l2.2.2.2.2.2.2.2.2.1, l2.2.2.2.2.2.2.2.2.2.1, l2.2.2.2.2.2.2.2.2.2.2⟩ (by first | with_reducible exact True.intro | with_reducible assumption | grind [-Prod] | grind [-Prod, → sc_Pg, → sc_Pt] | grind [-Prod, I_Pg, I_Pt, o_bn, upd]) (by first | with_reducible exact True.intro | with_reducible assumption | grind [-Prod] | grind [-Prod, → sc_Pg, → sc_Pt] | grind [-Prod, I_Pg, I_Pt, o_bn, upd]) (by first | with_reducible exact True.intro | with_reducible assumption | grind [-Prod] | grind [-Prod, → sc_Pg, → sc_Pt] | grind [-Prod, I_Pg, I_Pt, o_bn, upd]) (by first | with_reducible exact True.intro | with_reducible assumption | grind [-Prod] | grind [-Prod, → sc_Pg, → sc_Pt] | grind [-Prod, I_Pg, I_Pt, o_bn, upd])) (fun r hr => ?_)
                    first | exact hr | (obtain ⟨g280, g281, g282⟩ := hr; refine ⟨fun h0 => ⟨?_, ?_, ?_, ?_⟩, fun h0 => ⟨?_, ?_⟩⟩ <;> (first | with_reducible exact True.intro | with_reducible assumption | (exact o_muL (by first | with_reducible exact True.intro | with_reducible assumption | grind [-Prod] | grind [-Prod, → sc_Pg, → sc_Pt] | grind [-Prod, I_Pg, I_Pt, o_bn, upd])) | (first | with_reducible exact True.intro | with_reducible assumption | grind [-Prod] | grind [-Prod, → sc_Pg, → sc_Pt] | grind [-Prod, I_Pg, I_Pt, o_bn, upd])))
              · refine o_okI (fun c283 => ?_) (fun c283 => ?_)
                · refine o_okB (s_Pt_openGroup  l1 ⟨l2.1, l2.2.1, l2.2.2.1, (by first | with_reducible exact True.intro | with_reducible assumption | grind [-Prod] | grind [-Prod, → sc_Pg, → sc_Pt] | grind [-Prod, I_Pg, I_Pt, o_bn, upd]), (by first | with_reducible exact True.intro | with_reducible assumption | grind [-Prod] | grind [-Prod, → sc_Pg, → sc_Pt] | grind [-Prod, I_Pg, I_Pt, o_bn, upd]), l2.2.2.2.2.2.1, l2.2.2.2.2.2.2.1, l2.2.2.2.2.2.2.2.1, l2.2.2.2.2.2.2.2.2.1, l2.2.2.2.2.2.2.2.2.2.1, l2.2.2.2.2.2.2.2.2.2.2⟩ (by first | with_reducible exact True.intro | with_reducible assumption | grind [-Prod] | grind [-Prod, → sc_Pg, → sc_Pt] | grind [-Prod, I_Pg, I_Pt, o_bn, upd])) ?_
                  intro q11_284 ⟨g285, g286, g287⟩
                  refine o_okW (s_Pt_parse_j226  hn l1 g287 (by first | with_reducible exact True.intro | with_reducible assumption | grind [-Prod] | grind [-Prod, → sc_Pg, → sc_Pt] | grind [-Prod, I_Pg, I_Pt, o_bn, upd]) (by first | with_reducible exact True.intro | with_reducible assumption | grind [-Prod] | grind [-Prod, → sc_Pg, → sc_Pt] | grind [-Prod, I_Pg, I_Pt, o_bn, upd]) (by first | with_reducible exact True.intro | with_reducible assumption | grind [-Prod] | grind [-Prod, → sc_Pg, → sc_Pt] | grind [-Prod, I_Pg, I_Pt, o_bn, upd]) (by first | with_reducible exact True.intro | with_reducible assumption | grind [-Prod] | grind [-Prod, → sc_Pg, → sc_Pt] | grind [-Prod, I_Pg, I_Pt, o_bn, upd])) (fun r hr => ?_)
                  first | exact hr | (obtain ⟨g288, g289, g290⟩ := hr; refine ⟨fun h0 => ⟨?_, ?_, ?_, ?_⟩, fun h0 => ⟨?_, ?_⟩⟩ <;> (first | with_reducible exact True.intro | with_reducible assumption | (exact o_muL (by first | with_reducible exact True.intro | with_reducible assumption | grind [-Prod] | grind [-Prod, → sc_Pg, → sc_Pt] | grind [-Prod, I_Pg, I_Pt, o_bn, upd])) | (first | with_reducible exact True.intro | with_reducible assumption | grind [-Prod] | grind [-Prod, → sc_Pg, → sc_Pt] | grind [-Prod, I_Pg, I_Pt, o_bn, upd])))
                · refine o_okI (fun c291 => ?_) (fun c291 => ?_)
                  · refine o_okB (s_Pt_nextBranch  l1 ⟨l2.1, l2.2.1, l2.2.2.1, (by first | with_reducible exact True.intro | with_reducible assumption | grind [-Prod] | grind [-Prod, → sc_Pg, → sc_Pt] | grind [-Prod, I_Pg, I_Pt, o_bn, upd]), (by first | with_reducible exact True.intro | with_reducible assumption | grind [-Prod] | grind [-Prod, → sc_Pg, → sc_Pt] | grind [-Prod, I_Pg, I_Pt, o_bn, upd]), l2.2.2.2.2.2.1, l2.2.2.2.2.2.2.1, l2.2.2.2.2.2.2.2.1, l2.2.2.2.2.2.2.2.2.1, l2.2.2.2.2.2.2.2.2.2.1, l2.2.2.2.2.2.2.2.2.2.2⟩) ?_
                    intro q10_292 ⟨g293, g294, g295⟩
                    refine o_okW (s_Pt_parse_j226  hn g294 g295 (by first | with_reducible exact True.intro | with_reducible assumption | grind [-Prod] | grind [-Prod, → sc_Pg, → sc_Pt] | grind [-Prod, I_Pg, I_Pt, o_bn, upd]) (by first | with_reducible exact True.intro | with_reducible assumption | grind [-Prod] | grind [-Prod, → sc_Pg, → sc_Pt] | grind [-Prod, I_Pg, I_Pt, o_bn, upd]) (by first | with_reducible exact True.intro | with_reducible assumption | grind [-Prod] | grind [-Prod, → sc_Pg, → sc_Pt] | grind [-Prod, I_Pg, I_Pt, o_bn, upd]) (by first | with_reducible exact True.intro | with_reducible assumption | grind [-Prod] | grind [-Prod, → sc_Pg, → sc_Pt] | grind [-Prod, I_Pg, I_Pt, o_bn, upd])) (fun r hr => ?_)
                    first | exact hr | (obtain ⟨g296, g297, g298⟩ := hr; refine ⟨fun h0 => ⟨?_, ?_, ?_, ?_⟩, fun h0 => ⟨?_, ?_⟩⟩ <;> (first | with_reducible exact True.intro | with_reducible assumption | (exact o_muL (by first | with_reducible exact True.intro | with_reducible assumption | grind [-Prod] | grind [-Prod, → sc_Pg, → sc_Pt] | grind [-Prod, I_Pg, I_Pt, o_bn, upd])) | (first | with_reducible exact True.intro | with_reducible assumption | grind [-Prod] | grind [-Prod, → sc_Pg, → sc_Pt] | grind [-Prod, I_Pg, I_Pt, o_bn, upd])))
                  · refine o_okI (fun c299 => ?_) (fun c299 => ?_)
                    · refine o_okB (s_Pt_readSet  hn l1 ⟨l2.1, l2.2.1, l2.2.2.1, (by first | with_reducible exact True.intro | with_reducible assumption | grind [-Prod] | grind [-Prod, → sc_Pg, → sc_Pt] | grind [-Prod, I_Pg, I_Pt, o_bn, upd]), (by first | with_reducible exact True.intro | with_reducible assumption | grind [-Prod] | grind [-Prod, → sc_Pg, → sc_Pt] | grind [-Prod, I_Pg, I_Pt, o_bn, upd]), l2.2.2.2.2.2.1, l2.2.2.2.2.2.2.1, l2.2.2.2.2.2.2.2.1, l2.2.2.2.2.2.2.2.2.1, l2.2.2.2.2.2.2.2.2.2.1, l2.2.2.2.2.2.2.2.2.2.2⟩ (by first | with_reducible exact True.intro | with_reducible assumption | grind [-Prod] | grind [-Prod, → sc_Pg, → sc_Pt] | grind [-Prod, I_Pg, I_Pt, o_bn, upd])) ?_
                      intro q9_300 ⟨g301, g302, g303, g304⟩
                      unfold m_Pt_parse_j221
                      refine o_okB (s_Pt_single  g303 g304 (by first | with_reducible exact True.intro | with_reducible assumption | grind [-Prod] | grind [-Prod, → sc_Pg, → sc_Pt] | grind [-Prod, I_Pg, I_Pt, o_bn, upd]) (by first | with_reducible exact True.intro | with_reducible assumption | grind [-Prod] | grind [-Prod, → sc_Pg, → sc_Pt] | grind [-Prod, I_Pg, I_Pt, o_bn, upd])) ?_
                      intro q4_305 ⟨g306, g307, g308, g309⟩
                      refine o_okW (s_Pt_parse_j226  hn g308 g309 (by first | with_reducible exact True.intro | with_reducible assumption | grind [-Prod] | grind [-Prod, → sc_Pg, → sc_Pt] | grind [-Prod, I_Pg, I_Pt, o_bn, upd]) (by first | with_reducible exact True.intro | with_reducible assumption | grind [-Prod] | grind [-Prod, → sc_Pg, → sc_Pt] | grind [-Prod, I_Pg, I_Pt, o_bn, upd]) (by first | with_reducible exact True.intro | with_reducible assumption | grind [-Prod] | grind [-Prod, → sc_Pg, → sc_Pt] | grind [-Prod, I_Pg, I_Pt, o_bn, upd]) (by first | with_reducible exact True.intro | with_reducible assumption | grind [-Prod] | grind [-Prod, → sc_Pg, → sc_Pt] | grind [-Prod, I_Pg, I_Pt, o_bn, upd])) (fun r hr => ?_)
                      first | exact hr | (obtain ⟨g310, g311, g312⟩ := hr; refine ⟨fun h0 => ⟨?_, ?_, ?_, ?_⟩, fun h0 => ⟨?_, ?_⟩⟩ <;> (first | with_reducible exact True.intro | with_reducible assumption | (exact o_muL (by first | with_reducible exact True.intro | with_reducible assumption | grind [-Prod] | grind [-Prod, → sc_Pg, → sc_Pt] | grind [-Prod, I_Pg, I_Pt, o_bn, upd])) | (first | with_reducible exact True.intro | with_reducible assumption | grind [-Prod] | grind [-Prod, → sc_Pg, → sc_Pt] | grind [-Prod, I_Pg, I_Pt, o_bn, upd])))
                    · unfold m_Pt_parse_j221
                      refine o_okB (s_Pt_single  l1 ⟨l2.1, l2.2.1, l2.2.2.1, (by first | with_reducible exact True.intro | with_reducible assumption | grind [-Prod] | grind [-Prod, → sc_Pg, → sc_Pt] | grind [-Prod, I_Pg, I_Pt, o_bn, upd]), (by first | with_reducible exact True.intro | with_reducible assumption | grind [-Prod] | grind [-Prod, → sc_Pg, → sc_Pt] | grind [-Prod, I_Pg, I_Pt, o_bn, upd]), l2.2.2.2.2.2.1, l2.2.2.2.2.2.2.1, l2.2.2.2.2.2.2.2.1, l2.2.2.2.2.2.2.2.2.1, l2.2.2.2.2.2.2.2.2.2.1, l2.2.2.2.2.2.2.2.2.2.2⟩ (by first | with_reducible exact True.intro | with_reducible assumption | grind [-Prod] | grind [-Prod, → sc_Pg, → sc_Pt] | grind [-Prod, I_Pg, I_Pt, o_bn, upd]) (by first | with_reducible exact True.intro | with_reducible assumption | grind [-Prod] | grind [-Prod, → sc_Pg, → sc_Pt] | grind [-Prod, I_Pg, I_Pt, o_bn, upd])) ?_
                      intro q4_313 ⟨g314, g315, g316, g317⟩
                      refine o_okW (s_Pt_parse_j226  hn g316 g317 (by first | with_reducible exact True.intro | with_reducible assumption | grind [-Prod] | grind [-Prod, → sc_Pg, → sc_Pt] | grind [-Prod, I_Pg, I_Pt, o_bn, upd]) (by first | with_reducible exact True.intro | with_reducible assumption | grind [-Prod] | grind [-Prod, → sc_Pg, → sc_Pt] | grind [-Prod, I_Pg, I_Pt, o_bn, upd]) (by first | with_reducible exact True.intro | with_reducible assumption | grind [-Prod] | grind [-Prod, → sc_Pg, → sc_Pt] | grind [-Prod, I_Pg, I_Pt, o_bn, upd]) (by first | with_reducible exact True.intro | with_reducible assumption | grind [-Prod] | grind [-Prod, → sc_Pg, → sc_Pt] | grind [-Prod, I_Pg, I_Pt, o_bn, upd])) (fun r hr => ?_)
                      first | exact hr | (obtain ⟨g318, g319, g320⟩ := hr; refine ⟨fun h0 => ⟨?_, ?_, ?_, ?_⟩, fun h0 => ⟨?_, ?_⟩⟩ <;> (first | with_reducible exact True.intro | with_reducible assumption | (exact o_muL (by first | with_reducible exact True.intro | with_reducible assumption | grind [-Prod] | grind [-Prod, → sc_Pg, → sc_Pt] | grind [-Prod, I_Pg, I_Pt, o_bn, upd])) | (first | with_reducible exact True.intro | with_reducible assumption | grind [-Prod] | grind [-Prod, → sc_Pg, → sc_Pt] | grind [-Prod, I_Pg, I_Pt, o_bn, upd])))
theorem l_Pt_parse_b28 {n : Nat} {z : Int32 × SPg × SPt} (hn : o_big ≤ n) (l0 : 0 ≤ z.1) (l1 : I_Pg z.2.1) (l2 : I_Pt z.2.2) : o_ok (o_lp n (m_Pt_parse_b28 n) z) (fun q => q.1 ≠ 0 ∧ I_Pg q.2.2.1 ∧ I_Pt q.2.2.2) := by
  exact o_lpR (fun z => 0 ≤ z.1 ∧ I_Pg z.2.1 ∧ I_Pt z.2.2) (fun z => o_mu z.1) hn (o_muB) ⟨l0, l1, l2⟩
    (fun z hz => by obtain ⟨l0, l1, l2⟩ := hz; exact o_okW (s_Pt_parse_b28 hn l0 l1 l2) (fun q hq => ⟨fun h => by have := hq.1 h; grind, hq.2⟩))
