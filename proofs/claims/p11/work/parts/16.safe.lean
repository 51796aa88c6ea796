theorem s_Pt_hexToken {n : Nat} {x1 : Int32} {Pt : SPt} (hn : o_big ≤ n) (h_Pt : I_Pt Pt) (p0 : Pt_position Pt ≤ 8100) : o_ok (m_Pt_hexToken n x1 Pt) (fun r => r.1 ≤ 8388607 ∧ Pt_position r.2 ≤ 12200 ∧ Pt_tokenCount r.2 = Pt_tokenCount Pt ∧ I_Pt r.2) := by
  unfold m_Pt_hexToken
  refine o_okB (l_Pt_hexToken_b4 (tc0 := Pt_tokenCount Pt) hn (by first | with_reducible exact True.intro | with_reducible assumption | grind [-Prod, o_orL] | grind [-Prod, → sc_Pt, o_orL] | grind [-Prod, I_Pt, o_bn, upd, o_orL]) (by first | with_reducible exact True.intro | with_reducible assumption | grind [-Prod, o_orL] | grind [-Prod, → sc_Pt, o_orL] | grind [-Prod, I_Pt, o_bn, upd, o_orL]) (by first | with_reducible exact True.intro | with_reducible assumption | grind [-Prod, o_orL] | grind [-Prod, → sc_Pt, o_orL] | grind [-Prod, I_Pt, o_bn, upd, o_orL]) (by first | with_reducible exact True.intro | with_reducible assumption | grind [-Prod, o_orL] | grind [-Prod, → sc_Pt, o_orL] | grind [-Prod, I_Pt, o_bn, upd, o_orL]) (by first | with_reducible exact True.intro | with_reducible assumption | grind [-Prod, o_orL] | grind [-Prod, → sc_Pt, o_orL] | grind [-Prod, I_Pt, o_bn, upd, o_orL]) (by first | with_reducible exact True.intro | with_reducible assumption | grind [-Prod, o_orL] | grind [-Prod, → sc_Pt, o_orL] | grind [-Prod, I_Pt, o_bn, upd, o_orL]) h_Pt) ?_
  intro q2_1 ⟨yq2_1, g2, g3, g4, g5, g6⟩
  refine o_okI (fun c7 => ?_) (fun c7 => ?_)
  · refine o_okS ?_
    refine ⟨?_, ?_, ?_, ?_⟩
    · first | with_reducible exact True.intro | with_reducible assumption | grind [-Prod, o_orL] | grind [-Prod, → sc_Pt, o_orL] | grind [-Prod, I_Pt, o_bn, upd, o_orL]
    · first | with_reducible exact True.intro | with_reducible assumption | grind [-Prod, o_orL] | grind [-Prod, → sc_Pt, o_orL] | grind [-Prod, I_Pt, o_bn, upd, o_orL]
    · first | with_reducible exact True.intro | with_reducible assumption | grind [-Prod, o_orL] | grind [-Prod, → sc_Pt, o_orL] | grind [-Prod, I_Pt, o_bn, upd, o_orL]
    · exact g6
  · refine o_okI (fun c8 => ?_) (fun c8 => ?_)
    · refine o_okS ?_
      refine ⟨?_, ?_, ?_, ?_⟩
      · first | with_reducible exact True.intro | with_reducible assumption | grind [-Prod, o_orL] | grind [-Prod, → sc_Pt, o_orL] | grind [-Prod, I_Pt, o_bn, upd, o_orL]
      · first | with_reducible exact True.intro | with_reducible assumption | grind [-Prod, o_orL] | grind [-Prod, → sc_Pt, o_orL] | grind [-Prod, I_Pt, o_bn, upd, o_orL]
      · first | with_reducible exact True.intro | with_reducible assumption | grind [-Prod, o_orL] | grind [-Prod, → sc_Pt, o_orL] | grind [-Prod, I_Pt, o_bn, upd, o_orL]
      · exact g6
    · refine o_okI (fun c9 => ?_) (fun c9 => ?_)
      · refine o_okS ?_
        refine ⟨?_, ?_, ?_, ?_⟩
        · first | with_reducible exact True.intro | with_reducible assumption | grind [-Prod, o_orL] | grind [-Prod, → sc_Pt, o_orL] | grind [-Prod, I_Pt, o_bn, upd, o_orL]
        · first | with_reducible exact True.intro | with_reducible assumption | grind [-Prod, o_orL] | grind [-Prod, → sc_Pt, o_orL] | grind [-Prod, I_Pt, o_bn, upd, o_orL]
        · first | with_reducible exact True.intro | with_reducible assumption | grind [-Prod, o_orL] | grind [-Prod, → sc_Pt, o_orL] | grind [-Prod, I_Pt, o_bn, upd, o_orL]
        · exact g6
      · refine o_okS ?_
        refine ⟨?_, ?_, ?_, ?_⟩
        · first | with_reducible exact True.intro | with_reducible assumption | grind [-Prod, o_orL] | grind [-Prod, → sc_Pt, o_orL] | grind [-Prod, I_Pt, o_bn, upd, o_orL]
        · first | with_reducible exact True.intro | with_reducible assumption | grind [-Prod, o_orL] | grind [-Prod, → sc_Pt, o_orL] | grind [-Prod, I_Pt, o_bn, upd, o_orL]
        · first | with_reducible exact True.intro | with_reducible assumption | grind [-Prod, o_orL] | grind [-Prod, → sc_Pt, o_orL] | grind [-Prod, I_Pt, o_bn, upd, o_orL]
        · exact g6
theorem s_Pt_isIn {n : Nat} {x0 : Nat} {x1 : Int32} (hn : o_big ≤ n) : o_ok (m_Pt_isIn n x0 x1) (fun r => (r = 0 ∨ r = 1) ∧ (r ≠ 0 → 0 ≤ x1 ∧ x1 < 128)) := by
  unfold m_Pt_isIn
  refine o_okI (fun c1 => ?_) (fun c1 => ?_)
  · refine o_okS ?_
    refine ⟨?_, ?_⟩
    · first | with_reducible exact True.intro | with_reducible assumption | grind [-Prod] | grind [-Prod] | grind [-Prod, o_bn, upd]
    · first | with_reducible exact True.intro | with_reducible assumption | grind [-Prod] | grind [-Prod] | grind [-Prod, o_bn, upd]
  · refine o_okI (fun c2 => ?_) (fun c2 => ?_)
    · refine o_okS ?_
      refine ⟨?_, ?_⟩
      · first | with_reducible exact True.intro | with_reducible assumption | grind [-Prod] | grind [-Prod] | grind [-Prod, o_bn, upd]
      · first | with_reducible exact True.intro | with_reducible assumption | grind [-Prod] | grind [-Prod] | grind [-Prod, o_bn, upd]
    · refine o_okB (s_JS_indexOf  hn) ?_
      intro q1_3 ⟨g4, g5⟩
      refine o_okI (fun c6 => ?_) (fun c6 => ?_)
      · refine o_okS ?_
        refine ⟨?_, ?_⟩
        · first | with_reducible exact True.intro | with_reducible assumption | grind [-Prod] | grind [-Prod] | grind [-Prod, o_bn, upd]
        · first | with_reducible exact True.intro | with_reducible assumption | grind [-Prod] | grind [-Prod] | grind [-Prod, o_bn, upd]
      · refine o_okS ?_
        refine ⟨?_, ?_⟩
        · first | with_reducible exact True.intro | with_reducible assumption | grind [-Prod] | grind [-Prod] | grind [-Prod, o_bn, upd]
        · first | with_reducible exact True.intro | with_reducible assumption | grind [-Prod] | grind [-Prod] | grind [-Prod, o_bn, upd]
set_option maxHeartbeats 8000000 in
theorem s_Pt_escape_j59 {n : Nat} {x1 : Int32} {x2 : Int32} {y0 : Int32} {Pt : SPt} (hn : o_big ≤ n) (h_Pt : I_Pt Pt) (p0 : Pt_position Pt ≤ 8010) (p1 : x2 ≤ 8388607) : o_ok (m_Pt_escape_j59 n x1 x2 y0 Pt) (fun r => r.1 ≤ 8388607 ∧ Pt_position r.2 ≤ 12200 ∧ Pt_tokenCount r.2 = Pt_tokenCount Pt ∧ I_Pt r.2) := by
  unfold m_Pt_escape_j59
  refine o_okI (fun c1 => ?_) (fun c1 => ?_)
  · refine o_okI (fun c2 => ?_) (fun c2 => ?_)
    · refine o_okS ?_
      refine ⟨?_, ?_, ?_, ?_⟩
      · first | with_reducible exact True.intro | with_reducible assumption | grind [-Prod, o_orL, o_clsT, o_sl8] | grind [-Prod, → sc_Pt, o_orL, o_clsT, o_sl8] | grind [-Prod, I_Pt, o_bn, upd, o_orL, o_clsT, o_sl8]
      · first | with_reducible exact True.intro | with_reducible assumption | grind [-Prod, o_orL, o_clsT, o_sl8] | grind [-Prod, → sc_Pt, o_orL, o_clsT, o_sl8] | grind [-Prod, I_Pt, o_bn, upd, o_orL, o_clsT, o_sl8]
      · first | with_reducible exact True.intro | with_reducible assumption | grind [-Prod, o_orL, o_clsT, o_sl8] | grind [-Prod, → sc_Pt, o_orL, o_clsT, o_sl8] | grind [-Prod, I_Pt, o_bn, upd, o_orL, o_clsT, o_sl8]
      · exact h_Pt
    · refine o_okS ?_
      refine ⟨?_, ?_, ?_, ?_⟩
      · first | with_reducible exact True.intro | with_reducible assumption | grind [-Prod, o_orL, o_clsT, o_sl8] | grind [-Prod, → sc_Pt, o_orL, o_clsT, o_sl8] | grind [-Prod, I_Pt, o_bn, upd, o_orL, o_clsT, o_sl8]
      · first | with_reducible exact True.intro | with_reducible assumption | grind [-Prod, o_orL, o_clsT, o_sl8] | grind [-Prod, → sc_Pt, o_orL, o_clsT, o_sl8] | grind [-Prod, I_Pt, o_bn, upd, o_orL, o_clsT, o_sl8]
      · first | with_reducible exact True.intro | with_reducible assumption | grind [-Prod, o_orL, o_clsT, o_sl8] | grind [-Prod, → sc_Pt, o_orL, o_clsT, o_sl8] | grind [-Prod, I_Pt, o_bn, upd, o_orL, o_clsT, o_sl8]
      · exact h_Pt
  · refine o_okI (fun c3 => ?_) (fun c3 => ?_)
    · refine o_okB (s_SJ_isDigit ) ?_
      intro q1_4 ⟨g5, g6⟩
      refine o_okI (fun c7 => ?_) (fun c7 => ?_)
      · refine o_okS ?_
        refine ⟨?_, ?_, ?_, ?_⟩
        · first | with_reducible exact True.intro | with_reducible assumption | grind [-Prod, o_orL, o_clsT, o_sl8] | grind [-Prod, → sc_Pt, o_orL, o_clsT, o_sl8] | grind [-Prod, I_Pt, o_bn, upd, o_orL, o_clsT, o_sl8]
        · first | with_reducible exact True.intro | with_reducible assumption | grind [-Prod, o_orL, o_clsT, o_sl8] | grind [-Prod, → sc_Pt, o_orL, o_clsT, o_sl8] | grind [-Prod, I_Pt, o_bn, upd, o_orL, o_clsT, o_sl8]
        · first | with_reducible exact True.intro | with_reducible assumption | grind [-Prod, o_orL, o_clsT, o_sl8] | grind [-Prod, → sc_Pt, o_orL, o_clsT, o_sl8] | grind [-Prod, I_Pt, o_bn, upd, o_orL, o_clsT, o_sl8]
        · exact h_Pt
      · refine o_okS ?_
        refine ⟨?_, ?_, ?_, ?_⟩
        · first | with_reducible exact True.intro | with_reducible assumption | grind [-Prod, o_orL, o_clsT, o_sl8] | grind [-Prod, → sc_Pt, o_orL, o_clsT, o_sl8] | grind [-Prod, I_Pt, o_bn, upd, o_orL, o_clsT, o_sl8]
        · first | with_reducible exact True.intro | with_reducible assumption | grind [-Prod, o_orL, o_clsT, o_sl8] | grind [-Prod, → sc_Pt, o_orL, o_clsT, o_sl8] | grind [-Prod, I_Pt, o_bn, upd, o_orL, o_clsT, o_sl8]
        · first | with_reducible exact True.intro | with_reducible assumption | grind [-Prod, o_orL, o_clsT, o_sl8] | grind [-Prod, → sc_Pt, o_orL, o_clsT, o_sl8] | grind [-Prod, I_Pt, o_bn, upd, o_orL, o_clsT, o_sl8]
        · exact h_Pt
    · refine o_okI (fun c8 => ?_) (fun c8 => ?_)
      · refine o_okI (fun c9 => ?_) (fun c9 => ?_)
        · refine o_okS ?_
          refine ⟨?_, ?_, ?_, ?_⟩
          · first | with_reducible exact True.intro | with_reducible assumption | grind [-Prod, o_orL, o_clsT, o_sl8] | grind [-Prod, → sc_Pt, o_orL, o_clsT, o_sl8] | grind [-Prod, I_Pt, o_bn, upd, o_orL, o_clsT, o_sl8]
          · first | with_reducible exact True.intro | with_reducible assumption | grind [-Prod, o_orL, o_clsT, o_sl8] | grind [-Prod, → sc_Pt, o_orL, o_clsT, o_sl8] | grind [-Prod, I_Pt, o_bn, upd, o_orL, o_clsT, o_sl8]
          · first | with_reducible exact True.intro | with_reducible assumption | grind [-Prod, o_orL, o_clsT, o_sl8] | grind [-Prod, → sc_Pt, o_orL, o_clsT, o_sl8] | grind [-Prod, I_Pt, o_bn, upd, o_orL, o_clsT, o_sl8]
          · exact h_Pt
        · refine o_okS ?_
          refine ⟨?_, ?_, ?_, ?_⟩
          · first | with_reducible exact True.intro | with_reducible assumption | grind [-Prod, o_orL, o_clsT, o_sl8] | grind [-Prod, → sc_Pt, o_orL, o_clsT, o_sl8] | grind [-Prod, I_Pt, o_bn, upd, o_orL, o_clsT, o_sl8]
          · first | with_reducible exact True.intro | with_reducible assumption | grind [-Prod, o_orL, o_clsT, o_sl8] | grind [-Prod, → sc_Pt, o_orL, o_clsT, o_sl8] | grind [-Prod, I_Pt, o_bn, upd, o_orL, o_clsT, o_sl8]
          · first | with_reducible exact True.intro | with_reducible assumption | grind [-Prod, o_orL, o_clsT, o_sl8] | grind [-Prod, → sc_Pt, o_orL, o_clsT, o_sl8] | grind [-Prod, I_Pt, o_bn, upd, o_orL, o_clsT, o_sl8]
          · exact h_Pt
      · refine o_okI (fun c10 => ?_) (fun c10 => ?_)
        · refine o_okS ?_
          refine ⟨?_, ?_, ?_, ?_⟩
          · first | with_reducible exact True.intro | with_reducible assumption | grind [-Prod, o_orL, o_clsT, o_sl8] | grind [-Prod, → sc_Pt, o_orL, o_clsT, o_sl8] | grind [-Prod, I_Pt, o_bn, upd, o_orL, o_clsT, o_sl8]
          · first | with_reducible exact True.intro | with_reducible assumption | grind [-Prod, o_orL, o_clsT, o_sl8] | grind [-Prod, → sc_Pt, o_orL, o_clsT, o_sl8] | grind [-Prod, I_Pt, o_bn, upd, o_orL, o_clsT, o_sl8]
          · first | with_reducible exact True.intro | with_reducible assumption | grind [-Prod, o_orL, o_clsT, o_sl8] | grind [-Prod, → sc_Pt, o_orL, o_clsT, o_sl8] | grind [-Prod, I_Pt, o_bn, upd, o_orL, o_clsT, o_sl8]
          · exact h_Pt
        · refine o_okI (fun c11 => ?_) (fun c11 => ?_)
          · refine o_okS ?_
            refine ⟨?_, ?_, ?_, ?_⟩
            · first | with_reducible exact True.intro | with_reducible assumption | grind [-Prod, o_orL, o_clsT, o_sl8] | grind [-Prod, → sc_Pt, o_orL, o_clsT, o_sl8] | grind [-Prod, I_Pt, o_bn, upd, o_orL, o_clsT, o_sl8]
            · first | with_reducible exact True.intro | with_reducible assumption | grind [-Prod, o_orL, o_clsT, o_sl8] | grind [-Prod, → sc_Pt, o_orL, o_clsT, o_sl8] | grind [-Prod, I_Pt, o_bn, upd, o_orL, o_clsT, o_sl8]
            · first | with_reducible exact True.intro | with_reducible assumption | grind [-Prod, o_orL, o_clsT, o_sl8] | grind [-Prod, → sc_Pt, o_orL, o_clsT, o_sl8] | grind [-Prod, I_Pt, o_bn, upd, o_orL, o_clsT, o_sl8]
            · exact h_Pt
          · refine o_okI (fun c12 => ?_) (fun c12 => ?_)
            · refine o_okS ?_
              refine ⟨?_, ?_, ?_, ?_⟩
              · first | with_reducible exact True.intro | with_reducible assumption | grind [-Prod, o_orL, o_clsT, o_sl8] | grind [-Prod, → sc_Pt, o_orL, o_clsT, o_sl8] | grind [-Prod, I_Pt, o_bn, upd, o_orL, o_clsT, o_sl8]
              · first | with_reducible exact True.intro | with_reducible assumption | grind [-Prod, o_orL, o_clsT, o_sl8] | grind [-Prod, → sc_Pt, o_orL, o_clsT, o_sl8] | grind [-Prod, I_Pt, o_bn, upd, o_orL, o_clsT, o_sl8]
              · first | with_reducible exact True.intro | with_reducible assumption | grind [-Prod, o_orL, o_clsT, o_sl8] | grind [-Prod, → sc_Pt, o_orL, o_clsT, o_sl8] | grind [-Prod, I_Pt, o_bn, upd, o_orL, o_clsT, o_sl8]
              · exact h_Pt
            · refine o_okI (fun c13 => ?_) (fun c13 => ?_)
              · refine o_okS ?_
                refine ⟨?_, ?_, ?_, ?_⟩
                · first | with_reducible exact True.intro | with_reducible assumption | grind [-Prod, o_orL, o_clsT, o_sl8] | grind [-Prod, → sc_Pt, o_orL, o_clsT, o_sl8] | grind [-Prod, I_Pt, o_bn, upd, o_orL, o_clsT, o_sl8]
                · first | with_reducible exact True.intro | with_reducible assumption | grind [-Prod, o_orL, o_clsT, o_sl8] | grind [-Prod, → sc_Pt, o_orL, o_clsT, o_sl8] | grind [-Prod, I_Pt, o_bn, upd, o_orL, o_clsT, o_sl8]
                · first | with_reducible exact True.intro | with_reducible assumption | grind [-Prod, o_orL, o_clsT, o_sl8] | grind [-Prod, → sc_Pt, o_orL, o_clsT, o_sl8] | grind [-Prod, I_Pt, o_bn, upd, o_orL, o_clsT, o_sl8]
                · exact h_Pt
              · refine o_okI (fun c14 => ?_) (fun c14 => ?_)
                · refine o_okI (fun c15 => ?_) (fun c15 => ?_)
                  · unfold m_Pt_escape_j203
                    refine o_okI (fun c16 => ?_) (fun c16 => ?_)
                    · unfold m_Pt_escape_j219
                      refine o_okB (s_Pt_hexToken  hn ⟨h_Pt.1, h_Pt.2.1, h_Pt.2.2.1, (by first | with_reducible exact True.intro | with_reducible assumption | grind [-Prod, o_orL, o_clsT, o_sl8] | grind [-Prod, → sc_Pt, o_orL, o_clsT, o_sl8] | grind [-Prod, I_Pt, o_bn, upd, o_orL, o_clsT, o_sl8]), (by first | with_reducible exact True.intro | with_reducible assumption | grind [-Prod, o_orL, o_clsT, o_sl8] | grind [-Prod, → sc_Pt, o_orL, o_clsT, o_sl8] | grind [-Prod, I_Pt, o_bn, upd, o_orL, o_clsT, o_sl8]), h_Pt.2.2.2.2.2.1, h_Pt.2.2.2.2.2.2.1, h_Pt.2.2.2.2.2.2.2.1, h_Pt.2.2.2.2.2.2.2.2.1, h_Pt.2.2.2.2.2.2.2.2.2.1, h_Pt.2.2.2.2.2.2.2.2.2.2⟩ (by first | with_reducible exact True.intro | with_reducible assumption | grind [-Prod, o_orL, o_clsT, o_sl8] | grind [-Prod, → sc_Pt, o_orL, o_clsT, o_sl8] | grind [-Prod, I_Pt, o_bn, upd, o_orL, o_clsT, o_sl8])) ?_
                      intro q2_17 ⟨g18, g19, g20, g21⟩
                      refine o_okS ?_
                      refine ⟨?_, ?_, ?_, ?_⟩
                      · first | with_reducible exact True.intro | with_reducible assumption | grind [-Prod, o_orL, o_clsT, o_sl8] | grind [-Prod, → sc_Pt, o_orL, o_clsT, o_sl8] | grind [-Prod, I_Pt, o_bn, upd, o_orL, o_clsT, o_sl8]
                      · first | with_reducible exact True.intro | with_reducible assumption | grind [-Prod, o_orL, o_clsT, o_sl8] | grind [-Prod, → sc_Pt, o_orL, o_clsT, o_sl8] | grind [-Prod, I_Pt, o_bn, upd, o_orL, o_clsT, o_sl8]
                      · first | with_reducible exact True.intro | with_reducible assumption | grind [-Prod, o_orL, o_clsT, o_sl8] | grind [-Prod, → sc_Pt, o_orL, o_clsT, o_sl8] | grind [-Prod, I_Pt, o_bn, upd, o_orL, o_clsT, o_sl8]
                      · exact g21
                    · unfold m_Pt_escape_j219
                      refine o_okB (s_Pt_hexToken  hn ⟨h_Pt.1, h_Pt.2.1, h_Pt.2.2.1, (by first | with_reducible exact True.intro | with_reducible assumption | grind [-Prod, o_orL, o_clsT, o_sl8] | grind [-Prod, → sc_Pt, o_orL, o_clsT, o_sl8] | grind [-Prod, I_Pt, o_bn, upd, o_orL, o_clsT, o_sl8]), (by first | with_reducible exact True.intro | with_reducible assumption | grind [-Prod, o_orL, o_clsT, o_sl8] | grind [-Prod, → sc_Pt, o_orL, o_clsT, o_sl8] | grind [-Prod, I_Pt, o_bn, upd, o_orL, o_clsT, o_sl8]), h_Pt.2.2.2.2.2.1, h_Pt.2.2.2.2.2.2.1, h_Pt.2.2.2.2.2.2.2.1, h_Pt.2.2.2.2.2.2.2.2.1, h_Pt.2.2.2.2.2.2.2.2.2.1, h_Pt.2.2.2.2.2.2.2.2.2.2⟩ (by first | with_reducible exact True.intro | with_reducible assumption | grind [-Prod, o_orL, o_clsT, o_sl8] | grind [-Prod, → sc_Pt, o_orL, o_clsT, o_sl8] | grind [-Prod, I_Pt, o_bn, upd, o_orL, o_clsT, o_sl8])) ?_
                      intro q2_22 ⟨g23, g24, g25, g26⟩
                      refine o_okS ?_
                      refine ⟨?_, ?_, ?_, ?_⟩
                      · first | with_reducible exact True.intro | with_reducible assumption | grind [-Prod, o_orL, o_clsT, o_sl8] | grind [-Prod, → sc_Pt, o_orL, o_clsT, o_sl8] | grind [-Prod, I_Pt, o_bn, upd, o_orL, o_clsT, o_sl8]
                      · first | with_reducible exact True.intro | with_reducible assumption | grind [-Prod, o_orL, o_clsT, o_sl8] | grind [-Prod, → sc_Pt, o_orL, o_clsT, o_sl8] | grind [-Prod, I_Pt, o_bn, upd, o_orL, o_clsT, o_sl8]
                      · first | with_reducible exact True.intro | with_reducible assumption | grind [-Prod, o_orL, o_clsT, o_sl8] | grind [-Prod, → sc_Pt, o_orL, o_clsT, o_sl8] | grind [-Prod, I_Pt, o_bn, upd, o_orL, o_clsT, o_sl8]
                      · exact g26
                  · unfold m_Pt_escape_j203
                    refine o_okI (fun c27 => ?_) (fun c27 => ?_)
                    · unfold m_Pt_escape_j219
                      refine o_okB (s_Pt_hexToken  hn ⟨h_Pt.1, h_Pt.2.1, h_Pt.2.2.1, (by first | with_reducible exact True.intro | with_reducible assumption | grind [-Prod, o_orL, o_clsT, o_sl8] | grind [-Prod, → sc_Pt, o_orL, o_clsT, o_sl8] | grind [-Prod, I_Pt, o_bn, upd, o_orL, o_clsT, o_sl8]), (by first | with_reducible exact True.intro | with_reducible assumption | grind [-Prod, o_orL, o_clsT, o_sl8] | grind [-Prod, → sc_Pt, o_orL, o_clsT, o_sl8] | grind [-Prod, I_Pt, o_bn, upd, o_orL, o_clsT, o_sl8]), h_Pt.2.2.2.2.2.1, h_Pt.2.2.2.2.2.2.1, h_Pt.2.2.2.2.2.2.2.1, h_Pt.2.2.2.2.2.2.2.2.1, h_Pt.2.2.2.2.2.2.2.2.2.1, h_Pt.2.2.2.2.2.2.2.2.2.2⟩ (by first | with_reducible exact True.intro | with_reducible assumption | grind [-Prod, o_orL, o_clsT, o_sl8] | grind [-Prod, → sc_Pt, o_orL, o_clsT, o_sl8] | grind [-Prod, I_Pt, o_bn, upd, o_orL, o_clsT, o_sl8])) ?_
                      intro q2_28 ⟨g29, g30, g31, g32⟩
                      refine o_okS ?_
                      refine ⟨?_, ?_, ?_, ?_⟩
                      · first | with_reducible exact True.intro | with_reducible assumption | grind [-Prod, o_orL, o_clsT, o_sl8] | grind [-Prod, → sc_Pt, o_orL, o_clsT, o_sl8] | grind [-Prod, I_Pt, o_bn, upd, o_orL, o_clsT, o_sl8]
                      · first | with_reducible exact True.intro | with_reducible assumption | grind [-Prod, o_orL, o_clsT, o_sl8] | grind [-Prod, → sc_Pt, o_orL, o_clsT, o_sl8] | grind [-Prod, I_Pt, o_bn, upd, o_orL, o_clsT, o_sl8]
                      · first | with_reducible exact True.intro | with_reducible assumption | grind [-Prod, o_orL, o_clsT, o_sl8] | grind [-Prod, → sc_Pt, o_orL, o_clsT, o_sl8] | grind [-Prod, I_Pt, o_bn, upd, o_orL, o_clsT, o_sl8]
                      · exact g32
                    · unfold m_Pt_escape_j219
                      refine o_okB (s_Pt_hexToken  hn ⟨h_Pt.1, h_Pt.2.1, h_Pt.2.2.1, (by first | with_reducible exact True.intro | with_reducible assumption | grind [-Prod, o_orL, o_clsT, o_sl8] | grind [-Prod, → sc_Pt, o_orL, o_clsT, o_sl8] | grind [-Prod, I_Pt, o_bn, upd, o_orL, o_clsT, o_sl8]), (by first | with_reducible exact True.intro | with_reducible assumption | grind [-Prod, o_orL, o_clsT, o_sl8] | grind [-Prod, → sc_Pt, o_orL, o_clsT, o_sl8] | grind [-Prod, I_Pt, o_bn, upd, o_orL, o_clsT, o_sl8]), h_Pt.2.2.2.2.2.1, h_Pt.2.2.2.2.2.2.1, h_Pt.2.2.2.2.2.2.2.1, h_Pt.2.2.2.2.2.2.2.2.1, h_Pt.2.2.2.2.2.2.2.2.2.1, h_Pt.2.2.2.2.2.2.2.2.2.2⟩ (by first | with_reducible exact True.intro | with_reducible assumption | grind [-Prod, o_orL, o_clsT, o_sl8] | grind [-Prod, → sc_Pt, o_orL, o_clsT, o_sl8] | grind [-Prod, I_Pt, o_bn, upd, o_orL, o_clsT, o_sl8])) ?_
                      intro q2_33 ⟨g34, g35, g36, g37⟩
                      refine o_okS ?_
                      refine ⟨?_, ?_, ?_, ?_⟩
                      · first | with_reducible exact True.intro | with_reducible assumption | grind [-Prod, o_orL, o_clsT, o_sl8] | grind [-Prod, → sc_Pt, o_orL, o_clsT, o_sl8] | grind [-Prod, I_Pt, o_bn, upd, o_orL, o_clsT, o_sl8]
                      · first | with_reducible exact True.intro | with_reducible assumption | grind [-Prod, o_orL, o_clsT, o_sl8] | grind [-Prod, → sc_Pt, o_orL, o_clsT, o_sl8] | grind [-Prod, I_Pt, o_bn, upd, o_orL, o_clsT, o_sl8]
                      · first | with_reducible exact True.intro | with_reducible assumption | grind [-Prod, o_orL, o_clsT, o_sl8] | grind [-Prod, → sc_Pt, o_orL, o_clsT, o_sl8] | grind [-Prod, I_Pt, o_bn, upd, o_orL, o_clsT, o_sl8]
                      · exact g37
                · refine o_okI (fun c38 => ?_) (fun c38 => ?_)
                  · refine o_okS ?_
                    refine ⟨?_, ?_, ?_, ?_⟩
                    · first | with_reducible exact True.intro | with_reducible assumption | grind [-Prod, o_orL, o_clsT, o_sl8] | grind [-Prod, → sc_Pt, o_orL, o_clsT, o_sl8] | grind [-Prod, I_Pt, o_bn, upd, o_orL, o_clsT, o_sl8]
                    · first | with_reducible exact True.intro | with_reducible assumption | grind [-Prod, o_orL, o_clsT, o_sl8] | grind [-Prod, → sc_Pt, o_orL, o_clsT, o_sl8] | grind [-Prod, I_Pt, o_bn, upd, o_orL, o_clsT, o_sl8]
                    · first | with_reducible exact True.intro | with_reducible assumption | grind [-Prod, o_orL, o_clsT, o_sl8] | grind [-Prod, → sc_Pt, o_orL, o_clsT, o_sl8] | grind [-Prod, I_Pt, o_bn, upd, o_orL, o_clsT, o_sl8]
                    · exact h_Pt
                  · refine o_okI (fun c39 => ?_) (fun c39 => ?_)
                    · refine o_okB (s_Pt_hexToken  hn h_Pt (by first | with_reducible exact True.intro | with_reducible assumption | grind [-Prod, o_orL, o_clsT, o_sl8] | grind [-Prod, → sc_Pt, o_orL, o_clsT, o_sl8] | grind [-Prod, I_Pt, o_bn, upd, o_orL, o_clsT, o_sl8])) ?_
                      intro q3_40 ⟨g41, g42, g43, g44⟩
                      refine o_okS ?_
                      refine ⟨?_, ?_, ?_, ?_⟩
                      · first | with_reducible exact True.intro | with_reducible assumption | grind [-Prod, o_orL, o_clsT, o_sl8] | grind [-Prod, → sc_Pt, o_orL, o_clsT, o_sl8] | grind [-Prod, I_Pt, o_bn, upd, o_orL, o_clsT, o_sl8]
                      · first | with_reducible exact True.intro | with_reducible assumption | grind [-Prod, o_orL, o_clsT, o_sl8] | grind [-Prod, → sc_Pt, o_orL, o_clsT, o_sl8] | grind [-Prod, I_Pt, o_bn, upd, o_orL, o_clsT, o_sl8]
                      · first | with_reducible exact True.intro | with_reducible assumption | grind [-Prod, o_orL, o_clsT, o_sl8] | grind [-Prod, → sc_Pt, o_orL, o_clsT, o_sl8] | grind [-Prod, I_Pt, o_bn, upd, o_orL, o_clsT, o_sl8]
                      · exact g44
                    · refine o_okB (s_Pt_isIn  hn) ?_
                      intro q4_45 ⟨g46, g47⟩
                      refine o_okI (fun c48 => ?_) (fun c48 => ?_)
                      · refine o_okB (s_Pt_isIn  hn) ?_
                        intro q5_49 ⟨g50, g51⟩
                        refine o_okI (fun c52 => ?_) (fun c52 => ?_)
                        · refine o_okS ?_
                          refine ⟨?_, ?_, ?_, ?_⟩
                          · first | with_reducible exact True.intro | with_reducible assumption | grind [-Prod, o_orL, o_clsT, o_sl8] | grind [-Prod, → sc_Pt, o_orL, o_clsT, o_sl8] | grind [-Prod, I_Pt, o_bn, upd, o_orL, o_clsT, o_sl8]
                          · first | with_reducible exact True.intro | with_reducible assumption | grind [-Prod, o_orL, o_clsT, o_sl8] | grind [-Prod, → sc_Pt, o_orL, o_clsT, o_sl8] | grind [-Prod, I_Pt, o_bn, upd, o_orL, o_clsT, o_sl8]
                          · first | with_reducible exact True.intro | with_reducible assumption | grind [-Prod, o_orL, o_clsT, o_sl8] | grind [-Prod, → sc_Pt, o_orL, o_clsT, o_sl8] | grind [-Prod, I_Pt, o_bn, upd, o_orL, o_clsT, o_sl8]
                          · exact h_Pt
                        · refine o_okS ?_
                          refine ⟨?_, ?_, ?_, ?_⟩
                          · first | with_reducible exact True.intro | with_reducible assumption | grind [-Prod, o_orL, o_clsT, o_sl8] | grind [-Prod, → sc_Pt, o_orL, o_clsT, o_sl8] | grind [-Prod, I_Pt, o_bn, upd, o_orL, o_clsT, o_sl8]
                          · first | with_reducible exact True.intro | with_reducible assumption | grind [-Prod, o_orL, o_clsT, o_sl8] | grind [-Prod, → sc_Pt, o_orL, o_clsT, o_sl8] | grind [-Prod, I_Pt, o_bn, upd, o_orL, o_clsT, o_sl8]
                          · first | with_reducible exact True.intro | with_reducible assumption | grind [-Prod, o_orL, o_clsT, o_sl8] | grind [-Prod, → sc_Pt, o_orL, o_clsT, o_sl8] | grind [-Prod, I_Pt, o_bn, upd, o_orL, o_clsT, o_sl8]
                          · exact h_Pt
                      · refine o_okB (s_JS_indexOf  hn) ?_
                        intro q6_53 ⟨g54, g55⟩
                        refine o_okS ?_
                        refine ⟨?_, ?_, ?_, ?_⟩
                        · first | with_reducible exact True.intro | with_reducible assumption | grind [-Prod, o_orL, o_clsT, o_sl8] | grind [-Prod, → sc_Pt, o_orL, o_clsT, o_sl8] | grind [-Prod, I_Pt, o_bn, upd, o_orL, o_clsT, o_sl8]
                        · first | with_reducible exact True.intro | with_reducible assumption | grind [-Prod, o_orL, o_clsT, o_sl8] | grind [-Prod, → sc_Pt, o_orL, o_clsT, o_sl8] | grind [-Prod, I_Pt, o_bn, upd, o_orL, o_clsT, o_sl8]
                        · first | with_reducible exact True.intro | with_reducible assumption | grind [-Prod, o_orL, o_clsT, o_sl8] | grind [-Prod, → sc_Pt, o_orL, o_clsT, o_sl8] | grind [-Prod, I_Pt, o_bn, upd, o_orL, o_clsT, o_sl8]
                        · exact h_Pt
theorem s_Pt_escape {n : Nat} {x1 : Int32} {Pt : SPt} (hn : o_big ≤ n) (h_Pt : I_Pt Pt) (p0 : Pt_position Pt ≤ 8000) : o_ok (m_Pt_escape n x1 Pt) (fun r => r.1 ≤ 8388607 ∧ Pt_position r.2 ≤ 12200 ∧ Pt_tokenCount r.2 = Pt_tokenCount Pt ∧ I_Pt r.2) := by
  unfold m_Pt_escape
  refine o_okI (fun c1 => ?_) (fun c1 => ?_)
  · unfold m_Pt_escape_j24
    refine o_okI (fun c2 => ?_) (fun c2 => ?_)
    · refine o_okW (s_Pt_escape_j59  hn ⟨h_Pt.1, h_Pt.2.1, h_Pt.2.2.1, (by first | with_reducible exact True.intro | with_reducible assumption | grind [-Prod] | grind [-Prod, → sc_Pt] | grind [-Prod, I_Pt, o_bn, upd]), (by first | with_reducible exact True.intro | with_reducible assumption | grind [-Prod] | grind [-Prod, → sc_Pt] | grind [-Prod, I_Pt, o_bn, upd]), h_Pt.2.2.2.2.2.1, h_Pt.2.2.2.2.2.2.1, h_Pt.2.2.2.2.2.2.2.1, h_Pt.2.2.2.2.2.2.2.2.1, h_Pt.2.2.2.2.2.2.2.2.2.1, h_Pt.2.2.2.2.2.2.2.2.2.2⟩ (by first | with_reducible exact True.intro | with_reducible assumption | grind [-Prod] | grind [-Prod, → sc_Pt] | grind [-Prod, I_Pt, o_bn, upd]) (by first | with_reducible exact True.intro | with_reducible assumption | grind [-Prod] | grind [-Prod, → sc_Pt] | grind [-Prod, I_Pt, o_bn, upd])) (fun r hr => ?_)
      first | exact hr | (obtain ⟨g3, g4, g5, g6⟩ := hr; first | with_reducible exact True.intro | with_reducible assumption | grind [-Prod] | grind [-Prod, → sc_Pt] | grind [-Prod, I_Pt, o_bn, upd])
    · refine o_okG (o_inM (m := 4000) rfl (by first | with_reducible exact True.intro | with_reducible assumption | grind [-Prod] | grind [-Prod, → sc_Pt] | grind [-Prod, I_Pt, o_bn, upd]) (by first | with_reducible exact True.intro | with_reducible assumption | grind [-Prod] | grind [-Prod, → sc_Pt] | grind [-Prod, I_Pt, o_bn, upd])) ?_
      refine o_okW (s_Pt_escape_j59  hn ⟨h_Pt.1, h_Pt.2.1, h_Pt.2.2.1, (by first | with_reducible exact True.intro | with_reducible assumption | grind [-Prod] | grind [-Prod, → sc_Pt] | grind [-Prod, I_Pt, o_bn, upd]), (by first | with_reducible exact True.intro | with_reducible assumption | grind [-Prod] | grind [-Prod, → sc_Pt] | grind [-Prod, I_Pt, o_bn, upd]), h_Pt.2.2.2.2.2.1, h_Pt.2.2.2.2.2.2.1, h_Pt.2.2.2.2.2.2.2.1, h_Pt.2.2.2.2.2.2.2.2.1, h_Pt.2.2.2.2.2.2.2.2.2.1, h_Pt.2.2.2.2.2.2.2.2.2.2⟩ (by first | with_reducible exact True.intro | with_reducible assumption | grind [-Prod] | grind [-Prod, → sc_Pt] | grind [-Prod, I_Pt, o_bn, upd]) (by first | with_reducible exact True.intro | with_reducible assumption | grind [-Prod] | grind [-Prod, → sc_Pt] | grind [-Prod, I_Pt, o_bn, upd])) (fun r hr => ?_)
      first | exact hr | (obtain ⟨g7, g8, g9, g10⟩ := hr; first | with_reducible exact True.intro | with_reducible assumption | grind [-Prod] | grind [-Prod, → sc_Pt] | grind [-Prod, I_Pt, o_bn, upd])
  · refine o_okG (o_inM (m := 4000) rfl (by first | with_reducible exact True.intro | with_reducible assumption | grind [-Prod] | grind [-Prod, → sc_Pt] | grind [-Prod, I_Pt, o_bn, upd]) (by first | with_reducible exact True.intro | with_reducible assumption | grind [-Prod] | grind [-Prod, → sc_Pt] | grind [-Prod, I_Pt, o_bn, upd])) ?_
    unfold m_Pt_escape_j24
    refine o_okI (fun c11 => ?_) (fun c11 => ?_)
    · refine o_okW (s_Pt_escape_j59  hn ⟨h_Pt.1, h_Pt.2.1, h_Pt.2.2.1, (by first | with_reducible exact True.intro | with_reducible assumption | grind [-Prod] | grind [-Prod, → sc_Pt] | grind [-Prod, I_Pt, o_bn, upd]), (by first | with_reducible exact True.intro | with_reducible assumption | grind [-Prod] | grind [-Prod, → sc_Pt] | grind [-Prod, I_Pt, o_bn, upd]), h_Pt.2.2.2.2.2.1, h_Pt.2.2.2.2.2.2.1, h_Pt.2.2.2.2.2.2.2.1, h_Pt.2.2.2.2.2.2.2.2.1, h_Pt.2.2.2.2.2.2.2.2.2.1, h_Pt.2.2.2.2.2.2.2.2.2.2⟩ (by first | with_reducible exact True.intro | with_reducible assumption | grind [-Prod] | grind [-Prod, → sc_Pt] | grind [-Prod, I_Pt, o_bn, upd]) (by first | with_reducible exact True.intro | with_reducible assumption | grind [-Prod] | grind [-Prod, → sc_Pt] | grind [-Prod, I_Pt, o_bn, upd])) (fun r hr => ?_)
      first | exact hr | (obtain ⟨g12, g13, g14, g15⟩ := hr; first | with_reducible exact True.intro | with_reducible assumption | grind [-Prod] | grind [-Prod, → sc_Pt] | grind [-Prod, I_Pt, o_bn, upd])
    · refine o_okG (o_inM (m := 4000) rfl (by first | with_reducible exact True.intro | with_reducible assumption | grind [-Prod] | grind [-Prod, → sc_Pt] | grind [-Prod, I_Pt, o_bn, upd]) (by first | with_reducible exact True.intro | with_reducible assumption | grind [-Prod] | grind [-Prod, → sc_Pt] | grind [-Prod, I_Pt, o_bn, upd])) ?_
      refine o_okW (s_Pt_escape_j59  hn ⟨h_Pt.1, h_Pt.2.1, h_Pt.2.2.1, (by first | with_reducible exact True.intro | with_reducible assumption | grind [-Prod] | grind [-Prod, → sc_Pt] | grind [-Prod, I_Pt, o_bn, upd]), (by first | with_reducible exact True.intro | with_reducible assumption | grind [-Prod] | grind [-Prod, → sc_Pt] | grind [-Prod, I_Pt, o_bn, upd]), h_Pt.2.2.2.2.2.1, h_Pt.2.2.2.2.2.2.1, h_Pt.2.2.2.2.2.2.2.1, h_Pt.2.2.2.2.2.2.2.2.1, h_Pt.2.2.2.2.2.2.2.2.2.1, h_Pt.2.2.2.2.2.2.2.2.2.2⟩ (by first | with_reducible exact True.intro | with_reducible assumption | grind [-Prod] | grind [-Prod, → sc_Pt] | grind [-Prod, I_Pt, o_bn, upd]) (by first | with_reducible exact True.intro | with_reducible assumption | grind [-Prod] | grind [-Prod, → sc_Pt] | grind [-Prod, I_Pt, o_bn, upd])) (fun r hr => ?_)
      first | exact hr | (obtain ⟨g16, g17, g18, g19⟩ := hr; first | with_reducible exact True.intro | with_reducible assumption | grind [-Prod] | grind [-Prod, → sc_Pt] | grind [-Prod, I_Pt, o_bn, upd])
theorem s_Pt_tokenise_b19 {n : Nat} {x2 : Int32} {a1 : STx} {z : Int32 × SPt} (hn : o_big ≤ n) (h_a1 : I_Tx a1) (l0 : 0 ≤ z.1) (l1 : I_Pt z.2) : o_ok (m_Pt_tokenise_b19 n x2 a1 z) (fun q => (q.1 = 0 → 0 ≤ q.2.1 ∧ I_Pt q.2.2 ∧ o_mu q.2.1 < o_mu z.1) ∧ (q.1 ≠ 0 → I_Pt q.2.2)) := by
  unfold m_Pt_tokenise_b19
  refine o_okI (fun c1 => ?_) (fun c1 => ?_)
  · refine o_okS ?_
    refine ⟨fun h => absurd (show (1 : Nat) = 0 from h) (by decide), fun _ => ?_⟩
    exact l1
  · refine o_okB (s_Tx_cell  h_a1) ?_
    intro q2_2 g3
    refine o_okG (o_inM (m := 4000) rfl (by first | with_reducible exact True.intro | with_reducible assumption | grind [-Prod] | grind [-Prod, → sc_Pt, → sc_Tx] | grind [-Prod, I_Pt, I_Tx, o_bn, upd]) (by first | with_reducible exact True.intro | with_reducible assumption | grind [-Prod] | grind [-Prod, → sc_Pt, → sc_Tx] | grind [-Prod, I_Pt, I_Tx, o_bn, upd])) ?_
    refine o_okN (fun x3_39_4 ex3_39_4 => ?_)
    refine o_okS ?_
    refine ⟨fun _ => ?_, fun h => absurd rfl h⟩
    refine ⟨?_, ?_, ?_⟩
    · first | with_reducible exact True.intro | with_reducible assumption | grind [-Prod] | grind [-Prod, → sc_Pt, → sc_Tx] | grind [-Prod, I_Pt, I_Tx, o_bn, upd]
    · exact ⟨l1.1, l1.2.1, l1.2.2.1, l1.2.2.2.1, l1.2.2.2.2.1, l1.2.2.2.2.2.1, l1.2.2.2.2.2.2.1, (o_bnU l1.2.2.2.2.2.2.2.1 (by first | with_reducible exact True.intro | with_reducible assumption | grind [-Prod] | grind [-Prod, → sc_Pt, → sc_Tx] | grind [-Prod, I_Pt, I_Tx, o_bn, upd]) (by first | with_reducible exact True.intro | with_reducible assumption | grind [-Prod] | grind [-Prod, → sc_Pt, → sc_Tx] | grind [-Prod, I_Pt, I_Tx, o_bn, upd])), l1.2.2.2.2.2.2.2.2.1, l1.2.2.2.2.2.2.2.2.2.1, l1.2.2.2.2.2.2.2.2.2.2⟩
    · first | exact o_muL (by first | with_reducible exact True.intro | with_reducible assumption | grind [-Prod] | grind [-Prod, → sc_Pt, → sc_Tx] | grind [-Prod, I_Pt, I_Tx, o_bn, upd]) | exact o_nuL (by first | with_reducible exact True.intro | with_reducible assumption | grind [-Prod] | grind [-Prod, → sc_Pt, → sc_Tx] | grind [-Prod, I_Pt, I_Tx, o_bn, upd]) | (first | with_reducible exact True.intro | with_reducible assumption | grind [-Prod] | grind [-Prod, → sc_Pt, → sc_Tx] | grind [-Prod, I_Pt, I_Tx, o_bn, upd])
theorem l_Pt_tokenise_b19 {n : Nat} {x2 : Int32} {a1 : STx} {z : Int32 × SPt} (hn : o_big ≤ n) (h_a1 : I_Tx a1) (l0 : 0 ≤ z.1) (l1 : I_Pt z.2) : o_ok (o_lp n (m_Pt_tokenise_b19 n x2 a1) z) (fun q => q.1 ≠ 0 ∧ I_Pt q.2.2) := by
  exact o_lpR (fun z => 0 ≤ z.1 ∧ I_Pt z.2) (fun z => o_mu z.1) hn (o_muB) ⟨l0, l1⟩
    (fun z hz => by obtain ⟨l0, l1⟩ := hz; exact o_okW (s_Pt_tokenise_b19 hn h_a1 l0 l1) (fun q hq => ⟨fun h => by have := hq.1 h; grind, hq.2⟩))
set_option maxHeartbeats 8000000 in
theorem s_Pt_tokenise_b60 {n : Nat} {a1 : STx} {z : Int32 × Int32 × SPt} (hn : o_big ≤ n) (h_a1 : I_Tx a1) (l0 : Pt_tokenCount z.2.2 ≤ z.2.1) (l1 : 0 ≤ z.2.1) (l2 : I_Pt z.2.2) : o_ok (m_Pt_tokenise_b60 n a1 z) (fun q => (q.1 = 0 → Pt_tokenCount q.2.2.2 ≤ q.2.2.1 ∧ 0 ≤ q.2.2.1 ∧ I_Pt q.2.2.2 ∧ o_mu q.2.2.1 < o_mu z.2.1) ∧ (q.1 ≠ 0 → I_Pt q.2.2.2)) := by
  unfold m_Pt_tokenise_b60
  refine o_okI (fun c1 => ?_) (fun c1 => ?_)
  · refine o_okS ?_
    refine ⟨fun h => absurd (show (2 : Nat) = 0 from h) (by decide), fun _ => ?_⟩
    exact l2
  · refine o_okI (fun c2 => ?_) (fun c2 => ?_)
    · refine o_okS ?_
      refine ⟨fun h => absurd (show (2 : Nat) = 0 from h) (by decide), fun _ => ?_⟩
      exact l2
    · refine o_okG (o_inM (m := 4000) rfl (by first | with_reducible exact True.intro | with_reducible assumption | grind [-Prod] | grind [-Prod, → sc_Pt, → sc_Tx] | grind [-Prod, I_Pt, I_Tx, o_bn, upd]) (by first | with_reducible exact True.intro | with_reducible assumption | grind [-Prod] | grind [-Prod, → sc_Pt, → sc_Tx] | grind [-Prod, I_Pt, I_Tx, o_bn, upd])) ?_
      refine o_okN (fun x5_90_3 ex5_90_3 => ?_)
      refine o_okI (fun c4 => ?_) (fun c4 => ?_)
      · refine o_okB (s_Pt_escape  hn ⟨l2.1, l2.2.1, l2.2.2.1, (by first | with_reducible exact True.intro | with_reducible assumption | grind [-Prod] | grind [-Prod, → sc_Pt, → sc_Tx] | grind [-Prod, I_Pt, I_Tx, o_bn, upd]), (by first | with_reducible exact True.intro | with_reducible assumption | grind [-Prod] | grind [-Prod, → sc_Pt, → sc_Tx] | grind [-Prod, I_Pt, I_Tx, o_bn, upd]), l2.2.2.2.2.2.1, l2.2.2.2.2.2.2.1, l2.2.2.2.2.2.2.2.1, l2.2.2.2.2.2.2.2.2.1, l2.2.2.2.2.2.2.2.2.2.1, l2.2.2.2.2.2.2.2.2.2.2⟩ (by first | with_reducible exact True.intro | with_reducible assumption | grind [-Prod] | grind [-Prod, → sc_Pt, → sc_Tx] | grind [-Prod, I_Pt, I_Tx, o_bn, upd])) ?_
        intro q5_5 ⟨g6, g7, g8, g9⟩
        refine o_okI (fun c10 => ?_) (fun c10 => ?_)
        · refine o_okS ?_
          refine ⟨fun h => absurd (show (1 : Nat) = 0 from h) (by decide), fun _ => ?_⟩
          exact g9
        · unfold m_Pt_tokenise_j190
          refine o_okG (o_inM (m := 4000) rfl (by first | with_reducible exact True.intro | with_reducible assumption | grind [-Prod] | grind [-Prod, → sc_Pt, → sc_Tx] | grind [-Prod, I_Pt, I_Tx, o_bn, upd]) (by first | with_reducible exact True.intro | with_reducible assumption | grind [-Prod] | grind [-Prod, → sc_Pt, → sc_Tx] | grind [-Prod, I_Pt, I_Tx, o_bn, upd])) ?_
          refine o_okN (fun x4_211_11 ex4_211_11 => ?_)
          refine o_okS ?_
          refine ⟨fun _ => ?_, fun h => absurd rfl h⟩
          refine ⟨?_, ?_, ?_, ?_⟩
          · first | with_reducible exact True.intro | with_reducible assumption | grind [-Prod] | grind [-Prod, → sc_Pt, → sc_Tx] | grind [-Prod, I_Pt, I_Tx, o_bn, upd]
          · first | with_reducible exact True.intro | with_reducible assumption | grind [-Prod] | grind [-Prod, → sc_Pt, → sc_Tx] | grind [-Prod, I_Pt, I_Tx, o_bn, upd]
          · exact ⟨g9.1, (by first | with_reducible exact True.intro | with_reducible assumption | grind [-Prod] | grind [-Prod, → sc_Pt, → sc_Tx] | grind [-Prod, I_Pt, I_Tx, o_bn, upd]), (by first | with_reducible exact True.intro | with_reducible assumption | grind [-Prod] | grind [-Prod, → sc_Pt, → sc_Tx] | grind [-Prod, I_Pt, I_Tx, o_bn, upd]), g9.2.2.2.1, g9.2.2.2.2.1, g9.2.2.2.2.2.1, g9.2.2.2.2.2.2.1, (o_bnU g9.2.2.2.2.2.2.2.1 (by first | with_reducible exact True.intro | with_reducible assumption | grind [-Prod] | grind [-Prod, → sc_Pt, → sc_Tx] | grind [-Prod, I_Pt, I_Tx, o_bn, upd]) (by first | with_reducible exact True.intro | with_reducible assumption | grind [-Prod] | grind [-Prod, → sc_Pt, → sc_Tx] | grind [-Prod, I_Pt, I_Tx, o_bn, upd])), g9.2.2.2.2.2.2.2.2.1, g9.2.2.2.2.2.2.2.2.2.1, g9.2.2.2.2.2.2.2.2.2.2⟩
          · first | exact o_muL (by first | with_reducible exact True.intro | with_reducible assumption | grind [-Prod] | grind [-Prod, → sc_Pt, → sc_Tx] | grind [-Prod, I_Pt, I_Tx, o_bn, upd]) | exact o_nuL (by first | with_reducible exact True.intro | with_reducible assumption | grind [-Prod] | grind [-Prod, → sc_Pt, → sc_Tx] | grind [-Prod, I_Pt, I_Tx, o_bn, upd]) | (first | with_reducible exact True.intro | with_reducible assumption | grind [-Prod] | grind [-Prod, → sc_Pt, → sc_Tx] | grind [-Prod, I_Pt, I_Tx, o_bn, upd])
      · refine o_okI (fun c12 => ?_) (fun c12 => ?_)
        · refine o_okB (s_Pt_isIn  hn) ?_
          intro q4_13 ⟨g14, g15⟩
          refine o_okI (fun c16 => ?_) (fun c16 => ?_)
          · unfold m_Pt_tokenise_j190
            refine o_okG (o_inM (m := 4000) rfl (by first | with_reducible exact True.intro | with_reducible assumption | grind [-Prod] | grind [-Prod, → sc_Pt, → sc_Tx] | grind [-Prod, I_Pt, I_Tx, o_bn, upd]) (by first | with_reducible exact True.intro | with_reducible assumption | grind [-Prod] | grind [-Prod, → sc_Pt, → sc_Tx] | grind [-Prod, I_Pt, I_Tx, o_bn, upd])) ?_
            refine o_okN (fun x4_211_17 ex4_211_17 => ?_)
            refine o_okS ?_
            refine ⟨fun _ => ?_, fun h => absurd rfl h⟩
            refine ⟨?_, ?_, ?_, ?_⟩
            · first | with_reducible exact True.intro | with_reducible assumption | grind [-Prod] | grind [-Prod, → sc_Pt, → sc_Tx] | grind [-Prod, I_Pt, I_Tx, o_bn, upd]
            · first | with_reducible exact True.intro | with_reducible assumption | grind [-Prod] | grind [-Prod, → sc_Pt, → sc_Tx] | grind [-Prod, I_Pt, I_Tx, o_bn, upd]
            · exact ⟨l2.1, (by first | with_reducible exact True.intro | with_reducible assumption | grind [-Prod] | grind [-Prod, → sc_Pt, → sc_Tx] | grind [-Prod, I_Pt, I_Tx, o_bn, upd]), (by first | with_reducible exact True.intro | with_reducible assumption | grind [-Prod] | grind [-Prod, → sc_Pt, → sc_Tx] | grind [-Prod, I_Pt, I_Tx, o_bn, upd]), (by first | with_reducible exact True.intro | with_reducible assumption | grind [-Prod] | grind [-Prod, → sc_Pt, → sc_Tx] | grind [-Prod, I_Pt, I_Tx, o_bn, upd]), (by first | with_reducible exact True.intro | with_reducible assumption | grind [-Prod] | grind [-Prod, → sc_Pt, → sc_Tx] | grind [-Prod, I_Pt, I_Tx, o_bn, upd]), l2.2.2.2.2.2.1, l2.2.2.2.2.2.2.1, (o_bnU l2.2.2.2.2.2.2.2.1 (by first | with_reducible exact True.intro | with_reducible assumption | grind [-Prod] | grind [-Prod, → sc_Pt, → sc_Tx] | grind [-Prod, I_Pt, I_Tx, o_bn, upd]) (by first | with_reducible exact True.intro | with_reducible assumption | grind [-Prod] | grind [-Prod, → sc_Pt, → sc_Tx] | grind [-Prod, I_Pt, I_Tx, o_bn, upd])), l2.2.2.2.2.2.2.2.2.1, l2.2.2.2.2.2.2.2.2.2.1, l2.2.2.2.2.2.2.2.2.2.2⟩
            · first | exact o_muL (by first | with_reducible exact True.intro | with_reducible assumption | grind [-Prod] | grind [-Prod, → sc_Pt, → sc_Tx] | grind [-Prod, I_Pt, I_Tx, o_bn, upd]) | exact o_nuL (by first | with_reducible exact True.intro | with_reducible assumption | grind [-Prod] | grind [-Prod, → sc_Pt, → sc_Tx] | grind [-Prod, I_Pt, I_Tx, o_bn, upd]) | (first | with_reducible exact True.intro | with_reducible assumption | grind [-Prod] | grind [-Prod, → sc_Pt, → sc_Tx] | grind [-Prod, I_Pt, I_Tx, o_bn, upd])
          · refine o_okI (fun c18 => ?_) (fun c18 => ?_)
            · unfold m_Pt_tokenise_j184
              refine o_okN (fun x6_188_19 ex6_188_19 => ?_)
              unfold m_Pt_tokenise_j190
              refine o_okG (o_inM (m := 4000) rfl (by first | with_reducible exact True.intro | with_reducible assumption | grind [-Prod] | grind [-Prod, → sc_Pt, → sc_Tx] | grind [-Prod, I_Pt, I_Tx, o_bn, upd]) (by first | with_reducible exact True.intro | with_reducible assumption | grind [-Prod] | grind [-Prod, → sc_Pt, → sc_Tx] | grind [-Prod, I_Pt, I_Tx, o_bn, upd])) ?_
              refine o_okN (fun x4_211_20 ex4_211_20 => ?_)
              refine o_okS ?_
              refine ⟨fun _ => ?_, fun h => absurd rfl h⟩
              refine ⟨?_, ?_, ?_, ?_⟩
              · first | with_reducible exact True.intro | with_reducible assumption | grind [-Prod] | grind [-Prod, → sc_Pt, → sc_Tx] | grind [-Prod, I_Pt, I_Tx, o_bn, upd]
              · first | with_reducible exact True.intro | with_reducible assumption | grind [-Prod] | grind [-Prod, → sc_Pt, → sc_Tx] | grind [-Prod, I_Pt, I_Tx, o_bn, upd]
              · exact ⟨l2.1, (by first | with_reducible exact True.intro | with_reducible assumption | grind [-Prod] | grind [-Prod, → sc_Pt, → sc_Tx] | grind [-Prod, I_Pt, I_Tx, o_bn, upd]), (by first | with_reducible exact True.intro | with_reducible assumption | grind [-Prod] | grind [-Prod, → sc_Pt, → sc_Tx] | grind [-Prod, I_Pt, I_Tx, o_bn, upd]), (by first | with_reducible exact True.intro | with_reducible assumption | grind [-Prod] | grind [-Prod, → sc_Pt, → sc_Tx] | grind [-Prod, I_Pt, I_Tx, o_bn, upd]), (by first | with_reducible exact True.intro | with_reducible assumption | grind [-Prod] | grind [-Prod, → sc_Pt, → sc_Tx] | grind [-Prod, I_Pt, I_Tx, o_bn, upd]), l2.2.2.2.2.2.1, l2.2.2.2.2.2.2.1, (o_bnU l2.2.2.2.2.2.2.2.1 (by first | with_reducible exact True.intro | with_reducible assumption | grind [-Prod] | grind [-Prod, → sc_Pt, → sc_Tx] | grind [-Prod, I_Pt, I_Tx, o_bn, upd]) (by first | with_reducible exact True.intro | with_reducible assumption | grind [-Prod] | grind [-Prod, → sc_Pt, → sc_Tx] | grind [-Prod, I_Pt, I_Tx, o_bn, upd])), l2.2.2.2.2.2.2.2.2.1, l2.2.2.2.2.2.2.2.2.2.1, l2.2.2.2.2.2.2.2.2.2.2⟩
              · first | exact o_muL (by first | with_reducible exact True.intro | with_reducible assumption | grind [-Prod] | grind [-Prod, → sc_Pt, → sc_Tx] | grind [-Prod, I_Pt, I_Tx, o_bn, upd]) | exact o_nuL (by first | with_reducible exact True.intro | with_reducible assumption | grind [-Prod] | grind [-Prod, → sc_Pt, → sc_Tx] | grind [-Prod, I_Pt, I_Tx, o_bn, upd]) | (first | with_reducible exact True.intro | with_reducible assumption | grind [-Prod] | grind [-Prod, → sc_Pt, → sc_Tx] | grind [-Prod, I_Pt, I_Tx, o_bn, upd])
            · unfold m_Pt_tokenise_j184
              refine o_okN (fun x6_188_21 ex6_188_21 => ?_)
              unfold m_Pt_tokenise_j190
              refine o_okG (o_inM (m := 4000) rfl (by first | with_reducible exact True.intro | with_reducible assumption | grind [-Prod] | grind [-Prod, → sc_Pt, → sc_Tx] | grind [-Prod, I_Pt, I_Tx, o_bn, upd]) (by first | with_reducible exact True.intro | with_reducible assumption | grind [-Prod] | grind [-Prod, → sc_Pt, → sc_Tx] | grind [-Prod, I_Pt, I_Tx, o_bn, upd])) ?_
              refine o_okN (fun x4_211_22 ex4_211_22 => ?_)
              refine o_okS ?_
              refine ⟨fun _ => ?_, fun h => absurd rfl h⟩
              refine ⟨?_, ?_, ?_, ?_⟩
              · first | with_reducible exact True.intro | with_reducible assumption | grind [-Prod] | grind [-Prod, → sc_Pt, → sc_Tx] | grind [-Prod, I_Pt, I_Tx, o_bn, upd]
              · first | with_reducible exact True.intro | with_reducible assumption | grind [-Prod] | grind [-Prod, → sc_Pt, → sc_Tx] | grind [-Prod, I_Pt, I_Tx, o_bn, upd]
              · exact ⟨l2.1, (by first | with_reducible exact True.intro | with_reducible assumption | grind [-Prod] | grind [-Prod, → sc_Pt, → sc_Tx] | grind [-Prod, I_Pt, I_Tx, o_bn, upd]), (by first | with_reducible exact True.intro | with_reducible assumption | grind [-Prod] | grind [-Prod, → sc_Pt, → sc_Tx] | grind [-Prod, I_Pt, I_Tx, o_bn, upd]), (by first | with_reducible exact True.intro | with_reducible assumption | grind [-Prod] | grind [-Prod, → sc_Pt, → sc_Tx] | grind [-Prod, I_Pt, I_Tx, o_bn, upd]), (by first | with_reducible exact True.intro | with_reducible assumption | grind [-Prod] | grind [-Prod, → sc_Pt, → sc_Tx] | grind [-Prod, I_Pt, I_Tx, o_bn, upd]), l2.2.2.2.2.2.1, l2.2.2.2.2.2.2.1, (o_bnU l2.2.2.2.2.2.2.2.1 (by first | with_reducible exact True.intro | with_reducible assumption | grind [-Prod] | grind [-Prod, → sc_Pt, → sc_Tx] | grind [-Prod, I_Pt, I_Tx, o_bn, upd]) (by first | with_reducible exact True.intro | with_reducible assumption | grind [-Prod] | grind [-Prod, → sc_Pt, → sc_Tx] | grind [-Prod, I_Pt, I_Tx, o_bn, upd])), l2.2.2.2.2.2.2.2.2.1, l2.2.2.2.2.2.2.2.2.2.1, l2.2.2.2.2.2.2.2.2.2.2⟩
              · first | exact o_muL (by first | with_reducible exact True.intro | with_reducible assumption | grind [-Prod] | grind [-Prod, → sc_Pt, → sc_Tx] | grind [-Prod, I_Pt, I_Tx, o_bn, upd]) | exact o_nuL (by first | with_reducible exact True.intro | with_reducible assumption | grind [-Prod] | grind [-Prod, → sc_Pt, → sc_Tx] | grind [-Prod, I_Pt, I_Tx, o_bn, upd]) | (first | with_reducible exact True.intro | with_reducible assumption | grind [-Prod] | grind [-Prod, → sc_Pt, → sc_Tx] | grind [-Prod, I_Pt, I_Tx, o_bn, upd])
        · refine o_okI (fun c23 => ?_) (fun c23 => ?_)
          · unfold m_Pt_tokenise_j144
            refine o_okI (fun c24 => ?_) (fun c24 => ?_)
            · refine o_okN (fun x6_157_25 ex6_157_25 => ?_)
              unfold m_Pt_tokenise_j190
              refine o_okG (o_inM (m := 4000) rfl (by first | with_reducible exact True.intro | with_reducible assumption | grind [-Prod] | grind [-Prod, → sc_Pt, → sc_Tx] | grind [-Prod, I_Pt, I_Tx, o_bn, upd]) (by first | with_reducible exact True.intro | with_reducible assumption | grind [-Prod] | grind [-Prod, → sc_Pt, → sc_Tx] | grind [-Prod, I_Pt, I_Tx, o_bn, upd])) ?_
              refine o_okN (fun x4_211_26 ex4_211_26 => ?_)
              refine o_okS ?_
              refine ⟨fun _ => ?_, fun h => absurd rfl h⟩
              refine ⟨?_, ?_, ?_, ?_⟩
              · first | with_reducible exact True.intro | with_reducible assumption | grind [-Prod] | grind [-Prod, → sc_Pt, → sc_Tx] | grind [-Prod, I_Pt, I_Tx, o_bn, upd]
              · first | with_reducible exact True.intro | with_reducible assumption | grind [-Prod] | grind [-Prod, → sc_Pt, → sc_Tx] | grind [-Prod, I_Pt, I_Tx, o_bn, upd]
              · exact ⟨l2.1, (by first | with_reducible exact True.intro | with_reducible assumption | grind [-Prod] | grind [-Prod, → sc_Pt, → sc_Tx] | grind [-Prod, I_Pt, I_Tx, o_bn, upd]), (by first | with_reducible exact True.intro | with_reducible assumption | grind [-Prod] | grind [-Prod, → sc_Pt, → sc_Tx] | grind [-Prod, I_Pt, I_Tx, o_bn, upd]), (by first | with_reducible exact True.intro | with_reducible assumption | grind [-Prod] | grind [-Prod, → sc_Pt, → sc_Tx] | grind [-Prod, I_Pt, I_Tx, o_bn, upd]), (by first | with_reducible exact True.intro | with_reducible assumption | grind [-Prod] | grind [-Prod, → sc_Pt, → sc_Tx] | grind [-Prod, I_Pt, I_Tx, o_bn, upd]), l2.2.2.2.2.2.1, l2.2.2.2.2.2.2.1, (o_bnU l2.2.2.2.2.2.2.2.1 (by first | with_reducible exact True.intro | with_reducible assumption | grind [-Prod] | grind [-Prod, → sc_Pt, → sc_Tx] | grind [-Prod, I_Pt, I_Tx, o_bn, upd]) (by first | with_reducible exact True.intro | with_reducible assumption | grind [-Prod] | grind [-Prod, → sc_Pt, → sc_Tx] | grind [-Prod, I_Pt, I_Tx, o_bn, upd])), l2.2.2.2.2.2.2.2.2.1, l2.2.2.2.2.2.2.2.2.2.1, l2.2.2.2.2.2.2.2.2.2.2⟩
              · first | exact o_muL (by first | with_reducible exact True.intro | with_reducible assumption | grind [-Prod] | grind [-Prod, → sc_Pt, → sc_Tx] | grind [-Prod, I_Pt, I_Tx, o_bn, upd]) | exact o_nuL (by first | with_reducible exact True.intro | with_reducible assumption | grind [-Prod] | grind [-Prod, → sc_Pt, → sc_Tx] | grind [-Prod, I_Pt, I_Tx, o_bn, upd]) | (first | with_reducible exact True.intro | with_reducible assumption | grind [-Prod] | grind [-Prod, → sc_Pt, → sc_Tx] | grind [-Prod, I_Pt, I_Tx, o_bn, upd])
            · unfold m_Pt_tokenise_j190
              refine o_okG (o_inM (m := 4000) rfl (by first | with_reducible exact True.intro | with_reducible assumption | grind [-Prod] | grind [-Prod, → sc_Pt, → sc_Tx] | grind [-Prod, I_Pt, I_Tx, o_bn, upd]) (by first | with_reducible exact True.intro | with_reducible assumption | grind [-Prod] | grind [-Prod, → sc_Pt, → sc_Tx] | grind [-Prod, I_Pt, I_Tx, o_bn, upd])) ?_
              refine o_okN (fun x4_211_27 ex4_211_27 => ?_)
              refine o_okS ?_
              refine ⟨fun _ => ?_, fun h => absurd rfl h⟩
              refine ⟨?_, ?_, ?_, ?_⟩
              · first | with_reducible exact True.intro | with_reducible assumption | grind [-Prod] | grind [-Prod, → sc_Pt, → sc_Tx] | grind [-Prod, I_Pt, I_Tx, o_bn, upd]
              · first | with_reducible exact True.intro | with_reducible assumption | grind [-Prod] | grind [-Prod, → sc_Pt, → sc_Tx] | grind [-Prod, I_Pt, I_Tx, o_bn, upd]
              · exact ⟨l2.1, (by first | with_reducible exact True.intro | with_reducible assumption | grind [-Prod] | grind [-Prod, → sc_Pt, → sc_Tx] | grind [-Prod, I_Pt, I_Tx, o_bn, upd]), (by first | with_reducible exact True.intro | with_reducible assumption | grind [-Prod] | grind [-Prod, → sc_Pt, → sc_Tx] | grind [-Prod, I_Pt, I_Tx, o_bn, upd]), (by first | with_reducible exact True.intro | with_reducible assumption | grind [-Prod] | grind [-Prod, → sc_Pt, → sc_Tx] | grind [-Prod, I_Pt, I_Tx, o_bn, upd]), (by first | with_reducible exact True.intro | with_reducible assumption | grind [-Prod] | grind [-Prod, → sc_Pt, → sc_Tx] | grind [-Prod, I_Pt, I_Tx, o_bn, upd]), l2.2.2.2.2.2.1, l2.2.2.2.2.2.2.1, (o_bnU l2.2.2.2.2.2.2.2.1 (by first | with_reducible exact True.intro | with_reducible assumption | grind [-Prod] | grind [-Prod, → sc_Pt, → sc_Tx] | grind [-Prod, I_Pt, I_Tx, o_bn, upd]) (by first | with_reducible exact True.intro | with_reducible assumption | grind [-Prod] | grind [-Prod, → sc_Pt, → sc_Tx] | grind [-Prod, I_Pt, I_Tx, o_bn, upd])), l2.2.2.2.2.2.2.2.2.1, l2.2.2.2.2.2.2.2.2.2.1, l2.2.2.2.2.2.2.2.2.2.2⟩
              · first | exact o_muL (by first | with_reducible exact True.intro | with_reducible assumption | grind [-Prod] | grind [-Prod, → sc_Pt, → sc_Tx] | grind [-Prod, I_Pt, I_Tx, o_bn, upd]) | exact o_nuL (by first | with_reducible exact True.intro | with_reducible assumption | grind [-Prod] | grind [-Prod, → sc_Pt, → sc_Tx] | grind [-Prod, I_Pt, I_Tx, o_bn, upd]) | (first | with_reducible exact True.intro | with_reducible assumption | grind [-Prod] | grind [-Prod, → sc_Pt, → sc_Tx] | grind [-Prod, I_Pt, I_Tx, o_bn, upd])
          · unfold m_Pt_tokenise_j144
            refine o_okI (fun c28 => ?_) (fun c28 => ?_)
            · refine o_okN (fun x6_157_29 ex6_157_29 => ?_)
              unfold m_Pt_tokenise_j190
              refine o_okG (o_inM (m := 4000) rfl (by first | with_reducible exact True.intro | with_reducible assumption | grind [-Prod] | grind [-Prod, → sc_Pt, → sc_Tx] | grind [-Prod, I_Pt, I_Tx, o_bn, upd]) (by first | with_reducible exact True.intro | with_reducible assumption | grind [-Prod] | grind [-Prod, → sc_Pt, → sc_Tx] | grind [-Prod, I_Pt, I_Tx, o_bn, upd])) ?_
              refine o_okN (fun x4_211_30 ex4_211_30 => ?_)
              refine o_okS ?_
              refine ⟨fun _ => ?_, fun h => absurd rfl h⟩
              refine ⟨?_, ?_, ?_, ?_⟩
              · first | with_reducible exact True.intro | with_reducible assumption | grind [-Prod] | grind [-Prod, → sc_Pt, → sc_Tx] | grind [-Prod, I_Pt, I_Tx, o_bn, upd]
              · first | with_reducible exact True.intro | with_reducible assumption | grind [-Prod] | grind [-Prod, → sc_Pt, → sc_Tx] | grind [-Prod, I_Pt, I_Tx, o_bn, upd]
              · exact ⟨l2.1, (by first | with_reducible exact True.intro | with_reducible assumption | grind [-Prod] | grind [-Prod, → sc_Pt, → sc_Tx] | grind [-Prod, I_Pt, I_Tx, o_bn, upd]), (by first | with_reducible exact True.intro | with_reducible assumption | grind [-Prod] | grind [-Prod, → sc_Pt, → sc_Tx] | grind [-Prod, I_Pt, I_Tx, o_bn, upd]), (by first | with_reducible exact True.intro | with_reducible assumption | grind [-Prod] | grind [-Prod, → sc_Pt, → sc_Tx] | grind [-Prod, I_Pt, I_Tx, o_bn, upd]), (by first | with_reducible exact True.intro | with_reducible assumption | grind [-Prod] | grind [-Prod, → sc_Pt, → sc_Tx] | grind [-Prod, I_Pt, I_Tx, o_bn, upd]), l2.2.2.2.2.2.1, l2.2.2.2.2.2.2.1, (o_bnU l2.2.2.2.2.2.2.2.1 (by first | with_reducible exact True.intro | with_reducible assumption | grind [-Prod] | grind [-Prod, → sc_Pt, → sc_Tx] | grind [-Prod, I_Pt, I_Tx, o_bn, upd]) (by first | with_reducible exact True.intro | with_reducible assumption | grind [-Prod] | grind [-Prod, → sc_Pt, → sc_Tx] | grind [-Prod, I_Pt, I_Tx, o_bn, upd])), l2.2.2.2.2.2.2.2.2.1, l2.2.2.2.2.2.2.2.2.2.1, l2.2.2.2.2.2.2.2.2.2.2⟩
              · first | exact o_muL (by first | with_reducible exact True.intro | with_reducible assumption | grind [-Prod] | grind [-Prod, → sc_Pt, → sc_Tx] | grind [-Prod, I_Pt, I_Tx, o_bn, upd]) | exact o_nuL (by first | with_reducible exact True.intro | with_reducible assumption | grind [-Prod] | grind [-Prod, → sc_Pt, → sc_Tx] | grind [-Prod, I_Pt, I_Tx, o_bn, upd]) | (first | with_reducible exact True.intro | with_reducible assumption | grind [-Prod] | grind [-Prod, → sc_Pt, → sc_Tx] | grind [-Prod, I_Pt, I_Tx, o_bn, upd])
            · unfold m_Pt_tokenise_j190
              refine o_okG (o_inM (m := 4000) rfl (by first | with_reducible exact True.intro | with_reducible assumption | grind [-Prod] | grind [-Prod, → sc_Pt, → sc_Tx] | grind [-Prod, I_Pt, I_Tx, o_bn, upd]) (by first | with_reducible exact True.intro | with_reducible assumption | grind [-Prod] | grind [-Prod, → sc_Pt, → sc_Tx] | grind [-Prod, I_Pt, I_Tx, o_bn, upd])) ?_
              refine o_okN (fun x4_211_31 ex4_211_31 => ?_)
              refine o_okS ?_
              refine ⟨fun _ => ?_, fun h => absurd rfl h⟩
              refine ⟨?_, ?_, ?_, ?_⟩
              · first | with_reducible exact True.intro | with_reducible assumption | grind [-Prod] | grind [-Prod, → sc_Pt, → sc_Tx] | grind [-Prod, I_Pt, I_Tx, o_bn, upd]
              · first | with_reducible exact True.intro | with_reducible assumption | grind [-Prod] | grind [-Prod, → sc_Pt, → sc_Tx] | grind [-Prod, I_Pt, I_Tx, o_bn, upd]
              · exact ⟨l2.1, (by first | with_reducible exact True.intro | with_reducible assumption | grind [-Prod] | grind [-Prod, → sc_Pt, → sc_Tx] | grind [-Prod, I_Pt, I_Tx, o_bn, upd]), (by first | with_reducible exact True.intro | with_reducible assumption | grind [-Prod] | grind [-Prod, → sc_Pt, → sc_Tx] | grind [-Prod, I_Pt, I_Tx, o_bn, upd]), (by first | with_reducible exact True.intro | with_reducible assumption | grind [-Prod] | grind [-Prod, → sc_Pt, → sc_Tx] | grind [-Prod, I_Pt, I_Tx, o_bn, upd]), (by first | with_reducible exact True.intro | with_reducible assumption | grind [-Prod] | grind [-Prod, → sc_Pt, → sc_Tx] | grind [-Prod, I_Pt, I_Tx, o_bn, upd]), l2.2.2.2.2.2.1, l2.2.2.2.2.2.2.1, (o_bnU l2.2.2.2.2.2.2.2.1 (by first | with_reducible exact True.intro | with_reducible assumption | grind [-Prod] | grind [-Prod, → sc_Pt, → sc_Tx] | grind [-Prod, I_Pt, I_Tx, o_bn, upd]) (by first | with_reducible exact True.intro | with_reducible assumption | grind [-Prod] | grind [-Prod, → sc_Pt, → sc_Tx] | grind [-Prod, I_Pt, I_Tx, o_bn, upd])), l2.2.2.2.2.2.2.2.2.1, l2.2.2.2.2.2.2.2.2.2.1, l2.2.2.2.2.2.2.2.2.2.2⟩
              · first | exact o_muL (by first | with_reducible exact True.intro | with_reducible assumption | grind [-Prod] | grind [-Prod, → sc_Pt, → sc_Tx] | grind [-Prod, I_Pt, I_Tx, o_bn, upd]) | exact o_nuL (by first | with_reducible exact True.intro | with_reducible assumption | grind [-Prod] | grind [-Prod, → sc_Pt, → sc_Tx] | grind [-Prod, I_Pt, I_Tx, o_bn, upd]) | (first | with_reducible exact True.intro | with_reducible assumption | grind [-Prod] | grind [-Prod, → sc_Pt, → sc_Tx] | grind [-Prod, I_Pt, I_Tx, o_bn, upd])
theorem l_Pt_tokenise_b60 {n : Nat} {a1 : STx} {z : Int32 × Int32 × SPt} (hn : o_big ≤ n) (h_a1 : I_Tx a1) (l0 : Pt_tokenCount z.2.2 ≤ z.2.1) (l1 : 0 ≤ z.2.1) (l2 : I_Pt z.2.2) : o_ok (o_lp n (m_Pt_tokenise_b60 n a1) z) (fun q => q.1 ≠ 0 ∧ I_Pt q.2.2.2) := by
  exact o_lpR (fun z => Pt_tokenCount z.2.2 ≤ z.2.1 ∧ 0 ≤ z.2.1 ∧ I_Pt z.2.2) (fun z => o_mu z.2.1) hn (o_muB) ⟨l0, l1, l2⟩
    (fun z hz => by obtain ⟨l0, l1, l2⟩ := hz; exact o_okW (s_Pt_tokenise_b60 hn h_a1 l0 l1 l2) (fun q hq => ⟨fun h => by have := hq.1 h; grind, hq.2⟩))
theorem s_Pt_tokenise {n : Nat} {x2 : Int32} {a1 : STx} {Pt : SPt} (hn : o_big ≤ n) (h_a1 : I_Tx a1) (h_Pt : I_Pt Pt) : o_ok (m_Pt_tokenise n x2 a1 Pt) (fun r => (r.1 = 0 ∨ r.1 = 1) ∧ I_Pt r.2) := by
  unfold m_Pt_tokenise
  refine o_okB (s_Tx_size  h_a1) ?_
  intro q1_1 g2
  refine o_okB (l_Pt_tokenise_b19  hn h_a1 (by first | with_reducible exact True.intro | with_reducible assumption | grind [-Prod] | grind [-Prod, → sc_Pt, → sc_Tx] | grind [-Prod, I_Pt, I_Tx, o_bn, upd]) ⟨(by first | with_reducible exact True.intro | with_reducible assumption | grind [-Prod] | grind [-Prod, → sc_Pt, → sc_Tx] | grind [-Prod, I_Pt, I_Tx, o_bn, upd]), h_Pt.2.1, h_Pt.2.2.1, h_Pt.2.2.2.1, h_Pt.2.2.2.2.1, h_Pt.2.2.2.2.2.1, h_Pt.2.2.2.2.2.2.1, h_Pt.2.2.2.2.2.2.2.1, h_Pt.2.2.2.2.2.2.2.2.1, h_Pt.2.2.2.2.2.2.2.2.2.1, h_Pt.2.2.2.2.2.2.2.2.2.2⟩) ?_
  intro q3_3 ⟨yq3_3, g4⟩
  refine o_okB (l_Pt_tokenise_b60  hn h_a1 (by first | with_reducible exact True.intro | with_reducible assumption | grind [-Prod] | grind [-Prod, → sc_Pt, → sc_Tx] | grind [-Prod, I_Pt, I_Tx, o_bn, upd]) (by first | with_reducible exact True.intro | with_reducible assumption | grind [-Prod] | grind [-Prod, → sc_Pt, → sc_Tx] | grind [-Prod, I_Pt, I_Tx, o_bn, upd]) ⟨g4.1, (by first | with_reducible exact True.intro | with_reducible assumption | grind [-Prod] | grind [-Prod, → sc_Pt, → sc_Tx] | grind [-Prod, I_Pt, I_Tx, o_bn, upd]), (by first | with_reducible exact True.intro | with_reducible assumption | grind [-Prod] | grind [-Prod, → sc_Pt, → sc_Tx] | grind [-Prod, I_Pt, I_Tx, o_bn, upd]), (by first | with_reducible exact True.intro | with_reducible assumption | grind [-Prod] | grind [-Prod, → sc_Pt, → sc_Tx] | grind [-Prod, I_Pt, I_Tx, o_bn, upd]), (by first | with_reducible exact True.intro | with_reducible assumption | grind [-Prod] | grind [-Prod, → sc_Pt, → sc_Tx] | grind [-Prod, I_Pt, I_Tx, o_bn, upd]), g4.2.2.2.2.2.1, g4.2.2.2.2.2.2.1, g4.2.2.2.2.2.2.2.1, g4.2.2.2.2.2.2.2.2.1, g4.2.2.2.2.2.2.2.2.2.1, g4.2.2.2.2.2.2.2.2.2.2⟩) ?_
  intro q6_5 ⟨yq6_5, g6⟩
  refine o_okI (fun c7 => ?_) (fun c7 => ?_)
  · refine o_okS ?_
    refine ⟨?_, ?_⟩
    · first | with_reducible exact True.intro | with_reducible assumption | grind [-Prod] | grind [-Prod, → sc_Pt, → sc_Tx] | grind [-Prod, I_Pt, I_Tx, o_bn, upd]
    · exact g6
  · unfold m_Pt_tokenise_j217
    refine o_okI (fun c8 => ?_) (fun c8 => ?_)
    · refine o_okS ?_
      refine ⟨?_, ?_⟩
      · first | with_reducible exact True.intro | with_reducible assumption | grind [-Prod] | grind [-Prod, → sc_Pt, → sc_Tx] | grind [-Prod, I_Pt, I_Tx, o_bn, upd]
      · exact g6
    · refine o_okS ?_
      refine ⟨?_, ?_⟩
      · first | with_reducible exact True.intro | with_reducible assumption | grind [-Prod] | grind [-Prod, → sc_Pt, → sc_Tx] | grind [-Prod, I_Pt, I_Tx, o_bn, upd]
      · exact g6
theorem s_Pg_clear {Pg : SPg} (h_Pg : I_Pg Pg) : o_ok (m_Pg_clear Pg) (fun r => I_Pg r) := by
  unfold m_Pg_clear
  refine o_okS ?_
  exact ⟨(by first | with_reducible exact True.intro | with_reducible assumption | grind [-Prod] | grind [-Prod, → sc_Pg] | grind [-Prod, I_Pg, o_bn, upd]), (by first | with_reducible exact True.intro | with_reducible assumption | grind [-Prod] | grind [-Prod, → sc_Pg] | grind [-Prod, I_Pg, o_bn, upd]), (by first | with_reducible exact True.intro | with_reducible assumption | grind [-Prod] | grind [-Prod, → sc_Pg] | grind [-Prod, I_Pg, o_bn, upd]), (by first | with_reducible exact True.intro | with_reducible assumption | grind [-Prod] | grind [-Prod, → sc_Pg] | grind [-Prod, I_Pg, o_bn, upd]), h_Pg.2.2.2.2.1, h_Pg.2.2.2.2.2.1, h_Pg.2.2.2.2.2.2.1, h_Pg.2.2.2.2.2.2.2.1, h_Pg.2.2.2.2.2.2.2.2.1, h_Pg.2.2.2.2.2.2.2.2.2.1, h_Pg.2.2.2.2.2.2.2.2.2.2⟩
theorem s_Pt_beginBlock {Pg : SPg} {Pt : SPt} (h_Pg : I_Pg Pg) (h_Pt : I_Pt Pt) : o_ok (m_Pt_beginBlock Pg Pt) (fun r => Pt_position r = Pt_position Pt ∧ I_Pt r) := by
  unfold m_Pt_beginBlock
  refine o_okG (o_inM (m := 31) rfl (by first | with_reducible exact True.intro | with_reducible assumption | grind [-Prod] | grind [-Prod, → sc_Pg, → sc_Pt] | grind [-Prod, I_Pg, I_Pt, o_bn, upd]) (by first | with_reducible exact True.intro | with_reducible assumption | grind [-Prod] | grind [-Prod, → sc_Pg, → sc_Pt] | grind [-Prod, I_Pg, I_Pt, o_bn, upd])) ?_
  refine o_okG (o_inM (m := 31) rfl (by first | with_reducible exact True.intro | with_reducible assumption | grind [-Prod] | grind [-Prod, → sc_Pg, → sc_Pt] | grind [-Prod, I_Pg, I_Pt, o_bn, upd]) (by first | with_reducible exact True.intro | with_reducible assumption | grind [-Prod] | grind [-Prod, → sc_Pg, → sc_Pt] | grind [-Prod, I_Pg, I_Pt, o_bn, upd])) ?_
  refine o_okG (o_inM (m := 31) rfl (by first | with_reducible exact True.intro | with_reducible assumption | grind [-Prod] | grind [-Prod, → sc_Pg, → sc_Pt] | grind [-Prod, I_Pg, I_Pt, o_bn, upd]) (by first | with_reducible exact True.intro | with_reducible assumption | grind [-Prod] | grind [-Prod, → sc_Pg, → sc_Pt] | grind [-Prod, I_Pg, I_Pt, o_bn, upd])) ?_
  refine o_okG (o_inM (m := 31) rfl (by first | with_reducible exact True.intro | with_reducible assumption | grind [-Prod] | grind [-Prod, → sc_Pg, → sc_Pt] | grind [-Prod, I_Pg, I_Pt, o_bn, upd]) (by first | with_reducible exact True.intro | with_reducible assumption | grind [-Prod] | grind [-Prod, → sc_Pg, → sc_Pt] | grind [-Prod, I_Pg, I_Pt, o_bn, upd])) ?_
  refine o_okS ?_
  refine ⟨?_, ?_⟩
  · first | with_reducible exact True.intro | with_reducible assumption | grind [-Prod] | grind [-Prod, → sc_Pg, → sc_Pt] | grind [-Prod, I_Pg, I_Pt, o_bn, upd]
  · exact ⟨h_Pt.1, h_Pt.2.1, h_Pt.2.2.1, h_Pt.2.2.2.1, h_Pt.2.2.2.2.1, h_Pt.2.2.2.2.2.1, h_Pt.2.2.2.2.2.2.1, h_Pt.2.2.2.2.2.2.2.1, (o_bnU h_Pt.2.2.2.2.2.2.2.2.1 (by first | with_reducible exact True.intro | with_reducible assumption | grind [-Prod] | grind [-Prod, → sc_Pg, → sc_Pt] | grind [-Prod, I_Pg, I_Pt, o_bn, upd]) (by first | with_reducible exact True.intro | with_reducible assumption | grind [-Prod] | grind [-Prod, → sc_Pg, → sc_Pt] | grind [-Prod, I_Pg, I_Pt, o_bn, upd])), (o_bnU h_Pt.2.2.2.2.2.2.2.2.2.1 (by first | with_reducible exact True.intro | with_reducible assumption | grind [-Prod] | grind [-Prod, → sc_Pg, → sc_Pt] | grind [-Prod, I_Pg, I_Pt, o_bn, upd]) (by first | with_reducible exact True.intro | with_reducible assumption | grind [-Prod] | grind [-Prod, → sc_Pg, → sc_Pt] | grind [-Prod, I_Pg, I_Pt, o_bn, upd])), (o_bnU h_Pt.2.2.2.2.2.2.2.2.2.2 (by first | with_reducible exact True.intro | with_reducible assumption | grind [-Prod] | grind [-Prod, → sc_Pg, → sc_Pt] | grind [-Prod, I_Pg, I_Pt, o_bn, upd]) (by first | with_reducible exact True.intro | with_reducible assumption | grind [-Prod] | grind [-Prod, → sc_Pg, → sc_Pt] | grind [-Prod, I_Pg, I_Pt, o_bn, upd]))⟩
theorem s_Pt_peek {x1 : Int32} {Pt : SPt} (h_Pt : I_Pt Pt) : o_ok (m_Pt_peek x1 Pt) (fun r => r ≤ 8388607) := by
  unfold m_Pt_peek
  refine o_okN (fun x2_6_1 ex2_6_1 => ?_)
  refine o_okI (fun c2 => ?_) (fun c2 => ?_)
  · refine o_okS ?_
    first | with_reducible exact True.intro | with_reducible assumption | grind [-Prod] | grind [-Prod, → sc_Pt] | grind [-Prod, I_Pt, o_bn, upd]
  · refine o_okI (fun c3 => ?_) (fun c3 => ?_)
    · refine o_okS ?_
      first | with_reducible exact True.intro | with_reducible assumption | grind [-Prod] | grind [-Prod, → sc_Pt] | grind [-Prod, I_Pt, o_bn, upd]
    · refine o_okG (o_inM (m := 4000) rfl (by first | with_reducible exact True.intro | with_reducible assumption | grind [-Prod] | grind [-Prod, → sc_Pt] | grind [-Prod, I_Pt, o_bn, upd]) (by first | with_reducible exact True.intro | with_reducible assumption | grind [-Prod] | grind [-Prod, → sc_Pt] | grind [-Prod, I_Pt, o_bn, upd])) ?_
      refine o_okS ?_
      first | with_reducible exact True.intro | with_reducible assumption | grind [-Prod] | grind [-Prod, → sc_Pt] | grind [-Prod, I_Pt, o_bn, upd]
theorem s_Pg_argument {x1 : Int32} {Pg : SPg} (h_Pg : I_Pg Pg) : o_ok (m_Pg_argument x1 Pg) (fun r => r ≤ 1073741824) := by
  unfold m_Pg_argument
  refine o_okI (fun c1 => ?_) (fun c1 => ?_)
  · refine o_okS ?_
    first | with_reducible exact True.intro | with_reducible assumption | grind [-Prod] | grind [-Prod, → sc_Pg] | grind [-Prod, I_Pg, o_bn, upd]
  · refine o_okI (fun c2 => ?_) (fun c2 => ?_)
    · refine o_okS ?_
      first | with_reducible exact True.intro | with_reducible assumption | grind [-Prod] | grind [-Prod, → sc_Pg] | grind [-Prod, I_Pg, o_bn, upd]
    · refine o_okG (o_inM (m := 1300) rfl (by first | with_reducible exact True.intro | with_reducible assumption | grind [-Prod] | grind [-Prod, → sc_Pg] | grind [-Prod, I_Pg, o_bn, upd]) (by first | with_reducible exact True.intro | with_reducible assumption | grind [-Prod] | grind [-Prod, → sc_Pg] | grind [-Prod, I_Pg, o_bn, upd])) ?_
      refine o_okS ?_
      first | with_reducible exact True.intro | with_reducible assumption | grind [-Prod] | grind [-Prod, → sc_Pg] | grind [-Prod, I_Pg, o_bn, upd]
theorem s_Pg_setArgument {x1 : Int32} {x2 : Int32} {Pg : SPg} (h_Pg : I_Pg Pg) (p0 : x1 < 0 ∨ x2 ≤ 1073741824) : o_ok (m_Pg_setArgument x1 x2 Pg) (fun r => I_Pg r) := by
  unfold m_Pg_setArgument
  refine o_okI (fun c1 => ?_) (fun c1 => ?_)
  · refine o_okS ?_
    exact h_Pg
  · refine o_okI (fun c2 => ?_) (fun c2 => ?_)
    · refine o_okS ?_
      exact h_Pg
    · refine o_okG (o_inM (m := 1300) rfl (by first | with_reducible exact True.intro | with_reducible assumption | grind [-Prod] | grind [-Prod, → sc_Pg] | grind [-Prod, I_Pg, o_bn, upd]) (by first | with_reducible exact True.intro | with_reducible assumption | grind [-Prod] | grind [-Prod, → sc_Pg] | grind [-Prod, I_Pg, o_bn, upd])) ?_
      refine o_okS ?_
      exact ⟨h_Pg.1, h_Pg.2.1, h_Pg.2.2.1, h_Pg.2.2.2.1, h_Pg.2.2.2.2.1, h_Pg.2.2.2.2.2.1, h_Pg.2.2.2.2.2.2.1, h_Pg.2.2.2.2.2.2.2.1, h_Pg.2.2.2.2.2.2.2.2.1, (o_bnU h_Pg.2.2.2.2.2.2.2.2.2.1 (by first | with_reducible exact True.intro | with_reducible assumption | grind [-Prod] | grind [-Prod, → sc_Pg] | grind [-Prod, I_Pg, o_bn, upd]) (by first | with_reducible exact True.intro | with_reducible assumption | grind [-Prod] | grind [-Prod, → sc_Pg] | grind [-Prod, I_Pg, o_bn, upd])), h_Pg.2.2.2.2.2.2.2.2.2.2⟩
theorem s_Pt_endBlock_b12 {n : Nat} {Pt : SPt} {z : Int32 × Int32 × SPg} (hn : o_big ≤ n) (h_Pt : I_Pt Pt) (l0 : 0 ≤ z.2.1) (l1 : I_Pg z.2.2) : o_ok (m_Pt_endBlock_b12 n Pt z) (fun q => (q.1 = 0 → 0 ≤ q.2.2.1 ∧ I_Pg q.2.2.2 ∧ o_mu q.2.2.1 < o_mu z.2.1) ∧ (q.1 ≠ 0 → I_Pg q.2.2.2)) := by
  unfold m_Pt_endBlock_b12
  refine o_okI (fun c1 => ?_) (fun c1 => ?_)
  · refine o_okS ?_
    refine ⟨fun h => absurd (show (1 : Nat) = 0 from h) (by decide), fun _ => ?_⟩
    exact l1
  · refine o_okI (fun c2 => ?_) (fun c2 => ?_)
    · refine o_okS ?_
      refine ⟨fun h => absurd (show (1 : Nat) = 0 from h) (by decide), fun _ => ?_⟩
      exact l1
    · refine o_okB (s_Pg_argument  l1) ?_
      intro q1_3 g4
      refine o_okB (s_Pg_setArgument  l1 (by first | with_reducible exact True.intro | with_reducible assumption | grind [-Prod] | grind [-Prod, → sc_Pg, → sc_Pt] | grind [-Prod, I_Pg, I_Pt, o_bn, upd])) ?_
      intro q2_5 g6
      refine o_okN (fun x2_52_7 ex2_52_7 => ?_)
      refine o_okS ?_
      refine ⟨fun _ => ?_, fun h => absurd rfl h⟩
      refine ⟨?_, ?_, ?_⟩
      · first | with_reducible exact True.intro | with_reducible assumption | grind [-Prod] | grind [-Prod, → sc_Pg, → sc_Pt] | grind [-Prod, I_Pg, I_Pt, o_bn, upd]
      · exact g6
      · first | exact o_muL (by first | with_reducible exact True.intro | with_reducible assumption | grind [-Prod] | grind [-Prod, → sc_Pg, → sc_Pt] | grind [-Prod, I_Pg, I_Pt, o_bn, upd]) | exact o_nuL (by first | with_reducible exact True.intro | with_reducible assumption | grind [-Prod] | grind [-Prod, → sc_Pg, → sc_Pt] | grind [-Prod, I_Pg, I_Pt, o_bn, upd]) | (first | with_reducible exact True.intro | with_reducible assumption | grind [-Prod] | grind [-Prod, → sc_Pg, → sc_Pt] | grind [-Prod, I_Pg, I_Pt, o_bn, upd])
theorem l_Pt_endBlock_b12 {n : Nat} {Pt : SPt} {z : Int32 × Int32 × SPg} (hn : o_big ≤ n) (h_Pt : I_Pt Pt) (l0 : 0 ≤ z.2.1) (l1 : I_Pg z.2.2) : o_ok (o_lp n (m_Pt_endBlock_b12 n Pt) z) (fun q => q.1 ≠ 0 ∧ I_Pg q.2.2.2) := by
  exact o_lpR (fun z => 0 ≤ z.2.1 ∧ I_Pg z.2.2) (fun z => o_mu z.2.1) hn (o_muB) ⟨l0, l1⟩
    (fun z hz => by obtain ⟨l0, l1⟩ := hz; exact o_okW (s_Pt_endBlock_b12 hn h_Pt l0 l1) (fun q hq => ⟨fun h => by have := hq.1 h; grind, hq.2⟩))
theorem s_Pt_endBlock {n : Nat} {Pg : SPg} {Pt : SPt} (hn : o_big ≤ n) (h_Pg : I_Pg Pg) (h_Pt : I_Pt Pt) : o_ok (m_Pt_endBlock n Pg Pt) (fun r => I_Pg r) := by
  unfold m_Pt_endBlock
  refine o_okG (o_inM (m := 31) rfl (by first | with_reducible exact True.intro | with_reducible assumption | grind [-Prod] | grind [-Prod, → sc_Pg, → sc_Pt] | grind [-Prod, I_Pg, I_Pt, o_bn, upd]) (by first | with_reducible exact True.intro | with_reducible assumption | grind [-Prod] | grind [-Prod, → sc_Pg, → sc_Pt] | grind [-Prod, I_Pg, I_Pt, o_bn, upd])) ?_
  refine o_okN (fun x1_9_1 ex1_9_1 => ?_)
  refine o_okB (l_Pt_endBlock_b12  hn h_Pt (by first | with_reducible exact True.intro | with_reducible assumption | grind [-Prod] | grind [-Prod, → sc_Pg, → sc_Pt] | grind [-Prod, I_Pg, I_Pt, o_bn, upd]) h_Pg) ?_
  intro q3_2 ⟨yq3_2, g3⟩
  refine o_okS ?_
  exact g3
theorem s_Pt_openGroup {Pg : SPg} {Pt : SPt} (h_Pg : I_Pg Pg) (h_Pt : I_Pt Pt) (p0 : Pt_position Pt ≤ 16000) : o_ok (m_Pt_openGroup Pg Pt) (fun r => (r.1 = 0 ∨ r.1 = 1) ∧ Pt_position r.2 ≤ 16010 ∧ I_Pt r.2) := by
  unfold m_Pt_openGroup
  refine o_okI (fun c1 => ?_) (fun c1 => ?_)
  · refine o_okB (s_Pt_peek  h_Pt) ?_
    intro q1_2 g3
    refine o_okI (fun c4 => ?_) (fun c4 => ?_)
    · refine o_okB (s_Pt_peek  h_Pt) ?_
      intro q3_5 g6
      refine o_okI (fun c7 => ?_) (fun c7 => ?_)
      · unfold m_Pt_openGroup_j43
        refine o_okB (s_Pt_beginBlock  h_Pg ⟨h_Pt.1, h_Pt.2.1, h_Pt.2.2.1, (by first | with_reducible exact True.intro | with_reducible assumption | grind [-Prod] | grind [-Prod, → sc_Pg, → sc_Pt] | grind [-Prod, I_Pg, I_Pt, o_bn, upd]), (by first | with_reducible exact True.intro | with_reducible assumption | grind [-Prod] | grind [-Prod, → sc_Pg, → sc_Pt] | grind [-Prod, I_Pg, I_Pt, o_bn, upd]), (by first | with_reducible exact True.intro | with_reducible assumption | grind [-Prod] | grind [-Prod, → sc_Pg, → sc_Pt] | grind [-Prod, I_Pg, I_Pt, o_bn, upd]), (by first | with_reducible exact True.intro | with_reducible assumption | grind [-Prod] | grind [-Prod, → sc_Pg, → sc_Pt] | grind [-Prod, I_Pg, I_Pt, o_bn, upd]), h_Pt.2.2.2.2.2.2.2.1, h_Pt.2.2.2.2.2.2.2.2.1, h_Pt.2.2.2.2.2.2.2.2.2.1, h_Pt.2.2.2.2.2.2.2.2.2.2⟩) ?_
        intro q2_8 ⟨g9, g10⟩
        refine o_okS ?_
        refine ⟨?_, ?_, ?_⟩
        · first | with_reducible exact True.intro | with_reducible assumption | grind [-Prod] | grind [-Prod, → sc_Pg, → sc_Pt] | grind [-Prod, I_Pg, I_Pt, o_bn, upd]
        · first | with_reducible exact True.intro | with_reducible assumption | grind [-Prod] | grind [-Prod, → sc_Pg, → sc_Pt] | grind [-Prod, I_Pg, I_Pt, o_bn, upd]
        · exact g10
      · refine o_okS ?_
        refine ⟨?_, ?_, ?_⟩
        · first | with_reducible exact True.intro | with_reducible assumption | grind [-Prod] | grind [-Prod, → sc_Pg, → sc_Pt] | grind [-Prod, I_Pg, I_Pt, o_bn, upd]
        · first | with_reducible exact True.intro | with_reducible assumption | grind [-Prod] | grind [-Prod, → sc_Pg, → sc_Pt] | grind [-Prod, I_Pg, I_Pt, o_bn, upd]
        · exact h_Pt
    · unfold m_Pt_openGroup_j43
      refine o_okB (s_Pt_beginBlock  h_Pg ⟨h_Pt.1, h_Pt.2.1, h_Pt.2.2.1, h_Pt.2.2.2.1, h_Pt.2.2.2.2.1, (by first | with_reducible exact True.intro | with_reducible assumption | grind [-Prod] | grind [-Prod, → sc_Pg, → sc_Pt] | grind [-Prod, I_Pg, I_Pt, o_bn, upd]), (by first | with_reducible exact True.intro | with_reducible assumption | grind [-Prod] | grind [-Prod, → sc_Pg, → sc_Pt] | grind [-Prod, I_Pg, I_Pt, o_bn, upd]), h_Pt.2.2.2.2.2.2.2.1, h_Pt.2.2.2.2.2.2.2.2.1, h_Pt.2.2.2.2.2.2.2.2.2.1, h_Pt.2.2.2.2.2.2.2.2.2.2⟩) ?_
      intro q2_11 ⟨g12, g13⟩
      refine o_okS ?_
      refine ⟨?_, ?_, ?_⟩
      · first | with_reducible exact True.intro | with_reducible assumption | grind [-Prod] | grind [-Prod, → sc_Pg, → sc_Pt] | grind [-Prod, I_Pg, I_Pt, o_bn, upd]
      · first | with_reducible exact True.intro | with_reducible assumption | grind [-Prod] | grind [-Prod, → sc_Pg, → sc_Pt] | grind [-Prod, I_Pg, I_Pt, o_bn, upd]
      · exact g13
  · refine o_okS ?_
    refine ⟨?_, ?_, ?_⟩
    · first | with_reducible exact True.intro | with_reducible assumption | grind [-Prod] | grind [-Prod, → sc_Pg, → sc_Pt] | grind [-Prod, I_Pg, I_Pt, o_bn, upd]
    · first | with_reducible exact True.intro | with_reducible assumption | grind [-Prod] | grind [-Prod, → sc_Pg, → sc_Pt] | grind [-Prod, I_Pg, I_Pt, o_bn, upd]
    · exact h_Pt
theorem s_Pg_insert {x1 : Int32} {x2 : Int32} {x3 : Int32} {Pg : SPg} (h_Pg : I_Pg Pg) (p0 : x3 ≤ 1073741824) : o_ok (m_Pg_insert x1 x2 x3 Pg) (fun r => I_Pg r) := by
  unfold m_Pg_insert
  refine o_okI (fun c1 => ?_) (fun c1 => ?_)
  · unfold m_Pg_insert_j78
    refine o_okS ?_
    exact ⟨(by first | with_reducible exact True.intro | with_reducible assumption | grind [-Prod] | grind [-Prod, → sc_Pg] | grind [-Prod, I_Pg, o_bnU, o_bnC]), (by first | with_reducible exact True.intro | with_reducible assumption | grind [-Prod] | grind [-Prod, → sc_Pg] | grind [-Prod, I_Pg, o_bnU, o_bnC]), h_Pg.2.2.1, h_Pg.2.2.2.1, h_Pg.2.2.2.2.1, h_Pg.2.2.2.2.2.1, h_Pg.2.2.2.2.2.2.1, h_Pg.2.2.2.2.2.2.2.1, h_Pg.2.2.2.2.2.2.2.2.1, h_Pg.2.2.2.2.2.2.2.2.2.1, h_Pg.2.2.2.2.2.2.2.2.2.2⟩
  · refine o_okI (fun c2 => ?_) (fun c2 => ?_)
    · unfold m_Pg_insert_j78
      refine o_okS ?_
      exact ⟨(by first | with_reducible exact True.intro | with_reducible assumption | grind [-Prod] | grind [-Prod, → sc_Pg] | grind [-Prod, I_Pg, o_bnU, o_bnC]), (by first | with_reducible exact True.intro | with_reducible assumption | grind [-Prod] | grind [-Prod, → sc_Pg] | grind [-Prod, I_Pg, o_bnU, o_bnC]), h_Pg.2.2.1, h_Pg.2.2.2.1, h_Pg.2.2.2.2.1, h_Pg.2.2.2.2.2.1, h_Pg.2.2.2.2.2.2.1, h_Pg.2.2.2.2.2.2.2.1, h_Pg.2.2.2.2.2.2.2.2.1, h_Pg.2.2.2.2.2.2.2.2.2.1, h_Pg.2.2.2.2.2.2.2.2.2.2⟩
    · refine o_okI (fun c3 => ?_) (fun c3 => ?_)
      · unfold m_Pg_insert_j78
        refine o_okS ?_
        exact ⟨(by first | with_reducible exact True.intro | with_reducible assumption | grind [-Prod] | grind [-Prod, → sc_Pg] | grind [-Prod, I_Pg, o_bnU, o_bnC]), (by first | with_reducible exact True.intro | with_reducible assumption | grind [-Prod] | grind [-Prod, → sc_Pg] | grind [-Prod, I_Pg, o_bnU, o_bnC]), h_Pg.2.2.1, h_Pg.2.2.2.1, h_Pg.2.2.2.2.1, h_Pg.2.2.2.2.2.1, h_Pg.2.2.2.2.2.2.1, h_Pg.2.2.2.2.2.2.2.1, h_Pg.2.2.2.2.2.2.2.2.1, h_Pg.2.2.2.2.2.2.2.2.2.1, h_Pg.2.2.2.2.2.2.2.2.2.2⟩
      · refine o_okG (o_cpI (by first | with_reducible exact True.intro | with_reducible assumption | grind [-Prod] | grind [-Prod, → sc_Pg] | grind [-Prod, I_Pg, o_bnU, o_bnC]) (by first | with_reducible exact True.intro | with_reducible assumption | grind [-Prod] | grind [-Prod, → sc_Pg] | grind [-Prod, I_Pg, o_bnU, o_bnC]) (by first | with_reducible exact True.intro | with_reducible assumption | grind [-Prod] | grind [-Prod, → sc_Pg] | grind [-Prod, I_Pg, o_bnU, o_bnC])) ?_
        refine o_okG (o_cpI (by first | with_reducible exact True.intro | with_reducible assumption | grind [-Prod] | grind [-Prod, → sc_Pg] | grind [-Prod, I_Pg, o_bnU, o_bnC]) (by first | with_reducible exact True.intro | with_reducible assumption | grind [-Prod] | grind [-Prod, → sc_Pg] | grind [-Prod, I_Pg, o_bnU, o_bnC]) (by first | with_reducible exact True.intro | with_reducible assumption | grind [-Prod] | grind [-Prod, → sc_Pg] | grind [-Prod, I_Pg, o_bnU, o_bnC])) ?_
        refine o_okG (o_inM (m := 1300) rfl (by first | with_reducible exact True.intro | with_reducible assumption | grind [-Prod] | grind [-Prod, → sc_Pg] | grind [-Prod, I_Pg, o_bnU, o_bnC]) (by first | with_reducible exact True.intro | with_reducible assumption | grind [-Prod] | grind [-Prod, → sc_Pg] | grind [-Prod, I_Pg, o_bnU, o_bnC])) ?_
        refine o_okG (o_inM (m := 1300) rfl (by first | with_reducible exact True.intro | with_reducible assumption | grind [-Prod] | grind [-Prod, → sc_Pg] | grind [-Prod, I_Pg, o_bnU, o_bnC]) (by first | with_reducible exact True.intro | with_reducible assumption | grind [-Prod] | grind [-Prod, → sc_Pg] | grind [-Prod, I_Pg, o_bnU, o_bnC])) ?_
        unfold m_Pg_insert_j78
        refine o_okS ?_
        exact ⟨(by first | with_reducible exact True.intro | with_reducible assumption | grind [-Prod] | grind [-Prod, → sc_Pg] | grind [-Prod, I_Pg, o_bnU, o_bnC]), (by first | with_reducible exact True.intro | with_reducible assumption | grind [-Prod] | grind [-Prod, → sc_Pg] | grind [-Prod, I_Pg, o_bnU, o_bnC]), h_Pg.2.2.1, h_Pg.2.2.2.1, h_Pg.2.2.2.2.1, h_Pg.2.2.2.2.2.1, h_Pg.2.2.2.2.2.2.1, h_Pg.2.2.2.2.2.2.2.1, h_Pg.2.2.2.2.2.2.2.2.1, (o_bnU (o_bnC h_Pg.2.2.2.2.2.2.2.2.2.1 h_Pg.2.2.2.2.2.2.2.2.2.1) (by first | with_reducible exact True.intro | with_reducible assumption | grind [-Prod] | grind [-Prod, → sc_Pg] | grind [-Prod, I_Pg, o_bnU, o_bnC]) (by first | with_reducible exact True.intro | with_reducible assumption | grind [-Prod] | grind [-Prod, → sc_Pg] | grind [-Prod, I_Pg, o_bnU, o_bnC])), h_Pg.2.2.2.2.2.2.2.2.2.2⟩
theorem s_Pg_emit {x1 : Int32} {x2 : Int32} {Pg : SPg} (h_Pg : I_Pg Pg) (p0 : x2 ≤ 1073741824) : o_ok (m_Pg_emit x1 x2 Pg) (fun r => I_Pg r) := by
  unfold m_Pg_emit
  refine o_okI (fun c1 => ?_) (fun c1 => ?_)
  · unfold m_Pg_emit_j30
    refine o_okS ?_
    exact ⟨(by first | with_reducible exact True.intro | with_reducible assumption | grind [-Prod] | grind [-Prod, → sc_Pg] | grind [-Prod, I_Pg, o_bn, upd]), (by first | with_reducible exact True.intro | with_reducible assumption | grind [-Prod] | grind [-Prod, → sc_Pg] | grind [-Prod, I_Pg, o_bn, upd]), h_Pg.2.2.1, h_Pg.2.2.2.1, h_Pg.2.2.2.2.1, h_Pg.2.2.2.2.2.1, h_Pg.2.2.2.2.2.2.1, h_Pg.2.2.2.2.2.2.2.1, h_Pg.2.2.2.2.2.2.2.2.1, h_Pg.2.2.2.2.2.2.2.2.2.1, h_Pg.2.2.2.2.2.2.2.2.2.2⟩
  · refine o_okG (o_inM (m := 1300) rfl (by first | with_reducible exact True.intro | with_reducible assumption | grind [-Prod] | grind [-Prod, → sc_Pg] | grind [-Prod, I_Pg, o_bn, upd]) (by first | with_reducible exact True.intro | with_reducible assumption | grind [-Prod] | grind [-Prod, → sc_Pg] | grind [-Prod, I_Pg, o_bn, upd])) ?_
    refine o_okG (o_inM (m := 1300) rfl (by first | with_reducible exact True.intro | with_reducible assumption | grind [-Prod] | grind [-Prod, → sc_Pg] | grind [-Prod, I_Pg, o_bn, upd]) (by first | with_reducible exact True.intro | with_reducible assumption | grind [-Prod] | grind [-Prod, → sc_Pg] | grind [-Prod, I_Pg, o_bn, upd])) ?_
    unfold m_Pg_emit_j30
    refine o_okS ?_
    exact ⟨(by first | with_reducible exact True.intro | with_reducible assumption | grind [-Prod] | grind [-Prod, → sc_Pg] | grind [-Prod, I_Pg, o_bn, upd]), (by first | with_reducible exact True.intro | with_reducible assumption | grind [-Prod] | grind [-Prod, → sc_Pg] | grind [-Prod, I_Pg, o_bn, upd]), h_Pg.2.2.1, h_Pg.2.2.2.1, h_Pg.2.2.2.2.1, h_Pg.2.2.2.2.2.1, h_Pg.2.2.2.2.2.2.1, h_Pg.2.2.2.2.2.2.2.1, h_Pg.2.2.2.2.2.2.2.2.1, (o_bnU h_Pg.2.2.2.2.2.2.2.2.2.1 (by first | with_reducible exact True.intro | with_reducible assumption | grind [-Prod] | grind [-Prod, → sc_Pg] | grind [-Prod, I_Pg, o_bn, upd]) (by first | with_reducible exact True.intro | with_reducible assumption | grind [-Prod] | grind [-Prod, → sc_Pg] | grind [-Prod, I_Pg, o_bn, upd])), h_Pg.2.2.2.2.2.2.2.2.2.2⟩
theorem s_Pt_nextBranch {Pg : SPg} {Pt : SPt} (h_Pg : I_Pg Pg) (h_Pt : I_Pt Pt) : o_ok (m_Pt_nextBranch Pg Pt) (fun r => Pt_position r.2 = Pt_position Pt ∧ I_Pg r.1 ∧ I_Pt r.2) := by
  unfold m_Pt_nextBranch
  refine o_okG (o_inM (m := 31) rfl (by first | with_reducible exact True.intro | with_reducible assumption | grind [-Prod] | grind [-Prod, → sc_Pg, → sc_Pt] | grind [-Prod, I_Pg, I_Pt, o_bn, upd]) (by first | with_reducible exact True.intro | with_reducible assumption | grind [-Prod] | grind [-Prod, → sc_Pg, → sc_Pt] | grind [-Prod, I_Pg, I_Pt, o_bn, upd])) ?_
  refine o_okN (fun x1_9_1 ex1_9_1 => ?_)
  refine o_okB (s_Pg_insert  h_Pg (by first | with_reducible exact True.intro | with_reducible assumption | grind [-Prod] | grind [-Prod, → sc_Pg, → sc_Pt] | grind [-Prod, I_Pg, I_Pt, o_bn, upd])) ?_
  intro q1_2 g3
  refine o_okG (o_inM (m := 31) rfl (by first | with_reducible exact True.intro | with_reducible assumption | grind [-Prod] | grind [-Prod, → sc_Pg, → sc_Pt] | grind [-Prod, I_Pg, I_Pt, o_bn, upd]) (by first | with_reducible exact True.intro | with_reducible assumption | grind [-Prod] | grind [-Prod, → sc_Pg, → sc_Pt] | grind [-Prod, I_Pg, I_Pt, o_bn, upd])) ?_
  refine o_okB (s_Pg_emit  g3 (by first | with_reducible exact True.intro | with_reducible assumption | grind [-Prod] | grind [-Prod, → sc_Pg, → sc_Pt] | grind [-Prod, I_Pg, I_Pt, o_bn, upd])) ?_
  intro q2_4 g5
  refine o_okG (o_inM (m := 31) rfl (by first | with_reducible exact True.intro | with_reducible assumption | grind [-Prod] | grind [-Prod, → sc_Pg, → sc_Pt] | grind [-Prod, I_Pg, I_Pt, o_bn, upd]) (by first | with_reducible exact True.intro | with_reducible assumption | grind [-Prod] | grind [-Prod, → sc_Pg, → sc_Pt] | grind [-Prod, I_Pg, I_Pt, o_bn, upd])) ?_
  refine o_okG (o_inM (m := 31) rfl (by first | with_reducible exact True.intro | with_reducible assumption | grind [-Prod] | grind [-Prod, → sc_Pg, → sc_Pt] | grind [-Prod, I_Pg, I_Pt, o_bn, upd]) (by first | with_reducible exact True.intro | with_reducible assumption | grind [-Prod] | grind [-Prod, → sc_Pg, → sc_Pt] | grind [-Prod, I_Pg, I_Pt, o_bn, upd])) ?_
  refine o_okS ?_
  refine ⟨?_, ?_, ?_⟩
  · first | with_reducible exact True.intro | with_reducible assumption | grind [-Prod] | grind [-Prod, → sc_Pg, → sc_Pt] | grind [-Prod, I_Pg, I_Pt, o_bn, upd]
  · exact g5
  · exact ⟨h_Pt.1, h_Pt.2.1, h_Pt.2.2.1, h_Pt.2.2.2.1, h_Pt.2.2.2.2.1, h_Pt.2.2.2.2.2.1, h_Pt.2.2.2.2.2.2.1, h_Pt.2.2.2.2.2.2.2.1, h_Pt.2.2.2.2.2.2.2.2.1, (o_bnU h_Pt.2.2.2.2.2.2.2.2.2.1 (by first | with_reducible exact True.intro | with_reducible assumption | grind [-Prod] | grind [-Prod, → sc_Pg, → sc_Pt] | grind [-Prod, I_Pg, I_Pt, o_bn, upd]) (by first | with_reducible exact True.intro | with_reducible assumption | grind [-Prod] | grind [-Prod, → sc_Pg, → sc_Pt] | grind [-Prod, I_Pg, I_Pt, o_bn, upd])), (o_bnU h_Pt.2.2.2.2.2.2.2.2.2.2 (by first | with_reducible exact True.intro | with_reducible assumption | grind [-Prod] | grind [-Prod, → sc_Pg, → sc_Pt] | grind [-Prod, I_Pg, I_Pt, o_bn, upd]) (by first | with_reducible exact True.intro | with_reducible assumption | grind [-Prod] | grind [-Prod, → sc_Pg, → sc_Pt] | grind [-Prod, I_Pg, I_Pt, o_bn, upd]))⟩
theorem s_Pg_beginSet {Pg : SPg} (h_Pg : I_Pg Pg) : o_ok (m_Pg_beginSet Pg) (fun r => 0 ≤ r.1 ∧ r.1 ≤ 8000 ∧ (Pg_setsUsed r.2 + 2 ≤ 8000 → (r.1 + 2 ≤ Pg_setsUsed r.2 ∧ Pg_sets r.2 r.1.toNatClampNeg ≤ 0)) ∧ I_Pg r.2) := by
  unfold m_Pg_beginSet
  refine o_okN (fun x1_4_1 ex1_4_1 => ?_)
  refine o_okI (fun c2 => ?_) (fun c2 => ?_)
  · refine o_okS ?_
    refine ⟨?_, ?_, ?_, ?_⟩
    · first | with_reducible exact True.intro | with_reducible assumption | grind [-Prod] | grind [-Prod, → sc_Pg] | grind [-Prod, I_Pg, o_bn, upd]
    · first | with_reducible exact True.intro | with_reducible assumption | grind [-Prod] | grind [-Prod, → sc_Pg] | grind [-Prod, I_Pg, o_bn, upd]
    · first | with_reducible exact True.intro | with_reducible assumption | grind [-Prod] | grind [-Prod, → sc_Pg] | grind [-Prod, I_Pg, o_bn, upd]
    · exact h_Pg
  · refine o_okG (o_inM (m := 8000) rfl (by first | with_reducible exact True.intro | with_reducible assumption | grind [-Prod] | grind [-Prod, → sc_Pg] | grind [-Prod, I_Pg, o_bn, upd]) (by first | with_reducible exact True.intro | with_reducible assumption | grind [-Prod] | grind [-Prod, → sc_Pg] | grind [-Prod, I_Pg, o_bn, upd])) ?_
    refine o_okG (o_inM (m := 8000) rfl (by first | with_reducible exact True.intro | with_reducible assumption | grind [-Prod] | grind [-Prod, → sc_Pg] | grind [-Prod, I_Pg, o_bn, upd]) (by first | with_reducible exact True.intro | with_reducible assumption | grind [-Prod] | grind [-Prod, → sc_Pg] | grind [-Prod, I_Pg, o_bn, upd])) ?_
    refine o_okS ?_
    refine ⟨?_, ?_, ?_, ?_⟩
    · first | with_reducible exact True.intro | with_reducible assumption | grind [-Prod] | grind [-Prod, → sc_Pg] | grind [-Prod, I_Pg, o_bn, upd]
    · first | with_reducible exact True.intro | with_reducible assumption | grind [-Prod] | grind [-Prod, → sc_Pg] | grind [-Prod, I_Pg, o_bn, upd]
    · first | with_reducible exact True.intro | with_reducible assumption | grind [-Prod] | grind [-Prod, → sc_Pg] | grind [-Prod, I_Pg, o_bn, upd]
    · exact ⟨h_Pg.1, h_Pg.2.1, (by first | with_reducible exact True.intro | with_reducible assumption | grind [-Prod] | grind [-Prod, → sc_Pg] | grind [-Prod, I_Pg, o_bn, upd]), (by first | with_reducible exact True.intro | with_reducible assumption | grind [-Prod] | grind [-Prod, → sc_Pg] | grind [-Prod, I_Pg, o_bn, upd]), h_Pg.2.2.2.2.1, h_Pg.2.2.2.2.2.1, h_Pg.2.2.2.2.2.2.1, h_Pg.2.2.2.2.2.2.2.1, h_Pg.2.2.2.2.2.2.2.2.1, h_Pg.2.2.2.2.2.2.2.2.2.1, (o_bnU (o_bnU h_Pg.2.2.2.2.2.2.2.2.2.2 (by first | with_reducible exact True.intro | with_reducible assumption | grind [-Prod] | grind [-Prod, → sc_Pg] | grind [-Prod, I_Pg, o_bn, upd]) (by first | with_reducible exact True.intro | with_reducible assumption | grind [-Prod] | grind [-Prod, → sc_Pg] | grind [-Prod, I_Pg, o_bn, upd])) (by first | with_reducible exact True.intro | with_reducible assumption | grind [-Prod] | grind [-Prod, → sc_Pg] | grind [-Prod, I_Pg, o_bn, upd]) (by first | with_reducible exact True.intro | with_reducible assumption | grind [-Prod] | grind [-Prod, → sc_Pg] | grind [-Prod, I_Pg, o_bn, upd]))⟩
theorem s_Pg_addClass {x1 : Int32} {x2 : Int32} {Pg : SPg} (h_Pg : I_Pg Pg) (p0 : x1 ≤ 8000) (p1 : x2 ≤ 8388607) : o_ok (m_Pg_addClass x1 x2 Pg) (fun r => Pg_setsUsed r = Pg_setsUsed Pg ∧ (0 ≤ x1 → Pg_sets r x1.toNatClampNeg = Pg_sets Pg x1.toNatClampNeg) ∧ I_Pg r) := by
  have n1 : 0 ≤ x1 → x1.toNatClampNeg ≠ (x1 + 1).toNatClampNeg := fun h => o_neq h (by grind) (by grind)
  unfold m_Pg_addClass
  refine o_okI (fun c1 => ?_) (fun c1 => ?_)
  · refine o_okS ?_
    refine ⟨?_, ?_, ?_⟩
    · first | with_reducible exact True.intro | with_reducible assumption | grind [-Prod, o_orL] | grind [-Prod, → sc_Pg, o_orL] | grind [-Prod, I_Pg, o_bn, upd, o_orL]
    · first | with_reducible exact True.intro | with_reducible assumption | grind [-Prod, o_orL] | grind [-Prod, → sc_Pg, o_orL] | grind [-Prod, I_Pg, o_bn, upd, o_orL]
    · exact h_Pg
  · refine o_okI (fun c2 => ?_) (fun c2 => ?_)
    · refine o_okS ?_
      refine ⟨?_, ?_, ?_⟩
      · first | with_reducible exact True.intro | with_reducible assumption | grind [-Prod, o_orL] | grind [-Prod, → sc_Pg, o_orL] | grind [-Prod, I_Pg, o_bn, upd, o_orL]
      · first | with_reducible exact True.intro | with_reducible assumption | grind [-Prod, o_orL] | grind [-Prod, → sc_Pg, o_orL] | grind [-Prod, I_Pg, o_bn, upd, o_orL]
      · exact h_Pg
    · refine o_okG (o_inM (m := 8000) rfl (by first | with_reducible exact True.intro | with_reducible assumption | grind [-Prod, o_orL] | grind [-Prod, → sc_Pg, o_orL] | grind [-Prod, I_Pg, o_bn, upd, o_orL]) (by first | with_reducible exact True.intro | with_reducible assumption | grind [-Prod, o_orL] | grind [-Prod, → sc_Pg, o_orL] | grind [-Prod, I_Pg, o_bn, upd, o_orL])) ?_
      refine o_okG (o_inM (m := 8000) rfl (by first | with_reducible exact True.intro | with_reducible assumption | grind [-Prod, o_orL] | grind [-Prod, → sc_Pg, o_orL] | grind [-Prod, I_Pg, o_bn, upd, o_orL]) (by first | with_reducible exact True.intro | with_reducible assumption | grind [-Prod, o_orL] | grind [-Prod, → sc_Pg, o_orL] | grind [-Prod, I_Pg, o_bn, upd, o_orL])) ?_
      refine o_okS ?_
      refine ⟨?_, ?_, ?_⟩
      · first | with_reducible exact True.intro | with_reducible assumption | grind [-Prod, o_orL] | grind [-Prod, → sc_Pg, o_orL] | grind [-Prod, I_Pg, o_bn, upd, o_orL]
      · first | with_reducible exact True.intro | with_reducible assumption | grind [-Prod, o_orL] | grind [-Prod, → sc_Pg, o_orL] | grind [-Prod, I_Pg, o_bn, upd, o_orL]
      · exact ⟨h_Pg.1, h_Pg.2.1, h_Pg.2.2.1, h_Pg.2.2.2.1, h_Pg.2.2.2.2.1, h_Pg.2.2.2.2.2.1, h_Pg.2.2.2.2.2.2.1, h_Pg.2.2.2.2.2.2.2.1, h_Pg.2.2.2.2.2.2.2.2.1, h_Pg.2.2.2.2.2.2.2.2.2.1, (o_bnU h_Pg.2.2.2.2.2.2.2.2.2.2 (by first | with_reducible exact True.intro | with_reducible assumption | grind [-Prod, o_orL] | grind [-Prod, → sc_Pg, o_orL] | grind [-Prod, I_Pg, o_bn, upd, o_orL]) (by first | with_reducible exact True.intro | with_reducible assumption | grind [-Prod, o_orL] | grind [-Prod, → sc_Pg, o_orL] | grind [-Prod, I_Pg, o_bn, upd, o_orL]))⟩
theorem s_Pg_addRange {x1 : Int32} {x2 : Int32} {x3 : Int32} {Pg : SPg} (h_Pg : I_Pg Pg) (p0 : x2 ≤ 8388607) (p1 : x3 ≤ 8388607) (p2 : (Pg_setsUsed Pg + 2 ≤ 8000 → (x1 + 2 ≤ Pg_setsUsed Pg ∧ Pg_sets Pg x1.toNatClampNeg ≤ 8388606))) : o_ok (m_Pg_addRange x1 x2 x3 Pg) (fun r => (Pg_setsUsed r + 2 ≤ 8000 ∧ 0 ≤ x1 ∧ x1 < 8000 → (x1 + 2 ≤ Pg_setsUsed r ∧ Pg_sets r x1.toNatClampNeg ≤ Pg_sets Pg x1.toNatClampNeg + 1)) ∧ Pg_setsUsed Pg ≤ Pg_setsUsed r ∧ I_Pg r) := by
  have u : 0 ≤ Pg_setsUsed Pg ∧ Pg_setsUsed Pg ≤ 8000 := ⟨h_Pg.2.2.1, h_Pg.2.2.2.1⟩
  have b : ∀ i, Pg_sets Pg i ≤ 8388607 := fun i => (h_Pg.2.2.2.2.2.2.2.2.2.2 i).2
  unfold m_Pg_addRange
  refine o_okI (fun c1 => ?_) (fun c1 => ?_)
  · refine o_okS ⟨?_, ?_, h_Pg⟩
    · rintro ⟨h, h0, h1⟩; exfalso; grind
    · grind
  refine o_okI (fun c2 => ?_) (fun c2 => ?_)
  · refine o_okS ⟨?_, ?_, h_Pg⟩
    · rintro ⟨h, h0, h1⟩; exfalso; grind
    · grind
  refine o_okI (fun c3 => ?_) (fun c3 => ?_)
  · refine o_okS ⟨?_, ?_, h_Pg⟩
    · rintro ⟨h, h0, h1⟩; exfalso; grind
    · grind
  have k := p2 (by grind)
  have k1 : Pg_sets Pg x1.toNatClampNeg + 1 ≤ 8388607 := by grind
  refine o_okG (o_inM (m := 8000) rfl (by grind) (by grind)) ?_
  refine o_okG (o_inM (m := 8000) rfl (by grind) (by grind)) ?_
  refine o_okG (o_inM (m := 8000) rfl (by grind) (by grind)) ?_
  refine o_okG (o_inM (m := 8000) rfl (by grind) (by grind)) ?_
  have lo : ∀ v : Int32, -2147483648 ≤ v := by intro v; grind
  refine o_okS ⟨?_, ?_, h_Pg.1, h_Pg.2.1, ?_, ?_, h_Pg.2.2.2.2.1, h_Pg.2.2.2.2.2.1, h_Pg.2.2.2.2.2.2.1, h_Pg.2.2.2.2.2.2.2.1, h_Pg.2.2.2.2.2.2.2.2.1, h_Pg.2.2.2.2.2.2.2.2.2.1, o_bnU (o_bnU (o_bnU h_Pg.2.2.2.2.2.2.2.2.2.2 (lo _) k1) (lo _) p0) (lo _) p1⟩
  · rintro ⟨h, h0, h1⟩
    have n1 : x1.toNatClampNeg ≠ (Pg_setsUsed Pg).toNatClampNeg := o_neq h0 (by grind) (by grind)
    have n2 : x1.toNatClampNeg ≠ (Pg_setsUsed Pg + 1).toNatClampNeg := o_neq h0 (by grind) (by grind)
    refine ⟨?_, ?_⟩
    · show x1 + 2 ≤ Pg_setsUsed Pg + 2
      grind
    · show upd (upd (upd (Pg_sets Pg) x1.toNatClampNeg (Pg_sets Pg x1.toNatClampNeg + 1)) (Pg_setsUsed Pg).toNatClampNeg x2) (Pg_setsUsed Pg + 1).toNatClampNeg x3 x1.toNatClampNeg ≤ _
      rw [o_updN n2, o_updN n1, o_updE]
      grind
  · show Pg_setsUsed Pg ≤ Pg_setsUsed Pg + 2
    grind
  · show 0 ≤ Pg_setsUsed Pg + 2
    grind
  · show Pg_setsUsed Pg + 2 ≤ 8000
    grind
theorem s_Pt_readSet_j129 {n : Nat} {x1 : Int32} {x2 : Int32} {x3 : Int32} {x4 : Int32} {Pg : SPg} {Pt : SPt} (hn : o_big ≤ n) (h_Pg : I_Pg Pg) (h_Pt : I_Pt Pt) (p0 : 0 ≤ x1) (p1 : x1 ≤ 8000) (p2 : 0 ≤ x2) (p3 : x2 < 4000) (p4 : x3 ≤ 8388607) (p5 : x4 ≤ 8388607) (p6 : (Pg_setsUsed Pg + 2 ≤ 8000 → (x1 + 2 ≤ Pg_setsUsed Pg ∧ Pg_sets Pg x1.toNatClampNeg ≤ x2))) : o_ok (m_Pt_readSet_j129 n x1 x2 x3 x4 Pg Pt) (fun r => (r.1 = 0 → r.2.1 = x2 + 1) ∧ (Pg_setsUsed r.2.2.1 + 2 ≤ 8000 → (x1 + 2 ≤ Pg_setsUsed r.2.2.1 ∧ Pg_sets r.2.2.1 x1.toNatClampNeg ≤ x2 + 1)) ∧ Pt_position r.2.2.2 = Pt_position Pt ∧ I_Pg r.2.2.1 ∧ I_Pt r.2.2.2) := by
  have hset : ∀ G : SPg, Pg_setsUsed G = Pg_setsUsed Pg → Pg_sets G x1.toNatClampNeg = Pg_sets Pg x1.toNatClampNeg → (Pg_setsUsed G + 2 ≤ 8000 → (x1 + 2 ≤ Pg_setsUsed G ∧ Pg_sets G x1.toNatClampNeg ≤ x2 + 1)) := by
    intro G e1 e2 h
    rw [e1] at h
    have k := p6 h
    rw [e1, e2]
    refine ⟨k.1, ?_⟩
    have k2 := k.2
    clear k p6 h_Pg h_Pt
    grind
  unfold m_Pt_readSet_j129
  refine o_okI (fun c1 => ?_) (fun c1 => ?_)
  · exact o_okS ⟨fun h => absurd (show (3 : Nat) = 0 from h) (by decide), hset Pg rfl rfl, rfl, h_Pg, h_Pt⟩
  refine o_okI (fun c2 => ?_) (fun c2 => ?_)
  · exact o_okS ⟨fun h => absurd (show (3 : Nat) = 0 from h) (by decide), hset Pg rfl rfl, rfl, h_Pg, h_Pt⟩
  refine o_okI (fun c3 => ?_) (fun c3 => ?_)
  · refine o_okI (fun c4 => ?_) (fun c4 => ?_)
    · refine o_okB (s_Pg_addRange h_Pg ?_ ?_ ?_) ?_
      · have := (o_andM (x := x3)).2; clear p6 h_Pg h_Pt; grind
      · have := (o_andM (x := x4)).2; clear p6 h_Pg h_Pt; grind
      · intro h
        have k := p6 h
        refine ⟨k.1, ?_⟩
        have k2 := k.2
        clear k p6 h_Pg h_Pt
        grind
      intro q ⟨g1, g2, g3⟩
      refine o_okN (fun y ey => o_okS ⟨fun _ => ey, ?_, rfl, g3, h_Pt⟩)
      intro h
      have h : Pg_setsUsed q + 2 ≤ 8000 := h
      have b1 := (sc_Pg g3).2.2.1
      have b2 := (sc_Pg g3).2.2.2.1
      have b3 := (sc_Pg h_Pg).2.2.1
      have b4 := (sc_Pg h_Pg).2.2.2.1
      have h2 : Pg_setsUsed Pg + 2 ≤ 8000 := by clear p6 g1 h_Pg h_Pt g3; grind
      have k := p6 h2
      have t : x1 < 8000 := by
        have k1 := k.1
        clear k p6 g1 h_Pg h_Pt g3
        grind
      have k3 := g1 ⟨h, p0, t⟩
      exact ⟨k3.1, o_le1 k3.2 k.2 p3⟩
    · refine o_okB (s_Pg_addClass h_Pg p1 (o_andC p4)) ?_
      intro q ⟨g1, g2, g3⟩
      exact o_okN (fun y ey => o_okS ⟨fun _ => ey, hset q g1 (g2 p0), rfl, g3, h_Pt⟩)
  · exact o_okS ⟨fun h => absurd (show (3 : Nat) = 0 from h) (by decide), hset Pg rfl rfl, rfl, h_Pg, h_Pt⟩
set_option maxHeartbeats 8000000 in
theorem s_Pt_readSet_b40 {n : Nat} {x1 : Int32} {z : Int32 × SPg × SPt} (hn : o_big ≤ n) (p0 : 0 ≤ x1) (p1 : x1 ≤ 8000) (l0 : (Pg_setsUsed z.2.1 + 2 ≤ 8000 → (x1 + 2 ≤ Pg_setsUsed z.2.1 ∧ Pg_sets z.2.1 x1.toNatClampNeg ≤ z.1))) (l1 : Pt_position z.2.2 ≤ 5000 + 3 * z.1) (l2 : z.1 ≤ 4000) (l3 : 0 ≤ z.1) (l4 : I_Pg z.2.1) (l5 : I_Pt z.2.2) : o_ok (m_Pt_readSet_b40 n x1 z) (fun q => (q.1 = 0 → (Pg_setsUsed q.2.2.1 + 2 ≤ 8000 → (x1 + 2 ≤ Pg_setsUsed q.2.2.1 ∧ Pg_sets q.2.2.1 x1.toNatClampNeg ≤ q.2.1)) ∧ Pt_position q.2.2.2 ≤ 5000 + 3 * q.2.1 ∧ q.2.1 ≤ 4000 ∧ 0 ≤ q.2.1 ∧ I_Pg q.2.2.1 ∧ I_Pt q.2.2.2 ∧ o_mu q.2.1 < o_mu z.1) ∧ (q.1 ≠ 0 → Pt_position q.2.2.2 ≤ 18000 ∧ I_Pg q.2.2.1 ∧ I_Pt q.2.2.2)) := by
  unfold m_Pt_readSet_b40
  refine o_okI (fun c1 => ?_) (fun c1 => ?_)
  · refine o_okS ?_
    refine ⟨fun h => absurd (show (4 : Nat) = 0 from h) (by decide), fun _ => ?_⟩
    refine ⟨?_, ?_, ?_⟩
    · first | with_reducible exact True.intro | with_reducible assumption | grind [-Prod, o_muL] | grind [-Prod, → sc_Pg, → sc_Pt, o_muL] | grind [-Prod, I_Pg, I_Pt, o_bn, upd, o_muL]
    · exact l4
    · exact l5
  · refine o_okB (s_Pt_peek  l5) ?_
    intro q3_2 g3
    refine o_okI (fun c4 => ?_) (fun c4 => ?_)
    · refine o_okS ?_
      refine ⟨fun h => absurd (show (1 : Nat) = 0 from h) (by decide), fun _ => ?_⟩
      refine ⟨?_, ?_, ?_⟩
      · first | with_reducible exact True.intro | with_reducible assumption | grind [-Prod, o_muL] | grind [-Prod, → sc_Pg, → sc_Pt, o_muL] | grind [-Prod, I_Pg, I_Pt, o_bn, upd, o_muL]
      · exact l4
      · exact ⟨l5.1, l5.2.1, l5.2.2.1, (by first | with_reducible exact True.intro | with_reducible assumption | grind [-Prod, o_muL] | grind [-Prod, → sc_Pg, → sc_Pt, o_muL] | grind [-Prod, I_Pg, I_Pt, o_bn, upd, o_muL]), (by first | with_reducible exact True.intro | with_reducible assumption | grind [-Prod, o_muL] | grind [-Prod, → sc_Pg, → sc_Pt, o_muL] | grind [-Prod, I_Pg, I_Pt, o_bn, upd, o_muL]), l5.2.2.2.2.2.1, l5.2.2.2.2.2.2.1, l5.2.2.2.2.2.2.2.1, l5.2.2.2.2.2.2.2.2.1, l5.2.2.2.2.2.2.2.2.2.1, l5.2.2.2.2.2.2.2.2.2.2⟩
    · refine o_okB (s_Pt_peek  ⟨l5.1, l5.2.1, l5.2.2.1, (by first | with_reducible exact True.intro | with_reducible assumption | grind [-Prod, o_muL] | grind [-Prod, → sc_Pg, → sc_Pt, o_muL] | grind [-Prod, I_Pg, I_Pt, o_bn, upd, o_muL]), (by first | with_reducible exact True.intro | with_reducible assumption | grind [-Prod, o_muL] | grind [-Prod, → sc_Pg, → sc_Pt, o_muL] | grind [-Prod, I_Pg, I_Pt, o_bn, upd, o_muL]), l5.2.2.2.2.2.1, l5.2.2.2.2.2.2.1, l5.2.2.2.2.2.2.2.1, l5.2.2.2.2.2.2.2.2.1, l5.2.2.2.2.2.2.2.2.2.1, l5.2.2.2.2.2.2.2.2.2.2⟩) ?_
      intro q4_5 g6
      refine o_okI (fun c7 => ?_) (fun c7 => ?_)
      · refine o_okB (s_Pt_peek  ⟨l5.1, l5.2.1, l5.2.2.1, (by first | with_reducible exact True.intro | with_reducible assumption | grind [-Prod, o_muL] | grind [-Prod, → sc_Pg, → sc_Pt, o_muL] | grind [-Prod, I_Pg, I_Pt, o_bn, upd, o_muL]), (by first | with_reducible exact True.intro | with_reducible assumption | grind [-Prod, o_muL] | grind [-Prod, → sc_Pg, → sc_Pt, o_muL] | grind [-Prod, I_Pg, I_Pt, o_bn, upd, o_muL]), l5.2.2.2.2.2.1, l5.2.2.2.2.2.2.1, l5.2.2.2.2.2.2.2.1, l5.2.2.2.2.2.2.2.2.1, l5.2.2.2.2.2.2.2.2.2.1, l5.2.2.2.2.2.2.2.2.2.2⟩) ?_
        intro q7_8 g9
        refine o_okI (fun c10 => ?_) (fun c10 => ?_)
        · refine o_okW (s_Pt_readSet_j129  hn l4 ⟨l5.1, l5.2.1, l5.2.2.1, (by first | with_reducible exact True.intro | with_reducible assumption | grind [-Prod, o_muL] | grind [-Prod, → sc_Pg, → sc_Pt, o_muL] | grind [-Prod, I_Pg, I_Pt, o_bn, upd, o_muL]), (by first | with_reducible exact True.intro | with_reducible assumption | grind [-Prod, o_muL] | grind [-Prod, → sc_Pg, → sc_Pt, o_muL] | grind [-Prod, I_Pg, I_Pt, o_bn, upd, o_muL]), l5.2.2.2.2.2.1, l5.2.2.2.2.2.2.1, l5.2.2.2.2.2.2.2.1, l5.2.2.2.2.2.2.2.2.1, l5.2.2.2.2.2.2.2.2.2.1, l5.2.2.2.2.2.2.2.2.2.2⟩ (by first | with_reducible exact True.intro | with_reducible assumption | grind [-Prod, o_muL] | grind [-Prod, → sc_Pg, → sc_Pt, o_muL] | grind [-Prod, I_Pg, I_Pt, o_bn, upd, o_muL]) (by first | with_reducible exact True.intro | with_reducible assumption | grind [-Prod, o_muL] | grind [-Prod, → sc_Pg, → sc_Pt, o_muL] | grind [-Prod, I_Pg, I_Pt, o_bn, upd, o_muL]) (by first | with_reducible exact True.intro | with_reducible assumption | grind [-Prod, o_muL] | grind [-Prod, → sc_Pg, → sc_Pt, o_muL] | grind [-Prod, I_Pg, I_Pt, o_bn, upd, o_muL]) (by first | with_reducible exact True.intro | with_reducible assumption | grind [-Prod, o_muL] | grind [-Prod, → sc_Pg, → sc_Pt, o_muL] | grind [-Prod, I_Pg, I_Pt, o_bn, upd, o_muL]) (by first | with_reducible exact True.intro | with_reducible assumption | grind [-Prod, o_muL] | grind [-Prod, → sc_Pg, → sc_Pt, o_muL] | grind [-Prod, I_Pg, I_Pt, o_bn, upd, o_muL]) (by first | with_reducible exact True.intro | with_reducible assumption | grind [-Prod, o_muL] | grind [-Prod, → sc_Pg, → sc_Pt, o_muL] | grind [-Prod, I_Pg, I_Pt, o_bn, upd, o_muL]) (by first | with_reducible exact True.intro | with_reducible assumption | grind [-Prod, o_muL] | grind [-Prod, → sc_Pg, → sc_Pt, o_muL] | grind [-Prod, I_Pg, I_Pt, o_bn, upd, o_muL])) (fun r hr => ?_)
          first | exact hr | (obtain ⟨g11, g12, g13, g14, g15⟩ := hr; refine ⟨fun h0 => ⟨?_, ?_, ?_, ?_, ?_, ?_, ?_⟩, fun h0 => ⟨?_, ?_, ?_⟩⟩ <;> (first | with_reducible exact True.intro | with_reducible assumption | (exact o_muL (by first | with_reducible exact True.intro | with_reducible assumption | grind [-Prod, o_muL] | grind [-Prod, → sc_Pg, → sc_Pt, o_muL] | grind [-Prod, I_Pg, I_Pt, o_bn, upd, o_muL])) | (first | with_reducible exact True.intro | with_reducible assumption | grind [-Prod, o_muL] | grind [-Prod, → sc_Pg, → sc_Pt, o_muL] | grind [-Prod, I_Pg, I_Pt, o_bn, upd, o_muL])))
        · refine o_okB (s_Pt_peek  ⟨l5.1, l5.2.1, l5.2.2.1, (by first | with_reducible exact True.intro | with_reducible assumption | grind [-Prod, o_muL] | grind [-Prod, → sc_Pg, → sc_Pt, o_muL] | grind [-Prod, I_Pg, I_Pt, o_bn, upd, o_muL]), (by first | with_reducible exact True.intro | with_reducible assumption | grind [-Prod, o_muL] | grind [-Prod, → sc_Pg, → sc_Pt, o_muL] | grind [-Prod, I_Pg, I_Pt, o_bn, upd, o_muL]), l5.2.2.2.2.2.1, l5.2.2.2.2.2.2.1, l5.2.2.2.2.2.2.2.1, l5.2.2.2.2.2.2.2.2.1, l5.2.2.2.2.2.2.2.2.2.1, l5.2.2.2.2.2.2.2.2.2.2⟩) ?_
          intro q8_16 g17
          refine o_okI (fun c18 => ?_) (fun c18 => ?_)
          · refine o_okI (fun c19 => ?_) (fun c19 => ?_)
            · refine o_okW (s_Pt_readSet_j129  hn l4 ⟨l5.1, l5.2.1, l5.2.2.1, (by first | with_reducible exact True.intro | with_reducible assumption | grind [-Prod, o_muL] | grind [-Prod, → sc_Pg, → sc_Pt, o_muL] | grind [-Prod, I_Pg, I_Pt, o_bn, upd, o_muL]), (by first | with_reducible exact True.intro | with_reducible assumption | grind [-Prod, o_muL] | grind [-Prod, → sc_Pg, → sc_Pt, o_muL] | grind [-Prod, I_Pg, I_Pt, o_bn, upd, o_muL]), l5.2.2.2.2.2.1, l5.2.2.2.2.2.2.1, l5.2.2.2.2.2.2.2.1, l5.2.2.2.2.2.2.2.2.1, l5.2.2.2.2.2.2.2.2.2.1, l5.2.2.2.2.2.2.2.2.2.2⟩ (by first | with_reducible exact True.intro | with_reducible assumption | grind [-Prod, o_muL] | grind [-Prod, → sc_Pg, → sc_Pt, o_muL] | grind [-Prod, I_Pg, I_Pt, o_bn, upd, o_muL]) (by first | with_reducible exact True.intro | with_reducible assumption | grind [-Prod, o_muL] | grind [-Prod, → sc_Pg, → sc_Pt, o_muL] | grind [-Prod, I_Pg, I_Pt, o_bn, upd, o_muL]) (by first | with_reducible exact True.intro | with_reducible assumption | grind [-Prod, o_muL] | grind [-Prod, → sc_Pg, → sc_Pt, o_muL] | grind [-Prod, I_Pg, I_Pt, o_bn, upd, o_muL]) (by first | with_reducible exact True.intro | with_reducible assumption | grind [-Prod, o_muL] | grind [-Prod, → sc_Pg, → sc_Pt, o_muL] | grind [-Prod, I_Pg, I_Pt, o_bn, upd, o_muL]) (by first | with_reducible exact True.intro | with_reducible assumption | grind [-Prod, o_muL] | grind [-Prod, → sc_Pg, → sc_Pt, o_muL] | grind [-Prod, I_Pg, I_Pt, o_bn, upd, o_muL]) (by first | with_reducible exact True.intro | with_reducible assumption | grind [-Prod, o_muL] | grind [-Prod, → sc_Pg, → sc_Pt, o_muL] | grind [-Prod, I_Pg, I_Pt, o_bn, upd, o_muL]) (by first | with_reducible exact True.intro | with_reducible assumption | grind [-Prod, o_muL] | grind [-Prod, → sc_Pg, → sc_Pt, o_muL] | grind [-Prod, I_Pg, I_Pt, o_bn, upd, o_muL])) (fun r hr => ?_)
              first | exact hr | (obtain ⟨g20, g21, g22, g23, g24⟩ := hr; refine ⟨fun h0 => ⟨?_, ?_, ?_, ?_, ?_, ?_, ?_⟩, fun h0 => ⟨?_, ?_, ?_⟩⟩ <;> (first | with_reducible exact True.intro | with_reducible assumption | (exact o_muL (by first | with_reducible exact True.intro | with_reducible assumption | grind [-Prod, o_muL] | grind [-Prod, → sc_Pg, → sc_Pt, o_muL] | grind [-Prod, I_Pg, I_Pt, o_bn, upd, o_muL])) | (first | with_reducible exact True.intro | with_reducible assumption | grind [-Prod, o_muL] | grind [-Prod, → sc_Pg, → sc_Pt, o_muL] | grind [-Prod, I_Pg, I_Pt, o_bn, upd, o_muL])))
            · refine o_okS ?_
              refine ⟨fun h => absurd (show (2 : Nat) = 0 from h) (by decide), fun _ => ?_⟩
              refine ⟨?_, ?_, ?_⟩
              · first | with_reducible exact True.intro | with_reducible assumption | grind [-Prod, o_muL] | grind [-Prod, → sc_Pg, → sc_Pt, o_muL] | grind [-Prod, I_Pg, I_Pt, o_bn, upd, o_muL]
              · exact l4
              · exact ⟨l5.1, l5.2.1, l5.2.2.1, (by first | with_reducible exact True.intro | with_reducible assumption | grind [-Prod, o_muL] | grind [-Prod, → sc_Pg, → sc_Pt, o_muL] | grind [-Prod, I_Pg, I_Pt, o_bn, upd, o_muL]), (by first | with_reducible exact True.intro | with_reducible assumption | grind [-Prod, o_muL] | grind [-Prod, → sc_Pg, → sc_Pt, o_muL] | grind [-Prod, I_Pg, I_Pt, o_bn, upd, o_muL]), l5.2.2.2.2.2.1, l5.2.2.2.2.2.2.1, l5.2.2.2.2.2.2.2.1, l5.2.2.2.2.2.2.2.2.1, l5.2.2.2.2.2.2.2.2.2.1, l5.2.2.2.2.2.2.2.2.2.2⟩
          · refine o_okS ?_
            refine ⟨fun h => absurd (show (2 : Nat) = 0 from h) (by decide), fun _ => ?_⟩
            refine ⟨?_, ?_, ?_⟩
            · first | with_reducible exact True.intro | with_reducible assumption | grind [-Prod, o_muL] | grind [-Prod, → sc_Pg, → sc_Pt, o_muL] | grind [-Prod, I_Pg, I_Pt, o_bn, upd, o_muL]
            · exact l4
            · exact ⟨l5.1, l5.2.1, l5.2.2.1, (by first | with_reducible exact True.intro | with_reducible assumption | grind [-Prod, o_muL] | grind [-Prod, → sc_Pg, → sc_Pt, o_muL] | grind [-Prod, I_Pg, I_Pt, o_bn, upd, o_muL]), (by first | with_reducible exact True.intro | with_reducible assumption | grind [-Prod, o_muL] | grind [-Prod, → sc_Pg, → sc_Pt, o_muL] | grind [-Prod, I_Pg, I_Pt, o_bn, upd, o_muL]), l5.2.2.2.2.2.1, l5.2.2.2.2.2.2.1, l5.2.2.2.2.2.2.2.1, l5.2.2.2.2.2.2.2.2.1, l5.2.2.2.2.2.2.2.2.2.1, l5.2.2.2.2.2.2.2.2.2.2⟩
      · refine o_okW (s_Pt_readSet_j129  hn l4 ⟨l5.1, l5.2.1, l5.2.2.1, (by first | with_reducible exact True.intro | with_reducible assumption | grind [-Prod, o_muL] | grind [-Prod, → sc_Pg, → sc_Pt, o_muL] | grind [-Prod, I_Pg, I_Pt, o_bn, upd, o_muL]), (by first | with_reducible exact True.intro | with_reducible assumption | grind [-Prod, o_muL] | grind [-Prod, → sc_Pg, → sc_Pt, o_muL] | grind [-Prod, I_Pg, I_Pt, o_bn, upd, o_muL]), l5.2.2.2.2.2.1, l5.2.2.2.2.2.2.1, l5.2.2.2.2.2.2.2.1, l5.2.2.2.2.2.2.2.2.1, l5.2.2.2.2.2.2.2.2.2.1, l5.2.2.2.2.2.2.2.2.2.2⟩ (by first | with_reducible exact True.intro | with_reducible assumption | grind [-Prod, o_muL] | grind [-Prod, → sc_Pg, → sc_Pt, o_muL] | grind [-Prod, I_Pg, I_Pt, o_bn, upd, o_muL]) (by first | with_reducible exact True.intro | with_reducible assumption | grind [-Prod, o_muL] | grind [-Prod, → sc_Pg, → sc_Pt, o_muL] | grind [-Prod, I_Pg, I_Pt, o_bn, upd, o_muL]) (by first | with_reducible exact True.intro | with_reducible assumption | grind [-Prod, o_muL] | grind [-Prod, → sc_Pg, → sc_Pt, o_muL] | grind [-Prod, I_Pg, I_Pt, o_bn, upd, o_muL]) (by first | with_reducible exact True.intro | with_reducible assumption | grind [-Prod, o_muL] | grind [-Prod, → sc_Pg, → sc_Pt, o_muL] | grind [-Prod, I_Pg, I_Pt, o_bn, upd, o_muL]) (by first | with_reducible exact True.intro | with_reducible assumption | grind [-Prod, o_muL] | grind [-Prod, → sc_Pg, → sc_Pt, o_muL] | grind [-Prod, I_Pg, I_Pt, o_bn, upd, o_muL]) (by first | with_reducible exact True.intro | with_reducible assumption | grind [-Prod, o_muL] | grind [-Prod, → sc_Pg, → sc_Pt, o_muL] | grind [-Prod, I_Pg, I_Pt, o_bn, upd, o_muL]) (by first | with_reducible exact True.intro | with_reducible assumption | grind [-Prod, o_muL] | grind [-Prod, → sc_Pg, → sc_Pt, o_muL] | grind [-Prod, I_Pg, I_Pt, o_bn, upd, o_muL])) (fun r hr => ?_)
        first | exact hr | (obtain ⟨g25, g26, g27, g28, g29⟩ := hr; refine ⟨fun h0 => ⟨?_, ?_, ?_, ?_, ?_, ?_, ?_⟩, fun h0 => ⟨?_, ?_, ?_⟩⟩ <;> (first | with_reducible exact True.intro | with_reducible assumption | (exact o_muL (by first | with_reducible exact True.intro | with_reducible assumption | grind [-Prod, o_muL] | grind [-Prod, → sc_Pg, → sc_Pt, o_muL] | grind [-Prod, I_Pg, I_Pt, o_bn, upd, o_muL])) | (first | with_reducible exact True.intro | with_reducible assumption | grind [-Prod, o_muL] | grind [-Prod, → sc_Pg, → sc_Pt, o_muL] | grind [-Prod, I_Pg, I_Pt, o_bn, upd, o_muL])))
theorem l_Pt_readSet_b40 {n : Nat} {x1 : Int32} {z : Int32 × SPg × SPt} (hn : o_big ≤ n) (p0 : 0 ≤ x1) (p1 : x1 ≤ 8000) (l0 : (Pg_setsUsed z.2.1 + 2 ≤ 8000 → (x1 + 2 ≤ Pg_setsUsed z.2.1 ∧ Pg_sets z.2.1 x1.toNatClampNeg ≤ z.1))) (l1 : Pt_position z.2.2 ≤ 5000 + 3 * z.1) (l2 : z.1 ≤ 4000) (l3 : 0 ≤ z.1) (l4 : I_Pg z.2.1) (l5 : I_Pt z.2.2) : o_ok (o_lp n (m_Pt_readSet_b40 n x1) z) (fun q => q.1 ≠ 0 ∧ Pt_position q.2.2.2 ≤ 18000 ∧ I_Pg q.2.2.1 ∧ I_Pt q.2.2.2) := by
  exact o_lpR (fun z => (Pg_setsUsed z.2.1 + 2 ≤ 8000 → (x1 + 2 ≤ Pg_setsUsed z.2.1 ∧ Pg_sets z.2.1 x1.toNatClampNeg ≤ z.1)) ∧ Pt_position z.2.2 ≤ 5000 + 3 * z.1 ∧ z.1 ≤ 4000 ∧ 0 ≤ z.1 ∧ I_Pg z.2.1 ∧ I_Pt z.2.2) (fun z => o_mu z.1) hn (o_muB) ⟨l0, l1, l2, l3, l4, l5⟩
    (fun z hz => by obtain ⟨l0, l1, l2, l3, l4, l5⟩ := hz; exact o_okW (s_Pt_readSet_b40 hn p0 p1 l0 l1 l2 l3 l4 l5) (fun q hq => ⟨fun h => by have := hq.1 h; grind, hq.2⟩))
set_option maxHeartbeats 8000000 in
theorem s_Pt_readSet {n : Nat} {Pg : SPg} {Pt : SPt} (hn : o_big ≤ n) (h_Pg : I_Pg Pg) (h_Pt : I_Pt Pt) (p0 : Pt_position Pt ≤ 4900) : o_ok (m_Pt_readSet n Pg Pt) (fun r => Pt_position r.2.2 ≤ 18000 ∧ r.1 ≤ 8000 ∧ I_Pg r.2.1 ∧ I_Pt r.2.2) := by
  unfold m_Pt_readSet
  refine o_okB (s_Pg_beginSet  h_Pg) ?_
  intro q1_1 ⟨g2, g3, g4, g5⟩
  refine o_okB (s_Pt_peek  h_Pt) ?_
  intro q2_6 g7
  refine o_okI (fun c8 => ?_) (fun c8 => ?_)
  · refine o_okB (s_Pg_addClass  g5 (by first | with_reducible exact True.intro | with_reducible assumption | grind [-Prod] | grind [-Prod, → sc_Pg, → sc_Pt] | grind [-Prod, I_Pg, I_Pt, o_bn, upd]) (by first | with_reducible exact True.intro | with_reducible assumption | grind [-Prod] | grind [-Prod, → sc_Pg, → sc_Pt] | grind [-Prod, I_Pg, I_Pt, o_bn, upd])) ?_
    intro q10_9 ⟨g10, g11, g12⟩
    refine o_okB (l_Pt_readSet_b40  hn (by first | with_reducible exact True.intro | with_reducible assumption | grind [-Prod] | grind [-Prod, → sc_Pg, → sc_Pt] | grind [-Prod, I_Pg, I_Pt, o_bn, upd]) (by first | with_reducible exact True.intro | with_reducible assumption | grind [-Prod] | grind [-Prod, → sc_Pg, → sc_Pt] | grind [-Prod, I_Pg, I_Pt, o_bn, upd]) (by first | with_reducible exact True.intro | with_reducible assumption | grind [-Prod] | grind [-Prod, → sc_Pg, → sc_Pt] | grind [-Prod, I_Pg, I_Pt, o_bn, upd]) (by first | with_reducible exact True.intro | with_reducible assumption | grind [-Prod] | grind [-Prod, → sc_Pg, → sc_Pt] | grind [-Prod, I_Pg, I_Pt, o_bn, upd]) (by first | with_reducible exact True.intro | with_reducible assumption | grind [-Prod] | grind [-Prod, → sc_Pg, → sc_Pt] | grind [-Prod, I_Pg, I_Pt, o_bn, upd]) (by first | with_reducible exact True.intro | with_reducible assumption | grind [-Prod] | grind [-Prod, → sc_Pg, → sc_Pt] | grind [-Prod, I_Pg, I_Pt, o_bn, upd]) g12 ⟨h_Pt.1, h_Pt.2.1, h_Pt.2.2.1, (by first | with_reducible exact True.intro | with_reducible assumption | grind [-Prod] | grind [-Prod, → sc_Pg, → sc_Pt] | grind [-Prod, I_Pg, I_Pt, o_bn, upd]), (by first | with_reducible exact True.intro | with_reducible assumption | grind [-Prod] | grind [-Prod, → sc_Pg, → sc_Pt] | grind [-Prod, I_Pg, I_Pt, o_bn, upd]), h_Pt.2.2.2.2.2.1, h_Pt.2.2.2.2.2.2.1, h_Pt.2.2.2.2.2.2.2.1, h_Pt.2.2.2.2.2.2.2.2.1, h_Pt.2.2.2.2.2.2.2.2.2.1, h_Pt.2.2.2.2.2.2.2.2.2.2⟩) ?_
    intro q11_13 ⟨yq11_13, g14, g15, g16⟩
    refine o_okI (fun c17 => ?_) (fun c17 => ?_)
    · refine o_okS ?_
      refine ⟨?_, ?_, ?_, ?_⟩
      · first | with_reducible exact True.intro | with_reducible assumption | grind [-Prod] | grind [-Prod, → sc_Pg, → sc_Pt] | grind [-Prod, I_Pg, I_Pt, o_bn, upd]
      · first | with_reducible exact True.intro | with_reducible assumption | grind [-Prod] | grind [-Prod, → sc_Pg, → sc_Pt] | grind [-Prod, I_Pg, I_Pt, o_bn, upd]
      · exact g15
      · exact g16
    · refine o_okI (fun c18 => ?_) (fun c18 => ?_)
      · refine o_okS ?_
        refine ⟨?_, ?_, ?_, ?_⟩
        · first | with_reducible exact True.intro | with_reducible assumption | grind [-Prod] | grind [-Prod, → sc_Pg, → sc_Pt] | grind [-Prod, I_Pg, I_Pt, o_bn, upd]
        · first | with_reducible exact True.intro | with_reducible assumption | grind [-Prod] | grind [-Prod, → sc_Pg, → sc_Pt] | grind [-Prod, I_Pg, I_Pt, o_bn, upd]
        · exact g15
        · exact g16
      · refine o_okI (fun c19 => ?_) (fun c19 => ?_)
        · refine o_okS ?_
          refine ⟨?_, ?_, ?_, ?_⟩
          · first | with_reducible exact True.intro | with_reducible assumption | grind [-Prod] | grind [-Prod, → sc_Pg, → sc_Pt] | grind [-Prod, I_Pg, I_Pt, o_bn, upd]
          · first | with_reducible exact True.intro | with_reducible assumption | grind [-Prod] | grind [-Prod, → sc_Pg, → sc_Pt] | grind [-Prod, I_Pg, I_Pt, o_bn, upd]
          · exact g15
          · exact g16
        · refine o_okS ?_
          refine ⟨?_, ?_, ?_, ?_⟩
          · first | with_reducible exact True.intro | with_reducible assumption | grind [-Prod] | grind [-Prod, → sc_Pg, → sc_Pt] | grind [-Prod, I_Pg, I_Pt, o_bn, upd]
          · first | with_reducible exact True.intro | with_reducible assumption | grind [-Prod] | grind [-Prod, → sc_Pg, → sc_Pt] | grind [-Prod, I_Pg, I_Pt, o_bn, upd]
          · exact g15
          · exact g16
  · refine o_okB (l_Pt_readSet_b40  hn (by first | with_reducible exact True.intro | with_reducible assumption | grind [-Prod] | grind [-Prod, → sc_Pg, → sc_Pt] | grind [-Prod, I_Pg, I_Pt, o_bn, upd]) (by first | with_reducible exact True.intro | with_reducible assumption | grind [-Prod] | grind [-Prod, → sc_Pg, → sc_Pt] | grind [-Prod, I_Pg, I_Pt, o_bn, upd]) (by first | with_reducible exact True.intro | with_reducible assumption | grind [-Prod] | grind [-Prod, → sc_Pg, → sc_Pt] | grind [-Prod, I_Pg, I_Pt, o_bn, upd]) (by first | with_reducible exact True.intro | with_reducible assumption | grind [-Prod] | grind [-Prod, → sc_Pg, → sc_Pt] | grind [-Prod, I_Pg, I_Pt, o_bn, upd]) (by first | with_reducible exact True.intro | with_reducible assumption | grind [-Prod] | grind [-Prod, → sc_Pg, → sc_Pt] | grind [-Prod, I_Pg, I_Pt, o_bn, upd]) (by first | with_reducible exact True.intro | with_reducible assumption | grind [-Prod] | grind [-Prod, → sc_Pg, → sc_Pt] | grind [-Prod, I_Pg, I_Pt, o_bn, upd]) g5 h_Pt) ?_
    intro q9_20 ⟨yq9_20, g21, g22, g23⟩
    refine o_okI (fun c24 => ?_) (fun c24 => ?_)
    · refine o_okS ?_
      refine ⟨?_, ?_, ?_, ?_⟩
      · first | with_reducible exact True.intro | with_reducible assumption | grind [-Prod] | grind [-Prod, → sc_Pg, → sc_Pt] | grind [-Prod, I_Pg, I_Pt, o_bn, upd]
      · first | with_reducible exact True.intro | with_reducible assumption | grind [-Prod] | grind [-Prod, → sc_Pg, → sc_Pt] | grind [-Prod, I_Pg, I_Pt, o_bn, upd]
      · exact g22
      · exact g23
    · refine o_okI (fun c25 => ?_) (fun c25 => ?_)
      · refine o_okS ?_
        refine ⟨?_, ?_, ?_, ?_⟩
        · first | with_reducible exact True.intro | with_reducible assumption | grind [-Prod] | grind [-Prod, → sc_Pg, → sc_Pt] | grind [-Prod, I_Pg, I_Pt, o_bn, upd]
        · first | with_reducible exact True.intro | with_reducible assumption | grind [-Prod] | grind [-Prod, → sc_Pg, → sc_Pt] | grind [-Prod, I_Pg, I_Pt, o_bn, upd]
        · exact g22
        · exact g23
      · refine o_okI (fun c26 => ?_) (fun c26 => ?_)
        · refine o_okS ?_
          refine ⟨?_, ?_, ?_, ?_⟩
          · first | with_reducible exact True.intro | with_reducible assumption | grind [-Prod] | grind [-Prod, → sc_Pg, → sc_Pt] | grind [-Prod, I_Pg, I_Pt, o_bn, upd]
          · first | with_reducible exact True.intro | with_reducible assumption | grind [-Prod] | grind [-Prod, → sc_Pg, → sc_Pt] | grind [-Prod, I_Pg, I_Pt, o_bn, upd]
          · exact g22
          · exact g23
        · refine o_okS ?_
          refine ⟨?_, ?_, ?_, ?_⟩
          · first | with_reducible exact True.intro | with_reducible assumption | grind [-Prod] | grind [-Prod, → sc_Pg, → sc_Pt] | grind [-Prod, I_Pg, I_Pt, o_bn, upd]
          · first | with_reducible exact True.intro | with_reducible assumption | grind [-Prod] | grind [-Prod, → sc_Pg, → sc_Pt] | grind [-Prod, I_Pg, I_Pt, o_bn, upd]
          · exact g22
          · exact g23
set_option maxHeartbeats 8000000 in
theorem s_Pt_single {x1 : Int32} {x2 : Int32} {Pg : SPg} {Pt : SPt} (h_Pg : I_Pg Pg) (h_Pt : I_Pt Pt) (p0 : x1 ≤ 8388607) (p1 : x2 ≤ 8000) : o_ok (m_Pt_single x1 x2 Pg Pt) (fun r => (r.1 = 0 ∨ r.1 = 1) ∧ Pt_position r.2.2 = Pt_position Pt ∧ I_Pg r.2.1 ∧ I_Pt r.2.2) := by
  unfold m_Pt_single
  refine o_okI (fun c1 => ?_) (fun c1 => ?_)
  · refine o_okB (s_Pg_emit  h_Pg (by first | with_reducible exact True.intro | with_reducible assumption | grind [-Prod, o_andM, o_andC] | grind [-Prod, → sc_Pg, → sc_Pt, o_andM, o_andC] | grind [-Prod, I_Pg, I_Pt, o_bn, upd, o_andM, o_andC])) ?_
    intro q1_2 g3
    refine o_okS ?_
    refine ⟨?_, ?_, ?_, ?_⟩
    · first | with_reducible exact True.intro | with_reducible assumption | grind [-Prod, o_andM, o_andC] | grind [-Prod, → sc_Pg, → sc_Pt, o_andM, o_andC] | grind [-Prod, I_Pg, I_Pt, o_bn, upd, o_andM, o_andC]
    · first | with_reducible exact True.intro | with_reducible assumption | grind [-Prod, o_andM, o_andC] | grind [-Prod, → sc_Pg, → sc_Pt, o_andM, o_andC] | grind [-Prod, I_Pg, I_Pt, o_bn, upd, o_andM, o_andC]
    · exact g3
    · exact ⟨h_Pt.1, h_Pt.2.1, h_Pt.2.2.1, h_Pt.2.2.2.1, h_Pt.2.2.2.2.1, h_Pt.2.2.2.2.2.1, h_Pt.2.2.2.2.2.2.1, h_Pt.2.2.2.2.2.2.2.1, h_Pt.2.2.2.2.2.2.2.2.1, h_Pt.2.2.2.2.2.2.2.2.2.1, h_Pt.2.2.2.2.2.2.2.2.2.2⟩
  · refine o_okI (fun c4 => ?_) (fun c4 => ?_)
    · refine o_okB (s_Pg_emit  h_Pg (by first | with_reducible exact True.intro | with_reducible assumption | grind [-Prod, o_andM, o_andC] | grind [-Prod, → sc_Pg, → sc_Pt, o_andM, o_andC] | grind [-Prod, I_Pg, I_Pt, o_bn, upd, o_andM, o_andC])) ?_
      intro q2_5 g6
      refine o_okI (fun c7 => ?_) (fun c7 => ?_)
      · refine o_okS ?_
        refine ⟨?_, ?_, ?_, ?_⟩
        · first | with_reducible exact True.intro | with_reducible assumption | grind [-Prod, o_andM, o_andC] | grind [-Prod, → sc_Pg, → sc_Pt, o_andM, o_andC] | grind [-Prod, I_Pg, I_Pt, o_bn, upd, o_andM, o_andC]
        · first | with_reducible exact True.intro | with_reducible assumption | grind [-Prod, o_andM, o_andC] | grind [-Prod, → sc_Pg, → sc_Pt, o_andM, o_andC] | grind [-Prod, I_Pg, I_Pt, o_bn, upd, o_andM, o_andC]
        · exact g6
        · exact ⟨h_Pt.1, h_Pt.2.1, h_Pt.2.2.1, h_Pt.2.2.2.1, h_Pt.2.2.2.2.1, h_Pt.2.2.2.2.2.1, h_Pt.2.2.2.2.2.2.1, h_Pt.2.2.2.2.2.2.2.1, h_Pt.2.2.2.2.2.2.2.2.1, h_Pt.2.2.2.2.2.2.2.2.2.1, h_Pt.2.2.2.2.2.2.2.2.2.2⟩
      · refine o_okS ?_
        refine ⟨?_, ?_, ?_, ?_⟩
        · first | with_reducible exact True.intro | with_reducible assumption | grind [-Prod, o_andM, o_andC] | grind [-Prod, → sc_Pg, → sc_Pt, o_andM, o_andC] | grind [-Prod, I_Pg, I_Pt, o_bn, upd, o_andM, o_andC]
        · first | with_reducible exact True.intro | with_reducible assumption | grind [-Prod, o_andM, o_andC] | grind [-Prod, → sc_Pg, → sc_Pt, o_andM, o_andC] | grind [-Prod, I_Pg, I_Pt, o_bn, upd, o_andM, o_andC]
        · exact g6
        · exact ⟨h_Pt.1, h_Pt.2.1, h_Pt.2.2.1, h_Pt.2.2.2.1, h_Pt.2.2.2.2.1, h_Pt.2.2.2.2.2.1, h_Pt.2.2.2.2.2.2.1, h_Pt.2.2.2.2.2.2.2.1, h_Pt.2.2.2.2.2.2.2.2.1, h_Pt.2.2.2.2.2.2.2.2.2.1, h_Pt.2.2.2.2.2.2.2.2.2.2⟩
    · refine o_okI (fun c8 => ?_) (fun c8 => ?_)
      · refine o_okB (s_Pg_emit  h_Pg (by first | with_reducible exact True.intro | with_reducible assumption | grind [-Prod, o_andM, o_andC] | grind [-Prod, → sc_Pg, → sc_Pt, o_andM, o_andC] | grind [-Prod, I_Pg, I_Pt, o_bn, upd, o_andM, o_andC])) ?_
        intro q3_9 g10
        refine o_okS ?_
        refine ⟨?_, ?_, ?_, ?_⟩
        · first | with_reducible exact True.intro | with_reducible assumption | grind [-Prod, o_andM, o_andC] | grind [-Prod, → sc_Pg, → sc_Pt, o_andM, o_andC] | grind [-Prod, I_Pg, I_Pt, o_bn, upd, o_andM, o_andC]
        · first | with_reducible exact True.intro | with_reducible assumption | grind [-Prod, o_andM, o_andC] | grind [-Prod, → sc_Pg, → sc_Pt, o_andM, o_andC] | grind [-Prod, I_Pg, I_Pt, o_bn, upd, o_andM, o_andC]
        · exact g10
        · exact ⟨h_Pt.1, h_Pt.2.1, h_Pt.2.2.1, h_Pt.2.2.2.1, h_Pt.2.2.2.2.1, h_Pt.2.2.2.2.2.1, h_Pt.2.2.2.2.2.2.1, h_Pt.2.2.2.2.2.2.2.1, h_Pt.2.2.2.2.2.2.2.2.1, h_Pt.2.2.2.2.2.2.2.2.2.1, h_Pt.2.2.2.2.2.2.2.2.2.2⟩
      · refine o_okI (fun c11 => ?_) (fun c11 => ?_)
        · refine o_okB (s_Pg_emit  h_Pg (by first | with_reducible exact True.intro | with_reducible assumption | grind [-Prod, o_andM, o_andC] | grind [-Prod, → sc_Pg, → sc_Pt, o_andM, o_andC] | grind [-Prod, I_Pg, I_Pt, o_bn, upd, o_andM, o_andC])) ?_
          intro q4_12 g13
          refine o_okS ?_
          refine ⟨?_, ?_, ?_, ?_⟩
          · first | with_reducible exact True.intro | with_reducible assumption | grind [-Prod, o_andM, o_andC] | grind [-Prod, → sc_Pg, → sc_Pt, o_andM, o_andC] | grind [-Prod, I_Pg, I_Pt, o_bn, upd, o_andM, o_andC]
          · first | with_reducible exact True.intro | with_reducible assumption | grind [-Prod, o_andM, o_andC] | grind [-Prod, → sc_Pg, → sc_Pt, o_andM, o_andC] | grind [-Prod, I_Pg, I_Pt, o_bn, upd, o_andM, o_andC]
          · exact g13
          · exact ⟨h_Pt.1, h_Pt.2.1, h_Pt.2.2.1, h_Pt.2.2.2.1, h_Pt.2.2.2.2.1, h_Pt.2.2.2.2.2.1, h_Pt.2.2.2.2.2.2.1, h_Pt.2.2.2.2.2.2.2.1, h_Pt.2.2.2.2.2.2.2.2.1, h_Pt.2.2.2.2.2.2.2.2.2.1, h_Pt.2.2.2.2.2.2.2.2.2.2⟩
        · refine o_okI (fun c14 => ?_) (fun c14 => ?_)
          · refine o_okB (s_Pg_emit  h_Pg (by first | with_reducible exact True.intro | with_reducible assumption | grind [-Prod, o_andM, o_andC] | grind [-Prod, → sc_Pg, → sc_Pt, o_andM, o_andC] | grind [-Prod, I_Pg, I_Pt, o_bn, upd, o_andM, o_andC])) ?_
            intro q5_15 g16
            unfold m_Pt_single_j139
            refine o_okI (fun c17 => ?_) (fun c17 => ?_)
            · refine o_okS ?_
              refine ⟨?_, ?_, ?_, ?_⟩
              · first | with_reducible exact True.intro | with_reducible assumption | grind [-Prod, o_andM, o_andC] | grind [-Prod, → sc_Pg, → sc_Pt, o_andM, o_andC] | grind [-Prod, I_Pg, I_Pt, o_bn, upd, o_andM, o_andC]
              · first | with_reducible exact True.intro | with_reducible assumption | grind [-Prod, o_andM, o_andC] | grind [-Prod, → sc_Pg, → sc_Pt, o_andM, o_andC] | grind [-Prod, I_Pg, I_Pt, o_bn, upd, o_andM, o_andC]
              · exact g16
              · exact ⟨h_Pt.1, h_Pt.2.1, h_Pt.2.2.1, h_Pt.2.2.2.1, h_Pt.2.2.2.2.1, h_Pt.2.2.2.2.2.1, h_Pt.2.2.2.2.2.2.1, h_Pt.2.2.2.2.2.2.2.1, h_Pt.2.2.2.2.2.2.2.2.1, h_Pt.2.2.2.2.2.2.2.2.2.1, h_Pt.2.2.2.2.2.2.2.2.2.2⟩
            · refine o_okS ?_
              refine ⟨?_, ?_, ?_, ?_⟩
              · first | with_reducible exact True.intro | with_reducible assumption | grind [-Prod, o_andM, o_andC] | grind [-Prod, → sc_Pg, → sc_Pt, o_andM, o_andC] | grind [-Prod, I_Pg, I_Pt, o_bn, upd, o_andM, o_andC]
              · first | with_reducible exact True.intro | with_reducible assumption | grind [-Prod, o_andM, o_andC] | grind [-Prod, → sc_Pg, → sc_Pt, o_andM, o_andC] | grind [-Prod, I_Pg, I_Pt, o_bn, upd, o_andM, o_andC]
              · exact g16
              · exact ⟨h_Pt.1, h_Pt.2.1, h_Pt.2.2.1, h_Pt.2.2.2.1, h_Pt.2.2.2.2.1, h_Pt.2.2.2.2.2.1, h_Pt.2.2.2.2.2.2.1, h_Pt.2.2.2.2.2.2.2.1, h_Pt.2.2.2.2.2.2.2.2.1, h_Pt.2.2.2.2.2.2.2.2.2.1, h_Pt.2.2.2.2.2.2.2.2.2.2⟩
          · refine o_okB (s_Pg_emit  h_Pg (by first | with_reducible exact True.intro | with_reducible assumption | grind [-Prod, o_andM, o_andC] | grind [-Prod, → sc_Pg, → sc_Pt, o_andM, o_andC] | grind [-Prod, I_Pg, I_Pt, o_bn, upd, o_andM, o_andC])) ?_
            intro q6_18 g19
            unfold m_Pt_single_j139
            refine o_okI (fun c20 => ?_) (fun c20 => ?_)
            · refine o_okS ?_
              refine ⟨?_, ?_, ?_, ?_⟩
              · first | with_reducible exact True.intro | with_reducible assumption | grind [-Prod, o_andM, o_andC] | grind [-Prod, → sc_Pg, → sc_Pt, o_andM, o_andC] | grind [-Prod, I_Pg, I_Pt, o_bn, upd, o_andM, o_andC]
              · first | with_reducible exact True.intro | with_reducible assumption | grind [-Prod, o_andM, o_andC] | grind [-Prod, → sc_Pg, → sc_Pt, o_andM, o_andC] | grind [-Prod, I_Pg, I_Pt, o_bn, upd, o_andM, o_andC]
              · exact g19
              · exact ⟨h_Pt.1, h_Pt.2.1, h_Pt.2.2.1, h_Pt.2.2.2.1, h_Pt.2.2.2.2.1, h_Pt.2.2.2.2.2.1, h_Pt.2.2.2.2.2.2.1, h_Pt.2.2.2.2.2.2.2.1, h_Pt.2.2.2.2.2.2.2.2.1, h_Pt.2.2.2.2.2.2.2.2.2.1, h_Pt.2.2.2.2.2.2.2.2.2.2⟩
            · refine o_okS ?_
              refine ⟨?_, ?_, ?_, ?_⟩
              · first | with_reducible exact True.intro | with_reducible assumption | grind [-Prod, o_andM, o_andC] | grind [-Prod, → sc_Pg, → sc_Pt, o_andM, o_andC] | grind [-Prod, I_Pg, I_Pt, o_bn, upd, o_andM, o_andC]
              · first | with_reducible exact True.intro | with_reducible assumption | grind [-Prod, o_andM, o_andC] | grind [-Prod, → sc_Pg, → sc_Pt, o_andM, o_andC] | grind [-Prod, I_Pg, I_Pt, o_bn, upd, o_andM, o_andC]
              · exact g19
              · exact ⟨h_Pt.1, h_Pt.2.1, h_Pt.2.2.1, h_Pt.2.2.2.1, h_Pt.2.2.2.2.1, h_Pt.2.2.2.2.2.1, h_Pt.2.2.2.2.2.2.1, h_Pt.2.2.2.2.2.2.2.1, h_Pt.2.2.2.2.2.2.2.2.1, h_Pt.2.2.2.2.2.2.2.2.2.1, h_Pt.2.2.2.2.2.2.2.2.2.2⟩
theorem s_Pt_isQuantifier {x0 : Int32}  : o_ok (m_Pt_isQuantifier x0) (fun r => (r = 0 ∨ r = 1)) := by
  unfold m_Pt_isQuantifier
  refine o_okI (fun c1 => ?_) (fun c1 => ?_)
  · refine o_okS ?_
    first | with_reducible exact True.intro | with_reducible assumption | grind [-Prod] | grind [-Prod] | grind [-Prod, o_bn, upd]
  · refine o_okI (fun c2 => ?_) (fun c2 => ?_)
    · refine o_okS ?_
      first | with_reducible exact True.intro | with_reducible assumption | grind [-Prod] | grind [-Prod] | grind [-Prod, o_bn, upd]
    · refine o_okI (fun c3 => ?_) (fun c3 => ?_)
      · refine o_okS ?_
        first | with_reducible exact True.intro | with_reducible assumption | grind [-Prod] | grind [-Prod] | grind [-Prod, o_bn, upd]
      · refine o_okI (fun c4 => ?_) (fun c4 => ?_)
        · refine o_okS ?_
          first | with_reducible exact True.intro | with_reducible assumption | grind [-Prod] | grind [-Prod] | grind [-Prod, o_bn, upd]
        · refine o_okS ?_
          first | with_reducible exact True.intro | with_reducible assumption | grind [-Prod] | grind [-Prod] | grind [-Prod, o_bn, upd]
theorem s_Pt_readNumber_b4 {n : Nat} {z : Int32 × Int32 × SPt} {p0v : Int32} (hn : o_big ≤ n) (p0 : 0 ≤ p0v) (p1 : p0v ≤ 100000) (l0 : Pt_position z.2.2 ≤ p0v + z.2.1) (l1 : z.2.1 ≤ 3) (l2 : 0 ≤ z.2.1) (l3 : I_Pt z.2.2) : o_ok (m_Pt_readNumber_b4 n z) (fun q => (q.1 = 0 → Pt_position q.2.2.2 ≤ p0v + q.2.2.1 ∧ q.2.2.1 ≤ 3 ∧ 0 ≤ q.2.2.1 ∧ I_Pt q.2.2.2 ∧ o_mu q.2.2.1 < o_mu z.2.1) ∧ (q.1 ≠ 0 → Pt_position q.2.2.2 ≤ p0v + 3 ∧ I_Pt q.2.2.2)) := by
  unfold m_Pt_readNumber_b4
  refine o_okI (fun c1 => ?_) (fun c1 => ?_)
  · refine o_okS ?_
    refine ⟨fun h => absurd (show (2 : Nat) = 0 from h) (by decide), fun _ => ?_⟩
    refine ⟨?_, ?_⟩
    · first | with_reducible exact True.intro | with_reducible assumption | grind [-Prod] | grind [-Prod, → sc_Pt] | grind [-Prod, I_Pt, o_bn, upd]
    · exact l3
  · refine o_okI (fun c2 => ?_) (fun c2 => ?_)
    · unfold m_Pt_readNumber_j33
      refine o_okI (fun c3 => ?_) (fun c3 => ?_)
      · refine o_okS ?_
        refine ⟨fun h => absurd (show (1 : Nat) = 0 from h) (by decide), fun _ => ?_⟩
        refine ⟨?_, ?_⟩
        · first | with_reducible exact True.intro | with_reducible assumption | grind [-Prod] | grind [-Prod, → sc_Pt] | grind [-Prod, I_Pt, o_bn, upd]
        · exact l3
      · refine o_okI (fun c4 => ?_) (fun c4 => ?_)
        · refine o_okN (fun x1_61_5 ex1_61_5 => ?_)
          refine o_okN (fun x2_72_6 ex2_72_6 => ?_)
          refine o_okS ?_
          refine ⟨fun _ => ?_, fun h => absurd rfl h⟩
          refine ⟨?_, ?_, ?_, ?_, ?_⟩
          · first | with_reducible exact True.intro | with_reducible assumption | grind [-Prod] | grind [-Prod, → sc_Pt] | grind [-Prod, I_Pt, o_bn, upd]
          · first | with_reducible exact True.intro | with_reducible assumption | grind [-Prod] | grind [-Prod, → sc_Pt] | grind [-Prod, I_Pt, o_bn, upd]
          · first | with_reducible exact True.intro | with_reducible assumption | grind [-Prod] | grind [-Prod, → sc_Pt] | grind [-Prod, I_Pt, o_bn, upd]
          · exact ⟨l3.1, l3.2.1, l3.2.2.1, (by first | with_reducible exact True.intro | with_reducible assumption | grind [-Prod] | grind [-Prod, → sc_Pt] | grind [-Prod, I_Pt, o_bn, upd]), (by first | with_reducible exact True.intro | with_reducible assumption | grind [-Prod] | grind [-Prod, → sc_Pt] | grind [-Prod, I_Pt, o_bn, upd]), l3.2.2.2.2.2.1, l3.2.2.2.2.2.2.1, l3.2.2.2.2.2.2.2.1, l3.2.2.2.2.2.2.2.2.1, l3.2.2.2.2.2.2.2.2.2.1, l3.2.2.2.2.2.2.2.2.2.2⟩
          · first | exact o_muL (by first | with_reducible exact True.intro | with_reducible assumption | grind [-Prod] | grind [-Prod, → sc_Pt] | grind [-Prod, I_Pt, o_bn, upd]) | exact o_nuL (by first | with_reducible exact True.intro | with_reducible assumption | grind [-Prod] | grind [-Prod, → sc_Pt] | grind [-Prod, I_Pt, o_bn, upd]) | (first | with_reducible exact True.intro | with_reducible assumption | grind [-Prod] | grind [-Prod, → sc_Pt] | grind [-Prod, I_Pt, o_bn, upd])
        · refine o_okS ?_
          refine ⟨fun h => absurd (show (1 : Nat) = 0 from h) (by decide), fun _ => ?_⟩
          refine ⟨?_, ?_⟩
          · first | with_reducible exact True.intro | with_reducible assumption | grind [-Prod] | grind [-Prod, → sc_Pt] | grind [-Prod, I_Pt, o_bn, upd]
          · exact l3
    · refine o_okG (o_inM (m := 4000) rfl (by first | with_reducible exact True.intro | with_reducible assumption | grind [-Prod] | grind [-Prod, → sc_Pt] | grind [-Prod, I_Pt, o_bn, upd]) (by first | with_reducible exact True.intro | with_reducible assumption | grind [-Prod] | grind [-Prod, → sc_Pt] | grind [-Prod, I_Pt, o_bn, upd])) ?_
      unfold m_Pt_readNumber_j33
      refine o_okI (fun c7 => ?_) (fun c7 => ?_)
      · refine o_okS ?_
        refine ⟨fun h => absurd (show (1 : Nat) = 0 from h) (by decide), fun _ => ?_⟩
        refine ⟨?_, ?_⟩
        · first | with_reducible exact True.intro | with_reducible assumption | grind [-Prod] | grind [-Prod, → sc_Pt] | grind [-Prod, I_Pt, o_bn, upd]
        · exact l3
      · refine o_okI (fun c8 => ?_) (fun c8 => ?_)
        · refine o_okN (fun x1_61_9 ex1_61_9 => ?_)
          refine o_okN (fun x2_72_10 ex2_72_10 => ?_)
          refine o_okS ?_
          refine ⟨fun _ => ?_, fun h => absurd rfl h⟩
          refine ⟨?_, ?_, ?_, ?_, ?_⟩
          · first | with_reducible exact True.intro | with_reducible assumption | grind [-Prod] | grind [-Prod, → sc_Pt] | grind [-Prod, I_Pt, o_bn, upd]
          · first | with_reducible exact True.intro | with_reducible assumption | grind [-Prod] | grind [-Prod, → sc_Pt] | grind [-Prod, I_Pt, o_bn, upd]
          · first | with_reducible exact True.intro | with_reducible assumption | grind [-Prod] | grind [-Prod, → sc_Pt] | grind [-Prod, I_Pt, o_bn, upd]
          · exact ⟨l3.1, l3.2.1, l3.2.2.1, (by first | with_reducible exact True.intro | with_reducible assumption | grind [-Prod] | grind [-Prod, → sc_Pt] | grind [-Prod, I_Pt, o_bn, upd]), (by first | with_reducible exact True.intro | with_reducible assumption | grind [-Prod] | grind [-Prod, → sc_Pt] | grind [-Prod, I_Pt, o_bn, upd]), l3.2.2.2.2.2.1, l3.2.2.2.2.2.2.1, l3.2.2.2.2.2.2.2.1, l3.2.2.2.2.2.2.2.2.1, l3.2.2.2.2.2.2.2.2.2.1, l3.2.2.2.2.2.2.2.2.2.2⟩
          · first | exact o_muL (by first | with_reducible exact True.intro | with_reducible assumption | grind [-Prod] | grind [-Prod, → sc_Pt] | grind [-Prod, I_Pt, o_bn, upd]) | exact o_nuL (by first | with_reducible exact True.intro | with_reducible assumption | grind [-Prod] | grind [-Prod, → sc_Pt] | grind [-Prod, I_Pt, o_bn, upd]) | (first | with_reducible exact True.intro | with_reducible assumption | grind [-Prod] | grind [-Prod, → sc_Pt] | grind [-Prod, I_Pt, o_bn, upd])
        · refine o_okS ?_
          refine ⟨fun h => absurd (show (1 : Nat) = 0 from h) (by decide), fun _ => ?_⟩
          refine ⟨?_, ?_⟩
          · first | with_reducible exact True.intro | with_reducible assumption | grind [-Prod] | grind [-Prod, → sc_Pt] | grind [-Prod, I_Pt, o_bn, upd]
          · exact l3
theorem l_Pt_readNumber_b4 {n : Nat} {z : Int32 × Int32 × SPt} {p0v : Int32} (hn : o_big ≤ n) (p0 : 0 ≤ p0v) (p1 : p0v ≤ 100000) (l0 : Pt_position z.2.2 ≤ p0v + z.2.1) (l1 : z.2.1 ≤ 3) (l2 : 0 ≤ z.2.1) (l3 : I_Pt z.2.2) : o_ok (o_lp n (m_Pt_readNumber_b4 n) z) (fun q => q.1 ≠ 0 ∧ Pt_position q.2.2.2 ≤ p0v + 3 ∧ I_Pt q.2.2.2) := by
  exact o_lpR (fun z => Pt_position z.2.2 ≤ p0v + z.2.1 ∧ z.2.1 ≤ 3 ∧ 0 ≤ z.2.1 ∧ I_Pt z.2.2) (fun z => o_mu z.2.1) hn (o_muB) ⟨l0, l1, l2, l3⟩
    (fun z hz => by obtain ⟨l0, l1, l2, l3⟩ := hz; exact o_okW (s_Pt_readNumber_b4 (p0v := p0v) hn p0 p1 l0 l1 l2 l3) (fun q hq => ⟨fun h => by have := hq.1 h; grind, hq.2⟩))
