set_option maxHeartbeats 8000000 in
theorem s_MM_value {x1 : Int32} {x2 : Int32} {x3 : Int32} {M0 : SMT} {M1 : SMT} {Ni : SNI} (h_M0 : I_MT M0) (t_M0 : T_MT M0) (h_M1 : I_MT M1) (t_M1 : T_MT M1) (h_Ni : I_NI Ni) : o_ok (m_MM_value x1 x2 x3 M0 M1 Ni) (fun r => NI_fed r.2 = NI_fed Ni ∧ I_NI r.2) := by
  unfold m_MM_value
  refine o_okI (fun c1 => ?_) (fun c1 => ?_)
  · unfold m_MM_value_j20
    refine o_okB (s_MM_in ) ?_
    intro q1_2 ⟨g3, g4⟩
    refine o_okI (fun c5 => ?_) (fun c5 => ?_)
    · unfold m_MM_value_j37
      refine o_okB (s_MM_fails  ⟨h_Ni.1, h_Ni.2⟩ (by first | with_reducible exact True.intro | with_reducible assumption | grind [-Prod, → sc_EX] | grind [-Prod, → sc_MT, → sc_NI, → sc_EX] | grind [-Prod, I_MT, I_NI, o_bn, upd])) ?_
      intro q2_6 ⟨g7, g8, g9, g10, g11, g12⟩
      refine o_okI (fun c13 => ?_) (fun c13 => ?_)
      · refine o_okB (s_MM_in ) ?_
        intro q3_14 ⟨g15, g16⟩
        refine o_okI (fun c17 => ?_) (fun c17 => ?_)
        · unfold m_MM_value_j65
          refine o_okB (s_MM_fails  g12 (by first | with_reducible exact True.intro | with_reducible assumption | grind [-Prod, → sc_EX] | grind [-Prod, → sc_MT, → sc_NI, → sc_EX] | grind [-Prod, I_MT, I_NI, o_bn, upd])) ?_
          intro q4_18 ⟨g19, g20, g21, g22, g23, g24⟩
          refine o_okI (fun c25 => ?_) (fun c25 => ?_)
          · refine o_okI (fun c26 => ?_) (fun c26 => ?_)
            · refine o_okG (o_inM (m := 1000) rfl (by first | with_reducible exact True.intro | with_reducible assumption | grind [-Prod, → sc_EX] | grind [-Prod, → sc_MT, → sc_NI, → sc_EX] | grind [-Prod, I_MT, I_NI, o_bn, upd]) (by first | with_reducible exact True.intro | with_reducible assumption | grind [-Prod, → sc_EX] | grind [-Prod, → sc_MT, → sc_NI, → sc_EX] | grind [-Prod, I_MT, I_NI, o_bn, upd])) ?_
              refine o_okS ?_
              refine ⟨?_, ?_⟩
              · first | with_reducible exact True.intro | with_reducible assumption | grind [-Prod, → sc_EX] | grind [-Prod, → sc_MT, → sc_NI, → sc_EX] | grind [-Prod, I_MT, I_NI, o_bn, upd]
              · exact g24
            · refine o_okI (fun c27 => ?_) (fun c27 => ?_)
              · refine o_okG (o_inM (m := 1000) rfl (by first | with_reducible exact True.intro | with_reducible assumption | grind [-Prod, → sc_EX] | grind [-Prod, → sc_MT, → sc_NI, → sc_EX] | grind [-Prod, I_MT, I_NI, o_bn, upd]) (by first | with_reducible exact True.intro | with_reducible assumption | grind [-Prod, → sc_EX] | grind [-Prod, → sc_MT, → sc_NI, → sc_EX] | grind [-Prod, I_MT, I_NI, o_bn, upd])) ?_
                refine o_okS ?_
                refine ⟨?_, ?_⟩
                · first | with_reducible exact True.intro | with_reducible assumption | grind [-Prod, → sc_EX] | grind [-Prod, → sc_MT, → sc_NI, → sc_EX] | grind [-Prod, I_MT, I_NI, o_bn, upd]
                · exact g24
              · refine o_okI (fun c28 => ?_) (fun c28 => ?_)
                · refine o_okG (o_inM (m := 1000) rfl (by first | with_reducible exact True.intro | with_reducible assumption | grind [-Prod, → sc_EX] | grind [-Prod, → sc_MT, → sc_NI, → sc_EX] | grind [-Prod, I_MT, I_NI, o_bn, upd]) (by first | with_reducible exact True.intro | with_reducible assumption | grind [-Prod, → sc_EX] | grind [-Prod, → sc_MT, → sc_NI, → sc_EX] | grind [-Prod, I_MT, I_NI, o_bn, upd])) ?_
                  refine o_okS ?_
                  refine ⟨?_, ?_⟩
                  · first | with_reducible exact True.intro | with_reducible assumption | grind [-Prod, → sc_EX] | grind [-Prod, → sc_MT, → sc_NI, → sc_EX] | grind [-Prod, I_MT, I_NI, o_bn, upd]
                  · exact g24
                · refine o_okI (fun c29 => ?_) (fun c29 => ?_)
                  · refine o_okG (o_inM (m := 1000) rfl (by first | with_reducible exact True.intro | with_reducible assumption | grind [-Prod, → sc_EX] | grind [-Prod, → sc_MT, → sc_NI, → sc_EX] | grind [-Prod, I_MT, I_NI, o_bn, upd]) (by first | with_reducible exact True.intro | with_reducible assumption | grind [-Prod, → sc_EX] | grind [-Prod, → sc_MT, → sc_NI, → sc_EX] | grind [-Prod, I_MT, I_NI, o_bn, upd])) ?_
                    refine o_okS ?_
                    refine ⟨?_, ?_⟩
                    · first | with_reducible exact True.intro | with_reducible assumption | grind [-Prod, → sc_EX] | grind [-Prod, → sc_MT, → sc_NI, → sc_EX] | grind [-Prod, I_MT, I_NI, o_bn, upd]
                    · exact g24
                  · refine o_okG (o_inM (m := 1000) rfl (by first | with_reducible exact True.intro | with_reducible assumption | grind [-Prod, → sc_EX] | grind [-Prod, → sc_MT, → sc_NI, → sc_EX] | grind [-Prod, I_MT, I_NI, o_bn, upd]) (by first | with_reducible exact True.intro | with_reducible assumption | grind [-Prod, → sc_EX] | grind [-Prod, → sc_MT, → sc_NI, → sc_EX] | grind [-Prod, I_MT, I_NI, o_bn, upd])) ?_
                    refine o_okS ?_
                    refine ⟨?_, ?_⟩
                    · first | with_reducible exact True.intro | with_reducible assumption | grind [-Prod, → sc_EX] | grind [-Prod, → sc_MT, → sc_NI, → sc_EX] | grind [-Prod, I_MT, I_NI, o_bn, upd]
                    · exact g24
          · refine o_okS ?_
            refine ⟨?_, ?_⟩
            · first | with_reducible exact True.intro | with_reducible assumption | grind [-Prod, → sc_EX] | grind [-Prod, → sc_MT, → sc_NI, → sc_EX] | grind [-Prod, I_MT, I_NI, o_bn, upd]
            · exact g24
        · unfold m_MM_value_j65
          refine o_okB (s_MM_fails  g12 (by first | with_reducible exact True.intro | with_reducible assumption | grind [-Prod, → sc_EX] | grind [-Prod, → sc_MT, → sc_NI, → sc_EX] | grind [-Prod, I_MT, I_NI, o_bn, upd])) ?_
          intro q4_30 ⟨g31, g32, g33, g34, g35, g36⟩
          refine o_okI (fun c37 => ?_) (fun c37 => ?_)
          · refine o_okI (fun c38 => ?_) (fun c38 => ?_)
            · refine o_okG (o_inM (m := 1000) rfl (by first | with_reducible exact True.intro | with_reducible assumption | grind [-Prod, → sc_EX] | grind [-Prod, → sc_MT, → sc_NI, → sc_EX] | grind [-Prod, I_MT, I_NI, o_bn, upd]) (by first | with_reducible exact True.intro | with_reducible assumption | grind [-Prod, → sc_EX] | grind [-Prod, → sc_MT, → sc_NI, → sc_EX] | grind [-Prod, I_MT, I_NI, o_bn, upd])) ?_
              refine o_okS ?_
              refine ⟨?_, ?_⟩
              · first | with_reducible exact True.intro | with_reducible assumption | grind [-Prod, → sc_EX] | grind [-Prod, → sc_MT, → sc_NI, → sc_EX] | grind [-Prod, I_MT, I_NI, o_bn, upd]
              · exact g36
            · refine o_okI (fun c39 => ?_) (fun c39 => ?_)
              · refine o_okG (o_inM (m := 1000) rfl (by first | with_reducible exact True.intro | with_reducible assumption | grind [-Prod, → sc_EX] | grind [-Prod, → sc_MT, → sc_NI, → sc_EX] | grind [-Prod, I_MT, I_NI, o_bn, upd]) (by first | with_reducible exact True.intro | with_reducible assumption | grind [-Prod, → sc_EX] | grind [-Prod, → sc_MT, → sc_NI, → sc_EX] | grind [-Prod, I_MT, I_NI, o_bn, upd])) ?_
                refine o_okS ?_
                refine ⟨?_, ?_⟩
                · first | with_reducible exact True.intro | with_reducible assumption | grind [-Prod, → sc_EX] | grind [-Prod, → sc_MT, → sc_NI, → sc_EX] | grind [-Prod, I_MT, I_NI, o_bn, upd]
                · exact g36
              · refine o_okI (fun c40 => ?_) (fun c40 => ?_)
                · refine o_okG (o_inM (m := 1000) rfl (by first | with_reducible exact True.intro | with_reducible assumption | grind [-Prod, → sc_EX] | grind [-Prod, → sc_MT, → sc_NI, → sc_EX] | grind [-Prod, I_MT, I_NI, o_bn, upd]) (by first | with_reducible exact True.intro | with_reducible assumption | grind [-Prod, → sc_EX] | grind [-Prod, → sc_MT, → sc_NI, → sc_EX] | grind [-Prod, I_MT, I_NI, o_bn, upd])) ?_
                  refine o_okS ?_
                  refine ⟨?_, ?_⟩
                  · first | with_reducible exact True.intro | with_reducible assumption | grind [-Prod, → sc_EX] | grind [-Prod, → sc_MT, → sc_NI, → sc_EX] | grind [-Prod, I_MT, I_NI, o_bn, upd]
                  · exact g36
                · refine o_okI (fun c41 => ?_) (fun c41 => ?_)
                  · refine o_okG (o_inM (m := 1000) rfl (by first | with_reducible exact True.intro | with_reducible assumption | grind [-Prod, → sc_EX] | grind [-Prod, → sc_MT, → sc_NI, → sc_EX] | grind [-Prod, I_MT, I_NI, o_bn, upd]) (by first | with_reducible exact True.intro | with_reducible assumption | grind [-Prod, → sc_EX] | grind [-Prod, → sc_MT, → sc_NI, → sc_EX] | grind [-Prod, I_MT, I_NI, o_bn, upd])) ?_
                    refine o_okS ?_
                    refine ⟨?_, ?_⟩
                    · first | with_reducible exact True.intro | with_reducible assumption | grind [-Prod, → sc_EX] | grind [-Prod, → sc_MT, → sc_NI, → sc_EX] | grind [-Prod, I_MT, I_NI, o_bn, upd]
                    · exact g36
                  · refine o_okG (o_inM (m := 1000) rfl (by first | with_reducible exact True.intro | with_reducible assumption | grind [-Prod, → sc_EX] | grind [-Prod, → sc_MT, → sc_NI, → sc_EX] | grind [-Prod, I_MT, I_NI, o_bn, upd]) (by first | with_reducible exact True.intro | with_reducible assumption | grind [-Prod, → sc_EX] | grind [-Prod, → sc_MT, → sc_NI, → sc_EX] | grind [-Prod, I_MT, I_NI, o_bn, upd])) ?_
                    refine o_okS ?_
                    refine ⟨?_, ?_⟩
                    · first | with_reducible exact True.intro | with_reducible assumption | grind [-Prod, → sc_EX] | grind [-Prod, → sc_MT, → sc_NI, → sc_EX] | grind [-Prod, I_MT, I_NI, o_bn, upd]
                    · exact g36
          · refine o_okS ?_
            refine ⟨?_, ?_⟩
            · first | with_reducible exact True.intro | with_reducible assumption | grind [-Prod, → sc_EX] | grind [-Prod, → sc_MT, → sc_NI, → sc_EX] | grind [-Prod, I_MT, I_NI, o_bn, upd]
            · exact g36
      · refine o_okS ?_
        refine ⟨?_, ?_⟩
        · first | with_reducible exact True.intro | with_reducible assumption | grind [-Prod, → sc_EX] | grind [-Prod, → sc_MT, → sc_NI, → sc_EX] | grind [-Prod, I_MT, I_NI, o_bn, upd]
        · exact g12
    · unfold m_MM_value_j37
      refine o_okB (s_MM_fails  ⟨h_Ni.1, h_Ni.2⟩ (by first | with_reducible exact True.intro | with_reducible assumption | grind [-Prod, → sc_EX] | grind [-Prod, → sc_MT, → sc_NI, → sc_EX] | grind [-Prod, I_MT, I_NI, o_bn, upd])) ?_
      intro q2_42 ⟨g43, g44, g45, g46, g47, g48⟩
      refine o_okI (fun c49 => ?_) (fun c49 => ?_)
      · refine o_okB (s_MM_in ) ?_
        intro q3_50 ⟨g51, g52⟩
        refine o_okI (fun c53 => ?_) (fun c53 => ?_)
        · unfold m_MM_value_j65
          refine o_okB (s_MM_fails  g48 (by first | with_reducible exact True.intro | with_reducible assumption | grind [-Prod, → sc_EX] | grind [-Prod, → sc_MT, → sc_NI, → sc_EX] | grind [-Prod, I_MT, I_NI, o_bn, upd])) ?_
          intro q4_54 ⟨g55, g56, g57, g58, g59, g60⟩
          refine o_okI (fun c61 => ?_) (fun c61 => ?_)
          · refine o_okI (fun c62 => ?_) (fun c62 => ?_)
            · refine o_okG (o_inM (m := 1000) rfl (by first | with_reducible exact True.intro | with_reducible assumption | grind [-Prod, → sc_EX] | grind [-Prod, → sc_MT, → sc_NI, → sc_EX] | grind [-Prod, I_MT, I_NI, o_bn, upd]) (by first | with_reducible exact True.intro | with_reducible assumption | grind [-Prod, → sc_EX] | grind [-Prod, → sc_MT, → sc_NI, → sc_EX] | grind [-Prod, I_MT, I_NI, o_bn, upd])) ?_
              refine o_okS ?_
              refine ⟨?_, ?_⟩
              · first | with_reducible exact True.intro | with_reducible assumption | grind [-Prod, → sc_EX] | grind [-Prod, → sc_MT, → sc_NI, → sc_EX] | grind [-Prod, I_MT, I_NI, o_bn, upd]
              · exact g60
            · refine o_okI (fun c63 => ?_) (fun c63 => ?_)
              · refine o_okG (o_inM (m := 1000) rfl (by first | with_reducible exact True.intro | with_reducible assumption | grind [-Prod, → sc_EX] | grind [-Prod, → sc_MT, → sc_NI, → sc_EX] | grind [-Prod, I_MT, I_NI, o_bn, upd]) (by first | with_reducible exact True.intro | with_reducible assumption | grind [-Prod, → sc_EX] | grind [-Prod, → sc_MT, → sc_NI, → sc_EX] | grind [-Prod, I_MT, I_NI, o_bn, upd])) ?_
                refine o_okS ?_
                refine ⟨?_, ?_⟩
                · first | with_reducible exact True.intro | with_reducible assumption | grind [-Prod, → sc_EX] | grind [-Prod, → sc_MT, → sc_NI, → sc_EX] | grind [-Prod, I_MT, I_NI, o_bn, upd]
                · exact g60
              · refine o_okI (fun c64 => ?_) (fun c64 => ?_)
                · refine o_okG (o_inM (m := 1000) rfl (by first | with_reducible exact True.intro | with_reducible assumption | grind [-Prod, → sc_EX] | grind [-Prod, → sc_MT, → sc_NI, → sc_EX] | grind [-Prod, I_MT, I_NI, o_bn, upd]) (by first | with_reducible exact True.intro | with_reducible assumption | grind [-Prod, → sc_EX] | grind [-Prod, → sc_MT, → sc_NI, → sc_EX] | grind [-Prod, I_MT, I_NI, o_bn, upd])) ?_
                  refine o_okS ?_
                  refine ⟨?_, ?_⟩
                  · first | with_reducible exact True.intro | with_reducible assumption | grind [-Prod, → sc_EX] | grind [-Prod, → sc_MT, → sc_NI, → sc_EX] | grind [-Prod, I_MT, I_NI, o_bn, upd]
                  · exact g60
                · refine o_okI (fun c65 => ?_) (fun c65 => ?_)
                  · refine o_okG (o_inM (m := 1000) rfl (by first | with_reducible exact True.intro | with_reducible assumption | grind [-Prod, → sc_EX] | grind [-Prod, → sc_MT, → sc_NI, → sc_EX] | grind [-Prod, I_MT, I_NI, o_bn, upd]) (by first | with_reducible exact True.intro | with_reducible assumption | grind [-Prod, → sc_EX] | grind [-Prod, → sc_MT, → sc_NI, → sc_EX] | grind [-Prod, I_MT, I_NI, o_bn, upd])) ?_
                    refine o_okS ?_
                    refine ⟨?_, ?_⟩
                    · first | with_reducible exact True.intro | with_reducible assumption | grind [-Prod, → sc_EX] | grind [-Prod, → sc_MT, → sc_NI, → sc_EX] | grind [-Prod, I_MT, I_NI, o_bn, upd]
                    · exact g60
                  · refine o_okG (o_inM (m := 1000) rfl (by first | with_reducible exact True.intro | with_reducible assumption | grind [-Prod, → sc_EX] | grind [-Prod, → sc_MT, → sc_NI, → sc_EX] | grind [-Prod, I_MT, I_NI, o_bn, upd]) (by first | with_reducible exact True.intro | with_reducible assumption | grind [-Prod, → sc_EX] | grind [-Prod, → sc_MT, → sc_NI, → sc_EX] | grind [-Prod, I_MT, I_NI, o_bn, upd])) ?_
                    refine o_okS ?_
                    refine ⟨?_, ?_⟩
                    · first | with_reducible exact True.intro | with_reducible assumption | grind [-Prod, → sc_EX] | grind [-Prod, → sc_MT, → sc_NI, → sc_EX] | grind [-Prod, I_MT, I_NI, o_bn, upd]
                    · exact g60
          · refine o_okS ?_
            refine ⟨?_, ?_⟩
            · first | with_reducible exact True.intro | with_reducible assumption | grind [-Prod, → sc_EX] | grind [-Prod, → sc_MT, → sc_NI, → sc_EX] | grind [-Prod, I_MT, I_NI, o_bn, upd]
            · exact g60
        · unfold m_MM_value_j65
          refine o_okB (s_MM_fails  g48 (by first | with_reducible exact True.intro | with_reducible assumption | grind [-Prod, → sc_EX] | grind [-Prod, → sc_MT, → sc_NI, → sc_EX] | grind [-Prod, I_MT, I_NI, o_bn, upd])) ?_
          intro q4_66 ⟨g67, g68, g69, g70, g71, g72⟩
          refine o_okI (fun c73 => ?_) (fun c73 => ?_)
          · refine o_okI (fun c74 => ?_) (fun c74 => ?_)
            · refine o_okG (o_inM (m := 1000) rfl (by first | with_reducible exact True.intro | with_reducible assumption | grind [-Prod, → sc_EX] | grind [-Prod, → sc_MT, → sc_NI, → sc_EX] | grind [-Prod, I_MT, I_NI, o_bn, upd]) (by first | with_reducible exact True.intro | with_reducible assumption | grind [-Prod, → sc_EX] | grind [-Prod, → sc_MT, → sc_NI, → sc_EX] | grind [-Prod, I_MT, I_NI, o_bn, upd])) ?_
              refine o_okS ?_
              refine ⟨?_, ?_⟩
              · first | with_reducible exact True.intro | with_reducible assumption | grind [-Prod, → sc_EX] | grind [-Prod, → sc_MT, → sc_NI, → sc_EX] | grind [-Prod, I_MT, I_NI, o_bn, upd]
              · exact g72
            · refine o_okI (fun c75 => ?_) (fun c75 => ?_)
              · refine o_okG (o_inM (m := 1000) rfl (by first | with_reducible exact True.intro | with_reducible assumption | grind [-Prod, → sc_EX] | grind [-Prod, → sc_MT, → sc_NI, → sc_EX] | grind [-Prod, I_MT, I_NI, o_bn, upd]) (by first | with_reducible exact True.intro | with_reducible assumption | grind [-Prod, → sc_EX] | grind [-Prod, → sc_MT, → sc_NI, → sc_EX] | grind [-Prod, I_MT, I_NI, o_bn, upd])) ?_
                refine o_okS ?_
                refine ⟨?_, ?_⟩
                · first | with_reducible exact True.intro | with_reducible assumption | grind [-Prod, → sc_EX] | grind [-Prod, → sc_MT, → sc_NI, → sc_EX] | grind [-Prod, I_MT, I_NI, o_bn, upd]
                · exact g72
              · refine o_okI (fun c76 => ?_) (fun c76 => ?_)
                · refine o_okG (o_inM (m := 1000) rfl (by first | with_reducible exact True.intro | with_reducible assumption | grind [-Prod, → sc_EX] | grind [-Prod, → sc_MT, → sc_NI, → sc_EX] | grind [-Prod, I_MT, I_NI, o_bn, upd]) (by first | with_reducible exact True.intro | with_reducible assumption | grind [-Prod, → sc_EX] | grind [-Prod, → sc_MT, → sc_NI, → sc_EX] | grind [-Prod, I_MT, I_NI, o_bn, upd])) ?_
                  refine o_okS ?_
                  refine ⟨?_, ?_⟩
                  · first | with_reducible exact True.intro | with_reducible assumption | grind [-Prod, → sc_EX] | grind [-Prod, → sc_MT, → sc_NI, → sc_EX] | grind [-Prod, I_MT, I_NI, o_bn, upd]
                  · exact g72
                · refine o_okI (fun c77 => ?_) (fun c77 => ?_)
                  · refine o_okG (o_inM (m := 1000) rfl (by first | with_reducible exact True.intro | with_reducible assumption | grind [-Prod, → sc_EX] | grind [-Prod, → sc_MT, → sc_NI, → sc_EX] | grind [-Prod, I_MT, I_NI, o_bn, upd]) (by first | with_reducible exact True.intro | with_reducible assumption | grind [-Prod, → sc_EX] | grind [-Prod, → sc_MT, → sc_NI, → sc_EX] | grind [-Prod, I_MT, I_NI, o_bn, upd])) ?_
                    refine o_okS ?_
                    refine ⟨?_, ?_⟩
                    · first | with_reducible exact True.intro | with_reducible assumption | grind [-Prod, → sc_EX] | grind [-Prod, → sc_MT, → sc_NI, → sc_EX] | grind [-Prod, I_MT, I_NI, o_bn, upd]
                    · exact g72
                  · refine o_okG (o_inM (m := 1000) rfl (by first | with_reducible exact True.intro | with_reducible assumption | grind [-Prod, → sc_EX] | grind [-Prod, → sc_MT, → sc_NI, → sc_EX] | grind [-Prod, I_MT, I_NI, o_bn, upd]) (by first | with_reducible exact True.intro | with_reducible assumption | grind [-Prod, → sc_EX] | grind [-Prod, → sc_MT, → sc_NI, → sc_EX] | grind [-Prod, I_MT, I_NI, o_bn, upd])) ?_
                    refine o_okS ?_
                    refine ⟨?_, ?_⟩
                    · first | with_reducible exact True.intro | with_reducible assumption | grind [-Prod, → sc_EX] | grind [-Prod, → sc_MT, → sc_NI, → sc_EX] | grind [-Prod, I_MT, I_NI, o_bn, upd]
                    · exact g72
          · refine o_okS ?_
            refine ⟨?_, ?_⟩
            · first | with_reducible exact True.intro | with_reducible assumption | grind [-Prod, → sc_EX] | grind [-Prod, → sc_MT, → sc_NI, → sc_EX] | grind [-Prod, I_MT, I_NI, o_bn, upd]
            · exact g72
      · refine o_okS ?_
        refine ⟨?_, ?_⟩
        · first | with_reducible exact True.intro | with_reducible assumption | grind [-Prod, → sc_EX] | grind [-Prod, → sc_MT, → sc_NI, → sc_EX] | grind [-Prod, I_MT, I_NI, o_bn, upd]
        · exact g48
  · unfold m_MM_value_j20v5
    refine o_okB (s_MM_in ) ?_
    intro q6_78 ⟨g79, g80⟩
    refine o_okI (fun c81 => ?_) (fun c81 => ?_)
    · unfold m_MM_value_j37v7
      refine o_okB (s_MM_fails  ⟨h_Ni.1, h_Ni.2⟩ (by first | with_reducible exact True.intro | with_reducible assumption | grind [-Prod, → sc_EX] | grind [-Prod, → sc_MT, → sc_NI, → sc_EX] | grind [-Prod, I_MT, I_NI, o_bn, upd])) ?_
      intro q8_82 ⟨g83, g84, g85, g86, g87, g88⟩
      refine o_okI (fun c89 => ?_) (fun c89 => ?_)
      · refine o_okB (s_MM_in ) ?_
        intro q9_90 ⟨g91, g92⟩
        refine o_okI (fun c93 => ?_) (fun c93 => ?_)
        · unfold m_MM_value_j65v10
          refine o_okB (s_MM_fails  g88 (by first | with_reducible exact True.intro | with_reducible assumption | grind [-Prod, → sc_EX] | grind [-Prod, → sc_MT, → sc_NI, → sc_EX] | grind [-Prod, I_MT, I_NI, o_bn, upd])) ?_
          intro q11_94 ⟨g95, g96, g97, g98, g99, g100⟩
          refine o_okI (fun c101 => ?_) (fun c101 => ?_)
          · refine o_okI (fun c102 => ?_) (fun c102 => ?_)
            · refine o_okG (o_inM (m := 1000) rfl (by first | with_reducible exact True.intro | with_reducible assumption | grind [-Prod, → sc_EX] | grind [-Prod, → sc_MT, → sc_NI, → sc_EX] | grind [-Prod, I_MT, I_NI, o_bn, upd]) (by first | with_reducible exact True.intro | with_reducible assumption | grind [-Prod, → sc_EX] | grind [-Prod, → sc_MT, → sc_NI, → sc_EX] | grind [-Prod, I_MT, I_NI, o_bn, upd])) ?_
              refine o_okS ?_
              refine ⟨?_, ?_⟩
              · first | with_reducible exact True.intro | with_reducible assumption | grind [-Prod, → sc_EX] | grind [-Prod, → sc_MT, → sc_NI, → sc_EX] | grind [-Prod, I_MT, I_NI, o_bn, upd]
              · exact g100
            · refine o_okI (fun c103 => ?_) (fun c103 => ?_)
              · refine o_okG (o_inM (m := 1000) rfl (by first | with_reducible exact True.intro | with_reducible assumption | grind [-Prod, → sc_EX] | grind [-Prod, → sc_MT, → sc_NI, → sc_EX] | grind [-Prod, I_MT, I_NI, o_bn, upd]) (by first | with_reducible exact True.intro | with_reducible assumption | grind [-Prod, → sc_EX] | grind [-Prod, → sc_MT, → sc_NI, → sc_EX] | grind [-Prod, I_MT, I_NI, o_bn, upd])) ?_
                refine o_okS ?_
                refine ⟨?_, ?_⟩
                · first | with_reducible exact True.intro | with_reducible assumption | grind [-Prod, → sc_EX] | grind [-Prod, → sc_MT, → sc_NI, → sc_EX] | grind [-Prod, I_MT, I_NI, o_bn, upd]
                · exact g100
              · refine o_okI (fun c104 => ?_) (fun c104 => ?_)
                · refine o_okG (o_inM (m := 1000) rfl (by first | with_reducible exact True.intro | with_reducible assumption | grind [-Prod, → sc_EX] | grind [-Prod, → sc_MT, → sc_NI, → sc_EX] | grind [-Prod, I_MT, I_NI, o_bn, upd]) (by first | with_reducible exact True.intro | with_reducible assumption | grind [-Prod, → sc_EX] | grind [-Prod, → sc_MT, → sc_NI, → sc_EX] | grind [-Prod, I_MT, I_NI, o_bn, upd])) ?_
                  refine o_okS ?_
                  refine ⟨?_, ?_⟩
                  · first | with_reducible exact True.intro | with_reducible assumption | grind [-Prod, → sc_EX] | grind [-Prod, → sc_MT, → sc_NI, → sc_EX] | grind [-Prod, I_MT, I_NI, o_bn, upd]
                  · exact g100
                · refine o_okI (fun c105 => ?_) (fun c105 => ?_)
                  · refine o_okG (o_inM (m := 1000) rfl (by first | with_reducible exact True.intro | with_reducible assumption | grind [-Prod, → sc_EX] | grind [-Prod, → sc_MT, → sc_NI, → sc_EX] | grind [-Prod, I_MT, I_NI, o_bn, upd]) (by first | with_reducible exact True.intro | with_reducible assumption | grind [-Prod, → sc_EX] | grind [-Prod, → sc_MT, → sc_NI, → sc_EX] | grind [-Prod, I_MT, I_NI, o_bn, upd])) ?_
                    refine o_okS ?_
                    refine ⟨?_, ?_⟩
                    · first | with_reducible exact True.intro | with_reducible assumption | grind [-Prod, → sc_EX] | grind [-Prod, → sc_MT, → sc_NI, → sc_EX] | grind [-Prod, I_MT, I_NI, o_bn, upd]
                    · exact g100
                  · refine o_okG (o_inM (m := 1000) rfl (by first | with_reducible exact True.intro | with_reducible assumption | grind [-Prod, → sc_EX] | grind [-Prod, → sc_MT, → sc_NI, → sc_EX] | grind [-Prod, I_MT, I_NI, o_bn, upd]) (by first | with_reducible exact True.intro | with_reducible assumption | grind [-Prod, → sc_EX] | grind [-Prod, → sc_MT, → sc_NI, → sc_EX] | grind [-Prod, I_MT, I_NI, o_bn, upd])) ?_
                    refine o_okS ?_
                    refine ⟨?_, ?_⟩
                    · first | with_reducible exact True.intro | with_reducible assumption | grind [-Prod, → sc_EX] | grind [-Prod, → sc_MT, → sc_NI, → sc_EX] | grind [-Prod, I_MT, I_NI, o_bn, upd]
                    · exact g100
          · refine o_okS ?_
            refine ⟨?_, ?_⟩
            · first | with_reducible exact True.intro | with_reducible assumption | grind [-Prod, → sc_EX] | grind [-Prod, → sc_MT, → sc_NI, → sc_EX] | grind [-Prod, I_MT, I_NI, o_bn, upd]
            · exact g100
        · unfold m_MM_value_j65v10
          refine o_okB (s_MM_fails  g88 (by first | with_reducible exact True.intro | with_reducible assumption | grind [-Prod, → sc_EX] | grind [-Prod, → sc_MT, → sc_NI, → sc_EX] | grind [-Prod, I_MT, I_NI, o_bn, upd])) ?_
          intro q11_106 ⟨g107, g108, g109, g110, g111, g112⟩
          refine o_okI (fun c113 => ?_) (fun c113 => ?_)
          · refine o_okI (fun c114 => ?_) (fun c114 => ?_)
            · refine o_okG (o_inM (m := 1000) rfl (by first | with_reducible exact True.intro | with_reducible assumption | grind [-Prod, → sc_EX] | grind [-Prod, → sc_MT, → sc_NI, → sc_EX] | grind [-Prod, I_MT, I_NI, o_bn, upd]) (by first | with_reducible exact True.intro | with_reducible assumption | grind [-Prod, → sc_EX] | grind [-Prod, → sc_MT, → sc_NI, → sc_EX] | grind [-Prod, I_MT, I_NI, o_bn, upd])) ?_
              refine o_okS ?_
              refine ⟨?_, ?_⟩
              · first | with_reducible exact True.intro | with_reducible assumption | grind [-Prod, → sc_EX] | grind [-Prod, → sc_MT, → sc_NI, → sc_EX] | grind [-Prod, I_MT, I_NI, o_bn, upd]
              · exact g112
            · refine o_okI (fun c115 => ?_) (fun c115 => ?_)
              · refine o_okG (o_inM (m := 1000) rfl (by first | with_reducible exact True.intro | with_reducible assumption | grind [-Prod, → sc_EX] | grind [-Prod, → sc_MT, → sc_NI, → sc_EX] | grind [-Prod, I_MT, I_NI, o_bn, upd]) (by first | with_reducible exact True.intro | with_reducible assumption | grind [-Prod, → sc_EX] | grind [-Prod, → sc_MT, → sc_NI, → sc_EX] | grind [-Prod, I_MT, I_NI, o_bn, upd])) ?_
                refine o_okS ?_
                refine ⟨?_, ?_⟩
                · first | with_reducible exact True.intro | with_reducible assumption | grind [-Prod, → sc_EX] | grind [-Prod, → sc_MT, → sc_NI, → sc_EX] | grind [-Prod, I_MT, I_NI, o_bn, upd]
                · exact g112
              · refine o_okI (fun c116 => ?_) (fun c116 => ?_)
                · refine o_okG (o_inM (m := 1000) rfl (by first | with_reducible exact True.intro | with_reducible assumption | grind [-Prod, → sc_EX] | grind [-Prod, → sc_MT, → sc_NI, → sc_EX] | grind [-Prod, I_MT, I_NI, o_bn, upd]) (by first | with_reducible exact True.intro | with_reducible assumption | grind [-Prod, → sc_EX] | grind [-Prod, → sc_MT, → sc_NI, → sc_EX] | grind [-Prod, I_MT, I_NI, o_bn, upd])) ?_
                  refine o_okS ?_
                  refine ⟨?_, ?_⟩
                  · first | with_reducible exact True.intro | with_reducible assumption | grind [-Prod, → sc_EX] | grind [-Prod, → sc_MT, → sc_NI, → sc_EX] | grind [-Prod, I_MT, I_NI, o_bn, upd]
                  · exact g112
                · refine o_okI (fun c117 => ?_) (fun c117 => ?_)
                  · refine o_okG (o_inM (m := 1000) rfl (by first | with_reducible exact True.intro | with_reducible assumption | grind [-Prod, → sc_EX] | grind [-Prod, → sc_MT, → sc_NI, → sc_EX] | grind [-Prod, I_MT, I_NI, o_bn, upd]) (by first | with_reducible exact True.intro | with_reducible assumption | grind [-Prod, → sc_EX] | grind [-Prod, → sc_MT, → sc_NI, → sc_EX] | grind [-Prod, I_MT, I_NI, o_bn, upd])) ?_
                    refine o_okS ?_
                    refine ⟨?_, ?_⟩
                    · first | with_reducible exact True.intro | with_reducible assumption | grind [-Prod, → sc_EX] | grind [-Prod, → sc_MT, → sc_NI, → sc_EX] | grind [-Prod, I_MT, I_NI, o_bn, upd]
                    · exact g112
                  · refine o_okG (o_inM (m := 1000) rfl (by first | with_reducible exact True.intro | with_reducible assumption | grind [-Prod, → sc_EX] | grind [-Prod, → sc_MT, → sc_NI, → sc_EX] | grind [-Prod, I_MT, I_NI, o_bn, upd]) (by first | with_reducible exact True.intro | with_reducible assumption | grind [-Prod, → sc_EX] | grind [-Prod, → sc_MT, → sc_NI, → sc_EX] | grind [-Prod, I_MT, I_NI, o_bn, upd])) ?_
                    refine o_okS ?_
                    refine ⟨?_, ?_⟩
                    · first | with_reducible exact True.intro | with_reducible assumption | grind [-Prod, → sc_EX] | grind [-Prod, → sc_MT, → sc_NI, → sc_EX] | grind [-Prod, I_MT, I_NI, o_bn, upd]
                    · exact g112
          · refine o_okS ?_
            refine ⟨?_, ?_⟩
            · first | with_reducible exact True.intro | with_reducible assumption | grind [-Prod, → sc_EX] | grind [-Prod, → sc_MT, → sc_NI, → sc_EX] | grind [-Prod, I_MT, I_NI, o_bn, upd]
            · exact g112
      · refine o_okS ?_
        refine ⟨?_, ?_⟩
        · first | with_reducible exact True.intro | with_reducible assumption | grind [-Prod, → sc_EX] | grind [-Prod, → sc_MT, → sc_NI, → sc_EX] | grind [-Prod, I_MT, I_NI, o_bn, upd]
        · exact g88
    · unfold m_MM_value_j37v7
      refine o_okB (s_MM_fails  ⟨h_Ni.1, h_Ni.2⟩ (by first | with_reducible exact True.intro | with_reducible assumption | grind [-Prod, → sc_EX] | grind [-Prod, → sc_MT, → sc_NI, → sc_EX] | grind [-Prod, I_MT, I_NI, o_bn, upd])) ?_
      intro q8_118 ⟨g119, g120, g121, g122, g123, g124⟩
      refine o_okI (fun c125 => ?_) (fun c125 => ?_)
      · refine o_okB (s_MM_in ) ?_
        intro q9_126 ⟨g127, g128⟩
        refine o_okI (fun c129 => ?_) (fun c129 => ?_)
        · unfold m_MM_value_j65v10
          refine o_okB (s_MM_fails  g124 (by first | with_reducible exact True.intro | with_reducible assumption | grind [-Prod, → sc_EX] | grind [-Prod, → sc_MT, → sc_NI, → sc_EX] | grind [-Prod, I_MT, I_NI, o_bn, upd])) ?_
          intro q11_130 ⟨g131, g132, g133, g134, g135, g136⟩
          refine o_okI (fun c137 => ?_) (fun c137 => ?_)
          · refine o_okI (fun c138 => ?_) (fun c138 => ?_)
            · refine o_okG (o_inM (m := 1000) rfl (by first | with_reducible exact True.intro | with_reducible assumption | grind [-Prod, → sc_EX] | grind [-Prod, → sc_MT, → sc_NI, → sc_EX] | grind [-Prod, I_MT, I_NI, o_bn, upd]) (by first | with_reducible exact True.intro | with_reducible assumption | grind [-Prod, → sc_EX] | grind [-Prod, → sc_MT, → sc_NI, → sc_EX] | grind [-Prod, I_MT, I_NI, o_bn, upd])) ?_
              refine o_okS ?_
              refine ⟨?_, ?_⟩
              · first | with_reducible exact True.intro | with_reducible assumption | grind [-Prod, → sc_EX] | grind [-Prod, → sc_MT, → sc_NI, → sc_EX] | grind [-Prod, I_MT, I_NI, o_bn, upd]
              · exact g136
            · refine o_okI (fun c139 => ?_) (fun c139 => ?_)
              · refine o_okG (o_inM (m := 1000) rfl (by first | with_reducible exact True.intro | with_reducible assumption | grind [-Prod, → sc_EX] | grind [-Prod, → sc_MT, → sc_NI, → sc_EX] | grind [-Prod, I_MT, I_NI, o_bn, upd]) (by first | with_reducible exact True.intro | with_reducible assumption | grind [-Prod, → sc_EX] | grind [-Prod, → sc_MT, → sc_NI, → sc_EX] | grind [-Prod, I_MT, I_NI, o_bn, upd])) ?_
                refine o_okS ?_
                refine ⟨?_, ?_⟩
                · first | with_reducible exact True.intro | with_reducible assumption | grind [-Prod, → sc_EX] | grind [-Prod, → sc_MT, → sc_NI, → sc_EX] | grind [-Prod, I_MT, I_NI, o_bn, upd]
                · exact g136
              · refine o_okI (fun c140 => ?_) (fun c140 => ?_)
                · refine o_okG (o_inM (m := 1000) rfl (by first | with_reducible exact True.intro | with_reducible assumption | grind [-Prod, → sc_EX] | grind [-Prod, → sc_MT, → sc_NI, → sc_EX] | grind [-Prod, I_MT, I_NI, o_bn, upd]) (by first | with_reducible exact True.intro | with_reducible assumption | grind [-Prod, → sc_EX] | grind [-Prod, → sc_MT, → sc_NI, → sc_EX] | grind [-Prod, I_MT, I_NI, o_bn, upd])) ?_
                  refine o_okS ?_
                  refine ⟨?_, ?_⟩
                  · first | with_reducible exact True.intro | with_reducible assumption | grind [-Prod, → sc_EX] | grind [-Prod, → sc_MT, → sc_NI, → sc_EX] | grind [-Prod, I_MT, I_NI, o_bn, upd]
                  · exact g136
                · refine o_okI (fun c141 => ?_) (fun c141 => ?_)
                  · refine o_okG (o_inM (m := 1000) rfl (by first | with_reducible exact True.intro | with_reducible assumption | grind [-Prod, → sc_EX] | grind [-Prod, → sc_MT, → sc_NI, → sc_EX] | grind [-Prod, I_MT, I_NI, o_bn, upd]) (by first | with_reducible exact True.intro | with_reducible assumption | grind [-Prod, → sc_EX] | grind [-Prod, → sc_MT, → sc_NI, → sc_EX] | grind [-Prod, I_MT, I_NI, o_bn, upd])) ?_
                    refine o_okS ?_
                    refine ⟨?_, ?_⟩
                    · first | with_reducible exact True.intro | with_reducible assumption | grind [-Prod, → sc_EX] | grind [-Prod, → sc_MT, → sc_NI, → sc_EX] | grind [-Prod, I_MT, I_NI, o_bn, upd]
                    · exact g136
                  · refine o_okG (o_inM (m := 1000) rfl (by first | with_reducible exact True.intro | with_reducible assumption | grind [-Prod, → sc_EX] | grind [-Prod, → sc_MT, → sc_NI, → sc_EX] | grind [-Prod, I_MT, I_NI, o_bn, upd]) (by first | with_reducible exact True.intro | with_reducible assumption | grind [-Prod, → sc_EX] | grind [-Prod, → sc_MT, → sc_NI, → sc_EX] | grind [-Prod, I_MT, I_NI, o_bn, upd])) ?_
                    refine o_okS ?_
                    refine ⟨?_, ?_⟩
                    · first | with_reducible exact True.intro | with_reducible assumption | grind [-Prod, → sc_EX] | grind [-Prod, → sc_MT, → sc_NI, → sc_EX] | grind [-Prod, I_MT, I_NI, o_bn, upd]
                    · exact g136
          · refine o_okS ?_
            refine ⟨?_, ?_⟩
            · first | with_reducible exact True.intro | with_reducible assumption | grind [-Prod, → sc_EX] | grind [-Prod, → sc_MT, → sc_NI, → sc_EX] | grind [-Prod, I_MT, I_NI, o_bn, upd]
            · exact g136
        · unfold m_MM_value_j65v10
          refine o_okB (s_MM_fails  g124 (by first | with_reducible exact True.intro | with_reducible assumption | grind [-Prod, → sc_EX] | grind [-Prod, → sc_MT, → sc_NI, → sc_EX] | grind [-Prod, I_MT, I_NI, o_bn, upd])) ?_
          intro q11_142 ⟨g143, g144, g145, g146, g147, g148⟩
          refine o_okI (fun c149 => ?_) (fun c149 => ?_)
          · refine o_okI (fun c150 => ?_) (fun c150 => ?_)
            · refine o_okG (o_inM (m := 1000) rfl (by first | with_reducible exact True.intro | with_reducible assumption | grind [-Prod, → sc_EX] | grind [-Prod, → sc_MT, → sc_NI, → sc_EX] | grind [-Prod, I_MT, I_NI, o_bn, upd]) (by first | with_reducible exact True.intro | with_reducible assumption | grind [-Prod, → sc_EX] | grind [-Prod, → sc_MT, → sc_NI, → sc_EX] | grind [-Prod, I_MT, I_NI, o_bn, upd])) ?_
              refine o_okS ?_
              refine ⟨?_, ?_⟩
              · first | with_reducible exact True.intro | with_reducible assumption | grind [-Prod, → sc_EX] | grind [-Prod, → sc_MT, → sc_NI, → sc_EX] | grind [-Prod, I_MT, I_NI, o_bn, upd]
              · exact g148
            · refine o_okI (fun c151 => ?_) (fun c151 => ?_)
              · refine o_okG (o_inM (m := 1000) rfl (by first | with_reducible exact True.intro | with_reducible assumption | grind [-Prod, → sc_EX] | grind [-Prod, → sc_MT, → sc_NI, → sc_EX] | grind [-Prod, I_MT, I_NI, o_bn, upd]) (by first | with_reducible exact True.intro | with_reducible assumption | grind [-Prod, → sc_EX] | grind [-Prod, → sc_MT, → sc_NI, → sc_EX] | grind [-Prod, I_MT, I_NI, o_bn, upd])) ?_
                refine o_okS ?_
                refine ⟨?_, ?_⟩
                · first | with_reducible exact True.intro | with_reducible assumption | grind [-Prod, → sc_EX] | grind [-Prod, → sc_MT, → sc_NI, → sc_EX] | grind [-Prod, I_MT, I_NI, o_bn, upd]
                · exact g148
              · refine o_okI (fun c152 => ?_) (fun c152 => ?_)
                · refine o_okG (o_inM (m := 1000) rfl (by first | with_reducible exact True.intro | with_reducible assumption | grind [-Prod, → sc_EX] | grind [-Prod, → sc_MT, → sc_NI, → sc_EX] | grind [-Prod, I_MT, I_NI, o_bn, upd]) (by first | with_reducible exact True.intro | with_reducible assumption | grind [-Prod, → sc_EX] | grind [-Prod, → sc_MT, → sc_NI, → sc_EX] | grind [-Prod, I_MT, I_NI, o_bn, upd])) ?_
                  refine o_okS ?_
                  refine ⟨?_, ?_⟩
                  · first | with_reducible exact True.intro | with_reducible assumption | grind [-Prod, → sc_EX] | grind [-Prod, → sc_MT, → sc_NI, → sc_EX] | grind [-Prod, I_MT, I_NI, o_bn, upd]
                  · exact g148
                · refine o_okI (fun c153 => ?_) (fun c153 => ?_)
                  · refine o_okG (o_inM (m := 1000) rfl (by first | with_reducible exact True.intro | with_reducible assumption | grind [-Prod, → sc_EX] | grind [-Prod, → sc_MT, → sc_NI, → sc_EX] | grind [-Prod, I_MT, I_NI, o_bn, upd]) (by first | with_reducible exact True.intro | with_reducible assumption | grind [-Prod, → sc_EX] | grind [-Prod, → sc_MT, → sc_NI, → sc_EX] | grind [-Prod, I_MT, I_NI, o_bn, upd])) ?_
                    refine o_okS ?_
                    refine ⟨?_, ?_⟩
                    · first | with_reducible exact True.intro | with_reducible assumption | grind [-Prod, → sc_EX] | grind [-Prod, → sc_MT, → sc_NI, → sc_EX] | grind [-Prod, I_MT, I_NI, o_bn, upd]
                    · exact g148
                  · refine o_okG (o_inM (m := 1000) rfl (by first | with_reducible exact True.intro | with_reducible assumption | grind [-Prod, → sc_EX] | grind [-Prod, → sc_MT, → sc_NI, → sc_EX] | grind [-Prod, I_MT, I_NI, o_bn, upd]) (by first | with_reducible exact True.intro | with_reducible assumption | grind [-Prod, → sc_EX] | grind [-Prod, → sc_MT, → sc_NI, → sc_EX] | grind [-Prod, I_MT, I_NI, o_bn, upd])) ?_
                    refine o_okS ?_
                    refine ⟨?_, ?_⟩
                    · first | with_reducible exact True.intro | with_reducible assumption | grind [-Prod, → sc_EX] | grind [-Prod, → sc_MT, → sc_NI, → sc_EX] | grind [-Prod, I_MT, I_NI, o_bn, upd]
                    · exact g148
          · refine o_okS ?_
            refine ⟨?_, ?_⟩
            · first | with_reducible exact True.intro | with_reducible assumption | grind [-Prod, → sc_EX] | grind [-Prod, → sc_MT, → sc_NI, → sc_EX] | grind [-Prod, I_MT, I_NI, o_bn, upd]
            · exact g148
      · refine o_okS ?_
        refine ⟨?_, ?_⟩
        · first | with_reducible exact True.intro | with_reducible assumption | grind [-Prod, → sc_EX] | grind [-Prod, → sc_MT, → sc_NI, → sc_EX] | grind [-Prod, I_MT, I_NI, o_bn, upd]
        · exact g124
